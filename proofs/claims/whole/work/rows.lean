section
-- ===== PART A: goes FIRST, ahead of the names: the tables' words, and 'selects' of the private methods out of them =====
/-- a private method of a class that the tables say can be made, by its rows of tables_1 -/
def lw_okq (q : MethodName × Nat) : Prop := (q.1.cls ≠ "java/lang/invoke/MethodHandle" ∧ q.1.cls ≠ "java/lang/invoke/VarHandle") ∧ Cond.instantiable q.1.cls q.2 ∈ tables_1 ∧ Cond.privateMethod q.1 ∈ tables_1 ∧ Cond.instanceMethod q.1 ∈ tables_1
theorem lw_p0 : lw_okq (⟨"BoreholeColumns$Text", "parseHole", "()Z"⟩, 5) := ⟨⟨by decide +kernel, by decide +kernel⟩, List.mem_of_getElem? (i := 82) (by decide +kernel), List.mem_of_getElem? (i := 375) (by decide +kernel), List.mem_of_getElem? (i := 376) (by decide +kernel)⟩
theorem lw_p1 : lw_okq (⟨"BoreholeColumns$Text", "skipSpaces", "()V"⟩, 5) := ⟨⟨by decide +kernel, by decide +kernel⟩, List.mem_of_getElem? (i := 82) (by decide +kernel), List.mem_of_getElem? (i := 379) (by decide +kernel), List.mem_of_getElem? (i := 380) (by decide +kernel)⟩
theorem lw_p2 : lw_okq (⟨"BoreholeColumns$Text", "current", "()I"⟩, 5) := ⟨⟨by decide +kernel, by decide +kernel⟩, List.mem_of_getElem? (i := 82) (by decide +kernel), List.mem_of_getElem? (i := 383) (by decide +kernel), List.mem_of_getElem? (i := 384) (by decide +kernel)⟩
theorem lw_p3 : lw_okq (⟨"BoreholeColumns$Text", "parseSign", "(I)Z"⟩, 5) := ⟨⟨by decide +kernel, by decide +kernel⟩, List.mem_of_getElem? (i := 82) (by decide +kernel), List.mem_of_getElem? (i := 388) (by decide +kernel), List.mem_of_getElem? (i := 389) (by decide +kernel)⟩
theorem lw_p4 : lw_okq (⟨"BoreholeColumns$Text", "parseBeds", "()Z"⟩, 5) := ⟨⟨by decide +kernel, by decide +kernel⟩, List.mem_of_getElem? (i := 82) (by decide +kernel), List.mem_of_getElem? (i := 392) (by decide +kernel), List.mem_of_getElem? (i := 393) (by decide +kernel)⟩
theorem lw_p5 : lw_okq (⟨"BoreholeColumns$Text", "parseThickness", "()I"⟩, 5) := ⟨⟨by decide +kernel, by decide +kernel⟩, List.mem_of_getElem? (i := 82) (by decide +kernel), List.mem_of_getElem? (i := 397) (by decide +kernel), List.mem_of_getElem? (i := 398) (by decide +kernel)⟩
theorem lw_p6 : lw_okq (⟨"BoreholeColumns$Pair", "putLeast", "(III)V"⟩, 7) := ⟨⟨by decide +kernel, by decide +kernel⟩, List.mem_of_getElem? (i := 114) (by decide +kernel), List.mem_of_getElem? (i := 519) (by decide +kernel), List.mem_of_getElem? (i := 520) (by decide +kernel)⟩
theorem lw_p7 : lw_okq (⟨"BoreholeColumns$Pair", "leastAt", "(II)I"⟩, 7) := ⟨⟨by decide +kernel, by decide +kernel⟩, List.mem_of_getElem? (i := 114) (by decide +kernel), List.mem_of_getElem? (i := 524) (by decide +kernel), List.mem_of_getElem? (i := 525) (by decide +kernel)⟩
theorem lw_p8 : lw_okq (⟨"BoreholeColumns$Pair", "stepCost", "(III)I"⟩, 7) := ⟨⟨by decide +kernel, by decide +kernel⟩, List.mem_of_getElem? (i := 114) (by decide +kernel), List.mem_of_getElem? (i := 528) (by decide +kernel), List.mem_of_getElem? (i := 529) (by decide +kernel)⟩
theorem lw_p9 : lw_okq (⟨"BoreholeColumns$Pair", "costOfDifference", "(II)I"⟩, 7) := ⟨⟨by decide +kernel, by decide +kernel⟩, List.mem_of_getElem? (i := 114) (by decide +kernel), List.mem_of_getElem? (i := 534) (by decide +kernel), List.mem_of_getElem? (i := 535) (by decide +kernel)⟩
theorem lw_p10 : lw_okq (⟨"BoreholeColumns$Pair", "missingCostOf", "(I)I"⟩, 7) := ⟨⟨by decide +kernel, by decide +kernel⟩, List.mem_of_getElem? (i := 114) (by decide +kernel), List.mem_of_getElem? (i := 542) (by decide +kernel), List.mem_of_getElem? (i := 543) (by decide +kernel)⟩
theorem lw_p11 : lw_okq (⟨"BoreholeColumns$Pair", "leastAfter", "(III)I"⟩, 7) := ⟨⟨by decide +kernel, by decide +kernel⟩, List.mem_of_getElem? (i := 114) (by decide +kernel), List.mem_of_getElem? (i := 552) (by decide +kernel), List.mem_of_getElem? (i := 553) (by decide +kernel)⟩
theorem lw_p12 : lw_okq (⟨"BoreholeColumns", "isBedOfPair", "(IIII)Z"⟩, 9) := ⟨⟨by decide +kernel, by decide +kernel⟩, List.mem_of_getElem? (i := 13) (by decide +kernel), List.mem_of_getElem? (i := 571) (by decide +kernel), List.mem_of_getElem? (i := 572) (by decide +kernel)⟩
theorem lw_p13 : lw_okq (⟨"BoreholeColumns$Matching", "settleA", "(III)V"⟩, 6) := ⟨⟨by decide +kernel, by decide +kernel⟩, List.mem_of_getElem? (i := 108) (by decide +kernel), List.mem_of_getElem? (i := 581) (by decide +kernel), List.mem_of_getElem? (i := 582) (by decide +kernel)⟩
theorem lw_p14 : lw_okq (⟨"BoreholeColumns$Matching", "settleB", "(III)V"⟩, 6) := ⟨⟨by decide +kernel, by decide +kernel⟩, List.mem_of_getElem? (i := 108) (by decide +kernel), List.mem_of_getElem? (i := 585) (by decide +kernel), List.mem_of_getElem? (i := 586) (by decide +kernel)⟩
theorem lw_p15 : lw_okq (⟨"BoreholeColumns$Matching", "settle", "(III)V"⟩, 6) := ⟨⟨by decide +kernel, by decide +kernel⟩, List.mem_of_getElem? (i := 108) (by decide +kernel), List.mem_of_getElem? (i := 593) (by decide +kernel), List.mem_of_getElem? (i := 594) (by decide +kernel)⟩
def lw_privs_1 : List (MethodName × Nat) := [(⟨"BoreholeColumns$Text", "parseHole", "()Z"⟩, 5), (⟨"BoreholeColumns$Text", "skipSpaces", "()V"⟩, 5), (⟨"BoreholeColumns$Text", "current", "()I"⟩, 5), (⟨"BoreholeColumns$Text", "parseSign", "(I)Z"⟩, 5), (⟨"BoreholeColumns$Text", "parseBeds", "()Z"⟩, 5), (⟨"BoreholeColumns$Text", "parseThickness", "()I"⟩, 5), (⟨"BoreholeColumns$Pair", "putLeast", "(III)V"⟩, 7), (⟨"BoreholeColumns$Pair", "leastAt", "(II)I"⟩, 7), (⟨"BoreholeColumns$Pair", "stepCost", "(III)I"⟩, 7), (⟨"BoreholeColumns$Pair", "costOfDifference", "(II)I"⟩, 7), (⟨"BoreholeColumns$Pair", "missingCostOf", "(I)I"⟩, 7), (⟨"BoreholeColumns$Pair", "leastAfter", "(III)I"⟩, 7), (⟨"BoreholeColumns", "isBedOfPair", "(IIII)Z"⟩, 9), (⟨"BoreholeColumns$Matching", "settleA", "(III)V"⟩, 6), (⟨"BoreholeColumns$Matching", "settleB", "(III)V"⟩, 6), (⟨"BoreholeColumns$Matching", "settle", "(III)V"⟩, 6)]
theorem lw_r1 : ∀ q ∈ lw_privs_1, lw_okq q := List.forall_mem_cons.mpr ⟨lw_p0, List.forall_mem_cons.mpr ⟨lw_p1, List.forall_mem_cons.mpr ⟨lw_p2, List.forall_mem_cons.mpr ⟨lw_p3, List.forall_mem_cons.mpr ⟨lw_p4, List.forall_mem_cons.mpr ⟨lw_p5, List.forall_mem_cons.mpr ⟨lw_p6, List.forall_mem_cons.mpr ⟨lw_p7, List.forall_mem_cons.mpr ⟨lw_p8, List.forall_mem_cons.mpr ⟨lw_p9, List.forall_mem_cons.mpr ⟨lw_p10, List.forall_mem_cons.mpr ⟨lw_p11, List.forall_mem_cons.mpr ⟨lw_p12, List.forall_mem_cons.mpr ⟨lw_p13, List.forall_mem_cons.mpr ⟨lw_p14, List.forall_mem_cons.mpr ⟨lw_p15, fun _ h => absurd h List.not_mem_nil⟩⟩⟩⟩⟩⟩⟩⟩⟩⟩⟩⟩⟩⟩⟩⟩
theorem lw_p16 : lw_okq (⟨"BoreholeColumns$Matching", "hasFault", "(I)Z"⟩, 6) := ⟨⟨by decide +kernel, by decide +kernel⟩, List.mem_of_getElem? (i := 108) (by decide +kernel), List.mem_of_getElem? (i := 625) (by decide +kernel), List.mem_of_getElem? (i := 626) (by decide +kernel)⟩
theorem lw_p17 : lw_okq (⟨"BoreholeColumns$Matching", "hasThrow", "(I)Z"⟩, 6) := ⟨⟨by decide +kernel, by decide +kernel⟩, List.mem_of_getElem? (i := 108) (by decide +kernel), List.mem_of_getElem? (i := 629) (by decide +kernel), List.mem_of_getElem? (i := 630) (by decide +kernel)⟩
theorem lw_p18 : lw_okq (⟨"BoreholeColumns$Matching", "differenceOfElevations", "(I)I"⟩, 6) := ⟨⟨by decide +kernel, by decide +kernel⟩, List.mem_of_getElem? (i := 108) (by decide +kernel), List.mem_of_getElem? (i := 679) (by decide +kernel), List.mem_of_getElem? (i := 680) (by decide +kernel)⟩
theorem lw_p19 : lw_okq (⟨"BoreholeColumnsModel", "puts", "(II)I"⟩, 23) := ⟨⟨by decide +kernel, by decide +kernel⟩, List.mem_of_getElem? (i := 693) (by decide +kernel), List.mem_of_getElem? (i := 779) (by decide +kernel), List.mem_of_getElem? (i := 780) (by decide +kernel)⟩
theorem lw_p20 : lw_okq (⟨"BoreholeColumnsModel", "saves", "()V"⟩, 23) := ⟨⟨by decide +kernel, by decide +kernel⟩, List.mem_of_getElem? (i := 693) (by decide +kernel), List.mem_of_getElem? (i := 783) (by decide +kernel), List.mem_of_getElem? (i := 784) (by decide +kernel)⟩
theorem lw_p21 : lw_okq (⟨"BoreholeColumnsModel", "adds", "(IIII)V"⟩, 23) := ⟨⟨by decide +kernel, by decide +kernel⟩, List.mem_of_getElem? (i := 693) (by decide +kernel), List.mem_of_getElem? (i := 807) (by decide +kernel), List.mem_of_getElem? (i := 808) (by decide +kernel)⟩
theorem lw_p22 : lw_okq (⟨"BoreholeColumnsModel", "comes", "(II)V"⟩, 23) := ⟨⟨by decide +kernel, by decide +kernel⟩, List.mem_of_getElem? (i := 693) (by decide +kernel), List.mem_of_getElem? (i := 814) (by decide +kernel), List.mem_of_getElem? (i := 815) (by decide +kernel)⟩
theorem lw_p23 : lw_okq (⟨"BoreholeColumnsModel", "isBed", "(II)Z"⟩, 23) := ⟨⟨by decide +kernel, by decide +kernel⟩, List.mem_of_getElem? (i := 693) (by decide +kernel), List.mem_of_getElem? (i := 822) (by decide +kernel), List.mem_of_getElem? (i := 823) (by decide +kernel)⟩
theorem lw_p24 : lw_okq (⟨"BoreholeColumnsModel", "thick", "(II)I"⟩, 23) := ⟨⟨by decide +kernel, by decide +kernel⟩, List.mem_of_getElem? (i := 693) (by decide +kernel), List.mem_of_getElem? (i := 826) (by decide +kernel), List.mem_of_getElem? (i := 827) (by decide +kernel)⟩
theorem lw_p25 : lw_okq (⟨"BoreholeColumnsModel", "length", "(I)I"⟩, 23) := ⟨⟨by decide +kernel, by decide +kernel⟩, List.mem_of_getElem? (i := 693) (by decide +kernel), List.mem_of_getElem? (i := 838) (by decide +kernel), List.mem_of_getElem? (i := 839) (by decide +kernel)⟩
theorem lw_p26 : lw_okq (⟨"BoreholeColumnsModel", "depth", "(II)I"⟩, 23) := ⟨⟨by decide +kernel, by decide +kernel⟩, List.mem_of_getElem? (i := 693) (by decide +kernel), List.mem_of_getElem? (i := 842) (by decide +kernel), List.mem_of_getElem? (i := 843) (by decide +kernel)⟩
theorem lw_p27 : lw_okq (⟨"BoreholeColumnsModel", "takes", "(III)V"⟩, 23) := ⟨⟨by decide +kernel, by decide +kernel⟩, List.mem_of_getElem? (i := 693) (by decide +kernel), List.mem_of_getElem? (i := 846) (by decide +kernel), List.mem_of_getElem? (i := 847) (by decide +kernel)⟩
theorem lw_p28 : lw_okq (⟨"BoreholeColumnsModel", "mark", "(II)I"⟩, 23) := ⟨⟨by decide +kernel, by decide +kernel⟩, List.mem_of_getElem? (i := 693) (by decide +kernel), List.mem_of_getElem? (i := 850) (by decide +kernel), List.mem_of_getElem? (i := 851) (by decide +kernel)⟩
theorem lw_p29 : lw_okq (⟨"BoreholeColumnsModel", "reads", "()I"⟩, 23) := ⟨⟨by decide +kernel, by decide +kernel⟩, List.mem_of_getElem? (i := 693) (by decide +kernel), List.mem_of_getElem? (i := 866) (by decide +kernel), List.mem_of_getElem? (i := 867) (by decide +kernel)⟩
theorem lw_p30 : lw_okq (⟨"BoreholeColumnsModel", "isAt", "(II)Z"⟩, 23) := ⟨⟨by decide +kernel, by decide +kernel⟩, List.mem_of_getElem? (i := 693) (by decide +kernel), List.mem_of_getElem? (i := 870) (by decide +kernel), List.mem_of_getElem? (i := 871) (by decide +kernel)⟩
theorem lw_p31 : lw_okq (⟨"BoreholeColumnsModel", "readsBed", "()Z"⟩, 23) := ⟨⟨by decide +kernel, by decide +kernel⟩, List.mem_of_getElem? (i := 693) (by decide +kernel), List.mem_of_getElem? (i := 874) (by decide +kernel), List.mem_of_getElem? (i := 875) (by decide +kernel)⟩
def lw_privs_2 : List (MethodName × Nat) := [(⟨"BoreholeColumns$Matching", "hasFault", "(I)Z"⟩, 6), (⟨"BoreholeColumns$Matching", "hasThrow", "(I)Z"⟩, 6), (⟨"BoreholeColumns$Matching", "differenceOfElevations", "(I)I"⟩, 6), (⟨"BoreholeColumnsModel", "puts", "(II)I"⟩, 23), (⟨"BoreholeColumnsModel", "saves", "()V"⟩, 23), (⟨"BoreholeColumnsModel", "adds", "(IIII)V"⟩, 23), (⟨"BoreholeColumnsModel", "comes", "(II)V"⟩, 23), (⟨"BoreholeColumnsModel", "isBed", "(II)Z"⟩, 23), (⟨"BoreholeColumnsModel", "thick", "(II)I"⟩, 23), (⟨"BoreholeColumnsModel", "length", "(I)I"⟩, 23), (⟨"BoreholeColumnsModel", "depth", "(II)I"⟩, 23), (⟨"BoreholeColumnsModel", "takes", "(III)V"⟩, 23), (⟨"BoreholeColumnsModel", "mark", "(II)I"⟩, 23), (⟨"BoreholeColumnsModel", "reads", "()I"⟩, 23), (⟨"BoreholeColumnsModel", "isAt", "(II)Z"⟩, 23), (⟨"BoreholeColumnsModel", "readsBed", "()Z"⟩, 23)]
theorem lw_r2 : ∀ q ∈ lw_privs_2, lw_okq q := List.forall_mem_cons.mpr ⟨lw_p16, List.forall_mem_cons.mpr ⟨lw_p17, List.forall_mem_cons.mpr ⟨lw_p18, List.forall_mem_cons.mpr ⟨lw_p19, List.forall_mem_cons.mpr ⟨lw_p20, List.forall_mem_cons.mpr ⟨lw_p21, List.forall_mem_cons.mpr ⟨lw_p22, List.forall_mem_cons.mpr ⟨lw_p23, List.forall_mem_cons.mpr ⟨lw_p24, List.forall_mem_cons.mpr ⟨lw_p25, List.forall_mem_cons.mpr ⟨lw_p26, List.forall_mem_cons.mpr ⟨lw_p27, List.forall_mem_cons.mpr ⟨lw_p28, List.forall_mem_cons.mpr ⟨lw_p29, List.forall_mem_cons.mpr ⟨lw_p30, List.forall_mem_cons.mpr ⟨lw_p31, fun _ h => absurd h List.not_mem_nil⟩⟩⟩⟩⟩⟩⟩⟩⟩⟩⟩⟩⟩⟩⟩⟩
theorem lw_p32 : lw_okq (⟨"BoreholeColumnsModel", "allBeds", "()I"⟩, 23) := ⟨⟨by decide +kernel, by decide +kernel⟩, List.mem_of_getElem? (i := 693) (by decide +kernel), List.mem_of_getElem? (i := 883) (by decide +kernel), List.mem_of_getElem? (i := 884) (by decide +kernel)⟩
theorem lw_p33 : lw_okq (⟨"BoreholeColumnsModel", "keyMany", "()I"⟩, 23) := ⟨⟨by decide +kernel, by decide +kernel⟩, List.mem_of_getElem? (i := 693) (by decide +kernel), List.mem_of_getElem? (i := 900) (by decide +kernel), List.mem_of_getElem? (i := 901) (by decide +kernel)⟩
theorem lw_p34 : lw_okq (⟨"BoreholeColumnsModel", "fills", "(II)I"⟩, 23) := ⟨⟨by decide +kernel, by decide +kernel⟩, List.mem_of_getElem? (i := 693) (by decide +kernel), List.mem_of_getElem? (i := 928) (by decide +kernel), List.mem_of_getElem? (i := 929) (by decide +kernel)⟩
theorem lw_p35 : lw_okq (⟨"BoreholeColumnsModel", "costOf", "(IIIII)I"⟩, 23) := ⟨⟨by decide +kernel, by decide +kernel⟩, List.mem_of_getElem? (i := 693) (by decide +kernel), List.mem_of_getElem? (i := 932) (by decide +kernel), List.mem_of_getElem? (i := 933) (by decide +kernel)⟩
theorem lw_p36 : lw_okq (⟨"BoreholeColumnsModel", "differ", "(IIII)I"⟩, 23) := ⟨⟨by decide +kernel, by decide +kernel⟩, List.mem_of_getElem? (i := 693) (by decide +kernel), List.mem_of_getElem? (i := 936) (by decide +kernel), List.mem_of_getElem? (i := 937) (by decide +kernel)⟩
theorem lw_p37 : lw_okq (⟨"BoreholeColumnsModel", "missing", "(I)I"⟩, 23) := ⟨⟨by decide +kernel, by decide +kernel⟩, List.mem_of_getElem? (i := 693) (by decide +kernel), List.mem_of_getElem? (i := 940) (by decide +kernel), List.mem_of_getElem? (i := 941) (by decide +kernel)⟩
theorem lw_p38 : lw_okq (⟨"BoreholeColumnsModel", "repeated", "(IIII)I"⟩, 23) := ⟨⟨by decide +kernel, by decide +kernel⟩, List.mem_of_getElem? (i := 693) (by decide +kernel), List.mem_of_getElem? (i := 944) (by decide +kernel), List.mem_of_getElem? (i := 945) (by decide +kernel)⟩
theorem lw_p39 : lw_okq (⟨"BoreholeColumnsModel", "isOne", "(IIII)Z"⟩, 23) := ⟨⟨by decide +kernel, by decide +kernel⟩, List.mem_of_getElem? (i := 693) (by decide +kernel), List.mem_of_getElem? (i := 952) (by decide +kernel), List.mem_of_getElem? (i := 953) (by decide +kernel)⟩
theorem lw_p40 : lw_okq (⟨"BoreholeColumnsModel", "matches", "(II)V"⟩, 23) := ⟨⟨by decide +kernel, by decide +kernel⟩, List.mem_of_getElem? (i := 693) (by decide +kernel), List.mem_of_getElem? (i := 956) (by decide +kernel), List.mem_of_getElem? (i := 957) (by decide +kernel)⟩
theorem lw_p41 : lw_okq (⟨"BoreholeColumnsModel", "thingAt", "(IIII)I"⟩, 23) := ⟨⟨by decide +kernel, by decide +kernel⟩, List.mem_of_getElem? (i := 693) (by decide +kernel), List.mem_of_getElem? (i := 960) (by decide +kernel), List.mem_of_getElem? (i := 961) (by decide +kernel)⟩
theorem lw_p42 : lw_okq (⟨"BoreholeColumnsModel", "isFault", "(I)Z"⟩, 23) := ⟨⟨by decide +kernel, by decide +kernel⟩, List.mem_of_getElem? (i := 693) (by decide +kernel), List.mem_of_getElem? (i := 972) (by decide +kernel), List.mem_of_getElem? (i := 973) (by decide +kernel)⟩
theorem lw_p43 : lw_okq (⟨"BoreholeColumnsModel", "copiesTo", "([II)V"⟩, 23) := ⟨⟨by decide +kernel, by decide +kernel⟩, List.mem_of_getElem? (i := 693) (by decide +kernel), List.mem_of_getElem? (i := 992) (by decide +kernel), List.mem_of_getElem? (i := 993) (by decide +kernel)⟩
def lw_privs_3 : List (MethodName × Nat) := [(⟨"BoreholeColumnsModel", "allBeds", "()I"⟩, 23), (⟨"BoreholeColumnsModel", "keyMany", "()I"⟩, 23), (⟨"BoreholeColumnsModel", "fills", "(II)I"⟩, 23), (⟨"BoreholeColumnsModel", "costOf", "(IIIII)I"⟩, 23), (⟨"BoreholeColumnsModel", "differ", "(IIII)I"⟩, 23), (⟨"BoreholeColumnsModel", "missing", "(I)I"⟩, 23), (⟨"BoreholeColumnsModel", "repeated", "(IIII)I"⟩, 23), (⟨"BoreholeColumnsModel", "isOne", "(IIII)Z"⟩, 23), (⟨"BoreholeColumnsModel", "matches", "(II)V"⟩, 23), (⟨"BoreholeColumnsModel", "thingAt", "(IIII)I"⟩, 23), (⟨"BoreholeColumnsModel", "isFault", "(I)Z"⟩, 23), (⟨"BoreholeColumnsModel", "copiesTo", "([II)V"⟩, 23)]
theorem lw_r3 : ∀ q ∈ lw_privs_3, lw_okq q := List.forall_mem_cons.mpr ⟨lw_p32, List.forall_mem_cons.mpr ⟨lw_p33, List.forall_mem_cons.mpr ⟨lw_p34, List.forall_mem_cons.mpr ⟨lw_p35, List.forall_mem_cons.mpr ⟨lw_p36, List.forall_mem_cons.mpr ⟨lw_p37, List.forall_mem_cons.mpr ⟨lw_p38, List.forall_mem_cons.mpr ⟨lw_p39, List.forall_mem_cons.mpr ⟨lw_p40, List.forall_mem_cons.mpr ⟨lw_p41, List.forall_mem_cons.mpr ⟨lw_p42, List.forall_mem_cons.mpr ⟨lw_p43, fun _ h => absurd h List.not_mem_nil⟩⟩⟩⟩⟩⟩⟩⟩⟩⟩⟩⟩
def lw_privs : List (MethodName × Nat) := lw_privs_1 ++ (lw_privs_2 ++ (lw_privs_3))
def lw_tbl : List Cond := k2_sels lw_privs ++ tables_1
theorem lw_privs_ok : ∀ q ∈ lw_privs, lw_okq q := by
  show ∀ q ∈ lw_privs_1 ++ (lw_privs_2 ++ (lw_privs_3)), lw_okq q
  exact List.forall_mem_append.mpr ⟨lw_r1, List.forall_mem_append.mpr ⟨lw_r2, lw_r3⟩⟩
/-- the words that any state of the machine keeps -/
def bg_T : List Cond := lw_tbl.filter goodWord
end
section
def RX0 : String := "BoreholeColumns$Column"
def TX0 : u_T := fun k => match k with
  | 0 => ("BoreholeColumns$Column", "collar", "I", false)
  | 1 => ("BoreholeColumns$Column", "bedCount", "I", false)
  | 2 => ("BoreholeColumns$Column", "marks", "[I", true)
  | _ => ("BoreholeColumns$Column", "thicknesses", "[I", true)
def tyX0 : Nat → FieldType := fun k => match k with
  | 0 => .int
  | 1 => .int
  | 2 => .array .int
  | _ => .array .int
theorem nmX0 : ∀ a, a < 4 → ∀ b, b < 4 → a ≠ b → (TX0 a).2.1 ≠ (TX0 b).2.1 := by decide +kernel
theorem tyX0_ok : ∀ k, k < 4 → parseFieldDescriptor (TX0 k).2.2.1 = some (tyX0 k) := by decide +kernel
abbrev cX0_init : ByteArray := prog_2_method_1_code
def yX0_init : MethodName := ⟨RX0, "<init>", "()V"⟩
abbrev cX0_collarElevation : ByteArray := prog_2_method_2_code
def yX0_collarElevation : MethodName := ⟨RX0, "collarElevation", "()I"⟩
abbrev cX0_putCollar : ByteArray := prog_2_method_3_code
def yX0_putCollar : MethodName := ⟨RX0, "putCollar", "(I)V"⟩
abbrev cX0_size : ByteArray := prog_2_method_4_code
def yX0_size : MethodName := ⟨RX0, "size", "()I"⟩
abbrev cX0_has : ByteArray := prog_2_method_5_code
def yX0_has : MethodName := ⟨RX0, "has", "(I)Z"⟩
abbrev cX0_markOf : ByteArray := prog_2_method_6_code
def yX0_markOf : MethodName := ⟨RX0, "markOf", "(I)I"⟩
abbrev cX0_thicknessOf : ByteArray := prog_2_method_7_code
def yX0_thicknessOf : MethodName := ⟨RX0, "thicknessOf", "(I)I"⟩
abbrev cX0_putThickness : ByteArray := prog_2_method_8_code
def yX0_putThickness : MethodName := ⟨RX0, "putThickness", "(II)V"⟩
abbrev cX0_depthOf : ByteArray := prog_2_method_9_code
def yX0_depthOf : MethodName := ⟨RX0, "depthOf", "(I)I"⟩
abbrev cX0_elevationOf : ByteArray := prog_2_method_10_code
def yX0_elevationOf : MethodName := ⟨RX0, "elevationOf", "(I)I"⟩
abbrev cX0_totalThickness : ByteArray := prog_2_method_11_code
def yX0_totalThickness : MethodName := ⟨RX0, "totalThickness", "()I"⟩
abbrev cX0_bedWithMark : ByteArray := prog_2_method_12_code
def yX0_bedWithMark : MethodName := ⟨RX0, "bedWithMark", "(II)I"⟩
abbrev cX0_clear : ByteArray := prog_2_method_13_code
def yX0_clear : MethodName := ⟨RX0, "clear", "()V"⟩
abbrev cX0_insert : ByteArray := prog_2_method_14_code
def yX0_insert : MethodName := ⟨RX0, "insert", "(III)Z"⟩
abbrev cX0_takeOut : ByteArray := prog_2_method_15_code
def yX0_takeOut : MethodName := ⟨RX0, "takeOut", "(I)V"⟩
abbrev cX0_appendPart : ByteArray := prog_2_method_16_code
def yX0_appendPart : MethodName := ⟨RX0, "appendPart", "(LBoreholeColumns$Column;II)Z"⟩
abbrev cX0_takeBedsOf : ByteArray := prog_2_method_17_code
def yX0_takeBedsOf : MethodName := ⟨RX0, "takeBedsOf", "(LBoreholeColumns$Column;)V"⟩
abbrev cX0_copyFrom : ByteArray := prog_2_method_18_code
def yX0_copyFrom : MethodName := ⟨RX0, "copyFrom", "(LBoreholeColumns$Column;)V"⟩
def RX1 : String := "BoreholeColumns$History"
def TX1 : u_T := fun k => match k with
  | 0 => ("BoreholeColumns$History", "saved", "[LBoreholeColumns$State;", true)
  | 1 => ("BoreholeColumns$History", "savedCount", "I", false)
  | _ => ("BoreholeColumns$History", "next", "I", false)
def tyX1 : Nat → FieldType := fun k => match k with
  | 0 => .array (.object "BoreholeColumns$State")
  | 1 => .int
  | _ => .int
theorem nmX1 : ∀ a, a < 3 → ∀ b, b < 3 → a ≠ b → (TX1 a).2.1 ≠ (TX1 b).2.1 := by decide +kernel
theorem tyX1_ok : ∀ k, k < 3 → parseFieldDescriptor (TX1 k).2.2.1 = some (tyX1 k) := by decide +kernel
abbrev cX1_init : ByteArray := prog_3_method_1_code
def yX1_init : MethodName := ⟨RX1, "<init>", "()V"⟩
abbrev cX1_size : ByteArray := prog_3_method_2_code
def yX1_size : MethodName := ⟨RX1, "size", "()I"⟩
abbrev cX1_save : ByteArray := prog_3_method_3_code
def yX1_save : MethodName := ⟨RX1, "save", "(LBoreholeColumns$State;)V"⟩
abbrev cX1_restore : ByteArray := prog_3_method_4_code
def yX1_restore : MethodName := ⟨RX1, "restore", "(LBoreholeColumns$State;)Z"⟩
def RX2 : String := "BoreholeColumns$Matching"
def TX2 : u_T := fun k => match k with
  | 0 => ("BoreholeColumns$Matching", "pair", "LBoreholeColumns$Pair;", true)
  | 1 => ("BoreholeColumns$Matching", "fatesOfA", "[I", true)
  | 2 => ("BoreholeColumns$Matching", "fatesOfB", "[I", true)
  | 3 => ("BoreholeColumns$Matching", "partnersOfA", "[I", true)
  | 4 => ("BoreholeColumns$Matching", "partnersOfB", "[I", true)
  | _ => ("BoreholeColumns$Matching", "leastFault", "I", false)
def tyX2 : Nat → FieldType := fun k => match k with
  | 0 => .object "BoreholeColumns$Pair"
  | 1 => .array .int
  | 2 => .array .int
  | 3 => .array .int
  | 4 => .array .int
  | _ => .int
theorem nmX2 : ∀ a, a < 6 → ∀ b, b < 6 → a ≠ b → (TX2 a).2.1 ≠ (TX2 b).2.1 := by decide +kernel
theorem tyX2_ok : ∀ k, k < 6 → parseFieldDescriptor (TX2 k).2.2.1 = some (tyX2 k) := by decide +kernel
abbrev cX2_init : ByteArray := prog_4_method_1_code
def yX2_init : MethodName := ⟨RX2, "<init>", "()V"⟩
abbrev cX2_leastCost : ByteArray := prog_4_method_2_code
def yX2_leastCost : MethodName := ⟨RX2, "leastCost", "(LBoreholeColumns$State;III)I"⟩
abbrev cX2_solve : ByteArray := prog_4_method_3_code
def yX2_solve : MethodName := ⟨RX2, "solve", "(LBoreholeColumns$State;II)V"⟩
abbrev cX2_settle : ByteArray := prog_4_method_4_code
def yX2_settle : MethodName := ⟨RX2, "settle", "(III)V"⟩
abbrev cX2_settleA : ByteArray := prog_4_method_5_code
def yX2_settleA : MethodName := ⟨RX2, "settleA", "(III)V"⟩
abbrev cX2_settleB : ByteArray := prog_4_method_6_code
def yX2_settleB : MethodName := ⟨RX2, "settleB", "(III)V"⟩
abbrev cX2_fateOf : ByteArray := prog_4_method_7_code
def yX2_fateOf : MethodName := ⟨RX2, "fateOf", "(II)I"⟩
abbrev cX2_partnerOf : ByteArray := prog_4_method_8_code
def yX2_partnerOf : MethodName := ⟨RX2, "partnerOf", "(II)I"⟩
abbrev cX2_countFates : ByteArray := prog_4_method_9_code
def yX2_countFates : MethodName := ⟨RX2, "countFates", "(II)I"⟩
abbrev cX2_nextMatch : ByteArray := prog_4_method_10_code
def yX2_nextMatch : MethodName := ⟨RX2, "nextMatch", "(I)I"⟩
abbrev cX2_hasThrow : ByteArray := prog_4_method_11_code
def yX2_hasThrow : MethodName := ⟨RX2, "hasThrow", "(I)Z"⟩
abbrev cX2_throwBelow : ByteArray := prog_4_method_12_code
def yX2_throwBelow : MethodName := ⟨RX2, "throwBelow", "(I)I"⟩
abbrev cX2_hasFault : ByteArray := prog_4_method_13_code
def yX2_hasFault : MethodName := ⟨RX2, "hasFault", "(I)Z"⟩
abbrev cX2_reasonBelow : ByteArray := prog_4_method_14_code
def yX2_reasonBelow : MethodName := ⟨RX2, "reasonBelow", "(I)I"⟩
abbrev cX2_faultCount : ByteArray := prog_4_method_15_code
def yX2_faultCount : MethodName := ⟨RX2, "faultCount", "()I"⟩
abbrev cX2_bedAheadOfFault : ByteArray := prog_4_method_16_code
def yX2_bedAheadOfFault : MethodName := ⟨RX2, "bedAheadOfFault", "(I)I"⟩
abbrev cX2_totalThrow : ByteArray := prog_4_method_17_code
def yX2_totalThrow : MethodName := ⟨RX2, "totalThrow", "(Z)I"⟩
abbrev cX2_changeOfElevations : ByteArray := prog_4_method_18_code
def yX2_changeOfElevations : MethodName := ⟨RX2, "changeOfElevations", "()I"⟩
abbrev cX2_differenceOfElevations : ByteArray := prog_4_method_19_code
def yX2_differenceOfElevations : MethodName := ⟨RX2, "differenceOfElevations", "(I)I"⟩
def RX3 : String := "BoreholeColumns$Pair"
def TX3 : u_T := fun k => match k with
  | 0 => ("BoreholeColumns$Pair", "a", "LBoreholeColumns$Column;", true)
  | 1 => ("BoreholeColumns$Pair", "b", "LBoreholeColumns$Column;", true)
  | 2 => ("BoreholeColumns$Pair", "missingCosts", "[I", true)
  | 3 => ("BoreholeColumns$Pair", "repeatCost", "I", false)
  | 4 => ("BoreholeColumns$Pair", "differenceCost", "I", false)
  | 5 => ("BoreholeColumns$Pair", "reach", "I", false)
  | _ => ("BoreholeColumns$Pair", "least", "[I", true)
def tyX3 : Nat → FieldType := fun k => match k with
  | 0 => .object "BoreholeColumns$Column"
  | 1 => .object "BoreholeColumns$Column"
  | 2 => .array .int
  | 3 => .int
  | 4 => .int
  | 5 => .int
  | _ => .array .int
theorem nmX3 : ∀ a, a < 7 → ∀ b, b < 7 → a ≠ b → (TX3 a).2.1 ≠ (TX3 b).2.1 := by decide +kernel
theorem tyX3_ok : ∀ k, k < 7 → parseFieldDescriptor (TX3 k).2.2.1 = some (tyX3 k) := by decide +kernel
abbrev cX3_init : ByteArray := prog_5_method_1_code
def yX3_init : MethodName := ⟨RX3, "<init>", "()V"⟩
abbrev cX3_take : ByteArray := prog_5_method_2_code
def yX3_take : MethodName := ⟨RX3, "take", "(LBoreholeColumns$State;II)V"⟩
abbrev cX3_columnA : ByteArray := prog_5_method_3_code
def yX3_columnA : MethodName := ⟨RX3, "columnA", "()LBoreholeColumns$Column;"⟩
abbrev cX3_columnB : ByteArray := prog_5_method_4_code
def yX3_columnB : MethodName := ⟨RX3, "columnB", "()LBoreholeColumns$Column;"⟩
abbrev cX3_repeatedBed : ByteArray := prog_5_method_5_code
def yX3_repeatedBed : MethodName := ⟨RX3, "repeatedBed", "(II)I"⟩
abbrev cX3_stepCost : ByteArray := prog_5_method_6_code
def yX3_stepCost : MethodName := ⟨RX3, "stepCost", "(III)I"⟩
abbrev cX3_missingCostOf : ByteArray := prog_5_method_7_code
def yX3_missingCostOf : MethodName := ⟨RX3, "missingCostOf", "(I)I"⟩
abbrev cX3_costOfDifference : ByteArray := prog_5_method_8_code
def yX3_costOfDifference : MethodName := ⟨RX3, "costOfDifference", "(II)I"⟩
abbrev cX3_nextOfA : ByteArray := prog_5_method_9_code
def yX3_nextOfA : MethodName := ⟨RX3, "nextOfA", "(II)I"⟩
abbrev cX3_nextOfB : ByteArray := prog_5_method_10_code
def yX3_nextOfB : MethodName := ⟨RX3, "nextOfB", "(II)I"⟩
abbrev cX3_leastAt : ByteArray := prog_5_method_11_code
def yX3_leastAt : MethodName := ⟨RX3, "leastAt", "(II)I"⟩
abbrev cX3_putLeast : ByteArray := prog_5_method_12_code
def yX3_putLeast : MethodName := ⟨RX3, "putLeast", "(III)V"⟩
abbrev cX3_leastAfter : ByteArray := prog_5_method_13_code
def yX3_leastAfter : MethodName := ⟨RX3, "leastAfter", "(III)I"⟩
abbrev cX3_costFromBottom : ByteArray := prog_5_method_14_code
def yX3_costFromBottom : MethodName := ⟨RX3, "costFromBottom", "()I"⟩
abbrev cX3_costFromTop : ByteArray := prog_5_method_15_code
def yX3_costFromTop : MethodName := ⟨RX3, "costFromTop", "()I"⟩
abbrev cX3_firstBestStep : ByteArray := prog_5_method_16_code
def yX3_firstBestStep : MethodName := ⟨RX3, "firstBestStep", "(II)I"⟩
def RX4 : String := "BoreholeColumns$State"
def TX4 : u_T := fun k => match k with
  | 0 => ("BoreholeColumns$State", "numbers", "[I", true)
  | 1 => ("BoreholeColumns$State", "keyMarks", "I", false)
  | 2 => ("BoreholeColumns$State", "columns", "[LBoreholeColumns$Column;", true)
  | _ => ("BoreholeColumns$State", "booked", "[I", true)
def tyX4 : Nat → FieldType := fun k => match k with
  | 0 => .array .int
  | 1 => .int
  | 2 => .array (.object "BoreholeColumns$Column")
  | _ => .array .int
theorem nmX4 : ∀ a, a < 4 → ∀ b, b < 4 → a ≠ b → (TX4 a).2.1 ≠ (TX4 b).2.1 := by decide +kernel
theorem tyX4_ok : ∀ k, k < 4 → parseFieldDescriptor (TX4 k).2.2.1 = some (tyX4 k) := by decide +kernel
abbrev cX4_init : ByteArray := prog_6_method_1_code
def yX4_init : MethodName := ⟨RX4, "<init>", "()V"⟩
abbrev cX4_numberOf : ByteArray := prog_6_method_2_code
def yX4_numberOf : MethodName := ⟨RX4, "numberOf", "(I)I"⟩
abbrev cX4_putNumber : ByteArray := prog_6_method_3_code
def yX4_putNumber : MethodName := ⟨RX4, "putNumber", "(II)V"⟩
abbrev cX4_isKey : ByteArray := prog_6_method_4_code
def yX4_isKey : MethodName := ⟨RX4, "isKey", "(I)Z"⟩
abbrev cX4_putKey : ByteArray := prog_6_method_5_code
def yX4_putKey : MethodName := ⟨RX4, "putKey", "(IZ)V"⟩
abbrev cX4_keyMarkCount : ByteArray := prog_6_method_6_code
def yX4_keyMarkCount : MethodName := ⟨RX4, "keyMarkCount", "()I"⟩
abbrev cX4_columnOf : ByteArray := prog_6_method_7_code
def yX4_columnOf : MethodName := ⟨RX4, "columnOf", "(I)LBoreholeColumns$Column;"⟩
abbrev cX4_bookedIn : ByteArray := prog_6_method_8_code
def yX4_bookedIn : MethodName := ⟨RX4, "bookedIn", "(I)I"⟩
abbrev cX4_book : ByteArray := prog_6_method_9_code
def yX4_book : MethodName := ⟨RX4, "book", "(II)V"⟩
abbrev cX4_sumOfSizes : ByteArray := prog_6_method_10_code
def yX4_sumOfSizes : MethodName := ⟨RX4, "sumOfSizes", "()I"⟩
abbrev cX4_sumOfLengths : ByteArray := prog_6_method_11_code
def yX4_sumOfLengths : MethodName := ⟨RX4, "sumOfLengths", "()I"⟩
abbrev cX4_copyFrom : ByteArray := prog_6_method_12_code
def yX4_copyFrom : MethodName := ⟨RX4, "copyFrom", "(LBoreholeColumns$State;)V"⟩
def RX5 : String := "BoreholeColumns$Text"
def TX5 : u_T := fun k => match k with
  | 0 => ("BoreholeColumns$Text", "characters", "[I", true)
  | 1 => ("BoreholeColumns$Text", "length", "I", false)
  | 2 => ("BoreholeColumns$Text", "position", "I", false)
  | 3 => ("BoreholeColumns$Text", "holeRead", "I", false)
  | _ => ("BoreholeColumns$Text", "bedsRead", "LBoreholeColumns$Column;", true)
def tyX5 : Nat → FieldType := fun k => match k with
  | 0 => .array .int
  | 1 => .int
  | 2 => .int
  | 3 => .int
  | _ => .object "BoreholeColumns$Column"
theorem nmX5 : ∀ a, a < 5 → ∀ b, b < 5 → a ≠ b → (TX5 a).2.1 ≠ (TX5 b).2.1 := by decide +kernel
theorem tyX5_ok : ∀ k, k < 5 → parseFieldDescriptor (TX5 k).2.2.1 = some (tyX5 k) := by decide +kernel
abbrev cX5_init : ByteArray := prog_7_method_1_code
def yX5_init : MethodName := ⟨RX5, "<init>", "()V"⟩
abbrev cX5_size : ByteArray := prog_7_method_2_code
def yX5_size : MethodName := ⟨RX5, "size", "()I"⟩
abbrev cX5_clear : ByteArray := prog_7_method_3_code
def yX5_clear : MethodName := ⟨RX5, "clear", "()V"⟩
abbrev cX5_append : ByteArray := prog_7_method_4_code
def yX5_append : MethodName := ⟨RX5, "append", "(I)Z"⟩
abbrev cX5_parse : ByteArray := prog_7_method_5_code
def yX5_parse : MethodName := ⟨RX5, "parse", "()Z"⟩
abbrev cX5_parsedTo : ByteArray := prog_7_method_6_code
def yX5_parsedTo : MethodName := ⟨RX5, "parsedTo", "()I"⟩
abbrev cX5_parsedHole : ByteArray := prog_7_method_7_code
def yX5_parsedHole : MethodName := ⟨RX5, "parsedHole", "()I"⟩
abbrev cX5_parsedBeds : ByteArray := prog_7_method_8_code
def yX5_parsedBeds : MethodName := ⟨RX5, "parsedBeds", "()LBoreholeColumns$Column;"⟩
abbrev cX5_current : ByteArray := prog_7_method_9_code
def yX5_current : MethodName := ⟨RX5, "current", "()I"⟩
abbrev cX5_skipSpaces : ByteArray := prog_7_method_10_code
def yX5_skipSpaces : MethodName := ⟨RX5, "skipSpaces", "()V"⟩
abbrev cX5_parseSign : ByteArray := prog_7_method_11_code
def yX5_parseSign : MethodName := ⟨RX5, "parseSign", "(I)Z"⟩
abbrev cX5_parseHole : ByteArray := prog_7_method_12_code
def yX5_parseHole : MethodName := ⟨RX5, "parseHole", "()Z"⟩
abbrev cX5_parseBeds : ByteArray := prog_7_method_13_code
def yX5_parseBeds : MethodName := ⟨RX5, "parseBeds", "()Z"⟩
abbrev cX5_parseThickness : ByteArray := prog_7_method_14_code
def yX5_parseThickness : MethodName := ⟨RX5, "parseThickness", "()I"⟩
def RX6 : String := "BoreholeColumns"
def TX6 : u_T := fun k => match k with
  | 0 => ("BoreholeColumns", "present", "LBoreholeColumns$State;", true)
  | 1 => ("BoreholeColumns", "history", "LBoreholeColumns$History;", true)
  | 2 => ("BoreholeColumns", "images", "[LBoreholeColumns$State;", true)
  | 3 => ("BoreholeColumns", "keptImages", "I", false)
  | 4 => ("BoreholeColumns", "text", "LBoreholeColumns$Text;", true)
  | 5 => ("BoreholeColumns", "faulted", "LBoreholeColumns$Column;", true)
  | 6 => ("BoreholeColumns", "matching", "LBoreholeColumns$Matching;", true)
  | 7 => ("BoreholeColumns", "onward", "LBoreholeColumns$Matching;", true)
  | _ => ("BoreholeColumns", "direct", "LBoreholeColumns$Matching;", true)
def tyX6 : Nat → FieldType := fun k => match k with
  | 0 => .object "BoreholeColumns$State"
  | 1 => .object "BoreholeColumns$History"
  | 2 => .array (.object "BoreholeColumns$State")
  | 3 => .int
  | 4 => .object "BoreholeColumns$Text"
  | 5 => .object "BoreholeColumns$Column"
  | 6 => .object "BoreholeColumns$Matching"
  | 7 => .object "BoreholeColumns$Matching"
  | _ => .object "BoreholeColumns$Matching"
theorem nmX6 : ∀ a, a < 9 → ∀ b, b < 9 → a ≠ b → (TX6 a).2.1 ≠ (TX6 b).2.1 := by decide +kernel
theorem tyX6_ok : ∀ k, k < 9 → parseFieldDescriptor (TX6 k).2.2.1 = some (tyX6 k) := by decide +kernel
abbrev cX6_init : ByteArray := prog_1_method_1_code
def yX6_init : MethodName := ⟨RX6, "<init>", "()V"⟩
abbrev cX6_setNumber : ByteArray := prog_1_method_2_code
def yX6_setNumber : MethodName := ⟨RX6, "setNumber", "(II)I"⟩
abbrev cX6_setKey : ByteArray := prog_1_method_3_code
def yX6_setKey : MethodName := ⟨RX6, "setKey", "(II)I"⟩
abbrev cX6_setCollar : ByteArray := prog_1_method_4_code
def yX6_setCollar : MethodName := ⟨RX6, "setCollar", "(II)I"⟩
abbrev cX6_addBed : ByteArray := prog_1_method_5_code
def yX6_addBed : MethodName := ⟨RX6, "addBed", "(IIII)I"⟩
abbrev cX6_removeBed : ByteArray := prog_1_method_6_code
def yX6_removeBed : MethodName := ⟨RX6, "removeBed", "(II)I"⟩
abbrev cX6_setThickness : ByteArray := prog_1_method_7_code
def yX6_setThickness : MethodName := ⟨RX6, "setThickness", "(III)I"⟩
abbrev cX6_cut : ByteArray := prog_1_method_8_code
def yX6_cut : MethodName := ⟨RX6, "cut", "(III)I"⟩
abbrev cX6_appendCharacter : ByteArray := prog_1_method_9_code
def yX6_appendCharacter : MethodName := ⟨RX6, "appendCharacter", "(I)I"⟩
abbrev cX6_clearText : ByteArray := prog_1_method_10_code
def yX6_clearText : MethodName := ⟨RX6, "clearText", "()I"⟩
abbrev cX6_load : ByteArray := prog_1_method_11_code
def yX6_load : MethodName := ⟨RX6, "load", "()I"⟩
abbrev cX6_keep : ByteArray := prog_1_method_12_code
def yX6_keep : MethodName := ⟨RX6, "keep", "(I)I"⟩
abbrev cX6_back : ByteArray := prog_1_method_13_code
def yX6_back : MethodName := ⟨RX6, "back", "(I)I"⟩
abbrev cX6_undo : ByteArray := prog_1_method_14_code
def yX6_undo : MethodName := ⟨RX6, "undo", "()I"⟩
abbrev cX6_count : ByteArray := prog_1_method_15_code
def yX6_count : MethodName := ⟨RX6, "count", "(I)I"⟩
abbrev cX6_hole : ByteArray := prog_1_method_16_code
def yX6_hole : MethodName := ⟨RX6, "hole", "(II)I"⟩
abbrev cX6_bed : ByteArray := prog_1_method_17_code
def yX6_bed : MethodName := ⟨RX6, "bed", "(III)I"⟩
abbrev cX6_find : ByteArray := prog_1_method_18_code
def yX6_find : MethodName := ⟨RX6, "find", "(III)I"⟩
abbrev cX6_account : ByteArray := prog_1_method_19_code
def yX6_account : MethodName := ⟨RX6, "account", "(I)I"⟩
abbrev cX6_cost : ByteArray := prog_1_method_20_code
def yX6_cost : MethodName := ⟨RX6, "cost", "(III)I"⟩
abbrev cX6_why : ByteArray := prog_1_method_21_code
def yX6_why : MethodName := ⟨RX6, "why", "(IIII)I"⟩
abbrev cX6_partner : ByteArray := prog_1_method_22_code
def yX6_partner : MethodName := ⟨RX6, "partner", "(IIII)I"⟩
abbrev cX6_matched : ByteArray := prog_1_method_23_code
def yX6_matched : MethodName := ⟨RX6, "matched", "(III)I"⟩
abbrev cX6_fault : ByteArray := prog_1_method_24_code
def yX6_fault : MethodName := ⟨RX6, "fault", "(IIII)I"⟩
abbrev cX6_sumOfThrows : ByteArray := prog_1_method_25_code
def yX6_sumOfThrows : MethodName := ⟨RX6, "sumOfThrows", "(III)I"⟩
abbrev cX6_nearest : ByteArray := prog_1_method_26_code
def yX6_nearest : MethodName := ⟨RX6, "nearest", "(II)I"⟩
abbrev cX6_closed : ByteArray := prog_1_method_27_code
def yX6_closed : MethodName := ⟨RX6, "closed", "(III)I"⟩
abbrev cX6_isHole : ByteArray := prog_1_method_28_code
def yX6_isHole : MethodName := ⟨RX6, "isHole", "(I)Z"⟩
abbrev cX6_isMark : ByteArray := prog_1_method_29_code
def yX6_isMark : MethodName := ⟨RX6, "isMark", "(I)Z"⟩
abbrev cX6_isThickness : ByteArray := prog_1_method_30_code
def yX6_isThickness : MethodName := ⟨RX6, "isThickness", "(I)Z"⟩
abbrev cX6_isImage : ByteArray := prog_1_method_31_code
def yX6_isImage : MethodName := ⟨RX6, "isImage", "(I)Z"⟩
abbrev cX6_arePair : ByteArray := prog_1_method_32_code
def yX6_arePair : MethodName := ⟨RX6, "arePair", "(II)Z"⟩
abbrev cX6_isBedOfPair : ByteArray := prog_1_method_33_code
def yX6_isBedOfPair : MethodName := ⟨RX6, "isBedOfPair", "(IIII)Z"⟩
def RX7 : String := "BoreholeColumnsModel"
def TX7 : u_T := fun k => match k with
  | 0 => ("BoreholeColumnsModel", "s", "[I", true)
  | 1 => ("BoreholeColumnsModel", "was", "[I", true)
  | 2 => ("BoreholeColumnsModel", "images", "[I", true)
  | 3 => ("BoreholeColumnsModel", "aside", "[I", true)
  | 4 => ("BoreholeColumnsModel", "states", "I", false)
  | 5 => ("BoreholeColumnsModel", "kept", "I", false)
  | 6 => ("BoreholeColumnsModel", "text", "[I", true)
  | 7 => ("BoreholeColumnsModel", "typed", "I", false)
  | 8 => ("BoreholeColumnsModel", "cutBeds", "[I", true)
  | 9 => ("BoreholeColumnsModel", "cutMany", "I", false)
  | 10 => ("BoreholeColumnsModel", "spot", "I", false)
  | 11 => ("BoreholeColumnsModel", "readMany", "I", false)
  | 12 => ("BoreholeColumnsModel", "readBeds", "[I", true)
  | 13 => ("BoreholeColumnsModel", "least", "[I", true)
  | 14 => ("BoreholeColumnsModel", "becomesA", "[I", true)
  | 15 => ("BoreholeColumnsModel", "becomesB", "[I", true)
  | 16 => ("BoreholeColumnsModel", "partnerA", "[I", true)
  | 17 => ("BoreholeColumnsModel", "partnerB", "[I", true)
  | 18 => ("BoreholeColumnsModel", "thrownBetween", "[I", true)
  | 19 => ("BoreholeColumnsModel", "throwMany", "I", false)
  | 20 => ("BoreholeColumnsModel", "matches", "I", false)
  | 21 => ("BoreholeColumnsModel", "toB", "[I", true)
  | _ => ("BoreholeColumnsModel", "toC", "[I", true)
def tyX7 : Nat → FieldType := fun k => match k with
  | 0 => .array .int
  | 1 => .array .int
  | 2 => .array .int
  | 3 => .array .int
  | 4 => .int
  | 5 => .int
  | 6 => .array .int
  | 7 => .int
  | 8 => .array .int
  | 9 => .int
  | 10 => .int
  | 11 => .int
  | 12 => .array .int
  | 13 => .array .int
  | 14 => .array .int
  | 15 => .array .int
  | 16 => .array .int
  | 17 => .array .int
  | 18 => .array .int
  | 19 => .int
  | 20 => .int
  | 21 => .array .int
  | _ => .array .int
theorem nmX7 : ∀ a, a < 23 → ∀ b, b < 23 → a ≠ b → (TX7 a).2.1 ≠ (TX7 b).2.1 := by decide +kernel
theorem tyX7_ok : ∀ k, k < 23 → parseFieldDescriptor (TX7 k).2.2.1 = some (tyX7 k) := by decide +kernel
abbrev cX7_init : ByteArray := prog_9_method_1_code
def yX7_init : MethodName := ⟨RX7, "<init>", "()V"⟩
abbrev cX7_in : ByteArray := prog_9_method_3_code
def yX7_in : MethodName := ⟨RX7, "in", "(III)Z"⟩
abbrev cX7_saves : ByteArray := prog_9_method_4_code
def yX7_saves : MethodName := ⟨RX7, "saves", "()V"⟩
abbrev cX7_isHole : ByteArray := prog_9_method_5_code
def yX7_isHole : MethodName := ⟨RX7, "isHole", "(I)Z"⟩
abbrev cX7_isMark : ByteArray := prog_9_method_6_code
def yX7_isMark : MethodName := ⟨RX7, "isMark", "(I)Z"⟩
abbrev cX7_isBed : ByteArray := prog_9_method_7_code
def yX7_isBed : MethodName := ⟨RX7, "isBed", "(II)Z"⟩
abbrev cX7_at : ByteArray := prog_9_method_8_code
def yX7_at : MethodName := ⟨RX7, "at", "(II)I"⟩
abbrev cX7_mark : ByteArray := prog_9_method_9_code
def yX7_mark : MethodName := ⟨RX7, "mark", "(II)I"⟩
abbrev cX7_thick : ByteArray := prog_9_method_10_code
def yX7_thick : MethodName := ⟨RX7, "thick", "(II)I"⟩
abbrev cX7_depth : ByteArray := prog_9_method_11_code
def yX7_depth : MethodName := ⟨RX7, "depth", "(II)I"⟩
abbrev cX7_length : ByteArray := prog_9_method_12_code
def yX7_length : MethodName := ⟨RX7, "length", "(I)I"⟩
abbrev cX7_comes : ByteArray := prog_9_method_13_code
def yX7_comes : MethodName := ⟨RX7, "comes", "(II)V"⟩
abbrev cX7_puts : ByteArray := prog_9_method_14_code
def yX7_puts : MethodName := ⟨RX7, "puts", "(II)I"⟩
abbrev cX7_mostOf : ByteArray := prog_9_method_15_code
def yX7_mostOf : MethodName := ⟨RX7, "mostOf", "(I)I"⟩
abbrev cX7_setNumber : ByteArray := prog_9_method_16_code
def yX7_setNumber : MethodName := ⟨RX7, "setNumber", "(II)I"⟩
abbrev cX7_setKey : ByteArray := prog_9_method_17_code
def yX7_setKey : MethodName := ⟨RX7, "setKey", "(II)I"⟩
abbrev cX7_setCollar : ByteArray := prog_9_method_18_code
def yX7_setCollar : MethodName := ⟨RX7, "setCollar", "(II)I"⟩
abbrev cX7_adds : ByteArray := prog_9_method_19_code
def yX7_adds : MethodName := ⟨RX7, "adds", "(IIII)V"⟩
abbrev cX7_addBed : ByteArray := prog_9_method_20_code
def yX7_addBed : MethodName := ⟨RX7, "addBed", "(IIII)I"⟩
abbrev cX7_removeBed : ByteArray := prog_9_method_21_code
def yX7_removeBed : MethodName := ⟨RX7, "removeBed", "(II)I"⟩
abbrev cX7_setThickness : ByteArray := prog_9_method_22_code
def yX7_setThickness : MethodName := ⟨RX7, "setThickness", "(III)I"⟩
abbrev cX7_takes : ByteArray := prog_9_method_23_code
def yX7_takes : MethodName := ⟨RX7, "takes", "(III)V"⟩
abbrev cX7_cut : ByteArray := prog_9_method_24_code
def yX7_cut : MethodName := ⟨RX7, "cut", "(III)I"⟩
abbrev cX7_appendCharacter : ByteArray := prog_9_method_25_code
def yX7_appendCharacter : MethodName := ⟨RX7, "appendCharacter", "(I)I"⟩
abbrev cX7_clearText : ByteArray := prog_9_method_26_code
def yX7_clearText : MethodName := ⟨RX7, "clearText", "()I"⟩
abbrev cX7_isAt : ByteArray := prog_9_method_27_code
def yX7_isAt : MethodName := ⟨RX7, "isAt", "(II)Z"⟩
abbrev cX7_readsBed : ByteArray := prog_9_method_28_code
def yX7_readsBed : MethodName := ⟨RX7, "readsBed", "()Z"⟩
abbrev cX7_reads : ByteArray := prog_9_method_29_code
def yX7_reads : MethodName := ⟨RX7, "reads", "()I"⟩
abbrev cX7_load : ByteArray := prog_9_method_30_code
def yX7_load : MethodName := ⟨RX7, "load", "()I"⟩
abbrev cX7_allBeds : ByteArray := prog_9_method_31_code
def yX7_allBeds : MethodName := ⟨RX7, "allBeds", "()I"⟩
abbrev cX7_keep : ByteArray := prog_9_method_32_code
def yX7_keep : MethodName := ⟨RX7, "keep", "(I)I"⟩
abbrev cX7_back : ByteArray := prog_9_method_33_code
def yX7_back : MethodName := ⟨RX7, "back", "(I)I"⟩
abbrev cX7_undo : ByteArray := prog_9_method_34_code
def yX7_undo : MethodName := ⟨RX7, "undo", "()I"⟩
abbrev cX7_keyMany : ByteArray := prog_9_method_35_code
def yX7_keyMany : MethodName := ⟨RX7, "keyMany", "()I"⟩
abbrev cX7_count : ByteArray := prog_9_method_36_code
def yX7_count : MethodName := ⟨RX7, "count", "(I)I"⟩
abbrev cX7_hole : ByteArray := prog_9_method_37_code
def yX7_hole : MethodName := ⟨RX7, "hole", "(II)I"⟩
abbrev cX7_bed : ByteArray := prog_9_method_38_code
def yX7_bed : MethodName := ⟨RX7, "bed", "(III)I"⟩
abbrev cX7_find : ByteArray := prog_9_method_39_code
def yX7_find : MethodName := ⟨RX7, "find", "(III)I"⟩
abbrev cX7_account : ByteArray := prog_9_method_40_code
def yX7_account : MethodName := ⟨RX7, "account", "(I)I"⟩
abbrev cX7_differ : ByteArray := prog_9_method_41_code
def yX7_differ : MethodName := ⟨RX7, "differ", "(IIII)I"⟩
abbrev cX7_missing : ByteArray := prog_9_method_42_code
def yX7_missing : MethodName := ⟨RX7, "missing", "(I)I"⟩
abbrev cX7_repeated : ByteArray := prog_9_method_43_code
def yX7_repeated : MethodName := ⟨RX7, "repeated", "(IIII)I"⟩
abbrev cX7_costOf : ByteArray := prog_9_method_44_code
def yX7_costOf : MethodName := ⟨RX7, "costOf", "(IIIII)I"⟩
abbrev cX7_fills : ByteArray := prog_9_method_45_code
def yX7_fills : MethodName := ⟨RX7, "fills", "(II)I"⟩
abbrev cX7_thingAt : ByteArray := prog_9_method_46_code
def yX7_thingAt : MethodName := ⟨RX7, "thingAt", "(IIII)I"⟩
abbrev cX7_matches : ByteArray := prog_9_method_47_code
def yX7_matches : MethodName := ⟨RX7, "matches", "(II)V"⟩
abbrev cX7_areTwo : ByteArray := prog_9_method_48_code
def yX7_areTwo : MethodName := ⟨RX7, "areTwo", "(II)Z"⟩
abbrev cX7_cost : ByteArray := prog_9_method_49_code
def yX7_cost : MethodName := ⟨RX7, "cost", "(III)I"⟩
abbrev cX7_isOne : ByteArray := prog_9_method_50_code
def yX7_isOne : MethodName := ⟨RX7, "isOne", "(IIII)Z"⟩
abbrev cX7_why : ByteArray := prog_9_method_51_code
def yX7_why : MethodName := ⟨RX7, "why", "(IIII)I"⟩
abbrev cX7_partner : ByteArray := prog_9_method_52_code
def yX7_partner : MethodName := ⟨RX7, "partner", "(IIII)I"⟩
abbrev cX7_isFault : ByteArray := prog_9_method_53_code
def yX7_isFault : MethodName := ⟨RX7, "isFault", "(I)Z"⟩
abbrev cX7_matched : ByteArray := prog_9_method_54_code
def yX7_matched : MethodName := ⟨RX7, "matched", "(III)I"⟩
abbrev cX7_fault : ByteArray := prog_9_method_55_code
def yX7_fault : MethodName := ⟨RX7, "fault", "(IIII)I"⟩
abbrev cX7_sumOfThrows : ByteArray := prog_9_method_56_code
def yX7_sumOfThrows : MethodName := ⟨RX7, "sumOfThrows", "(III)I"⟩
abbrev cX7_nearest : ByteArray := prog_9_method_57_code
def yX7_nearest : MethodName := ⟨RX7, "nearest", "(II)I"⟩
abbrev cX7_copiesTo : ByteArray := prog_9_method_58_code
def yX7_copiesTo : MethodName := ⟨RX7, "copiesTo", "([II)V"⟩
abbrev cX7_closed : ByteArray := prog_9_method_59_code
def yX7_closed : MethodName := ⟨RX7, "closed", "(III)I"⟩
def RJ6 : String := "java/lang/Integer"
def TJ6 : u_T := fun k => match k with
  | _ => ("", "", "", false)
def tyJ6 : Nat → FieldType := fun k => match k with
  | _ => .int
theorem tyJ6_ok : ∀ k, k < 0 → parseFieldDescriptor (TJ6 k).2.2.1 = some (tyJ6 k) := by decide +kernel
abbrev cJ6_bitCount_0f7a4 : ByteArray := prog_10_method_49_code
def yJ6_bitCount_0f7a4 : MethodName := ⟨RJ6, "bitCount", "(I)I"⟩
def RJ9 : String := "java/lang/Math"
def TJ9 : u_T := fun k => match k with
  | _ => ("", "", "", false)
def tyJ9 : Nat → FieldType := fun k => match k with
  | _ => .int
theorem tyJ9_ok : ∀ k, k < 0 → parseFieldDescriptor (TJ9 k).2.2.1 = some (tyJ9 k) := by decide +kernel
abbrev cJ9_abs_0f7a4 : ByteArray := prog_11_method_59_code
def yJ9_abs_0f7a4 : MethodName := ⟨RJ9, "abs", "(I)I"⟩
abbrev cJ9_max_7cf53 : ByteArray := prog_11_method_65_code
def yJ9_max_7cf53 : MethodName := ⟨RJ9, "max", "(II)I"⟩
abbrev cJ9_min_7cf53 : ByteArray := prog_11_method_69_code
def yJ9_min_7cf53 : MethodName := ⟨RJ9, "min", "(II)I"⟩
def RJ10 : String := "java/lang/System"
def TJ10 : u_T := fun k => match k with
  | _ => ("", "", "", false)
def tyJ10 : Nat → FieldType := fun k => match k with
  | _ => .int
theorem tyJ10_ok : ∀ k, k < 0 → parseFieldDescriptor (TJ10 k).2.2.1 = some (tyJ10 k) := by decide +kernel
def RL : String := "BoreholeColumnsLaw"
abbrev cL_law : ByteArray := code
def yL_law : MethodName := ⟨RL, "law", "([I)Z"⟩
theorem dX0_init_0 : decode cX0_init 0 = .ok (.aload_n 0, 1) := by decide +kernel
theorem dX0_init_1 : decode cX0_init 1 = .ok (.invokespecial 3, 3) := by decide +kernel
theorem dX0_init_4 : decode cX0_init 4 = .ok (.aload_n 0, 1) := by decide +kernel
theorem dX0_init_5 : decode cX0_init 5 = .ok (.iconst 0, 1) := by decide +kernel
theorem dX0_init_6 : decode cX0_init 6 = .ok (.putfield 9, 3) := by decide +kernel
theorem dX0_init_9 : decode cX0_init 9 = .ok (.aload_n 0, 1) := by decide +kernel
theorem dX0_init_10 : decode cX0_init 10 = .ok (.iconst 0, 1) := by decide +kernel
theorem dX0_init_11 : decode cX0_init 11 = .ok (.putfield 15, 3) := by decide +kernel
theorem dX0_init_14 : decode cX0_init 14 = .ok (.aload_n 0, 1) := by decide +kernel
theorem dX0_init_15 : decode cX0_init 15 = .ok (.bipush 24, 2) := by decide +kernel
theorem dX0_init_17 : decode cX0_init 17 = .ok (.newarray .int, 2) := by decide +kernel
theorem dX0_init_19 : decode cX0_init 19 = .ok (.putfield 18, 3) := by decide +kernel
theorem dX0_init_22 : decode cX0_init 22 = .ok (.aload_n 0, 1) := by decide +kernel
theorem dX0_init_23 : decode cX0_init 23 = .ok (.bipush 24, 2) := by decide +kernel
theorem dX0_init_25 : decode cX0_init 25 = .ok (.newarray .int, 2) := by decide +kernel
theorem dX0_init_27 : decode cX0_init 27 = .ok (.putfield 22, 3) := by decide +kernel
theorem dX0_init_30 : decode cX0_init 30 = .ok (.return_, 1) := by decide +kernel
theorem dX0_collarElevation_0 : decode cX0_collarElevation 0 = .ok (.aload_n 0, 1) := by decide +kernel
theorem dX0_collarElevation_1 : decode cX0_collarElevation 1 = .ok (.getfield 9, 3) := by decide +kernel
theorem dX0_collarElevation_4 : decode cX0_collarElevation 4 = .ok (.ireturn, 1) := by decide +kernel
theorem dX0_putCollar_0 : decode cX0_putCollar 0 = .ok (.aload_n 0, 1) := by decide +kernel
theorem dX0_putCollar_1 : decode cX0_putCollar 1 = .ok (.iload_n 1, 1) := by decide +kernel
theorem dX0_putCollar_2 : decode cX0_putCollar 2 = .ok (.putfield 9, 3) := by decide +kernel
theorem dX0_putCollar_5 : decode cX0_putCollar 5 = .ok (.return_, 1) := by decide +kernel
theorem dX0_size_0 : decode cX0_size 0 = .ok (.aload_n 0, 1) := by decide +kernel
theorem dX0_size_1 : decode cX0_size 1 = .ok (.getfield 15, 3) := by decide +kernel
theorem dX0_size_4 : decode cX0_size 4 = .ok (.ireturn, 1) := by decide +kernel
theorem dX0_has_0 : decode cX0_has 0 = .ok (.iload_n 1, 1) := by decide +kernel
theorem dX0_has_1 : decode cX0_has 1 = .ok (.ifCond .lt 21, 3) := by decide +kernel
theorem dX0_has_4 : decode cX0_has 4 = .ok (.iload_n 1, 1) := by decide +kernel
theorem dX0_has_5 : decode cX0_has 5 = .ok (.aload_n 0, 1) := by decide +kernel
theorem dX0_has_6 : decode cX0_has 6 = .ok (.getfield 15, 3) := by decide +kernel
theorem dX0_has_9 : decode cX0_has 9 = .ok (.if_icmp .ge 13, 3) := by decide +kernel
theorem dX0_has_12 : decode cX0_has 12 = .ok (.iload_n 1, 1) := by decide +kernel
theorem dX0_has_13 : decode cX0_has 13 = .ok (.bipush 24, 2) := by decide +kernel
theorem dX0_has_15 : decode cX0_has 15 = .ok (.if_icmp .ge 7, 3) := by decide +kernel
theorem dX0_has_18 : decode cX0_has 18 = .ok (.iconst 1, 1) := by decide +kernel
theorem dX0_has_19 : decode cX0_has 19 = .ok (.goto 4, 3) := by decide +kernel
theorem dX0_has_22 : decode cX0_has 22 = .ok (.iconst 0, 1) := by decide +kernel
theorem dX0_has_23 : decode cX0_has 23 = .ok (.ireturn, 1) := by decide +kernel
theorem dX0_markOf_0 : decode cX0_markOf 0 = .ok (.aload_n 0, 1) := by decide +kernel
theorem dX0_markOf_1 : decode cX0_markOf 1 = .ok (.iload_n 1, 1) := by decide +kernel
theorem dX0_markOf_2 : decode cX0_markOf 2 = .ok (.invokevirtual 25, 3) := by decide +kernel
theorem dX0_markOf_5 : decode cX0_markOf 5 = .ok (.ifCond .eq 12, 3) := by decide +kernel
theorem dX0_markOf_8 : decode cX0_markOf 8 = .ok (.aload_n 0, 1) := by decide +kernel
theorem dX0_markOf_9 : decode cX0_markOf 9 = .ok (.getfield 18, 3) := by decide +kernel
theorem dX0_markOf_12 : decode cX0_markOf 12 = .ok (.iload_n 1, 1) := by decide +kernel
theorem dX0_markOf_13 : decode cX0_markOf 13 = .ok (.iaload, 1) := by decide +kernel
theorem dX0_markOf_14 : decode cX0_markOf 14 = .ok (.goto 5, 3) := by decide +kernel
theorem dX0_markOf_17 : decode cX0_markOf 17 = .ok (.ldc 29, 2) := by decide +kernel
theorem dX0_markOf_19 : decode cX0_markOf 19 = .ok (.ireturn, 1) := by decide +kernel
theorem dX0_thicknessOf_0 : decode cX0_thicknessOf 0 = .ok (.aload_n 0, 1) := by decide +kernel
theorem dX0_thicknessOf_1 : decode cX0_thicknessOf 1 = .ok (.iload_n 1, 1) := by decide +kernel
theorem dX0_thicknessOf_2 : decode cX0_thicknessOf 2 = .ok (.invokevirtual 25, 3) := by decide +kernel
theorem dX0_thicknessOf_5 : decode cX0_thicknessOf 5 = .ok (.ifCond .eq 12, 3) := by decide +kernel
theorem dX0_thicknessOf_8 : decode cX0_thicknessOf 8 = .ok (.aload_n 0, 1) := by decide +kernel
theorem dX0_thicknessOf_9 : decode cX0_thicknessOf 9 = .ok (.getfield 22, 3) := by decide +kernel
theorem dX0_thicknessOf_12 : decode cX0_thicknessOf 12 = .ok (.iload_n 1, 1) := by decide +kernel
theorem dX0_thicknessOf_13 : decode cX0_thicknessOf 13 = .ok (.iaload, 1) := by decide +kernel
theorem dX0_thicknessOf_14 : decode cX0_thicknessOf 14 = .ok (.goto 4, 3) := by decide +kernel
theorem dX0_thicknessOf_17 : decode cX0_thicknessOf 17 = .ok (.iconst 0, 1) := by decide +kernel
theorem dX0_thicknessOf_18 : decode cX0_thicknessOf 18 = .ok (.ireturn, 1) := by decide +kernel
theorem dX0_putThickness_0 : decode cX0_putThickness 0 = .ok (.aload_n 0, 1) := by decide +kernel
theorem dX0_putThickness_1 : decode cX0_putThickness 1 = .ok (.iload_n 1, 1) := by decide +kernel
theorem dX0_putThickness_2 : decode cX0_putThickness 2 = .ok (.invokevirtual 25, 3) := by decide +kernel
theorem dX0_putThickness_5 : decode cX0_putThickness 5 = .ok (.ifCond .eq 10, 3) := by decide +kernel
theorem dX0_putThickness_8 : decode cX0_putThickness 8 = .ok (.aload_n 0, 1) := by decide +kernel
theorem dX0_putThickness_9 : decode cX0_putThickness 9 = .ok (.getfield 22, 3) := by decide +kernel
theorem dX0_putThickness_12 : decode cX0_putThickness 12 = .ok (.iload_n 1, 1) := by decide +kernel
theorem dX0_putThickness_13 : decode cX0_putThickness 13 = .ok (.iload_n 2, 1) := by decide +kernel
theorem dX0_putThickness_14 : decode cX0_putThickness 14 = .ok (.iastore, 1) := by decide +kernel
theorem dX0_putThickness_15 : decode cX0_putThickness 15 = .ok (.return_, 1) := by decide +kernel
theorem dX0_depthOf_0 : decode cX0_depthOf 0 = .ok (.iconst 0, 1) := by decide +kernel
theorem dX0_depthOf_1 : decode cX0_depthOf 1 = .ok (.istore_n 2, 1) := by decide +kernel
theorem dX0_depthOf_2 : decode cX0_depthOf 2 = .ok (.iconst 0, 1) := by decide +kernel
theorem dX0_depthOf_3 : decode cX0_depthOf 3 = .ok (.istore_n 3, 1) := by decide +kernel
theorem dX0_depthOf_4 : decode cX0_depthOf 4 = .ok (.iload_n 3, 1) := by decide +kernel
theorem dX0_depthOf_5 : decode cX0_depthOf 5 = .ok (.iload_n 1, 1) := by decide +kernel
theorem dX0_depthOf_6 : decode cX0_depthOf 6 = .ok (.if_icmp .ge 32, 3) := by decide +kernel
theorem dX0_depthOf_9 : decode cX0_depthOf 9 = .ok (.iload_n 3, 1) := by decide +kernel
theorem dX0_depthOf_10 : decode cX0_depthOf 10 = .ok (.bipush 24, 2) := by decide +kernel
theorem dX0_depthOf_12 : decode cX0_depthOf 12 = .ok (.if_icmp .ge 26, 3) := by decide +kernel
theorem dX0_depthOf_15 : decode cX0_depthOf 15 = .ok (.aload_n 0, 1) := by decide +kernel
theorem dX0_depthOf_16 : decode cX0_depthOf 16 = .ok (.iload_n 3, 1) := by decide +kernel
theorem dX0_depthOf_17 : decode cX0_depthOf 17 = .ok (.invokevirtual 25, 3) := by decide +kernel
theorem dX0_depthOf_20 : decode cX0_depthOf 20 = .ok (.ifCond .eq 18, 3) := by decide +kernel
theorem dX0_depthOf_23 : decode cX0_depthOf 23 = .ok (.iload_n 2, 1) := by decide +kernel
theorem dX0_depthOf_24 : decode cX0_depthOf 24 = .ok (.aload_n 0, 1) := by decide +kernel
theorem dX0_depthOf_25 : decode cX0_depthOf 25 = .ok (.getfield 22, 3) := by decide +kernel
theorem dX0_depthOf_28 : decode cX0_depthOf 28 = .ok (.iload_n 3, 1) := by decide +kernel
theorem dX0_depthOf_29 : decode cX0_depthOf 29 = .ok (.iaload, 1) := by decide +kernel
theorem dX0_depthOf_30 : decode cX0_depthOf 30 = .ok (.iadd, 1) := by decide +kernel
theorem dX0_depthOf_31 : decode cX0_depthOf 31 = .ok (.istore_n 2, 1) := by decide +kernel
theorem dX0_depthOf_32 : decode cX0_depthOf 32 = .ok (.iinc 3 1, 3) := by decide +kernel
theorem dX0_depthOf_35 : decode cX0_depthOf 35 = .ok (.goto (-31), 3) := by decide +kernel
theorem dX0_depthOf_38 : decode cX0_depthOf 38 = .ok (.iload_n 2, 1) := by decide +kernel
theorem dX0_depthOf_39 : decode cX0_depthOf 39 = .ok (.ireturn, 1) := by decide +kernel
theorem dX0_elevationOf_0 : decode cX0_elevationOf 0 = .ok (.aload_n 0, 1) := by decide +kernel
theorem dX0_elevationOf_1 : decode cX0_elevationOf 1 = .ok (.getfield 9, 3) := by decide +kernel
theorem dX0_elevationOf_4 : decode cX0_elevationOf 4 = .ok (.aload_n 0, 1) := by decide +kernel
theorem dX0_elevationOf_5 : decode cX0_elevationOf 5 = .ok (.iload_n 1, 1) := by decide +kernel
theorem dX0_elevationOf_6 : decode cX0_elevationOf 6 = .ok (.invokevirtual 30, 3) := by decide +kernel
theorem dX0_elevationOf_9 : decode cX0_elevationOf 9 = .ok (.isub, 1) := by decide +kernel
theorem dX0_elevationOf_10 : decode cX0_elevationOf 10 = .ok (.ireturn, 1) := by decide +kernel
theorem dX0_totalThickness_0 : decode cX0_totalThickness 0 = .ok (.aload_n 0, 1) := by decide +kernel
theorem dX0_totalThickness_1 : decode cX0_totalThickness 1 = .ok (.aload_n 0, 1) := by decide +kernel
theorem dX0_totalThickness_2 : decode cX0_totalThickness 2 = .ok (.getfield 15, 3) := by decide +kernel
theorem dX0_totalThickness_5 : decode cX0_totalThickness 5 = .ok (.invokevirtual 30, 3) := by decide +kernel
theorem dX0_totalThickness_8 : decode cX0_totalThickness 8 = .ok (.ireturn, 1) := by decide +kernel
theorem dX0_bedWithMark_0 : decode cX0_bedWithMark 0 = .ok (.iconst 0, 1) := by decide +kernel
theorem dX0_bedWithMark_1 : decode cX0_bedWithMark 1 = .ok (.istore_n 3, 1) := by decide +kernel
theorem dX0_bedWithMark_2 : decode cX0_bedWithMark 2 = .ok (.iconst 0, 1) := by decide +kernel
theorem dX0_bedWithMark_3 : decode cX0_bedWithMark 3 = .ok (.istore 4, 2) := by decide +kernel
theorem dX0_bedWithMark_5 : decode cX0_bedWithMark 5 = .ok (.iload 4, 2) := by decide +kernel
theorem dX0_bedWithMark_7 : decode cX0_bedWithMark 7 = .ok (.bipush 24, 2) := by decide +kernel
theorem dX0_bedWithMark_9 : decode cX0_bedWithMark 9 = .ok (.if_icmp .ge 40, 3) := by decide +kernel
theorem dX0_bedWithMark_12 : decode cX0_bedWithMark 12 = .ok (.aload_n 0, 1) := by decide +kernel
theorem dX0_bedWithMark_13 : decode cX0_bedWithMark 13 = .ok (.iload 4, 2) := by decide +kernel
theorem dX0_bedWithMark_15 : decode cX0_bedWithMark 15 = .ok (.invokevirtual 25, 3) := by decide +kernel
theorem dX0_bedWithMark_18 : decode cX0_bedWithMark 18 = .ok (.ifCond .eq 31, 3) := by decide +kernel
theorem dX0_bedWithMark_21 : decode cX0_bedWithMark 21 = .ok (.aload_n 0, 1) := by decide +kernel
theorem dX0_bedWithMark_22 : decode cX0_bedWithMark 22 = .ok (.getfield 18, 3) := by decide +kernel
theorem dX0_bedWithMark_25 : decode cX0_bedWithMark 25 = .ok (.iload 4, 2) := by decide +kernel
theorem dX0_bedWithMark_27 : decode cX0_bedWithMark 27 = .ok (.iaload, 1) := by decide +kernel
theorem dX0_bedWithMark_28 : decode cX0_bedWithMark 28 = .ok (.iload_n 1, 1) := by decide +kernel
theorem dX0_bedWithMark_29 : decode cX0_bedWithMark 29 = .ok (.if_icmp .ne 14, 3) := by decide +kernel
theorem dX0_bedWithMark_32 : decode cX0_bedWithMark 32 = .ok (.iload_n 3, 1) := by decide +kernel
theorem dX0_bedWithMark_33 : decode cX0_bedWithMark 33 = .ok (.iload_n 2, 1) := by decide +kernel
theorem dX0_bedWithMark_34 : decode cX0_bedWithMark 34 = .ok (.if_icmp .ne 6, 3) := by decide +kernel
theorem dX0_bedWithMark_37 : decode cX0_bedWithMark 37 = .ok (.iload 4, 2) := by decide +kernel
theorem dX0_bedWithMark_39 : decode cX0_bedWithMark 39 = .ok (.ireturn, 1) := by decide +kernel
theorem dX0_bedWithMark_40 : decode cX0_bedWithMark 40 = .ok (.iinc 3 1, 3) := by decide +kernel
theorem dX0_bedWithMark_43 : decode cX0_bedWithMark 43 = .ok (.iinc 4 1, 3) := by decide +kernel
theorem dX0_bedWithMark_46 : decode cX0_bedWithMark 46 = .ok (.goto (-41), 3) := by decide +kernel
theorem dX0_bedWithMark_49 : decode cX0_bedWithMark 49 = .ok (.ldc 29, 2) := by decide +kernel
theorem dX0_bedWithMark_51 : decode cX0_bedWithMark 51 = .ok (.ireturn, 1) := by decide +kernel
theorem dX0_clear_0 : decode cX0_clear 0 = .ok (.aload_n 0, 1) := by decide +kernel
theorem dX0_clear_1 : decode cX0_clear 1 = .ok (.iconst 0, 1) := by decide +kernel
theorem dX0_clear_2 : decode cX0_clear 2 = .ok (.putfield 15, 3) := by decide +kernel
theorem dX0_clear_5 : decode cX0_clear 5 = .ok (.return_, 1) := by decide +kernel
theorem dX0_insert_0 : decode cX0_insert 0 = .ok (.aload_n 0, 1) := by decide +kernel
theorem dX0_insert_1 : decode cX0_insert 1 = .ok (.getfield 15, 3) := by decide +kernel
theorem dX0_insert_4 : decode cX0_insert 4 = .ok (.ifCond .lt 24, 3) := by decide +kernel
theorem dX0_insert_7 : decode cX0_insert 7 = .ok (.aload_n 0, 1) := by decide +kernel
theorem dX0_insert_8 : decode cX0_insert 8 = .ok (.getfield 15, 3) := by decide +kernel
theorem dX0_insert_11 : decode cX0_insert 11 = .ok (.bipush 24, 2) := by decide +kernel
theorem dX0_insert_13 : decode cX0_insert 13 = .ok (.if_icmp .ge 15, 3) := by decide +kernel
theorem dX0_insert_16 : decode cX0_insert 16 = .ok (.iload_n 1, 1) := by decide +kernel
theorem dX0_insert_17 : decode cX0_insert 17 = .ok (.ifCond .lt 11, 3) := by decide +kernel
theorem dX0_insert_20 : decode cX0_insert 20 = .ok (.iload_n 1, 1) := by decide +kernel
theorem dX0_insert_21 : decode cX0_insert 21 = .ok (.aload_n 0, 1) := by decide +kernel
theorem dX0_insert_22 : decode cX0_insert 22 = .ok (.getfield 15, 3) := by decide +kernel
theorem dX0_insert_25 : decode cX0_insert 25 = .ok (.if_icmp .le 5, 3) := by decide +kernel
theorem dX0_insert_28 : decode cX0_insert 28 = .ok (.iconst 0, 1) := by decide +kernel
theorem dX0_insert_29 : decode cX0_insert 29 = .ok (.ireturn, 1) := by decide +kernel
theorem dX0_insert_30 : decode cX0_insert 30 = .ok (.aload_n 0, 1) := by decide +kernel
theorem dX0_insert_31 : decode cX0_insert 31 = .ok (.getfield 15, 3) := by decide +kernel
theorem dX0_insert_34 : decode cX0_insert 34 = .ok (.istore 4, 2) := by decide +kernel
theorem dX0_insert_36 : decode cX0_insert 36 = .ok (.iload 4, 2) := by decide +kernel
theorem dX0_insert_38 : decode cX0_insert 38 = .ok (.iload_n 1, 1) := by decide +kernel
theorem dX0_insert_39 : decode cX0_insert 39 = .ok (.if_icmp .le 41, 3) := by decide +kernel
theorem dX0_insert_42 : decode cX0_insert 42 = .ok (.aload_n 0, 1) := by decide +kernel
theorem dX0_insert_43 : decode cX0_insert 43 = .ok (.getfield 18, 3) := by decide +kernel
theorem dX0_insert_46 : decode cX0_insert 46 = .ok (.iload 4, 2) := by decide +kernel
theorem dX0_insert_48 : decode cX0_insert 48 = .ok (.aload_n 0, 1) := by decide +kernel
theorem dX0_insert_49 : decode cX0_insert 49 = .ok (.getfield 18, 3) := by decide +kernel
theorem dX0_insert_52 : decode cX0_insert 52 = .ok (.iload 4, 2) := by decide +kernel
theorem dX0_insert_54 : decode cX0_insert 54 = .ok (.iconst 1, 1) := by decide +kernel
theorem dX0_insert_55 : decode cX0_insert 55 = .ok (.isub, 1) := by decide +kernel
theorem dX0_insert_56 : decode cX0_insert 56 = .ok (.iaload, 1) := by decide +kernel
theorem dX0_insert_57 : decode cX0_insert 57 = .ok (.iastore, 1) := by decide +kernel
theorem dX0_insert_58 : decode cX0_insert 58 = .ok (.aload_n 0, 1) := by decide +kernel
theorem dX0_insert_59 : decode cX0_insert 59 = .ok (.getfield 22, 3) := by decide +kernel
theorem dX0_insert_62 : decode cX0_insert 62 = .ok (.iload 4, 2) := by decide +kernel
theorem dX0_insert_64 : decode cX0_insert 64 = .ok (.aload_n 0, 1) := by decide +kernel
theorem dX0_insert_65 : decode cX0_insert 65 = .ok (.getfield 22, 3) := by decide +kernel
theorem dX0_insert_68 : decode cX0_insert 68 = .ok (.iload 4, 2) := by decide +kernel
theorem dX0_insert_70 : decode cX0_insert 70 = .ok (.iconst 1, 1) := by decide +kernel
theorem dX0_insert_71 : decode cX0_insert 71 = .ok (.isub, 1) := by decide +kernel
theorem dX0_insert_72 : decode cX0_insert 72 = .ok (.iaload, 1) := by decide +kernel
theorem dX0_insert_73 : decode cX0_insert 73 = .ok (.iastore, 1) := by decide +kernel
theorem dX0_insert_74 : decode cX0_insert 74 = .ok (.iinc 4 (-1), 3) := by decide +kernel
theorem dX0_insert_77 : decode cX0_insert 77 = .ok (.goto (-41), 3) := by decide +kernel
theorem dX0_insert_80 : decode cX0_insert 80 = .ok (.aload_n 0, 1) := by decide +kernel
theorem dX0_insert_81 : decode cX0_insert 81 = .ok (.getfield 18, 3) := by decide +kernel
theorem dX0_insert_84 : decode cX0_insert 84 = .ok (.iload_n 1, 1) := by decide +kernel
theorem dX0_insert_85 : decode cX0_insert 85 = .ok (.iload_n 2, 1) := by decide +kernel
theorem dX0_insert_86 : decode cX0_insert 86 = .ok (.iastore, 1) := by decide +kernel
theorem dX0_insert_87 : decode cX0_insert 87 = .ok (.aload_n 0, 1) := by decide +kernel
theorem dX0_insert_88 : decode cX0_insert 88 = .ok (.getfield 22, 3) := by decide +kernel
theorem dX0_insert_91 : decode cX0_insert 91 = .ok (.iload_n 1, 1) := by decide +kernel
theorem dX0_insert_92 : decode cX0_insert 92 = .ok (.iload_n 3, 1) := by decide +kernel
theorem dX0_insert_93 : decode cX0_insert 93 = .ok (.iastore, 1) := by decide +kernel
theorem dX0_insert_94 : decode cX0_insert 94 = .ok (.aload_n 0, 1) := by decide +kernel
theorem dX0_insert_95 : decode cX0_insert 95 = .ok (.dup, 1) := by decide +kernel
theorem dX0_insert_96 : decode cX0_insert 96 = .ok (.getfield 15, 3) := by decide +kernel
theorem dX0_insert_99 : decode cX0_insert 99 = .ok (.iconst 1, 1) := by decide +kernel
theorem dX0_insert_100 : decode cX0_insert 100 = .ok (.iadd, 1) := by decide +kernel
theorem dX0_insert_101 : decode cX0_insert 101 = .ok (.putfield 15, 3) := by decide +kernel
theorem dX0_insert_104 : decode cX0_insert 104 = .ok (.iconst 1, 1) := by decide +kernel
theorem dX0_insert_105 : decode cX0_insert 105 = .ok (.ireturn, 1) := by decide +kernel
theorem dX0_takeOut_0 : decode cX0_takeOut 0 = .ok (.aload_n 0, 1) := by decide +kernel
theorem dX0_takeOut_1 : decode cX0_takeOut 1 = .ok (.iload_n 1, 1) := by decide +kernel
theorem dX0_takeOut_2 : decode cX0_takeOut 2 = .ok (.invokevirtual 25, 3) := by decide +kernel
theorem dX0_takeOut_5 : decode cX0_takeOut 5 = .ok (.ifCond .ne 4, 3) := by decide +kernel
theorem dX0_takeOut_8 : decode cX0_takeOut 8 = .ok (.return_, 1) := by decide +kernel
theorem dX0_takeOut_9 : decode cX0_takeOut 9 = .ok (.iload_n 1, 1) := by decide +kernel
theorem dX0_takeOut_10 : decode cX0_takeOut 10 = .ok (.istore_n 2, 1) := by decide +kernel
theorem dX0_takeOut_11 : decode cX0_takeOut 11 = .ok (.iload_n 2, 1) := by decide +kernel
theorem dX0_takeOut_12 : decode cX0_takeOut 12 = .ok (.iconst 1, 1) := by decide +kernel
theorem dX0_takeOut_13 : decode cX0_takeOut 13 = .ok (.iadd, 1) := by decide +kernel
theorem dX0_takeOut_14 : decode cX0_takeOut 14 = .ok (.bipush 24, 2) := by decide +kernel
theorem dX0_takeOut_16 : decode cX0_takeOut 16 = .ok (.if_icmp .ge 47, 3) := by decide +kernel
theorem dX0_takeOut_19 : decode cX0_takeOut 19 = .ok (.aload_n 0, 1) := by decide +kernel
theorem dX0_takeOut_20 : decode cX0_takeOut 20 = .ok (.iload_n 2, 1) := by decide +kernel
theorem dX0_takeOut_21 : decode cX0_takeOut 21 = .ok (.iconst 1, 1) := by decide +kernel
theorem dX0_takeOut_22 : decode cX0_takeOut 22 = .ok (.iadd, 1) := by decide +kernel
theorem dX0_takeOut_23 : decode cX0_takeOut 23 = .ok (.invokevirtual 25, 3) := by decide +kernel
theorem dX0_takeOut_26 : decode cX0_takeOut 26 = .ok (.ifCond .eq 37, 3) := by decide +kernel
theorem dX0_takeOut_29 : decode cX0_takeOut 29 = .ok (.aload_n 0, 1) := by decide +kernel
theorem dX0_takeOut_30 : decode cX0_takeOut 30 = .ok (.getfield 18, 3) := by decide +kernel
theorem dX0_takeOut_33 : decode cX0_takeOut 33 = .ok (.iload_n 2, 1) := by decide +kernel
theorem dX0_takeOut_34 : decode cX0_takeOut 34 = .ok (.aload_n 0, 1) := by decide +kernel
theorem dX0_takeOut_35 : decode cX0_takeOut 35 = .ok (.getfield 18, 3) := by decide +kernel
theorem dX0_takeOut_38 : decode cX0_takeOut 38 = .ok (.iload_n 2, 1) := by decide +kernel
theorem dX0_takeOut_39 : decode cX0_takeOut 39 = .ok (.iconst 1, 1) := by decide +kernel
theorem dX0_takeOut_40 : decode cX0_takeOut 40 = .ok (.iadd, 1) := by decide +kernel
theorem dX0_takeOut_41 : decode cX0_takeOut 41 = .ok (.iaload, 1) := by decide +kernel
theorem dX0_takeOut_42 : decode cX0_takeOut 42 = .ok (.iastore, 1) := by decide +kernel
theorem dX0_takeOut_43 : decode cX0_takeOut 43 = .ok (.aload_n 0, 1) := by decide +kernel
theorem dX0_takeOut_44 : decode cX0_takeOut 44 = .ok (.getfield 22, 3) := by decide +kernel
theorem dX0_takeOut_47 : decode cX0_takeOut 47 = .ok (.iload_n 2, 1) := by decide +kernel
theorem dX0_takeOut_48 : decode cX0_takeOut 48 = .ok (.aload_n 0, 1) := by decide +kernel
theorem dX0_takeOut_49 : decode cX0_takeOut 49 = .ok (.getfield 22, 3) := by decide +kernel
theorem dX0_takeOut_52 : decode cX0_takeOut 52 = .ok (.iload_n 2, 1) := by decide +kernel
theorem dX0_takeOut_53 : decode cX0_takeOut 53 = .ok (.iconst 1, 1) := by decide +kernel
theorem dX0_takeOut_54 : decode cX0_takeOut 54 = .ok (.iadd, 1) := by decide +kernel
theorem dX0_takeOut_55 : decode cX0_takeOut 55 = .ok (.iaload, 1) := by decide +kernel
theorem dX0_takeOut_56 : decode cX0_takeOut 56 = .ok (.iastore, 1) := by decide +kernel
theorem dX0_takeOut_57 : decode cX0_takeOut 57 = .ok (.iinc 2 1, 3) := by decide +kernel
theorem dX0_takeOut_60 : decode cX0_takeOut 60 = .ok (.goto (-49), 3) := by decide +kernel
theorem dX0_takeOut_63 : decode cX0_takeOut 63 = .ok (.aload_n 0, 1) := by decide +kernel
theorem dX0_takeOut_64 : decode cX0_takeOut 64 = .ok (.dup, 1) := by decide +kernel
theorem dX0_takeOut_65 : decode cX0_takeOut 65 = .ok (.getfield 15, 3) := by decide +kernel
theorem dX0_takeOut_68 : decode cX0_takeOut 68 = .ok (.iconst 1, 1) := by decide +kernel
theorem dX0_takeOut_69 : decode cX0_takeOut 69 = .ok (.isub, 1) := by decide +kernel
theorem dX0_takeOut_70 : decode cX0_takeOut 70 = .ok (.putfield 15, 3) := by decide +kernel
theorem dX0_takeOut_73 : decode cX0_takeOut 73 = .ok (.return_, 1) := by decide +kernel
theorem dX0_appendPart_0 : decode cX0_appendPart 0 = .ok (.iconst 0, 1) := by decide +kernel
theorem dX0_appendPart_1 : decode cX0_appendPart 1 = .ok (.istore 4, 2) := by decide +kernel
theorem dX0_appendPart_3 : decode cX0_appendPart 3 = .ok (.iconst 0, 1) := by decide +kernel
theorem dX0_appendPart_4 : decode cX0_appendPart 4 = .ok (.istore 5, 2) := by decide +kernel
theorem dX0_appendPart_6 : decode cX0_appendPart 6 = .ok (.iload 5, 2) := by decide +kernel
theorem dX0_appendPart_8 : decode cX0_appendPart 8 = .ok (.bipush 24, 2) := by decide +kernel
theorem dX0_appendPart_10 : decode cX0_appendPart 10 = .ok (.if_icmp .ge 74, 3) := by decide +kernel
theorem dX0_appendPart_13 : decode cX0_appendPart 13 = .ok (.aload_n 1, 1) := by decide +kernel
theorem dX0_appendPart_14 : decode cX0_appendPart 14 = .ok (.iload 5, 2) := by decide +kernel
theorem dX0_appendPart_16 : decode cX0_appendPart 16 = .ok (.invokevirtual 25, 3) := by decide +kernel
theorem dX0_appendPart_19 : decode cX0_appendPart 19 = .ok (.ifCond .eq 65, 3) := by decide +kernel
theorem dX0_appendPart_22 : decode cX0_appendPart 22 = .ok (.iload 4, 2) := by decide +kernel
theorem dX0_appendPart_24 : decode cX0_appendPart 24 = .ok (.aload_n 1, 1) := by decide +kernel
theorem dX0_appendPart_25 : decode cX0_appendPart 25 = .ok (.iload 5, 2) := by decide +kernel
theorem dX0_appendPart_27 : decode cX0_appendPart 27 = .ok (.invokevirtual 34, 3) := by decide +kernel
theorem dX0_appendPart_30 : decode cX0_appendPart 30 = .ok (.iadd, 1) := by decide +kernel
theorem dX0_appendPart_31 : decode cX0_appendPart 31 = .ok (.istore 6, 2) := by decide +kernel
theorem dX0_appendPart_33 : decode cX0_appendPart 33 = .ok (.iload 6, 2) := by decide +kernel
theorem dX0_appendPart_35 : decode cX0_appendPart 35 = .ok (.iload_n 3, 1) := by decide +kernel
theorem dX0_appendPart_36 : decode cX0_appendPart 36 = .ok (.invokestatic 37, 3) := by decide +kernel
theorem dX0_appendPart_39 : decode cX0_appendPart 39 = .ok (.iload 4, 2) := by decide +kernel
theorem dX0_appendPart_41 : decode cX0_appendPart 41 = .ok (.iload_n 2, 1) := by decide +kernel
theorem dX0_appendPart_42 : decode cX0_appendPart 42 = .ok (.invokestatic 43, 3) := by decide +kernel
theorem dX0_appendPart_45 : decode cX0_appendPart 45 = .ok (.isub, 1) := by decide +kernel
theorem dX0_appendPart_46 : decode cX0_appendPart 46 = .ok (.istore 7, 2) := by decide +kernel
theorem dX0_appendPart_48 : decode cX0_appendPart 48 = .ok (.iload 7, 2) := by decide +kernel
theorem dX0_appendPart_50 : decode cX0_appendPart 50 = .ok (.ifCond .le 24, 3) := by decide +kernel
theorem dX0_appendPart_53 : decode cX0_appendPart 53 = .ok (.aload_n 0, 1) := by decide +kernel
theorem dX0_appendPart_54 : decode cX0_appendPart 54 = .ok (.aload_n 0, 1) := by decide +kernel
theorem dX0_appendPart_55 : decode cX0_appendPart 55 = .ok (.getfield 15, 3) := by decide +kernel
theorem dX0_appendPart_58 : decode cX0_appendPart 58 = .ok (.aload_n 1, 1) := by decide +kernel
theorem dX0_appendPart_59 : decode cX0_appendPart 59 = .ok (.iload 5, 2) := by decide +kernel
theorem dX0_appendPart_61 : decode cX0_appendPart 61 = .ok (.invokevirtual 46, 3) := by decide +kernel
theorem dX0_appendPart_64 : decode cX0_appendPart 64 = .ok (.iload 7, 2) := by decide +kernel
theorem dX0_appendPart_66 : decode cX0_appendPart 66 = .ok (.invokevirtual 49, 3) := by decide +kernel
theorem dX0_appendPart_69 : decode cX0_appendPart 69 = .ok (.ifCond .ne 5, 3) := by decide +kernel
theorem dX0_appendPart_72 : decode cX0_appendPart 72 = .ok (.iconst 0, 1) := by decide +kernel
theorem dX0_appendPart_73 : decode cX0_appendPart 73 = .ok (.ireturn, 1) := by decide +kernel
theorem dX0_appendPart_74 : decode cX0_appendPart 74 = .ok (.iload 6, 2) := by decide +kernel
theorem dX0_appendPart_76 : decode cX0_appendPart 76 = .ok (.istore 4, 2) := by decide +kernel
theorem dX0_appendPart_78 : decode cX0_appendPart 78 = .ok (.iinc 5 1, 3) := by decide +kernel
theorem dX0_appendPart_81 : decode cX0_appendPart 81 = .ok (.goto (-75), 3) := by decide +kernel
theorem dX0_appendPart_84 : decode cX0_appendPart 84 = .ok (.iconst 1, 1) := by decide +kernel
theorem dX0_appendPart_85 : decode cX0_appendPart 85 = .ok (.ireturn, 1) := by decide +kernel
theorem dX0_takeBedsOf_0 : decode cX0_takeBedsOf 0 = .ok (.aload_n 0, 1) := by decide +kernel
theorem dX0_takeBedsOf_1 : decode cX0_takeBedsOf 1 = .ok (.aload_n 1, 1) := by decide +kernel
theorem dX0_takeBedsOf_2 : decode cX0_takeBedsOf 2 = .ok (.getfield 15, 3) := by decide +kernel
theorem dX0_takeBedsOf_5 : decode cX0_takeBedsOf 5 = .ok (.putfield 15, 3) := by decide +kernel
theorem dX0_takeBedsOf_8 : decode cX0_takeBedsOf 8 = .ok (.aload_n 1, 1) := by decide +kernel
theorem dX0_takeBedsOf_9 : decode cX0_takeBedsOf 9 = .ok (.getfield 18, 3) := by decide +kernel
theorem dX0_takeBedsOf_12 : decode cX0_takeBedsOf 12 = .ok (.iconst 0, 1) := by decide +kernel
theorem dX0_takeBedsOf_13 : decode cX0_takeBedsOf 13 = .ok (.aload_n 0, 1) := by decide +kernel
theorem dX0_takeBedsOf_14 : decode cX0_takeBedsOf 14 = .ok (.getfield 18, 3) := by decide +kernel
theorem dX0_takeBedsOf_17 : decode cX0_takeBedsOf 17 = .ok (.iconst 0, 1) := by decide +kernel
theorem dX0_takeBedsOf_18 : decode cX0_takeBedsOf 18 = .ok (.bipush 24, 2) := by decide +kernel
theorem dX0_takeBedsOf_20 : decode cX0_takeBedsOf 20 = .ok (.invokestatic 53, 3) := by decide +kernel
theorem dX0_takeBedsOf_23 : decode cX0_takeBedsOf 23 = .ok (.aload_n 1, 1) := by decide +kernel
theorem dX0_takeBedsOf_24 : decode cX0_takeBedsOf 24 = .ok (.getfield 22, 3) := by decide +kernel
theorem dX0_takeBedsOf_27 : decode cX0_takeBedsOf 27 = .ok (.iconst 0, 1) := by decide +kernel
theorem dX0_takeBedsOf_28 : decode cX0_takeBedsOf 28 = .ok (.aload_n 0, 1) := by decide +kernel
theorem dX0_takeBedsOf_29 : decode cX0_takeBedsOf 29 = .ok (.getfield 22, 3) := by decide +kernel
theorem dX0_takeBedsOf_32 : decode cX0_takeBedsOf 32 = .ok (.iconst 0, 1) := by decide +kernel
theorem dX0_takeBedsOf_33 : decode cX0_takeBedsOf 33 = .ok (.bipush 24, 2) := by decide +kernel
theorem dX0_takeBedsOf_35 : decode cX0_takeBedsOf 35 = .ok (.invokestatic 53, 3) := by decide +kernel
theorem dX0_takeBedsOf_38 : decode cX0_takeBedsOf 38 = .ok (.return_, 1) := by decide +kernel
theorem dX0_copyFrom_0 : decode cX0_copyFrom 0 = .ok (.aload_n 0, 1) := by decide +kernel
theorem dX0_copyFrom_1 : decode cX0_copyFrom 1 = .ok (.aload_n 1, 1) := by decide +kernel
theorem dX0_copyFrom_2 : decode cX0_copyFrom 2 = .ok (.getfield 9, 3) := by decide +kernel
theorem dX0_copyFrom_5 : decode cX0_copyFrom 5 = .ok (.putfield 9, 3) := by decide +kernel
theorem dX0_copyFrom_8 : decode cX0_copyFrom 8 = .ok (.aload_n 0, 1) := by decide +kernel
theorem dX0_copyFrom_9 : decode cX0_copyFrom 9 = .ok (.aload_n 1, 1) := by decide +kernel
theorem dX0_copyFrom_10 : decode cX0_copyFrom 10 = .ok (.invokevirtual 59, 3) := by decide +kernel
theorem dX0_copyFrom_13 : decode cX0_copyFrom 13 = .ok (.return_, 1) := by decide +kernel
theorem dX1_init_0 : decode cX1_init 0 = .ok (.aload_n 0, 1) := by decide +kernel
theorem dX1_init_1 : decode cX1_init 1 = .ok (.invokespecial 3, 3) := by decide +kernel
theorem dX1_init_4 : decode cX1_init 4 = .ok (.aload_n 0, 1) := by decide +kernel
theorem dX1_init_5 : decode cX1_init 5 = .ok (.bipush 6, 2) := by decide +kernel
theorem dX1_init_7 : decode cX1_init 7 = .ok (.anewarray 9, 3) := by decide +kernel
theorem dX1_init_10 : decode cX1_init 10 = .ok (.putfield 11, 3) := by decide +kernel
theorem dX1_init_13 : decode cX1_init 13 = .ok (.iconst 0, 1) := by decide +kernel
theorem dX1_init_14 : decode cX1_init 14 = .ok (.istore_n 1, 1) := by decide +kernel
theorem dX1_init_15 : decode cX1_init 15 = .ok (.iload_n 1, 1) := by decide +kernel
theorem dX1_init_16 : decode cX1_init 16 = .ok (.bipush 6, 2) := by decide +kernel
theorem dX1_init_18 : decode cX1_init 18 = .ok (.if_icmp .ge 22, 3) := by decide +kernel
theorem dX1_init_21 : decode cX1_init 21 = .ok (.aload_n 0, 1) := by decide +kernel
theorem dX1_init_22 : decode cX1_init 22 = .ok (.getfield 11, 3) := by decide +kernel
theorem dX1_init_25 : decode cX1_init 25 = .ok (.iload_n 1, 1) := by decide +kernel
theorem dX1_init_26 : decode cX1_init 26 = .ok (.new 9, 3) := by decide +kernel
theorem dX1_init_29 : decode cX1_init 29 = .ok (.dup, 1) := by decide +kernel
theorem dX1_init_30 : decode cX1_init 30 = .ok (.invokespecial 17, 3) := by decide +kernel
theorem dX1_init_33 : decode cX1_init 33 = .ok (.aastore, 1) := by decide +kernel
theorem dX1_init_34 : decode cX1_init 34 = .ok (.iinc 1 1, 3) := by decide +kernel
theorem dX1_init_37 : decode cX1_init 37 = .ok (.goto (-22), 3) := by decide +kernel
theorem dX1_init_40 : decode cX1_init 40 = .ok (.aload_n 0, 1) := by decide +kernel
theorem dX1_init_41 : decode cX1_init 41 = .ok (.iconst 0, 1) := by decide +kernel
theorem dX1_init_42 : decode cX1_init 42 = .ok (.putfield 18, 3) := by decide +kernel
theorem dX1_init_45 : decode cX1_init 45 = .ok (.aload_n 0, 1) := by decide +kernel
theorem dX1_init_46 : decode cX1_init 46 = .ok (.iconst 0, 1) := by decide +kernel
theorem dX1_init_47 : decode cX1_init 47 = .ok (.putfield 22, 3) := by decide +kernel
theorem dX1_init_50 : decode cX1_init 50 = .ok (.return_, 1) := by decide +kernel
theorem dX1_size_0 : decode cX1_size 0 = .ok (.aload_n 0, 1) := by decide +kernel
theorem dX1_size_1 : decode cX1_size 1 = .ok (.getfield 18, 3) := by decide +kernel
theorem dX1_size_4 : decode cX1_size 4 = .ok (.ireturn, 1) := by decide +kernel
theorem dX1_save_0 : decode cX1_save 0 = .ok (.aload_n 0, 1) := by decide +kernel
theorem dX1_save_1 : decode cX1_save 1 = .ok (.getfield 22, 3) := by decide +kernel
theorem dX1_save_4 : decode cX1_save 4 = .ok (.ifCond .lt 12, 3) := by decide +kernel
theorem dX1_save_7 : decode cX1_save 7 = .ok (.aload_n 0, 1) := by decide +kernel
theorem dX1_save_8 : decode cX1_save 8 = .ok (.getfield 22, 3) := by decide +kernel
theorem dX1_save_11 : decode cX1_save 11 = .ok (.bipush 6, 2) := by decide +kernel
theorem dX1_save_13 : decode cX1_save 13 = .ok (.if_icmp .lt 8, 3) := by decide +kernel
theorem dX1_save_16 : decode cX1_save 16 = .ok (.aload_n 0, 1) := by decide +kernel
theorem dX1_save_17 : decode cX1_save 17 = .ok (.iconst 0, 1) := by decide +kernel
theorem dX1_save_18 : decode cX1_save 18 = .ok (.putfield 22, 3) := by decide +kernel
theorem dX1_save_21 : decode cX1_save 21 = .ok (.aload_n 0, 1) := by decide +kernel
theorem dX1_save_22 : decode cX1_save 22 = .ok (.getfield 11, 3) := by decide +kernel
theorem dX1_save_25 : decode cX1_save 25 = .ok (.aload_n 0, 1) := by decide +kernel
theorem dX1_save_26 : decode cX1_save 26 = .ok (.getfield 22, 3) := by decide +kernel
theorem dX1_save_29 : decode cX1_save 29 = .ok (.aaload, 1) := by decide +kernel
theorem dX1_save_30 : decode cX1_save 30 = .ok (.aload_n 1, 1) := by decide +kernel
theorem dX1_save_31 : decode cX1_save 31 = .ok (.invokevirtual 25, 3) := by decide +kernel
theorem dX1_save_34 : decode cX1_save 34 = .ok (.aload_n 0, 1) := by decide +kernel
theorem dX1_save_35 : decode cX1_save 35 = .ok (.aload_n 0, 1) := by decide +kernel
theorem dX1_save_36 : decode cX1_save 36 = .ok (.getfield 22, 3) := by decide +kernel
theorem dX1_save_39 : decode cX1_save 39 = .ok (.iconst 1, 1) := by decide +kernel
theorem dX1_save_40 : decode cX1_save 40 = .ok (.iadd, 1) := by decide +kernel
theorem dX1_save_41 : decode cX1_save 41 = .ok (.bipush 6, 2) := by decide +kernel
theorem dX1_save_43 : decode cX1_save 43 = .ok (.if_icmp .ge 12, 3) := by decide +kernel
theorem dX1_save_46 : decode cX1_save 46 = .ok (.aload_n 0, 1) := by decide +kernel
theorem dX1_save_47 : decode cX1_save 47 = .ok (.getfield 22, 3) := by decide +kernel
theorem dX1_save_50 : decode cX1_save 50 = .ok (.iconst 1, 1) := by decide +kernel
theorem dX1_save_51 : decode cX1_save 51 = .ok (.iadd, 1) := by decide +kernel
theorem dX1_save_52 : decode cX1_save 52 = .ok (.goto 4, 3) := by decide +kernel
theorem dX1_save_55 : decode cX1_save 55 = .ok (.iconst 0, 1) := by decide +kernel
theorem dX1_save_56 : decode cX1_save 56 = .ok (.putfield 22, 3) := by decide +kernel
theorem dX1_save_59 : decode cX1_save 59 = .ok (.aload_n 0, 1) := by decide +kernel
theorem dX1_save_60 : decode cX1_save 60 = .ok (.aload_n 0, 1) := by decide +kernel
theorem dX1_save_61 : decode cX1_save 61 = .ok (.getfield 18, 3) := by decide +kernel
theorem dX1_save_64 : decode cX1_save 64 = .ok (.iconst 1, 1) := by decide +kernel
theorem dX1_save_65 : decode cX1_save 65 = .ok (.iadd, 1) := by decide +kernel
theorem dX1_save_66 : decode cX1_save 66 = .ok (.bipush 6, 2) := by decide +kernel
theorem dX1_save_68 : decode cX1_save 68 = .ok (.invokestatic 29, 3) := by decide +kernel
theorem dX1_save_71 : decode cX1_save 71 = .ok (.putfield 18, 3) := by decide +kernel
theorem dX1_save_74 : decode cX1_save 74 = .ok (.return_, 1) := by decide +kernel
theorem dX1_restore_0 : decode cX1_restore 0 = .ok (.aload_n 0, 1) := by decide +kernel
theorem dX1_restore_1 : decode cX1_restore 1 = .ok (.getfield 18, 3) := by decide +kernel
theorem dX1_restore_4 : decode cX1_restore 4 = .ok (.iconst 1, 1) := by decide +kernel
theorem dX1_restore_5 : decode cX1_restore 5 = .ok (.if_icmp .ge 5, 3) := by decide +kernel
theorem dX1_restore_8 : decode cX1_restore 8 = .ok (.iconst 0, 1) := by decide +kernel
theorem dX1_restore_9 : decode cX1_restore 9 = .ok (.ireturn, 1) := by decide +kernel
theorem dX1_restore_10 : decode cX1_restore 10 = .ok (.aload_n 0, 1) := by decide +kernel
theorem dX1_restore_11 : decode cX1_restore 11 = .ok (.getfield 22, 3) := by decide +kernel
theorem dX1_restore_14 : decode cX1_restore 14 = .ok (.ifCond .le 21, 3) := by decide +kernel
theorem dX1_restore_17 : decode cX1_restore 17 = .ok (.aload_n 0, 1) := by decide +kernel
theorem dX1_restore_18 : decode cX1_restore 18 = .ok (.getfield 22, 3) := by decide +kernel
theorem dX1_restore_21 : decode cX1_restore 21 = .ok (.bipush 6, 2) := by decide +kernel
theorem dX1_restore_23 : decode cX1_restore 23 = .ok (.if_icmp .ge 12, 3) := by decide +kernel
theorem dX1_restore_26 : decode cX1_restore 26 = .ok (.aload_n 0, 1) := by decide +kernel
theorem dX1_restore_27 : decode cX1_restore 27 = .ok (.getfield 22, 3) := by decide +kernel
theorem dX1_restore_30 : decode cX1_restore 30 = .ok (.iconst 1, 1) := by decide +kernel
theorem dX1_restore_31 : decode cX1_restore 31 = .ok (.isub, 1) := by decide +kernel
theorem dX1_restore_32 : decode cX1_restore 32 = .ok (.goto 4, 3) := by decide +kernel
theorem dX1_restore_35 : decode cX1_restore 35 = .ok (.iconst 5, 1) := by decide +kernel
theorem dX1_restore_36 : decode cX1_restore 36 = .ok (.istore_n 2, 1) := by decide +kernel
theorem dX1_restore_37 : decode cX1_restore 37 = .ok (.aload_n 1, 1) := by decide +kernel
theorem dX1_restore_38 : decode cX1_restore 38 = .ok (.aload_n 0, 1) := by decide +kernel
theorem dX1_restore_39 : decode cX1_restore 39 = .ok (.getfield 11, 3) := by decide +kernel
theorem dX1_restore_42 : decode cX1_restore 42 = .ok (.iload_n 2, 1) := by decide +kernel
theorem dX1_restore_43 : decode cX1_restore 43 = .ok (.aaload, 1) := by decide +kernel
theorem dX1_restore_44 : decode cX1_restore 44 = .ok (.invokevirtual 25, 3) := by decide +kernel
theorem dX1_restore_47 : decode cX1_restore 47 = .ok (.aload_n 0, 1) := by decide +kernel
theorem dX1_restore_48 : decode cX1_restore 48 = .ok (.iload_n 2, 1) := by decide +kernel
theorem dX1_restore_49 : decode cX1_restore 49 = .ok (.putfield 22, 3) := by decide +kernel
theorem dX1_restore_52 : decode cX1_restore 52 = .ok (.aload_n 0, 1) := by decide +kernel
theorem dX1_restore_53 : decode cX1_restore 53 = .ok (.dup, 1) := by decide +kernel
theorem dX1_restore_54 : decode cX1_restore 54 = .ok (.getfield 18, 3) := by decide +kernel
theorem dX1_restore_57 : decode cX1_restore 57 = .ok (.iconst 1, 1) := by decide +kernel
theorem dX1_restore_58 : decode cX1_restore 58 = .ok (.isub, 1) := by decide +kernel
theorem dX1_restore_59 : decode cX1_restore 59 = .ok (.putfield 18, 3) := by decide +kernel
theorem dX1_restore_62 : decode cX1_restore 62 = .ok (.iconst 1, 1) := by decide +kernel
theorem dX1_restore_63 : decode cX1_restore 63 = .ok (.ireturn, 1) := by decide +kernel
theorem dX2_init_0 : decode cX2_init 0 = .ok (.aload_n 0, 1) := by decide +kernel
theorem dX2_init_1 : decode cX2_init 1 = .ok (.invokespecial 3, 3) := by decide +kernel
theorem dX2_init_4 : decode cX2_init 4 = .ok (.aload_n 0, 1) := by decide +kernel
theorem dX2_init_5 : decode cX2_init 5 = .ok (.new 9, 3) := by decide +kernel
theorem dX2_init_8 : decode cX2_init 8 = .ok (.dup, 1) := by decide +kernel
theorem dX2_init_9 : decode cX2_init 9 = .ok (.invokespecial 11, 3) := by decide +kernel
theorem dX2_init_12 : decode cX2_init 12 = .ok (.putfield 12, 3) := by decide +kernel
theorem dX2_init_15 : decode cX2_init 15 = .ok (.aload_n 0, 1) := by decide +kernel
theorem dX2_init_16 : decode cX2_init 16 = .ok (.bipush 24, 2) := by decide +kernel
theorem dX2_init_18 : decode cX2_init 18 = .ok (.newarray .int, 2) := by decide +kernel
theorem dX2_init_20 : decode cX2_init 20 = .ok (.putfield 18, 3) := by decide +kernel
theorem dX2_init_23 : decode cX2_init 23 = .ok (.aload_n 0, 1) := by decide +kernel
theorem dX2_init_24 : decode cX2_init 24 = .ok (.bipush 24, 2) := by decide +kernel
theorem dX2_init_26 : decode cX2_init 26 = .ok (.newarray .int, 2) := by decide +kernel
theorem dX2_init_28 : decode cX2_init 28 = .ok (.putfield 22, 3) := by decide +kernel
theorem dX2_init_31 : decode cX2_init 31 = .ok (.aload_n 0, 1) := by decide +kernel
theorem dX2_init_32 : decode cX2_init 32 = .ok (.bipush 24, 2) := by decide +kernel
theorem dX2_init_34 : decode cX2_init 34 = .ok (.newarray .int, 2) := by decide +kernel
theorem dX2_init_36 : decode cX2_init 36 = .ok (.putfield 25, 3) := by decide +kernel
theorem dX2_init_39 : decode cX2_init 39 = .ok (.aload_n 0, 1) := by decide +kernel
theorem dX2_init_40 : decode cX2_init 40 = .ok (.bipush 24, 2) := by decide +kernel
theorem dX2_init_42 : decode cX2_init 42 = .ok (.newarray .int, 2) := by decide +kernel
theorem dX2_init_44 : decode cX2_init 44 = .ok (.putfield 28, 3) := by decide +kernel
theorem dX2_init_47 : decode cX2_init 47 = .ok (.aload_n 0, 1) := by decide +kernel
theorem dX2_init_48 : decode cX2_init 48 = .ok (.iconst 0, 1) := by decide +kernel
theorem dX2_init_49 : decode cX2_init 49 = .ok (.putfield 31, 3) := by decide +kernel
theorem dX2_init_52 : decode cX2_init 52 = .ok (.return_, 1) := by decide +kernel
theorem dX2_leastCost_0 : decode cX2_leastCost 0 = .ok (.aload_n 0, 1) := by decide +kernel
theorem dX2_leastCost_1 : decode cX2_leastCost 1 = .ok (.getfield 12, 3) := by decide +kernel
theorem dX2_leastCost_4 : decode cX2_leastCost 4 = .ok (.aload_n 1, 1) := by decide +kernel
theorem dX2_leastCost_5 : decode cX2_leastCost 5 = .ok (.iload_n 2, 1) := by decide +kernel
theorem dX2_leastCost_6 : decode cX2_leastCost 6 = .ok (.iload_n 3, 1) := by decide +kernel
theorem dX2_leastCost_7 : decode cX2_leastCost 7 = .ok (.invokevirtual 35, 3) := by decide +kernel
theorem dX2_leastCost_10 : decode cX2_leastCost 10 = .ok (.iload 4, 2) := by decide +kernel
theorem dX2_leastCost_12 : decode cX2_leastCost 12 = .ok (.iconst 1, 1) := by decide +kernel
theorem dX2_leastCost_13 : decode cX2_leastCost 13 = .ok (.if_icmp .ne 13, 3) := by decide +kernel
theorem dX2_leastCost_16 : decode cX2_leastCost 16 = .ok (.aload_n 0, 1) := by decide +kernel
theorem dX2_leastCost_17 : decode cX2_leastCost 17 = .ok (.getfield 12, 3) := by decide +kernel
theorem dX2_leastCost_20 : decode cX2_leastCost 20 = .ok (.invokevirtual 39, 3) := by decide +kernel
theorem dX2_leastCost_23 : decode cX2_leastCost 23 = .ok (.goto 10, 3) := by decide +kernel
theorem dX2_leastCost_26 : decode cX2_leastCost 26 = .ok (.aload_n 0, 1) := by decide +kernel
theorem dX2_leastCost_27 : decode cX2_leastCost 27 = .ok (.getfield 12, 3) := by decide +kernel
theorem dX2_leastCost_30 : decode cX2_leastCost 30 = .ok (.invokevirtual 43, 3) := by decide +kernel
theorem dX2_leastCost_33 : decode cX2_leastCost 33 = .ok (.ireturn, 1) := by decide +kernel
theorem dX2_solve_0 : decode cX2_solve 0 = .ok (.aload_n 0, 1) := by decide +kernel
theorem dX2_solve_1 : decode cX2_solve 1 = .ok (.getfield 12, 3) := by decide +kernel
theorem dX2_solve_4 : decode cX2_solve 4 = .ok (.aload_n 1, 1) := by decide +kernel
theorem dX2_solve_5 : decode cX2_solve 5 = .ok (.iload_n 2, 1) := by decide +kernel
theorem dX2_solve_6 : decode cX2_solve 6 = .ok (.iload_n 3, 1) := by decide +kernel
theorem dX2_solve_7 : decode cX2_solve 7 = .ok (.invokevirtual 35, 3) := by decide +kernel
theorem dX2_solve_10 : decode cX2_solve 10 = .ok (.aload_n 0, 1) := by decide +kernel
theorem dX2_solve_11 : decode cX2_solve 11 = .ok (.getfield 12, 3) := by decide +kernel
theorem dX2_solve_14 : decode cX2_solve 14 = .ok (.invokevirtual 43, 3) := by decide +kernel
theorem dX2_solve_17 : decode cX2_solve 17 = .ok (.pop, 1) := by decide +kernel
theorem dX2_solve_18 : decode cX2_solve 18 = .ok (.aload_n 0, 1) := by decide +kernel
theorem dX2_solve_19 : decode cX2_solve 19 = .ok (.aload_n 1, 1) := by decide +kernel
theorem dX2_solve_20 : decode cX2_solve 20 = .ok (.iconst 4, 1) := by decide +kernel
theorem dX2_solve_21 : decode cX2_solve 21 = .ok (.invokevirtual 46, 3) := by decide +kernel
theorem dX2_solve_24 : decode cX2_solve 24 = .ok (.putfield 31, 3) := by decide +kernel
theorem dX2_solve_27 : decode cX2_solve 27 = .ok (.iconst 0, 1) := by decide +kernel
theorem dX2_solve_28 : decode cX2_solve 28 = .ok (.istore 4, 2) := by decide +kernel
theorem dX2_solve_30 : decode cX2_solve 30 = .ok (.iload 4, 2) := by decide +kernel
theorem dX2_solve_32 : decode cX2_solve 32 = .ok (.bipush 24, 2) := by decide +kernel
theorem dX2_solve_34 : decode cX2_solve 34 = .ok (.if_icmp .ge 27, 3) := by decide +kernel
theorem dX2_solve_37 : decode cX2_solve 37 = .ok (.aload_n 0, 1) := by decide +kernel
theorem dX2_solve_38 : decode cX2_solve 38 = .ok (.iload 4, 2) := by decide +kernel
theorem dX2_solve_40 : decode cX2_solve 40 = .ok (.iconst 0, 1) := by decide +kernel
theorem dX2_solve_41 : decode cX2_solve 41 = .ok (.ldc 52, 2) := by decide +kernel
theorem dX2_solve_43 : decode cX2_solve 43 = .ok (.invokevirtual 53, 3) := by decide +kernel
theorem dX2_solve_46 : decode cX2_solve 46 = .ok (.aload_n 0, 1) := by decide +kernel
theorem dX2_solve_47 : decode cX2_solve 47 = .ok (.iload 4, 2) := by decide +kernel
theorem dX2_solve_49 : decode cX2_solve 49 = .ok (.iconst 0, 1) := by decide +kernel
theorem dX2_solve_50 : decode cX2_solve 50 = .ok (.ldc 52, 2) := by decide +kernel
theorem dX2_solve_52 : decode cX2_solve 52 = .ok (.invokevirtual 57, 3) := by decide +kernel
theorem dX2_solve_55 : decode cX2_solve 55 = .ok (.iinc 4 1, 3) := by decide +kernel
theorem dX2_solve_58 : decode cX2_solve 58 = .ok (.goto (-28), 3) := by decide +kernel
theorem dX2_solve_61 : decode cX2_solve 61 = .ok (.iconst 0, 1) := by decide +kernel
theorem dX2_solve_62 : decode cX2_solve 62 = .ok (.istore 4, 2) := by decide +kernel
theorem dX2_solve_64 : decode cX2_solve 64 = .ok (.iconst 0, 1) := by decide +kernel
theorem dX2_solve_65 : decode cX2_solve 65 = .ok (.istore 5, 2) := by decide +kernel
theorem dX2_solve_67 : decode cX2_solve 67 = .ok (.iconst 0, 1) := by decide +kernel
theorem dX2_solve_68 : decode cX2_solve 68 = .ok (.istore 6, 2) := by decide +kernel
theorem dX2_solve_70 : decode cX2_solve 70 = .ok (.iload 6, 2) := by decide +kernel
theorem dX2_solve_72 : decode cX2_solve 72 = .ok (.bipush 48, 2) := by decide +kernel
theorem dX2_solve_74 : decode cX2_solve 74 = .ok (.if_icmp .ge 56, 3) := by decide +kernel
theorem dX2_solve_77 : decode cX2_solve 77 = .ok (.aload_n 0, 1) := by decide +kernel
theorem dX2_solve_78 : decode cX2_solve 78 = .ok (.getfield 12, 3) := by decide +kernel
theorem dX2_solve_81 : decode cX2_solve 81 = .ok (.iload 4, 2) := by decide +kernel
theorem dX2_solve_83 : decode cX2_solve 83 = .ok (.iload 5, 2) := by decide +kernel
theorem dX2_solve_85 : decode cX2_solve 85 = .ok (.invokevirtual 60, 3) := by decide +kernel
theorem dX2_solve_88 : decode cX2_solve 88 = .ok (.istore 7, 2) := by decide +kernel
theorem dX2_solve_90 : decode cX2_solve 90 = .ok (.iload 7, 2) := by decide +kernel
theorem dX2_solve_92 : decode cX2_solve 92 = .ok (.ifCond .ne 4, 3) := by decide +kernel
theorem dX2_solve_95 : decode cX2_solve 95 = .ok (.return_, 1) := by decide +kernel
theorem dX2_solve_96 : decode cX2_solve 96 = .ok (.aload_n 0, 1) := by decide +kernel
theorem dX2_solve_97 : decode cX2_solve 97 = .ok (.iload 7, 2) := by decide +kernel
theorem dX2_solve_99 : decode cX2_solve 99 = .ok (.iload 4, 2) := by decide +kernel
theorem dX2_solve_101 : decode cX2_solve 101 = .ok (.iload 5, 2) := by decide +kernel
theorem dX2_solve_103 : decode cX2_solve 103 = .ok (.invokevirtual 64, 3) := by decide +kernel
theorem dX2_solve_106 : decode cX2_solve 106 = .ok (.iload 7, 2) := by decide +kernel
theorem dX2_solve_108 : decode cX2_solve 108 = .ok (.iload 4, 2) := by decide +kernel
theorem dX2_solve_110 : decode cX2_solve 110 = .ok (.invokestatic 67, 3) := by decide +kernel
theorem dX2_solve_113 : decode cX2_solve 113 = .ok (.istore 4, 2) := by decide +kernel
theorem dX2_solve_115 : decode cX2_solve 115 = .ok (.iload 7, 2) := by decide +kernel
theorem dX2_solve_117 : decode cX2_solve 117 = .ok (.iload 5, 2) := by decide +kernel
theorem dX2_solve_119 : decode cX2_solve 119 = .ok (.invokestatic 70, 3) := by decide +kernel
theorem dX2_solve_122 : decode cX2_solve 122 = .ok (.istore 5, 2) := by decide +kernel
theorem dX2_solve_124 : decode cX2_solve 124 = .ok (.iinc 6 1, 3) := by decide +kernel
theorem dX2_solve_127 : decode cX2_solve 127 = .ok (.goto (-57), 3) := by decide +kernel
theorem dX2_solve_130 : decode cX2_solve 130 = .ok (.return_, 1) := by decide +kernel
theorem dX2_settle_0 : decode cX2_settle 0 = .ok (.iload_n 1, 1) := by decide +kernel
theorem dX2_settle_1 : decode cX2_settle 1 = .ok (.tableswitch 73 1 3 #[27, 44, 55], 27) := by decide +kernel
theorem dX2_settle_28 : decode cX2_settle 28 = .ok (.aload_n 0, 1) := by decide +kernel
theorem dX2_settle_29 : decode cX2_settle 29 = .ok (.iload_n 2, 1) := by decide +kernel
theorem dX2_settle_30 : decode cX2_settle 30 = .ok (.iconst 1, 1) := by decide +kernel
theorem dX2_settle_31 : decode cX2_settle 31 = .ok (.iload_n 3, 1) := by decide +kernel
theorem dX2_settle_32 : decode cX2_settle 32 = .ok (.invokevirtual 53, 3) := by decide +kernel
theorem dX2_settle_35 : decode cX2_settle 35 = .ok (.aload_n 0, 1) := by decide +kernel
theorem dX2_settle_36 : decode cX2_settle 36 = .ok (.iload_n 3, 1) := by decide +kernel
theorem dX2_settle_37 : decode cX2_settle 37 = .ok (.iconst 1, 1) := by decide +kernel
theorem dX2_settle_38 : decode cX2_settle 38 = .ok (.iload_n 2, 1) := by decide +kernel
theorem dX2_settle_39 : decode cX2_settle 39 = .ok (.invokevirtual 57, 3) := by decide +kernel
theorem dX2_settle_42 : decode cX2_settle 42 = .ok (.goto 40, 3) := by decide +kernel
theorem dX2_settle_45 : decode cX2_settle 45 = .ok (.aload_n 0, 1) := by decide +kernel
theorem dX2_settle_46 : decode cX2_settle 46 = .ok (.iload_n 2, 1) := by decide +kernel
theorem dX2_settle_47 : decode cX2_settle 47 = .ok (.iconst 2, 1) := by decide +kernel
theorem dX2_settle_48 : decode cX2_settle 48 = .ok (.ldc 52, 2) := by decide +kernel
theorem dX2_settle_50 : decode cX2_settle 50 = .ok (.invokevirtual 53, 3) := by decide +kernel
theorem dX2_settle_53 : decode cX2_settle 53 = .ok (.goto 29, 3) := by decide +kernel
theorem dX2_settle_56 : decode cX2_settle 56 = .ok (.aload_n 0, 1) := by decide +kernel
theorem dX2_settle_57 : decode cX2_settle 57 = .ok (.iload_n 3, 1) := by decide +kernel
theorem dX2_settle_58 : decode cX2_settle 58 = .ok (.iconst 3, 1) := by decide +kernel
theorem dX2_settle_59 : decode cX2_settle 59 = .ok (.aload_n 0, 1) := by decide +kernel
theorem dX2_settle_60 : decode cX2_settle 60 = .ok (.getfield 12, 3) := by decide +kernel
theorem dX2_settle_63 : decode cX2_settle 63 = .ok (.iload_n 2, 1) := by decide +kernel
theorem dX2_settle_64 : decode cX2_settle 64 = .ok (.iload_n 3, 1) := by decide +kernel
theorem dX2_settle_65 : decode cX2_settle 65 = .ok (.invokevirtual 73, 3) := by decide +kernel
theorem dX2_settle_68 : decode cX2_settle 68 = .ok (.invokevirtual 57, 3) := by decide +kernel
theorem dX2_settle_71 : decode cX2_settle 71 = .ok (.goto 11, 3) := by decide +kernel
theorem dX2_settle_74 : decode cX2_settle 74 = .ok (.aload_n 0, 1) := by decide +kernel
theorem dX2_settle_75 : decode cX2_settle 75 = .ok (.iload_n 3, 1) := by decide +kernel
theorem dX2_settle_76 : decode cX2_settle 76 = .ok (.iconst 4, 1) := by decide +kernel
theorem dX2_settle_77 : decode cX2_settle 77 = .ok (.ldc 52, 2) := by decide +kernel
theorem dX2_settle_79 : decode cX2_settle 79 = .ok (.invokevirtual 57, 3) := by decide +kernel
theorem dX2_settle_82 : decode cX2_settle 82 = .ok (.return_, 1) := by decide +kernel
theorem dX2_settleA_0 : decode cX2_settleA 0 = .ok (.iload_n 1, 1) := by decide +kernel
theorem dX2_settleA_1 : decode cX2_settleA 1 = .ok (.ifCond .lt 23, 3) := by decide +kernel
theorem dX2_settleA_4 : decode cX2_settleA 4 = .ok (.iload_n 1, 1) := by decide +kernel
theorem dX2_settleA_5 : decode cX2_settleA 5 = .ok (.bipush 24, 2) := by decide +kernel
theorem dX2_settleA_7 : decode cX2_settleA 7 = .ok (.if_icmp .ge 17, 3) := by decide +kernel
theorem dX2_settleA_10 : decode cX2_settleA 10 = .ok (.aload_n 0, 1) := by decide +kernel
theorem dX2_settleA_11 : decode cX2_settleA 11 = .ok (.getfield 18, 3) := by decide +kernel
theorem dX2_settleA_14 : decode cX2_settleA 14 = .ok (.iload_n 1, 1) := by decide +kernel
theorem dX2_settleA_15 : decode cX2_settleA 15 = .ok (.iload_n 2, 1) := by decide +kernel
theorem dX2_settleA_16 : decode cX2_settleA 16 = .ok (.iastore, 1) := by decide +kernel
theorem dX2_settleA_17 : decode cX2_settleA 17 = .ok (.aload_n 0, 1) := by decide +kernel
theorem dX2_settleA_18 : decode cX2_settleA 18 = .ok (.getfield 25, 3) := by decide +kernel
theorem dX2_settleA_21 : decode cX2_settleA 21 = .ok (.iload_n 1, 1) := by decide +kernel
theorem dX2_settleA_22 : decode cX2_settleA 22 = .ok (.iload_n 3, 1) := by decide +kernel
theorem dX2_settleA_23 : decode cX2_settleA 23 = .ok (.iastore, 1) := by decide +kernel
theorem dX2_settleA_24 : decode cX2_settleA 24 = .ok (.return_, 1) := by decide +kernel
theorem dX2_settleB_0 : decode cX2_settleB 0 = .ok (.iload_n 1, 1) := by decide +kernel
theorem dX2_settleB_1 : decode cX2_settleB 1 = .ok (.ifCond .lt 23, 3) := by decide +kernel
theorem dX2_settleB_4 : decode cX2_settleB 4 = .ok (.iload_n 1, 1) := by decide +kernel
theorem dX2_settleB_5 : decode cX2_settleB 5 = .ok (.bipush 24, 2) := by decide +kernel
theorem dX2_settleB_7 : decode cX2_settleB 7 = .ok (.if_icmp .ge 17, 3) := by decide +kernel
theorem dX2_settleB_10 : decode cX2_settleB 10 = .ok (.aload_n 0, 1) := by decide +kernel
theorem dX2_settleB_11 : decode cX2_settleB 11 = .ok (.getfield 22, 3) := by decide +kernel
theorem dX2_settleB_14 : decode cX2_settleB 14 = .ok (.iload_n 1, 1) := by decide +kernel
theorem dX2_settleB_15 : decode cX2_settleB 15 = .ok (.iload_n 2, 1) := by decide +kernel
theorem dX2_settleB_16 : decode cX2_settleB 16 = .ok (.iastore, 1) := by decide +kernel
theorem dX2_settleB_17 : decode cX2_settleB 17 = .ok (.aload_n 0, 1) := by decide +kernel
theorem dX2_settleB_18 : decode cX2_settleB 18 = .ok (.getfield 28, 3) := by decide +kernel
theorem dX2_settleB_21 : decode cX2_settleB 21 = .ok (.iload_n 1, 1) := by decide +kernel
theorem dX2_settleB_22 : decode cX2_settleB 22 = .ok (.iload_n 3, 1) := by decide +kernel
theorem dX2_settleB_23 : decode cX2_settleB 23 = .ok (.iastore, 1) := by decide +kernel
theorem dX2_settleB_24 : decode cX2_settleB 24 = .ok (.return_, 1) := by decide +kernel
theorem dX2_fateOf_0 : decode cX2_fateOf 0 = .ok (.iload_n 2, 1) := by decide +kernel
theorem dX2_fateOf_1 : decode cX2_fateOf 1 = .ok (.ifCond .lt 9, 3) := by decide +kernel
theorem dX2_fateOf_4 : decode cX2_fateOf 4 = .ok (.iload_n 2, 1) := by decide +kernel
theorem dX2_fateOf_5 : decode cX2_fateOf 5 = .ok (.bipush 24, 2) := by decide +kernel
theorem dX2_fateOf_7 : decode cX2_fateOf 7 = .ok (.if_icmp .lt 5, 3) := by decide +kernel
theorem dX2_fateOf_10 : decode cX2_fateOf 10 = .ok (.iconst 0, 1) := by decide +kernel
theorem dX2_fateOf_11 : decode cX2_fateOf 11 = .ok (.ireturn, 1) := by decide +kernel
theorem dX2_fateOf_12 : decode cX2_fateOf 12 = .ok (.iload_n 1, 1) := by decide +kernel
theorem dX2_fateOf_13 : decode cX2_fateOf 13 = .ok (.ifCond .ne 12, 3) := by decide +kernel
theorem dX2_fateOf_16 : decode cX2_fateOf 16 = .ok (.aload_n 0, 1) := by decide +kernel
theorem dX2_fateOf_17 : decode cX2_fateOf 17 = .ok (.getfield 18, 3) := by decide +kernel
theorem dX2_fateOf_20 : decode cX2_fateOf 20 = .ok (.iload_n 2, 1) := by decide +kernel
theorem dX2_fateOf_21 : decode cX2_fateOf 21 = .ok (.iaload, 1) := by decide +kernel
theorem dX2_fateOf_22 : decode cX2_fateOf 22 = .ok (.goto 9, 3) := by decide +kernel
theorem dX2_fateOf_25 : decode cX2_fateOf 25 = .ok (.aload_n 0, 1) := by decide +kernel
theorem dX2_fateOf_26 : decode cX2_fateOf 26 = .ok (.getfield 22, 3) := by decide +kernel
theorem dX2_fateOf_29 : decode cX2_fateOf 29 = .ok (.iload_n 2, 1) := by decide +kernel
theorem dX2_fateOf_30 : decode cX2_fateOf 30 = .ok (.iaload, 1) := by decide +kernel
theorem dX2_fateOf_31 : decode cX2_fateOf 31 = .ok (.ireturn, 1) := by decide +kernel
theorem dX2_partnerOf_0 : decode cX2_partnerOf 0 = .ok (.iload_n 2, 1) := by decide +kernel
theorem dX2_partnerOf_1 : decode cX2_partnerOf 1 = .ok (.ifCond .lt 9, 3) := by decide +kernel
theorem dX2_partnerOf_4 : decode cX2_partnerOf 4 = .ok (.iload_n 2, 1) := by decide +kernel
theorem dX2_partnerOf_5 : decode cX2_partnerOf 5 = .ok (.bipush 24, 2) := by decide +kernel
theorem dX2_partnerOf_7 : decode cX2_partnerOf 7 = .ok (.if_icmp .lt 6, 3) := by decide +kernel
theorem dX2_partnerOf_10 : decode cX2_partnerOf 10 = .ok (.ldc 52, 2) := by decide +kernel
theorem dX2_partnerOf_12 : decode cX2_partnerOf 12 = .ok (.ireturn, 1) := by decide +kernel
theorem dX2_partnerOf_13 : decode cX2_partnerOf 13 = .ok (.iload_n 1, 1) := by decide +kernel
theorem dX2_partnerOf_14 : decode cX2_partnerOf 14 = .ok (.ifCond .ne 12, 3) := by decide +kernel
theorem dX2_partnerOf_17 : decode cX2_partnerOf 17 = .ok (.aload_n 0, 1) := by decide +kernel
theorem dX2_partnerOf_18 : decode cX2_partnerOf 18 = .ok (.getfield 25, 3) := by decide +kernel
theorem dX2_partnerOf_21 : decode cX2_partnerOf 21 = .ok (.iload_n 2, 1) := by decide +kernel
theorem dX2_partnerOf_22 : decode cX2_partnerOf 22 = .ok (.iaload, 1) := by decide +kernel
theorem dX2_partnerOf_23 : decode cX2_partnerOf 23 = .ok (.goto 9, 3) := by decide +kernel
theorem dX2_partnerOf_26 : decode cX2_partnerOf 26 = .ok (.aload_n 0, 1) := by decide +kernel
theorem dX2_partnerOf_27 : decode cX2_partnerOf 27 = .ok (.getfield 28, 3) := by decide +kernel
theorem dX2_partnerOf_30 : decode cX2_partnerOf 30 = .ok (.iload_n 2, 1) := by decide +kernel
theorem dX2_partnerOf_31 : decode cX2_partnerOf 31 = .ok (.iaload, 1) := by decide +kernel
theorem dX2_partnerOf_32 : decode cX2_partnerOf 32 = .ok (.ireturn, 1) := by decide +kernel
theorem dX2_countFates_0 : decode cX2_countFates 0 = .ok (.iconst 0, 1) := by decide +kernel
theorem dX2_countFates_1 : decode cX2_countFates 1 = .ok (.istore_n 3, 1) := by decide +kernel
theorem dX2_countFates_2 : decode cX2_countFates 2 = .ok (.iconst 0, 1) := by decide +kernel
theorem dX2_countFates_3 : decode cX2_countFates 3 = .ok (.istore 4, 2) := by decide +kernel
theorem dX2_countFates_5 : decode cX2_countFates 5 = .ok (.iload 4, 2) := by decide +kernel
theorem dX2_countFates_7 : decode cX2_countFates 7 = .ok (.bipush 24, 2) := by decide +kernel
theorem dX2_countFates_9 : decode cX2_countFates 9 = .ok (.if_icmp .ge 23, 3) := by decide +kernel
theorem dX2_countFates_12 : decode cX2_countFates 12 = .ok (.aload_n 0, 1) := by decide +kernel
theorem dX2_countFates_13 : decode cX2_countFates 13 = .ok (.iload_n 1, 1) := by decide +kernel
theorem dX2_countFates_14 : decode cX2_countFates 14 = .ok (.iload 4, 2) := by decide +kernel
theorem dX2_countFates_16 : decode cX2_countFates 16 = .ok (.invokevirtual 76, 3) := by decide +kernel
theorem dX2_countFates_19 : decode cX2_countFates 19 = .ok (.iload_n 2, 1) := by decide +kernel
theorem dX2_countFates_20 : decode cX2_countFates 20 = .ok (.if_icmp .ne 6, 3) := by decide +kernel
theorem dX2_countFates_23 : decode cX2_countFates 23 = .ok (.iinc 3 1, 3) := by decide +kernel
theorem dX2_countFates_26 : decode cX2_countFates 26 = .ok (.iinc 4 1, 3) := by decide +kernel
theorem dX2_countFates_29 : decode cX2_countFates 29 = .ok (.goto (-24), 3) := by decide +kernel
theorem dX2_countFates_32 : decode cX2_countFates 32 = .ok (.iload_n 3, 1) := by decide +kernel
theorem dX2_countFates_33 : decode cX2_countFates 33 = .ok (.ireturn, 1) := by decide +kernel
theorem dX2_nextMatch_0 : decode cX2_nextMatch 0 = .ok (.iload_n 1, 1) := by decide +kernel
theorem dX2_nextMatch_1 : decode cX2_nextMatch 1 = .ok (.iconst 1, 1) := by decide +kernel
theorem dX2_nextMatch_2 : decode cX2_nextMatch 2 = .ok (.iadd, 1) := by decide +kernel
theorem dX2_nextMatch_3 : decode cX2_nextMatch 3 = .ok (.istore_n 2, 1) := by decide +kernel
theorem dX2_nextMatch_4 : decode cX2_nextMatch 4 = .ok (.iload_n 2, 1) := by decide +kernel
theorem dX2_nextMatch_5 : decode cX2_nextMatch 5 = .ok (.bipush 24, 2) := by decide +kernel
theorem dX2_nextMatch_7 : decode cX2_nextMatch 7 = .ok (.if_icmp .ge 21, 3) := by decide +kernel
theorem dX2_nextMatch_10 : decode cX2_nextMatch 10 = .ok (.aload_n 0, 1) := by decide +kernel
theorem dX2_nextMatch_11 : decode cX2_nextMatch 11 = .ok (.iconst 0, 1) := by decide +kernel
theorem dX2_nextMatch_12 : decode cX2_nextMatch 12 = .ok (.iload_n 2, 1) := by decide +kernel
theorem dX2_nextMatch_13 : decode cX2_nextMatch 13 = .ok (.invokevirtual 76, 3) := by decide +kernel
theorem dX2_nextMatch_16 : decode cX2_nextMatch 16 = .ok (.iconst 1, 1) := by decide +kernel
theorem dX2_nextMatch_17 : decode cX2_nextMatch 17 = .ok (.if_icmp .ne 5, 3) := by decide +kernel
theorem dX2_nextMatch_20 : decode cX2_nextMatch 20 = .ok (.iload_n 2, 1) := by decide +kernel
theorem dX2_nextMatch_21 : decode cX2_nextMatch 21 = .ok (.ireturn, 1) := by decide +kernel
theorem dX2_nextMatch_22 : decode cX2_nextMatch 22 = .ok (.iinc 2 1, 3) := by decide +kernel
theorem dX2_nextMatch_25 : decode cX2_nextMatch 25 = .ok (.goto (-21), 3) := by decide +kernel
theorem dX2_nextMatch_28 : decode cX2_nextMatch 28 = .ok (.ldc 52, 2) := by decide +kernel
theorem dX2_nextMatch_30 : decode cX2_nextMatch 30 = .ok (.ireturn, 1) := by decide +kernel
theorem dX2_hasThrow_0 : decode cX2_hasThrow 0 = .ok (.aload_n 0, 1) := by decide +kernel
theorem dX2_hasThrow_1 : decode cX2_hasThrow 1 = .ok (.iconst 0, 1) := by decide +kernel
theorem dX2_hasThrow_2 : decode cX2_hasThrow 2 = .ok (.iload_n 1, 1) := by decide +kernel
theorem dX2_hasThrow_3 : decode cX2_hasThrow 3 = .ok (.invokevirtual 76, 3) := by decide +kernel
theorem dX2_hasThrow_6 : decode cX2_hasThrow 6 = .ok (.iconst 1, 1) := by decide +kernel
theorem dX2_hasThrow_7 : decode cX2_hasThrow 7 = .ok (.if_icmp .ne 17, 3) := by decide +kernel
theorem dX2_hasThrow_10 : decode cX2_hasThrow 10 = .ok (.aload_n 0, 1) := by decide +kernel
theorem dX2_hasThrow_11 : decode cX2_hasThrow 11 = .ok (.iload_n 1, 1) := by decide +kernel
theorem dX2_hasThrow_12 : decode cX2_hasThrow 12 = .ok (.invokevirtual 79, 3) := by decide +kernel
theorem dX2_hasThrow_15 : decode cX2_hasThrow 15 = .ok (.ldc 52, 2) := by decide +kernel
theorem dX2_hasThrow_17 : decode cX2_hasThrow 17 = .ok (.if_icmp .eq 7, 3) := by decide +kernel
theorem dX2_hasThrow_20 : decode cX2_hasThrow 20 = .ok (.iconst 1, 1) := by decide +kernel
theorem dX2_hasThrow_21 : decode cX2_hasThrow 21 = .ok (.goto 4, 3) := by decide +kernel
theorem dX2_hasThrow_24 : decode cX2_hasThrow 24 = .ok (.iconst 0, 1) := by decide +kernel
theorem dX2_hasThrow_25 : decode cX2_hasThrow 25 = .ok (.ireturn, 1) := by decide +kernel
theorem dX2_throwBelow_0 : decode cX2_throwBelow 0 = .ok (.aload_n 0, 1) := by decide +kernel
theorem dX2_throwBelow_1 : decode cX2_throwBelow 1 = .ok (.iload_n 1, 1) := by decide +kernel
theorem dX2_throwBelow_2 : decode cX2_throwBelow 2 = .ok (.invokevirtual 82, 3) := by decide +kernel
theorem dX2_throwBelow_5 : decode cX2_throwBelow 5 = .ok (.ifCond .ne 5, 3) := by decide +kernel
theorem dX2_throwBelow_8 : decode cX2_throwBelow 8 = .ok (.iconst 0, 1) := by decide +kernel
theorem dX2_throwBelow_9 : decode cX2_throwBelow 9 = .ok (.ireturn, 1) := by decide +kernel
theorem dX2_throwBelow_10 : decode cX2_throwBelow 10 = .ok (.aload_n 0, 1) := by decide +kernel
theorem dX2_throwBelow_11 : decode cX2_throwBelow 11 = .ok (.iload_n 1, 1) := by decide +kernel
theorem dX2_throwBelow_12 : decode cX2_throwBelow 12 = .ok (.invokevirtual 79, 3) := by decide +kernel
theorem dX2_throwBelow_15 : decode cX2_throwBelow 15 = .ok (.istore_n 2, 1) := by decide +kernel
theorem dX2_throwBelow_16 : decode cX2_throwBelow 16 = .ok (.aload_n 0, 1) := by decide +kernel
theorem dX2_throwBelow_17 : decode cX2_throwBelow 17 = .ok (.getfield 12, 3) := by decide +kernel
theorem dX2_throwBelow_20 : decode cX2_throwBelow 20 = .ok (.invokevirtual 86, 3) := by decide +kernel
theorem dX2_throwBelow_23 : decode cX2_throwBelow 23 = .ok (.iload_n 2, 1) := by decide +kernel
theorem dX2_throwBelow_24 : decode cX2_throwBelow 24 = .ok (.invokevirtual 90, 3) := by decide +kernel
theorem dX2_throwBelow_27 : decode cX2_throwBelow 27 = .ok (.aload_n 0, 1) := by decide +kernel
theorem dX2_throwBelow_28 : decode cX2_throwBelow 28 = .ok (.getfield 12, 3) := by decide +kernel
theorem dX2_throwBelow_31 : decode cX2_throwBelow 31 = .ok (.invokevirtual 86, 3) := by decide +kernel
theorem dX2_throwBelow_34 : decode cX2_throwBelow 34 = .ok (.iload_n 1, 1) := by decide +kernel
theorem dX2_throwBelow_35 : decode cX2_throwBelow 35 = .ok (.invokevirtual 90, 3) := by decide +kernel
theorem dX2_throwBelow_38 : decode cX2_throwBelow 38 = .ok (.isub, 1) := by decide +kernel
theorem dX2_throwBelow_39 : decode cX2_throwBelow 39 = .ok (.istore_n 3, 1) := by decide +kernel
theorem dX2_throwBelow_40 : decode cX2_throwBelow 40 = .ok (.aload_n 0, 1) := by decide +kernel
theorem dX2_throwBelow_41 : decode cX2_throwBelow 41 = .ok (.getfield 12, 3) := by decide +kernel
theorem dX2_throwBelow_44 : decode cX2_throwBelow 44 = .ok (.invokevirtual 95, 3) := by decide +kernel
theorem dX2_throwBelow_47 : decode cX2_throwBelow 47 = .ok (.aload_n 0, 1) := by decide +kernel
theorem dX2_throwBelow_48 : decode cX2_throwBelow 48 = .ok (.iconst 0, 1) := by decide +kernel
theorem dX2_throwBelow_49 : decode cX2_throwBelow 49 = .ok (.iload_n 2, 1) := by decide +kernel
theorem dX2_throwBelow_50 : decode cX2_throwBelow 50 = .ok (.invokevirtual 98, 3) := by decide +kernel
theorem dX2_throwBelow_53 : decode cX2_throwBelow 53 = .ok (.invokevirtual 90, 3) := by decide +kernel
theorem dX2_throwBelow_56 : decode cX2_throwBelow 56 = .ok (.aload_n 0, 1) := by decide +kernel
theorem dX2_throwBelow_57 : decode cX2_throwBelow 57 = .ok (.getfield 12, 3) := by decide +kernel
theorem dX2_throwBelow_60 : decode cX2_throwBelow 60 = .ok (.invokevirtual 95, 3) := by decide +kernel
theorem dX2_throwBelow_63 : decode cX2_throwBelow 63 = .ok (.aload_n 0, 1) := by decide +kernel
theorem dX2_throwBelow_64 : decode cX2_throwBelow 64 = .ok (.iconst 0, 1) := by decide +kernel
theorem dX2_throwBelow_65 : decode cX2_throwBelow 65 = .ok (.iload_n 1, 1) := by decide +kernel
theorem dX2_throwBelow_66 : decode cX2_throwBelow 66 = .ok (.invokevirtual 98, 3) := by decide +kernel
theorem dX2_throwBelow_69 : decode cX2_throwBelow 69 = .ok (.invokevirtual 90, 3) := by decide +kernel
theorem dX2_throwBelow_72 : decode cX2_throwBelow 72 = .ok (.isub, 1) := by decide +kernel
theorem dX2_throwBelow_73 : decode cX2_throwBelow 73 = .ok (.istore 4, 2) := by decide +kernel
theorem dX2_throwBelow_75 : decode cX2_throwBelow 75 = .ok (.iload_n 3, 1) := by decide +kernel
theorem dX2_throwBelow_76 : decode cX2_throwBelow 76 = .ok (.iload 4, 2) := by decide +kernel
theorem dX2_throwBelow_78 : decode cX2_throwBelow 78 = .ok (.isub, 1) := by decide +kernel
theorem dX2_throwBelow_79 : decode cX2_throwBelow 79 = .ok (.ireturn, 1) := by decide +kernel
theorem dX2_hasFault_0 : decode cX2_hasFault 0 = .ok (.aload_n 0, 1) := by decide +kernel
theorem dX2_hasFault_1 : decode cX2_hasFault 1 = .ok (.iload_n 1, 1) := by decide +kernel
theorem dX2_hasFault_2 : decode cX2_hasFault 2 = .ok (.invokevirtual 82, 3) := by decide +kernel
theorem dX2_hasFault_5 : decode cX2_hasFault 5 = .ok (.ifCond .eq 22, 3) := by decide +kernel
theorem dX2_hasFault_8 : decode cX2_hasFault 8 = .ok (.aload_n 0, 1) := by decide +kernel
theorem dX2_hasFault_9 : decode cX2_hasFault 9 = .ok (.iload_n 1, 1) := by decide +kernel
theorem dX2_hasFault_10 : decode cX2_hasFault 10 = .ok (.invokevirtual 101, 3) := by decide +kernel
theorem dX2_hasFault_13 : decode cX2_hasFault 13 = .ok (.invokestatic 104, 3) := by decide +kernel
theorem dX2_hasFault_16 : decode cX2_hasFault 16 = .ok (.aload_n 0, 1) := by decide +kernel
theorem dX2_hasFault_17 : decode cX2_hasFault 17 = .ok (.getfield 31, 3) := by decide +kernel
theorem dX2_hasFault_20 : decode cX2_hasFault 20 = .ok (.if_icmp .lt 7, 3) := by decide +kernel
theorem dX2_hasFault_23 : decode cX2_hasFault 23 = .ok (.iconst 1, 1) := by decide +kernel
theorem dX2_hasFault_24 : decode cX2_hasFault 24 = .ok (.goto 4, 3) := by decide +kernel
theorem dX2_hasFault_27 : decode cX2_hasFault 27 = .ok (.iconst 0, 1) := by decide +kernel
theorem dX2_hasFault_28 : decode cX2_hasFault 28 = .ok (.ireturn, 1) := by decide +kernel
theorem dX2_reasonBelow_0 : decode cX2_reasonBelow 0 = .ok (.aload_n 0, 1) := by decide +kernel
theorem dX2_reasonBelow_1 : decode cX2_reasonBelow 1 = .ok (.iload_n 1, 1) := by decide +kernel
theorem dX2_reasonBelow_2 : decode cX2_reasonBelow 2 = .ok (.invokevirtual 82, 3) := by decide +kernel
theorem dX2_reasonBelow_5 : decode cX2_reasonBelow 5 = .ok (.ifCond .ne 5, 3) := by decide +kernel
theorem dX2_reasonBelow_8 : decode cX2_reasonBelow 8 = .ok (.iconst 0, 1) := by decide +kernel
theorem dX2_reasonBelow_9 : decode cX2_reasonBelow 9 = .ok (.ireturn, 1) := by decide +kernel
theorem dX2_reasonBelow_10 : decode cX2_reasonBelow 10 = .ok (.aload_n 0, 1) := by decide +kernel
theorem dX2_reasonBelow_11 : decode cX2_reasonBelow 11 = .ok (.iload_n 1, 1) := by decide +kernel
theorem dX2_reasonBelow_12 : decode cX2_reasonBelow 12 = .ok (.invokevirtual 79, 3) := by decide +kernel
theorem dX2_reasonBelow_15 : decode cX2_reasonBelow 15 = .ok (.istore_n 2, 1) := by decide +kernel
theorem dX2_reasonBelow_16 : decode cX2_reasonBelow 16 = .ok (.iload_n 2, 1) := by decide +kernel
theorem dX2_reasonBelow_17 : decode cX2_reasonBelow 17 = .ok (.iload_n 1, 1) := by decide +kernel
theorem dX2_reasonBelow_18 : decode cX2_reasonBelow 18 = .ok (.iconst 1, 1) := by decide +kernel
theorem dX2_reasonBelow_19 : decode cX2_reasonBelow 19 = .ok (.iadd, 1) := by decide +kernel
theorem dX2_reasonBelow_20 : decode cX2_reasonBelow 20 = .ok (.if_icmp .le 7, 3) := by decide +kernel
theorem dX2_reasonBelow_23 : decode cX2_reasonBelow 23 = .ok (.iconst 1, 1) := by decide +kernel
theorem dX2_reasonBelow_24 : decode cX2_reasonBelow 24 = .ok (.goto 4, 3) := by decide +kernel
theorem dX2_reasonBelow_27 : decode cX2_reasonBelow 27 = .ok (.iconst 0, 1) := by decide +kernel
theorem dX2_reasonBelow_28 : decode cX2_reasonBelow 28 = .ok (.istore_n 3, 1) := by decide +kernel
theorem dX2_reasonBelow_29 : decode cX2_reasonBelow 29 = .ok (.aload_n 0, 1) := by decide +kernel
theorem dX2_reasonBelow_30 : decode cX2_reasonBelow 30 = .ok (.iconst 0, 1) := by decide +kernel
theorem dX2_reasonBelow_31 : decode cX2_reasonBelow 31 = .ok (.iload_n 2, 1) := by decide +kernel
theorem dX2_reasonBelow_32 : decode cX2_reasonBelow 32 = .ok (.invokevirtual 98, 3) := by decide +kernel
theorem dX2_reasonBelow_35 : decode cX2_reasonBelow 35 = .ok (.bipush 24, 2) := by decide +kernel
theorem dX2_reasonBelow_37 : decode cX2_reasonBelow 37 = .ok (.invokestatic 109, 3) := by decide +kernel
theorem dX2_reasonBelow_40 : decode cX2_reasonBelow 40 = .ok (.istore 4, 2) := by decide +kernel
theorem dX2_reasonBelow_42 : decode cX2_reasonBelow 42 = .ok (.aload_n 0, 1) := by decide +kernel
theorem dX2_reasonBelow_43 : decode cX2_reasonBelow 43 = .ok (.iconst 0, 1) := by decide +kernel
theorem dX2_reasonBelow_44 : decode cX2_reasonBelow 44 = .ok (.iload_n 1, 1) := by decide +kernel
theorem dX2_reasonBelow_45 : decode cX2_reasonBelow 45 = .ok (.invokevirtual 98, 3) := by decide +kernel
theorem dX2_reasonBelow_48 : decode cX2_reasonBelow 48 = .ok (.iconst 1, 1) := by decide +kernel
theorem dX2_reasonBelow_49 : decode cX2_reasonBelow 49 = .ok (.iadd, 1) := by decide +kernel
theorem dX2_reasonBelow_50 : decode cX2_reasonBelow 50 = .ok (.istore 5, 2) := by decide +kernel
theorem dX2_reasonBelow_52 : decode cX2_reasonBelow 52 = .ok (.iload 5, 2) := by decide +kernel
theorem dX2_reasonBelow_54 : decode cX2_reasonBelow 54 = .ok (.iload 4, 2) := by decide +kernel
theorem dX2_reasonBelow_56 : decode cX2_reasonBelow 56 = .ok (.if_icmp .ge 28, 3) := by decide +kernel
theorem dX2_reasonBelow_59 : decode cX2_reasonBelow 59 = .ok (.iload_n 3, 1) := by decide +kernel
theorem dX2_reasonBelow_60 : decode cX2_reasonBelow 60 = .ok (.aload_n 0, 1) := by decide +kernel
theorem dX2_reasonBelow_61 : decode cX2_reasonBelow 61 = .ok (.iconst 1, 1) := by decide +kernel
theorem dX2_reasonBelow_62 : decode cX2_reasonBelow 62 = .ok (.iload 5, 2) := by decide +kernel
theorem dX2_reasonBelow_64 : decode cX2_reasonBelow 64 = .ok (.invokevirtual 76, 3) := by decide +kernel
theorem dX2_reasonBelow_67 : decode cX2_reasonBelow 67 = .ok (.iconst 3, 1) := by decide +kernel
theorem dX2_reasonBelow_68 : decode cX2_reasonBelow 68 = .ok (.if_icmp .ne 7, 3) := by decide +kernel
theorem dX2_reasonBelow_71 : decode cX2_reasonBelow 71 = .ok (.iconst 2, 1) := by decide +kernel
theorem dX2_reasonBelow_72 : decode cX2_reasonBelow 72 = .ok (.goto 4, 3) := by decide +kernel
theorem dX2_reasonBelow_75 : decode cX2_reasonBelow 75 = .ok (.iconst 4, 1) := by decide +kernel
theorem dX2_reasonBelow_76 : decode cX2_reasonBelow 76 = .ok (.ior, 1) := by decide +kernel
theorem dX2_reasonBelow_77 : decode cX2_reasonBelow 77 = .ok (.istore_n 3, 1) := by decide +kernel
theorem dX2_reasonBelow_78 : decode cX2_reasonBelow 78 = .ok (.iinc 5 1, 3) := by decide +kernel
theorem dX2_reasonBelow_81 : decode cX2_reasonBelow 81 = .ok (.goto (-29), 3) := by decide +kernel
theorem dX2_reasonBelow_84 : decode cX2_reasonBelow 84 = .ok (.iload_n 3, 1) := by decide +kernel
theorem dX2_reasonBelow_85 : decode cX2_reasonBelow 85 = .ok (.ireturn, 1) := by decide +kernel
theorem dX2_faultCount_0 : decode cX2_faultCount 0 = .ok (.iconst 0, 1) := by decide +kernel
theorem dX2_faultCount_1 : decode cX2_faultCount 1 = .ok (.istore_n 1, 1) := by decide +kernel
theorem dX2_faultCount_2 : decode cX2_faultCount 2 = .ok (.iconst 0, 1) := by decide +kernel
theorem dX2_faultCount_3 : decode cX2_faultCount 3 = .ok (.istore_n 2, 1) := by decide +kernel
theorem dX2_faultCount_4 : decode cX2_faultCount 4 = .ok (.iload_n 2, 1) := by decide +kernel
theorem dX2_faultCount_5 : decode cX2_faultCount 5 = .ok (.bipush 24, 2) := by decide +kernel
theorem dX2_faultCount_7 : decode cX2_faultCount 7 = .ok (.if_icmp .ge 20, 3) := by decide +kernel
theorem dX2_faultCount_10 : decode cX2_faultCount 10 = .ok (.aload_n 0, 1) := by decide +kernel
theorem dX2_faultCount_11 : decode cX2_faultCount 11 = .ok (.iload_n 2, 1) := by decide +kernel
theorem dX2_faultCount_12 : decode cX2_faultCount 12 = .ok (.invokevirtual 112, 3) := by decide +kernel
theorem dX2_faultCount_15 : decode cX2_faultCount 15 = .ok (.ifCond .eq 6, 3) := by decide +kernel
theorem dX2_faultCount_18 : decode cX2_faultCount 18 = .ok (.iinc 1 1, 3) := by decide +kernel
theorem dX2_faultCount_21 : decode cX2_faultCount 21 = .ok (.iinc 2 1, 3) := by decide +kernel
theorem dX2_faultCount_24 : decode cX2_faultCount 24 = .ok (.goto (-20), 3) := by decide +kernel
theorem dX2_faultCount_27 : decode cX2_faultCount 27 = .ok (.iload_n 1, 1) := by decide +kernel
theorem dX2_faultCount_28 : decode cX2_faultCount 28 = .ok (.ireturn, 1) := by decide +kernel
theorem dX2_bedAheadOfFault_0 : decode cX2_bedAheadOfFault 0 = .ok (.iconst 0, 1) := by decide +kernel
theorem dX2_bedAheadOfFault_1 : decode cX2_bedAheadOfFault 1 = .ok (.istore_n 2, 1) := by decide +kernel
theorem dX2_bedAheadOfFault_2 : decode cX2_bedAheadOfFault 2 = .ok (.iconst 0, 1) := by decide +kernel
theorem dX2_bedAheadOfFault_3 : decode cX2_bedAheadOfFault 3 = .ok (.istore_n 3, 1) := by decide +kernel
theorem dX2_bedAheadOfFault_4 : decode cX2_bedAheadOfFault 4 = .ok (.iload_n 3, 1) := by decide +kernel
theorem dX2_bedAheadOfFault_5 : decode cX2_bedAheadOfFault 5 = .ok (.bipush 24, 2) := by decide +kernel
theorem dX2_bedAheadOfFault_7 : decode cX2_bedAheadOfFault 7 = .ok (.if_icmp .ge 27, 3) := by decide +kernel
theorem dX2_bedAheadOfFault_10 : decode cX2_bedAheadOfFault 10 = .ok (.aload_n 0, 1) := by decide +kernel
theorem dX2_bedAheadOfFault_11 : decode cX2_bedAheadOfFault 11 = .ok (.iload_n 3, 1) := by decide +kernel
theorem dX2_bedAheadOfFault_12 : decode cX2_bedAheadOfFault 12 = .ok (.invokevirtual 112, 3) := by decide +kernel
theorem dX2_bedAheadOfFault_15 : decode cX2_bedAheadOfFault 15 = .ok (.ifCond .eq 13, 3) := by decide +kernel
theorem dX2_bedAheadOfFault_18 : decode cX2_bedAheadOfFault 18 = .ok (.iload_n 2, 1) := by decide +kernel
theorem dX2_bedAheadOfFault_19 : decode cX2_bedAheadOfFault 19 = .ok (.iload_n 1, 1) := by decide +kernel
theorem dX2_bedAheadOfFault_20 : decode cX2_bedAheadOfFault 20 = .ok (.if_icmp .ne 5, 3) := by decide +kernel
theorem dX2_bedAheadOfFault_23 : decode cX2_bedAheadOfFault 23 = .ok (.iload_n 3, 1) := by decide +kernel
theorem dX2_bedAheadOfFault_24 : decode cX2_bedAheadOfFault 24 = .ok (.ireturn, 1) := by decide +kernel
theorem dX2_bedAheadOfFault_25 : decode cX2_bedAheadOfFault 25 = .ok (.iinc 2 1, 3) := by decide +kernel
theorem dX2_bedAheadOfFault_28 : decode cX2_bedAheadOfFault 28 = .ok (.iinc 3 1, 3) := by decide +kernel
theorem dX2_bedAheadOfFault_31 : decode cX2_bedAheadOfFault 31 = .ok (.goto (-27), 3) := by decide +kernel
theorem dX2_bedAheadOfFault_34 : decode cX2_bedAheadOfFault 34 = .ok (.ldc 52, 2) := by decide +kernel
theorem dX2_bedAheadOfFault_36 : decode cX2_bedAheadOfFault 36 = .ok (.ireturn, 1) := by decide +kernel
theorem dX2_totalThrow_0 : decode cX2_totalThrow 0 = .ok (.iconst 0, 1) := by decide +kernel
theorem dX2_totalThrow_1 : decode cX2_totalThrow 1 = .ok (.istore_n 2, 1) := by decide +kernel
theorem dX2_totalThrow_2 : decode cX2_totalThrow 2 = .ok (.iconst 0, 1) := by decide +kernel
theorem dX2_totalThrow_3 : decode cX2_totalThrow 3 = .ok (.istore_n 3, 1) := by decide +kernel
theorem dX2_totalThrow_4 : decode cX2_totalThrow 4 = .ok (.iload_n 3, 1) := by decide +kernel
theorem dX2_totalThrow_5 : decode cX2_totalThrow 5 = .ok (.bipush 24, 2) := by decide +kernel
theorem dX2_totalThrow_7 : decode cX2_totalThrow 7 = .ok (.if_icmp .ge 29, 3) := by decide +kernel
theorem dX2_totalThrow_10 : decode cX2_totalThrow 10 = .ok (.iload_n 1, 1) := by decide +kernel
theorem dX2_totalThrow_11 : decode cX2_totalThrow 11 = .ok (.ifCond .eq 11, 3) := by decide +kernel
theorem dX2_totalThrow_14 : decode cX2_totalThrow 14 = .ok (.aload_n 0, 1) := by decide +kernel
theorem dX2_totalThrow_15 : decode cX2_totalThrow 15 = .ok (.iload_n 3, 1) := by decide +kernel
theorem dX2_totalThrow_16 : decode cX2_totalThrow 16 = .ok (.invokevirtual 112, 3) := by decide +kernel
theorem dX2_totalThrow_19 : decode cX2_totalThrow 19 = .ok (.ifCond .eq 11, 3) := by decide +kernel
theorem dX2_totalThrow_22 : decode cX2_totalThrow 22 = .ok (.iload_n 2, 1) := by decide +kernel
theorem dX2_totalThrow_23 : decode cX2_totalThrow 23 = .ok (.aload_n 0, 1) := by decide +kernel
theorem dX2_totalThrow_24 : decode cX2_totalThrow 24 = .ok (.iload_n 3, 1) := by decide +kernel
theorem dX2_totalThrow_25 : decode cX2_totalThrow 25 = .ok (.invokevirtual 101, 3) := by decide +kernel
theorem dX2_totalThrow_28 : decode cX2_totalThrow 28 = .ok (.iadd, 1) := by decide +kernel
theorem dX2_totalThrow_29 : decode cX2_totalThrow 29 = .ok (.istore_n 2, 1) := by decide +kernel
theorem dX2_totalThrow_30 : decode cX2_totalThrow 30 = .ok (.iinc 3 1, 3) := by decide +kernel
theorem dX2_totalThrow_33 : decode cX2_totalThrow 33 = .ok (.goto (-29), 3) := by decide +kernel
theorem dX2_totalThrow_36 : decode cX2_totalThrow 36 = .ok (.iload_n 2, 1) := by decide +kernel
theorem dX2_totalThrow_37 : decode cX2_totalThrow 37 = .ok (.ireturn, 1) := by decide +kernel
theorem dX2_changeOfElevations_0 : decode cX2_changeOfElevations 0 = .ok (.aload_n 0, 1) := by decide +kernel
theorem dX2_changeOfElevations_1 : decode cX2_changeOfElevations 1 = .ok (.iconst (-1), 1) := by decide +kernel
theorem dX2_changeOfElevations_2 : decode cX2_changeOfElevations 2 = .ok (.invokevirtual 79, 3) := by decide +kernel
theorem dX2_changeOfElevations_5 : decode cX2_changeOfElevations 5 = .ok (.istore_n 1, 1) := by decide +kernel
theorem dX2_changeOfElevations_6 : decode cX2_changeOfElevations 6 = .ok (.iload_n 1, 1) := by decide +kernel
theorem dX2_changeOfElevations_7 : decode cX2_changeOfElevations 7 = .ok (.istore_n 2, 1) := by decide +kernel
theorem dX2_changeOfElevations_8 : decode cX2_changeOfElevations 8 = .ok (.iconst 0, 1) := by decide +kernel
theorem dX2_changeOfElevations_9 : decode cX2_changeOfElevations 9 = .ok (.istore_n 3, 1) := by decide +kernel
theorem dX2_changeOfElevations_10 : decode cX2_changeOfElevations 10 = .ok (.iload_n 3, 1) := by decide +kernel
theorem dX2_changeOfElevations_11 : decode cX2_changeOfElevations 11 = .ok (.bipush 24, 2) := by decide +kernel
theorem dX2_changeOfElevations_13 : decode cX2_changeOfElevations 13 = .ok (.if_icmp .ge 21, 3) := by decide +kernel
theorem dX2_changeOfElevations_16 : decode cX2_changeOfElevations 16 = .ok (.aload_n 0, 1) := by decide +kernel
theorem dX2_changeOfElevations_17 : decode cX2_changeOfElevations 17 = .ok (.iconst 0, 1) := by decide +kernel
theorem dX2_changeOfElevations_18 : decode cX2_changeOfElevations 18 = .ok (.iload_n 3, 1) := by decide +kernel
theorem dX2_changeOfElevations_19 : decode cX2_changeOfElevations 19 = .ok (.invokevirtual 76, 3) := by decide +kernel
theorem dX2_changeOfElevations_22 : decode cX2_changeOfElevations 22 = .ok (.iconst 1, 1) := by decide +kernel
theorem dX2_changeOfElevations_23 : decode cX2_changeOfElevations 23 = .ok (.if_icmp .ne 5, 3) := by decide +kernel
theorem dX2_changeOfElevations_26 : decode cX2_changeOfElevations 26 = .ok (.iload_n 3, 1) := by decide +kernel
theorem dX2_changeOfElevations_27 : decode cX2_changeOfElevations 27 = .ok (.istore_n 2, 1) := by decide +kernel
theorem dX2_changeOfElevations_28 : decode cX2_changeOfElevations 28 = .ok (.iinc 3 1, 3) := by decide +kernel
theorem dX2_changeOfElevations_31 : decode cX2_changeOfElevations 31 = .ok (.goto (-21), 3) := by decide +kernel
theorem dX2_changeOfElevations_34 : decode cX2_changeOfElevations 34 = .ok (.aload_n 0, 1) := by decide +kernel
theorem dX2_changeOfElevations_35 : decode cX2_changeOfElevations 35 = .ok (.iload_n 1, 1) := by decide +kernel
theorem dX2_changeOfElevations_36 : decode cX2_changeOfElevations 36 = .ok (.invokevirtual 115, 3) := by decide +kernel
theorem dX2_changeOfElevations_39 : decode cX2_changeOfElevations 39 = .ok (.aload_n 0, 1) := by decide +kernel
theorem dX2_changeOfElevations_40 : decode cX2_changeOfElevations 40 = .ok (.iload_n 2, 1) := by decide +kernel
theorem dX2_changeOfElevations_41 : decode cX2_changeOfElevations 41 = .ok (.invokevirtual 115, 3) := by decide +kernel
theorem dX2_changeOfElevations_44 : decode cX2_changeOfElevations 44 = .ok (.isub, 1) := by decide +kernel
theorem dX2_changeOfElevations_45 : decode cX2_changeOfElevations 45 = .ok (.ireturn, 1) := by decide +kernel
theorem dX2_differenceOfElevations_0 : decode cX2_differenceOfElevations 0 = .ok (.aload_n 0, 1) := by decide +kernel
theorem dX2_differenceOfElevations_1 : decode cX2_differenceOfElevations 1 = .ok (.getfield 12, 3) := by decide +kernel
theorem dX2_differenceOfElevations_4 : decode cX2_differenceOfElevations 4 = .ok (.invokevirtual 86, 3) := by decide +kernel
theorem dX2_differenceOfElevations_7 : decode cX2_differenceOfElevations 7 = .ok (.iload_n 1, 1) := by decide +kernel
theorem dX2_differenceOfElevations_8 : decode cX2_differenceOfElevations 8 = .ok (.invokevirtual 118, 3) := by decide +kernel
theorem dX2_differenceOfElevations_11 : decode cX2_differenceOfElevations 11 = .ok (.aload_n 0, 1) := by decide +kernel
theorem dX2_differenceOfElevations_12 : decode cX2_differenceOfElevations 12 = .ok (.getfield 12, 3) := by decide +kernel
theorem dX2_differenceOfElevations_15 : decode cX2_differenceOfElevations 15 = .ok (.invokevirtual 95, 3) := by decide +kernel
theorem dX2_differenceOfElevations_18 : decode cX2_differenceOfElevations 18 = .ok (.aload_n 0, 1) := by decide +kernel
theorem dX2_differenceOfElevations_19 : decode cX2_differenceOfElevations 19 = .ok (.iconst 0, 1) := by decide +kernel
theorem dX2_differenceOfElevations_20 : decode cX2_differenceOfElevations 20 = .ok (.iload_n 1, 1) := by decide +kernel
theorem dX2_differenceOfElevations_21 : decode cX2_differenceOfElevations 21 = .ok (.invokevirtual 98, 3) := by decide +kernel
theorem dX2_differenceOfElevations_24 : decode cX2_differenceOfElevations 24 = .ok (.invokevirtual 118, 3) := by decide +kernel
theorem dX2_differenceOfElevations_27 : decode cX2_differenceOfElevations 27 = .ok (.isub, 1) := by decide +kernel
theorem dX2_differenceOfElevations_28 : decode cX2_differenceOfElevations 28 = .ok (.ireturn, 1) := by decide +kernel
theorem dX3_init_0 : decode cX3_init 0 = .ok (.aload_n 0, 1) := by decide +kernel
theorem dX3_init_1 : decode cX3_init 1 = .ok (.invokespecial 3, 3) := by decide +kernel
theorem dX3_init_4 : decode cX3_init 4 = .ok (.aload_n 0, 1) := by decide +kernel
theorem dX3_init_5 : decode cX3_init 5 = .ok (.new 9, 3) := by decide +kernel
theorem dX3_init_8 : decode cX3_init 8 = .ok (.dup, 1) := by decide +kernel
theorem dX3_init_9 : decode cX3_init 9 = .ok (.invokespecial 11, 3) := by decide +kernel
theorem dX3_init_12 : decode cX3_init 12 = .ok (.putfield 12, 3) := by decide +kernel
theorem dX3_init_15 : decode cX3_init 15 = .ok (.aload_n 0, 1) := by decide +kernel
theorem dX3_init_16 : decode cX3_init 16 = .ok (.new 9, 3) := by decide +kernel
theorem dX3_init_19 : decode cX3_init 19 = .ok (.dup, 1) := by decide +kernel
theorem dX3_init_20 : decode cX3_init 20 = .ok (.invokespecial 11, 3) := by decide +kernel
theorem dX3_init_23 : decode cX3_init 23 = .ok (.putfield 18, 3) := by decide +kernel
theorem dX3_init_26 : decode cX3_init 26 = .ok (.aload_n 0, 1) := by decide +kernel
theorem dX3_init_27 : decode cX3_init 27 = .ok (.bipush 26, 2) := by decide +kernel
theorem dX3_init_29 : decode cX3_init 29 = .ok (.newarray .int, 2) := by decide +kernel
theorem dX3_init_31 : decode cX3_init 31 = .ok (.putfield 21, 3) := by decide +kernel
theorem dX3_init_34 : decode cX3_init 34 = .ok (.aload_n 0, 1) := by decide +kernel
theorem dX3_init_35 : decode cX3_init 35 = .ok (.iconst 0, 1) := by decide +kernel
theorem dX3_init_36 : decode cX3_init 36 = .ok (.putfield 25, 3) := by decide +kernel
theorem dX3_init_39 : decode cX3_init 39 = .ok (.aload_n 0, 1) := by decide +kernel
theorem dX3_init_40 : decode cX3_init 40 = .ok (.iconst 0, 1) := by decide +kernel
theorem dX3_init_41 : decode cX3_init 41 = .ok (.putfield 29, 3) := by decide +kernel
theorem dX3_init_44 : decode cX3_init 44 = .ok (.aload_n 0, 1) := by decide +kernel
theorem dX3_init_45 : decode cX3_init 45 = .ok (.iconst 0, 1) := by decide +kernel
theorem dX3_init_46 : decode cX3_init 46 = .ok (.putfield 32, 3) := by decide +kernel
theorem dX3_init_49 : decode cX3_init 49 = .ok (.aload_n 0, 1) := by decide +kernel
theorem dX3_init_50 : decode cX3_init 50 = .ok (.sipush 625, 3) := by decide +kernel
theorem dX3_init_53 : decode cX3_init 53 = .ok (.newarray .int, 2) := by decide +kernel
theorem dX3_init_55 : decode cX3_init 55 = .ok (.putfield 35, 3) := by decide +kernel
theorem dX3_init_58 : decode cX3_init 58 = .ok (.return_, 1) := by decide +kernel
theorem dX3_take_0 : decode cX3_take 0 = .ok (.aload_n 0, 1) := by decide +kernel
theorem dX3_take_1 : decode cX3_take 1 = .ok (.getfield 12, 3) := by decide +kernel
theorem dX3_take_4 : decode cX3_take 4 = .ok (.aload_n 1, 1) := by decide +kernel
theorem dX3_take_5 : decode cX3_take 5 = .ok (.iload_n 2, 1) := by decide +kernel
theorem dX3_take_6 : decode cX3_take 6 = .ok (.invokevirtual 38, 3) := by decide +kernel
theorem dX3_take_9 : decode cX3_take 9 = .ok (.invokevirtual 44, 3) := by decide +kernel
theorem dX3_take_12 : decode cX3_take 12 = .ok (.aload_n 0, 1) := by decide +kernel
theorem dX3_take_13 : decode cX3_take 13 = .ok (.getfield 18, 3) := by decide +kernel
theorem dX3_take_16 : decode cX3_take 16 = .ok (.aload_n 1, 1) := by decide +kernel
theorem dX3_take_17 : decode cX3_take 17 = .ok (.iload_n 3, 1) := by decide +kernel
theorem dX3_take_18 : decode cX3_take 18 = .ok (.invokevirtual 38, 3) := by decide +kernel
theorem dX3_take_21 : decode cX3_take 21 = .ok (.invokevirtual 44, 3) := by decide +kernel
theorem dX3_take_24 : decode cX3_take 24 = .ok (.aload_n 1, 1) := by decide +kernel
theorem dX3_take_25 : decode cX3_take 25 = .ok (.iconst 0, 1) := by decide +kernel
theorem dX3_take_26 : decode cX3_take 26 = .ok (.invokevirtual 48, 3) := by decide +kernel
theorem dX3_take_29 : decode cX3_take 29 = .ok (.istore 4, 2) := by decide +kernel
theorem dX3_take_31 : decode cX3_take 31 = .ok (.iconst 0, 1) := by decide +kernel
theorem dX3_take_32 : decode cX3_take 32 = .ok (.istore 5, 2) := by decide +kernel
theorem dX3_take_34 : decode cX3_take 34 = .ok (.iload 5, 2) := by decide +kernel
theorem dX3_take_36 : decode cX3_take 36 = .ok (.bipush 26, 2) := by decide +kernel
theorem dX3_take_38 : decode cX3_take 38 = .ok (.if_icmp .ge 34, 3) := by decide +kernel
theorem dX3_take_41 : decode cX3_take 41 = .ok (.aload_n 0, 1) := by decide +kernel
theorem dX3_take_42 : decode cX3_take 42 = .ok (.getfield 21, 3) := by decide +kernel
theorem dX3_take_45 : decode cX3_take 45 = .ok (.iload 5, 2) := by decide +kernel
theorem dX3_take_47 : decode cX3_take 47 = .ok (.aload_n 1, 1) := by decide +kernel
theorem dX3_take_48 : decode cX3_take 48 = .ok (.iload 5, 2) := by decide +kernel
theorem dX3_take_50 : decode cX3_take 50 = .ok (.invokevirtual 52, 3) := by decide +kernel
theorem dX3_take_53 : decode cX3_take 53 = .ok (.ifCond .eq 10, 3) := by decide +kernel
theorem dX3_take_56 : decode cX3_take 56 = .ok (.iconst 3, 1) := by decide +kernel
theorem dX3_take_57 : decode cX3_take 57 = .ok (.iload 4, 2) := by decide +kernel
theorem dX3_take_59 : decode cX3_take 59 = .ok (.imul, 1) := by decide +kernel
theorem dX3_take_60 : decode cX3_take 60 = .ok (.goto 5, 3) := by decide +kernel
theorem dX3_take_63 : decode cX3_take 63 = .ok (.iload 4, 2) := by decide +kernel
theorem dX3_take_65 : decode cX3_take 65 = .ok (.iastore, 1) := by decide +kernel
theorem dX3_take_66 : decode cX3_take 66 = .ok (.iinc 5 1, 3) := by decide +kernel
theorem dX3_take_69 : decode cX3_take 69 = .ok (.goto (-35), 3) := by decide +kernel
theorem dX3_take_72 : decode cX3_take 72 = .ok (.aload_n 0, 1) := by decide +kernel
theorem dX3_take_73 : decode cX3_take 73 = .ok (.aload_n 1, 1) := by decide +kernel
theorem dX3_take_74 : decode cX3_take 74 = .ok (.iconst 1, 1) := by decide +kernel
theorem dX3_take_75 : decode cX3_take 75 = .ok (.invokevirtual 48, 3) := by decide +kernel
theorem dX3_take_78 : decode cX3_take 78 = .ok (.putfield 25, 3) := by decide +kernel
theorem dX3_take_81 : decode cX3_take 81 = .ok (.aload_n 0, 1) := by decide +kernel
theorem dX3_take_82 : decode cX3_take 82 = .ok (.aload_n 1, 1) := by decide +kernel
theorem dX3_take_83 : decode cX3_take 83 = .ok (.iconst 2, 1) := by decide +kernel
theorem dX3_take_84 : decode cX3_take 84 = .ok (.invokevirtual 48, 3) := by decide +kernel
theorem dX3_take_87 : decode cX3_take 87 = .ok (.putfield 29, 3) := by decide +kernel
theorem dX3_take_90 : decode cX3_take 90 = .ok (.aload_n 0, 1) := by decide +kernel
theorem dX3_take_91 : decode cX3_take 91 = .ok (.aload_n 1, 1) := by decide +kernel
theorem dX3_take_92 : decode cX3_take 92 = .ok (.iconst 3, 1) := by decide +kernel
theorem dX3_take_93 : decode cX3_take 93 = .ok (.invokevirtual 48, 3) := by decide +kernel
theorem dX3_take_96 : decode cX3_take 96 = .ok (.putfield 32, 3) := by decide +kernel
theorem dX3_take_99 : decode cX3_take 99 = .ok (.return_, 1) := by decide +kernel
theorem dX3_columnA_0 : decode cX3_columnA 0 = .ok (.aload_n 0, 1) := by decide +kernel
theorem dX3_columnA_1 : decode cX3_columnA 1 = .ok (.getfield 12, 3) := by decide +kernel
theorem dX3_columnA_4 : decode cX3_columnA 4 = .ok (.areturn, 1) := by decide +kernel
theorem dX3_columnB_0 : decode cX3_columnB 0 = .ok (.aload_n 0, 1) := by decide +kernel
theorem dX3_columnB_1 : decode cX3_columnB 1 = .ok (.getfield 18, 3) := by decide +kernel
theorem dX3_columnB_4 : decode cX3_columnB 4 = .ok (.areturn, 1) := by decide +kernel
theorem dX3_repeatedBed_0 : decode cX3_repeatedBed 0 = .ok (.aload_n 0, 1) := by decide +kernel
theorem dX3_repeatedBed_1 : decode cX3_repeatedBed 1 = .ok (.getfield 18, 3) := by decide +kernel
theorem dX3_repeatedBed_4 : decode cX3_repeatedBed 4 = .ok (.iload_n 2, 1) := by decide +kernel
theorem dX3_repeatedBed_5 : decode cX3_repeatedBed 5 = .ok (.invokevirtual 56, 3) := by decide +kernel
theorem dX3_repeatedBed_8 : decode cX3_repeatedBed 8 = .ok (.ifCond .ne 6, 3) := by decide +kernel
theorem dX3_repeatedBed_11 : decode cX3_repeatedBed 11 = .ok (.ldc 59, 2) := by decide +kernel
theorem dX3_repeatedBed_13 : decode cX3_repeatedBed 13 = .ok (.ireturn, 1) := by decide +kernel
theorem dX3_repeatedBed_14 : decode cX3_repeatedBed 14 = .ok (.aload_n 0, 1) := by decide +kernel
theorem dX3_repeatedBed_15 : decode cX3_repeatedBed 15 = .ok (.getfield 18, 3) := by decide +kernel
theorem dX3_repeatedBed_18 : decode cX3_repeatedBed 18 = .ok (.iload_n 2, 1) := by decide +kernel
theorem dX3_repeatedBed_19 : decode cX3_repeatedBed 19 = .ok (.invokevirtual 60, 3) := by decide +kernel
theorem dX3_repeatedBed_22 : decode cX3_repeatedBed 22 = .ok (.istore_n 3, 1) := by decide +kernel
theorem dX3_repeatedBed_23 : decode cX3_repeatedBed 23 = .ok (.iload_n 1, 1) := by decide +kernel
theorem dX3_repeatedBed_24 : decode cX3_repeatedBed 24 = .ok (.iconst 1, 1) := by decide +kernel
theorem dX3_repeatedBed_25 : decode cX3_repeatedBed 25 = .ok (.isub, 1) := by decide +kernel
theorem dX3_repeatedBed_26 : decode cX3_repeatedBed 26 = .ok (.istore 4, 2) := by decide +kernel
theorem dX3_repeatedBed_28 : decode cX3_repeatedBed 28 = .ok (.iload 4, 2) := by decide +kernel
theorem dX3_repeatedBed_30 : decode cX3_repeatedBed 30 = .ok (.ifCond .lt 36, 3) := by decide +kernel
theorem dX3_repeatedBed_33 : decode cX3_repeatedBed 33 = .ok (.iload 4, 2) := by decide +kernel
theorem dX3_repeatedBed_35 : decode cX3_repeatedBed 35 = .ok (.iload_n 1, 1) := by decide +kernel
theorem dX3_repeatedBed_36 : decode cX3_repeatedBed 36 = .ok (.aload_n 0, 1) := by decide +kernel
theorem dX3_repeatedBed_37 : decode cX3_repeatedBed 37 = .ok (.getfield 32, 3) := by decide +kernel
theorem dX3_repeatedBed_40 : decode cX3_repeatedBed 40 = .ok (.isub, 1) := by decide +kernel
theorem dX3_repeatedBed_41 : decode cX3_repeatedBed 41 = .ok (.if_icmp .lt 25, 3) := by decide +kernel
theorem dX3_repeatedBed_44 : decode cX3_repeatedBed 44 = .ok (.aload_n 0, 1) := by decide +kernel
theorem dX3_repeatedBed_45 : decode cX3_repeatedBed 45 = .ok (.getfield 12, 3) := by decide +kernel
theorem dX3_repeatedBed_48 : decode cX3_repeatedBed 48 = .ok (.iload 4, 2) := by decide +kernel
theorem dX3_repeatedBed_50 : decode cX3_repeatedBed 50 = .ok (.invokevirtual 60, 3) := by decide +kernel
theorem dX3_repeatedBed_53 : decode cX3_repeatedBed 53 = .ok (.iload_n 3, 1) := by decide +kernel
theorem dX3_repeatedBed_54 : decode cX3_repeatedBed 54 = .ok (.if_icmp .ne 6, 3) := by decide +kernel
theorem dX3_repeatedBed_57 : decode cX3_repeatedBed 57 = .ok (.iload 4, 2) := by decide +kernel
theorem dX3_repeatedBed_59 : decode cX3_repeatedBed 59 = .ok (.ireturn, 1) := by decide +kernel
theorem dX3_repeatedBed_60 : decode cX3_repeatedBed 60 = .ok (.iinc 4 (-1), 3) := by decide +kernel
theorem dX3_repeatedBed_63 : decode cX3_repeatedBed 63 = .ok (.goto (-35), 3) := by decide +kernel
theorem dX3_repeatedBed_66 : decode cX3_repeatedBed 66 = .ok (.ldc 59, 2) := by decide +kernel
theorem dX3_repeatedBed_68 : decode cX3_repeatedBed 68 = .ok (.ireturn, 1) := by decide +kernel
theorem dX3_stepCost_0 : decode cX3_stepCost 0 = .ok (.iload_n 1, 1) := by decide +kernel
theorem dX3_stepCost_1 : decode cX3_stepCost 1 = .ok (.tableswitch 126 1 3 #[27, 80, 93], 27) := by decide +kernel
theorem dX3_stepCost_28 : decode cX3_stepCost 28 = .ok (.aload_n 0, 1) := by decide +kernel
theorem dX3_stepCost_29 : decode cX3_stepCost 29 = .ok (.getfield 12, 3) := by decide +kernel
theorem dX3_stepCost_32 : decode cX3_stepCost 32 = .ok (.iload_n 2, 1) := by decide +kernel
theorem dX3_stepCost_33 : decode cX3_stepCost 33 = .ok (.invokevirtual 56, 3) := by decide +kernel
theorem dX3_stepCost_36 : decode cX3_stepCost 36 = .ok (.ifCond .eq 42, 3) := by decide +kernel
theorem dX3_stepCost_39 : decode cX3_stepCost 39 = .ok (.aload_n 0, 1) := by decide +kernel
theorem dX3_stepCost_40 : decode cX3_stepCost 40 = .ok (.getfield 18, 3) := by decide +kernel
theorem dX3_stepCost_43 : decode cX3_stepCost 43 = .ok (.iload_n 3, 1) := by decide +kernel
theorem dX3_stepCost_44 : decode cX3_stepCost 44 = .ok (.invokevirtual 56, 3) := by decide +kernel
theorem dX3_stepCost_47 : decode cX3_stepCost 47 = .ok (.ifCond .eq 31, 3) := by decide +kernel
theorem dX3_stepCost_50 : decode cX3_stepCost 50 = .ok (.aload_n 0, 1) := by decide +kernel
theorem dX3_stepCost_51 : decode cX3_stepCost 51 = .ok (.getfield 12, 3) := by decide +kernel
theorem dX3_stepCost_54 : decode cX3_stepCost 54 = .ok (.iload_n 2, 1) := by decide +kernel
theorem dX3_stepCost_55 : decode cX3_stepCost 55 = .ok (.invokevirtual 60, 3) := by decide +kernel
theorem dX3_stepCost_58 : decode cX3_stepCost 58 = .ok (.aload_n 0, 1) := by decide +kernel
theorem dX3_stepCost_59 : decode cX3_stepCost 59 = .ok (.getfield 18, 3) := by decide +kernel
theorem dX3_stepCost_62 : decode cX3_stepCost 62 = .ok (.iload_n 3, 1) := by decide +kernel
theorem dX3_stepCost_63 : decode cX3_stepCost 63 = .ok (.invokevirtual 60, 3) := by decide +kernel
theorem dX3_stepCost_66 : decode cX3_stepCost 66 = .ok (.if_icmp .ne 12, 3) := by decide +kernel
theorem dX3_stepCost_69 : decode cX3_stepCost 69 = .ok (.aload_n 0, 1) := by decide +kernel
theorem dX3_stepCost_70 : decode cX3_stepCost 70 = .ok (.iload_n 2, 1) := by decide +kernel
theorem dX3_stepCost_71 : decode cX3_stepCost 71 = .ok (.iload_n 3, 1) := by decide +kernel
theorem dX3_stepCost_72 : decode cX3_stepCost 72 = .ok (.invokevirtual 63, 3) := by decide +kernel
theorem dX3_stepCost_75 : decode cX3_stepCost 75 = .ok (.goto 5, 3) := by decide +kernel
theorem dX3_stepCost_78 : decode cX3_stepCost 78 = .ok (.ldc 67, 2) := by decide +kernel
theorem dX3_stepCost_80 : decode cX3_stepCost 80 = .ok (.ireturn, 1) := by decide +kernel
theorem dX3_stepCost_81 : decode cX3_stepCost 81 = .ok (.aload_n 0, 1) := by decide +kernel
theorem dX3_stepCost_82 : decode cX3_stepCost 82 = .ok (.aload_n 0, 1) := by decide +kernel
theorem dX3_stepCost_83 : decode cX3_stepCost 83 = .ok (.getfield 12, 3) := by decide +kernel
theorem dX3_stepCost_86 : decode cX3_stepCost 86 = .ok (.iload_n 2, 1) := by decide +kernel
theorem dX3_stepCost_87 : decode cX3_stepCost 87 = .ok (.invokevirtual 60, 3) := by decide +kernel
theorem dX3_stepCost_90 : decode cX3_stepCost 90 = .ok (.invokevirtual 68, 3) := by decide +kernel
theorem dX3_stepCost_93 : decode cX3_stepCost 93 = .ok (.ireturn, 1) := by decide +kernel
theorem dX3_stepCost_94 : decode cX3_stepCost 94 = .ok (.aload_n 0, 1) := by decide +kernel
theorem dX3_stepCost_95 : decode cX3_stepCost 95 = .ok (.iload_n 2, 1) := by decide +kernel
theorem dX3_stepCost_96 : decode cX3_stepCost 96 = .ok (.iload_n 3, 1) := by decide +kernel
theorem dX3_stepCost_97 : decode cX3_stepCost 97 = .ok (.invokevirtual 71, 3) := by decide +kernel
theorem dX3_stepCost_100 : decode cX3_stepCost 100 = .ok (.istore 4, 2) := by decide +kernel
theorem dX3_stepCost_102 : decode cX3_stepCost 102 = .ok (.iload 4, 2) := by decide +kernel
theorem dX3_stepCost_104 : decode cX3_stepCost 104 = .ok (.ldc 59, 2) := by decide +kernel
theorem dX3_stepCost_106 : decode cX3_stepCost 106 = .ok (.if_icmp .ne 8, 3) := by decide +kernel
theorem dX3_stepCost_109 : decode cX3_stepCost 109 = .ok (.ldc 67, 2) := by decide +kernel
theorem dX3_stepCost_111 : decode cX3_stepCost 111 = .ok (.goto 15, 3) := by decide +kernel
theorem dX3_stepCost_114 : decode cX3_stepCost 114 = .ok (.aload_n 0, 1) := by decide +kernel
theorem dX3_stepCost_115 : decode cX3_stepCost 115 = .ok (.getfield 25, 3) := by decide +kernel
theorem dX3_stepCost_118 : decode cX3_stepCost 118 = .ok (.aload_n 0, 1) := by decide +kernel
theorem dX3_stepCost_119 : decode cX3_stepCost 119 = .ok (.iload 4, 2) := by decide +kernel
theorem dX3_stepCost_121 : decode cX3_stepCost 121 = .ok (.iload_n 3, 1) := by decide +kernel
theorem dX3_stepCost_122 : decode cX3_stepCost 122 = .ok (.invokevirtual 63, 3) := by decide +kernel
theorem dX3_stepCost_125 : decode cX3_stepCost 125 = .ok (.iadd, 1) := by decide +kernel
theorem dX3_stepCost_126 : decode cX3_stepCost 126 = .ok (.ireturn, 1) := by decide +kernel
theorem dX3_stepCost_127 : decode cX3_stepCost 127 = .ok (.aload_n 0, 1) := by decide +kernel
theorem dX3_stepCost_128 : decode cX3_stepCost 128 = .ok (.aload_n 0, 1) := by decide +kernel
theorem dX3_stepCost_129 : decode cX3_stepCost 129 = .ok (.getfield 18, 3) := by decide +kernel
theorem dX3_stepCost_132 : decode cX3_stepCost 132 = .ok (.iload_n 3, 1) := by decide +kernel
theorem dX3_stepCost_133 : decode cX3_stepCost 133 = .ok (.invokevirtual 60, 3) := by decide +kernel
theorem dX3_stepCost_136 : decode cX3_stepCost 136 = .ok (.invokevirtual 68, 3) := by decide +kernel
theorem dX3_stepCost_139 : decode cX3_stepCost 139 = .ok (.ireturn, 1) := by decide +kernel
theorem dX3_missingCostOf_0 : decode cX3_missingCostOf 0 = .ok (.iload_n 1, 1) := by decide +kernel
theorem dX3_missingCostOf_1 : decode cX3_missingCostOf 1 = .ok (.invokestatic 74, 3) := by decide +kernel
theorem dX3_missingCostOf_4 : decode cX3_missingCostOf 4 = .ok (.ifCond .eq 12, 3) := by decide +kernel
theorem dX3_missingCostOf_7 : decode cX3_missingCostOf 7 = .ok (.aload_n 0, 1) := by decide +kernel
theorem dX3_missingCostOf_8 : decode cX3_missingCostOf 8 = .ok (.getfield 21, 3) := by decide +kernel
theorem dX3_missingCostOf_11 : decode cX3_missingCostOf 11 = .ok (.iload_n 1, 1) := by decide +kernel
theorem dX3_missingCostOf_12 : decode cX3_missingCostOf 12 = .ok (.iaload, 1) := by decide +kernel
theorem dX3_missingCostOf_13 : decode cX3_missingCostOf 13 = .ok (.goto 5, 3) := by decide +kernel
theorem dX3_missingCostOf_16 : decode cX3_missingCostOf 16 = .ok (.ldc 67, 2) := by decide +kernel
theorem dX3_missingCostOf_18 : decode cX3_missingCostOf 18 = .ok (.ireturn, 1) := by decide +kernel
theorem dX3_costOfDifference_0 : decode cX3_costOfDifference 0 = .ok (.aload_n 0, 1) := by decide +kernel
theorem dX3_costOfDifference_1 : decode cX3_costOfDifference 1 = .ok (.getfield 29, 3) := by decide +kernel
theorem dX3_costOfDifference_4 : decode cX3_costOfDifference 4 = .ok (.aload_n 0, 1) := by decide +kernel
theorem dX3_costOfDifference_5 : decode cX3_costOfDifference 5 = .ok (.getfield 12, 3) := by decide +kernel
theorem dX3_costOfDifference_8 : decode cX3_costOfDifference 8 = .ok (.iload_n 1, 1) := by decide +kernel
theorem dX3_costOfDifference_9 : decode cX3_costOfDifference 9 = .ok (.invokevirtual 77, 3) := by decide +kernel
theorem dX3_costOfDifference_12 : decode cX3_costOfDifference 12 = .ok (.aload_n 0, 1) := by decide +kernel
theorem dX3_costOfDifference_13 : decode cX3_costOfDifference 13 = .ok (.getfield 18, 3) := by decide +kernel
theorem dX3_costOfDifference_16 : decode cX3_costOfDifference 16 = .ok (.iload_n 2, 1) := by decide +kernel
theorem dX3_costOfDifference_17 : decode cX3_costOfDifference 17 = .ok (.invokevirtual 77, 3) := by decide +kernel
theorem dX3_costOfDifference_20 : decode cX3_costOfDifference 20 = .ok (.isub, 1) := by decide +kernel
theorem dX3_costOfDifference_21 : decode cX3_costOfDifference 21 = .ok (.invokestatic 80, 3) := by decide +kernel
theorem dX3_costOfDifference_24 : decode cX3_costOfDifference 24 = .ok (.imul, 1) := by decide +kernel
theorem dX3_costOfDifference_25 : decode cX3_costOfDifference 25 = .ok (.ireturn, 1) := by decide +kernel
theorem dX3_nextOfA_0 : decode cX3_nextOfA 0 = .ok (.iload_n 0, 1) := by decide +kernel
theorem dX3_nextOfA_1 : decode cX3_nextOfA 1 = .ok (.iconst 1, 1) := by decide +kernel
theorem dX3_nextOfA_2 : decode cX3_nextOfA 2 = .ok (.if_icmp .eq 8, 3) := by decide +kernel
theorem dX3_nextOfA_5 : decode cX3_nextOfA 5 = .ok (.iload_n 0, 1) := by decide +kernel
theorem dX3_nextOfA_6 : decode cX3_nextOfA 6 = .ok (.iconst 2, 1) := by decide +kernel
theorem dX3_nextOfA_7 : decode cX3_nextOfA 7 = .ok (.if_icmp .ne 9, 3) := by decide +kernel
theorem dX3_nextOfA_10 : decode cX3_nextOfA 10 = .ok (.iload_n 1, 1) := by decide +kernel
theorem dX3_nextOfA_11 : decode cX3_nextOfA 11 = .ok (.iconst 1, 1) := by decide +kernel
theorem dX3_nextOfA_12 : decode cX3_nextOfA 12 = .ok (.iadd, 1) := by decide +kernel
theorem dX3_nextOfA_13 : decode cX3_nextOfA 13 = .ok (.goto 4, 3) := by decide +kernel
theorem dX3_nextOfA_16 : decode cX3_nextOfA 16 = .ok (.iload_n 1, 1) := by decide +kernel
theorem dX3_nextOfA_17 : decode cX3_nextOfA 17 = .ok (.ireturn, 1) := by decide +kernel
theorem dX3_nextOfB_0 : decode cX3_nextOfB 0 = .ok (.iload_n 0, 1) := by decide +kernel
theorem dX3_nextOfB_1 : decode cX3_nextOfB 1 = .ok (.iconst 2, 1) := by decide +kernel
theorem dX3_nextOfB_2 : decode cX3_nextOfB 2 = .ok (.if_icmp .ne 7, 3) := by decide +kernel
theorem dX3_nextOfB_5 : decode cX3_nextOfB 5 = .ok (.iload_n 1, 1) := by decide +kernel
theorem dX3_nextOfB_6 : decode cX3_nextOfB 6 = .ok (.goto 6, 3) := by decide +kernel
theorem dX3_nextOfB_9 : decode cX3_nextOfB 9 = .ok (.iload_n 1, 1) := by decide +kernel
theorem dX3_nextOfB_10 : decode cX3_nextOfB 10 = .ok (.iconst 1, 1) := by decide +kernel
theorem dX3_nextOfB_11 : decode cX3_nextOfB 11 = .ok (.iadd, 1) := by decide +kernel
theorem dX3_nextOfB_12 : decode cX3_nextOfB 12 = .ok (.ireturn, 1) := by decide +kernel
theorem dX3_leastAt_0 : decode cX3_leastAt 0 = .ok (.iload_n 1, 1) := by decide +kernel
theorem dX3_leastAt_1 : decode cX3_leastAt 1 = .ok (.ifCond .lt 33, 3) := by decide +kernel
theorem dX3_leastAt_4 : decode cX3_leastAt 4 = .ok (.iload_n 1, 1) := by decide +kernel
theorem dX3_leastAt_5 : decode cX3_leastAt 5 = .ok (.bipush 25, 2) := by decide +kernel
theorem dX3_leastAt_7 : decode cX3_leastAt 7 = .ok (.if_icmp .ge 27, 3) := by decide +kernel
theorem dX3_leastAt_10 : decode cX3_leastAt 10 = .ok (.iload_n 2, 1) := by decide +kernel
theorem dX3_leastAt_11 : decode cX3_leastAt 11 = .ok (.ifCond .lt 23, 3) := by decide +kernel
theorem dX3_leastAt_14 : decode cX3_leastAt 14 = .ok (.iload_n 2, 1) := by decide +kernel
theorem dX3_leastAt_15 : decode cX3_leastAt 15 = .ok (.bipush 25, 2) := by decide +kernel
theorem dX3_leastAt_17 : decode cX3_leastAt 17 = .ok (.if_icmp .ge 17, 3) := by decide +kernel
theorem dX3_leastAt_20 : decode cX3_leastAt 20 = .ok (.aload_n 0, 1) := by decide +kernel
theorem dX3_leastAt_21 : decode cX3_leastAt 21 = .ok (.getfield 35, 3) := by decide +kernel
theorem dX3_leastAt_24 : decode cX3_leastAt 24 = .ok (.iload_n 1, 1) := by decide +kernel
theorem dX3_leastAt_25 : decode cX3_leastAt 25 = .ok (.bipush 25, 2) := by decide +kernel
theorem dX3_leastAt_27 : decode cX3_leastAt 27 = .ok (.imul, 1) := by decide +kernel
theorem dX3_leastAt_28 : decode cX3_leastAt 28 = .ok (.iload_n 2, 1) := by decide +kernel
theorem dX3_leastAt_29 : decode cX3_leastAt 29 = .ok (.iadd, 1) := by decide +kernel
theorem dX3_leastAt_30 : decode cX3_leastAt 30 = .ok (.iaload, 1) := by decide +kernel
theorem dX3_leastAt_31 : decode cX3_leastAt 31 = .ok (.goto 5, 3) := by decide +kernel
theorem dX3_leastAt_34 : decode cX3_leastAt 34 = .ok (.ldc 67, 2) := by decide +kernel
theorem dX3_leastAt_36 : decode cX3_leastAt 36 = .ok (.ireturn, 1) := by decide +kernel
theorem dX3_putLeast_0 : decode cX3_putLeast 0 = .ok (.iload_n 1, 1) := by decide +kernel
theorem dX3_putLeast_1 : decode cX3_putLeast 1 = .ok (.ifCond .lt 31, 3) := by decide +kernel
theorem dX3_putLeast_4 : decode cX3_putLeast 4 = .ok (.iload_n 1, 1) := by decide +kernel
theorem dX3_putLeast_5 : decode cX3_putLeast 5 = .ok (.bipush 25, 2) := by decide +kernel
theorem dX3_putLeast_7 : decode cX3_putLeast 7 = .ok (.if_icmp .ge 25, 3) := by decide +kernel
theorem dX3_putLeast_10 : decode cX3_putLeast 10 = .ok (.iload_n 2, 1) := by decide +kernel
theorem dX3_putLeast_11 : decode cX3_putLeast 11 = .ok (.ifCond .lt 21, 3) := by decide +kernel
theorem dX3_putLeast_14 : decode cX3_putLeast 14 = .ok (.iload_n 2, 1) := by decide +kernel
theorem dX3_putLeast_15 : decode cX3_putLeast 15 = .ok (.bipush 25, 2) := by decide +kernel
theorem dX3_putLeast_17 : decode cX3_putLeast 17 = .ok (.if_icmp .ge 15, 3) := by decide +kernel
theorem dX3_putLeast_20 : decode cX3_putLeast 20 = .ok (.aload_n 0, 1) := by decide +kernel
theorem dX3_putLeast_21 : decode cX3_putLeast 21 = .ok (.getfield 35, 3) := by decide +kernel
theorem dX3_putLeast_24 : decode cX3_putLeast 24 = .ok (.iload_n 1, 1) := by decide +kernel
theorem dX3_putLeast_25 : decode cX3_putLeast 25 = .ok (.bipush 25, 2) := by decide +kernel
theorem dX3_putLeast_27 : decode cX3_putLeast 27 = .ok (.imul, 1) := by decide +kernel
theorem dX3_putLeast_28 : decode cX3_putLeast 28 = .ok (.iload_n 2, 1) := by decide +kernel
theorem dX3_putLeast_29 : decode cX3_putLeast 29 = .ok (.iadd, 1) := by decide +kernel
theorem dX3_putLeast_30 : decode cX3_putLeast 30 = .ok (.iload_n 3, 1) := by decide +kernel
theorem dX3_putLeast_31 : decode cX3_putLeast 31 = .ok (.iastore, 1) := by decide +kernel
theorem dX3_putLeast_32 : decode cX3_putLeast 32 = .ok (.return_, 1) := by decide +kernel
theorem dX3_leastAfter_0 : decode cX3_leastAfter 0 = .ok (.aload_n 0, 1) := by decide +kernel
theorem dX3_leastAfter_1 : decode cX3_leastAfter 1 = .ok (.iload_n 1, 1) := by decide +kernel
theorem dX3_leastAfter_2 : decode cX3_leastAfter 2 = .ok (.iload_n 2, 1) := by decide +kernel
theorem dX3_leastAfter_3 : decode cX3_leastAfter 3 = .ok (.invokestatic 85, 3) := by decide +kernel
theorem dX3_leastAfter_6 : decode cX3_leastAfter 6 = .ok (.iload_n 1, 1) := by decide +kernel
theorem dX3_leastAfter_7 : decode cX3_leastAfter 7 = .ok (.iload_n 3, 1) := by decide +kernel
theorem dX3_leastAfter_8 : decode cX3_leastAfter 8 = .ok (.invokestatic 88, 3) := by decide +kernel
theorem dX3_leastAfter_11 : decode cX3_leastAfter 11 = .ok (.invokevirtual 91, 3) := by decide +kernel
theorem dX3_leastAfter_14 : decode cX3_leastAfter 14 = .ok (.ireturn, 1) := by decide +kernel
theorem dX3_costFromBottom_0 : decode cX3_costFromBottom 0 = .ok (.aload_n 0, 1) := by decide +kernel
theorem dX3_costFromBottom_1 : decode cX3_costFromBottom 1 = .ok (.getfield 12, 3) := by decide +kernel
theorem dX3_costFromBottom_4 : decode cX3_costFromBottom 4 = .ok (.invokevirtual 94, 3) := by decide +kernel
theorem dX3_costFromBottom_7 : decode cX3_costFromBottom 7 = .ok (.istore_n 1, 1) := by decide +kernel
theorem dX3_costFromBottom_8 : decode cX3_costFromBottom 8 = .ok (.iload_n 1, 1) := by decide +kernel
theorem dX3_costFromBottom_9 : decode cX3_costFromBottom 9 = .ok (.ifCond .lt 100, 3) := by decide +kernel
theorem dX3_costFromBottom_12 : decode cX3_costFromBottom 12 = .ok (.aload_n 0, 1) := by decide +kernel
theorem dX3_costFromBottom_13 : decode cX3_costFromBottom 13 = .ok (.getfield 18, 3) := by decide +kernel
theorem dX3_costFromBottom_16 : decode cX3_costFromBottom 16 = .ok (.invokevirtual 94, 3) := by decide +kernel
theorem dX3_costFromBottom_19 : decode cX3_costFromBottom 19 = .ok (.istore_n 2, 1) := by decide +kernel
theorem dX3_costFromBottom_20 : decode cX3_costFromBottom 20 = .ok (.iload_n 2, 1) := by decide +kernel
theorem dX3_costFromBottom_21 : decode cX3_costFromBottom 21 = .ok (.ifCond .lt 82, 3) := by decide +kernel
theorem dX3_costFromBottom_24 : decode cX3_costFromBottom 24 = .ok (.iload_n 1, 1) := by decide +kernel
theorem dX3_costFromBottom_25 : decode cX3_costFromBottom 25 = .ok (.aload_n 0, 1) := by decide +kernel
theorem dX3_costFromBottom_26 : decode cX3_costFromBottom 26 = .ok (.getfield 12, 3) := by decide +kernel
theorem dX3_costFromBottom_29 : decode cX3_costFromBottom 29 = .ok (.invokevirtual 94, 3) := by decide +kernel
theorem dX3_costFromBottom_32 : decode cX3_costFromBottom 32 = .ok (.if_icmp .ne 18, 3) := by decide +kernel
theorem dX3_costFromBottom_35 : decode cX3_costFromBottom 35 = .ok (.iload_n 2, 1) := by decide +kernel
theorem dX3_costFromBottom_36 : decode cX3_costFromBottom 36 = .ok (.aload_n 0, 1) := by decide +kernel
theorem dX3_costFromBottom_37 : decode cX3_costFromBottom 37 = .ok (.getfield 18, 3) := by decide +kernel
theorem dX3_costFromBottom_40 : decode cX3_costFromBottom 40 = .ok (.invokevirtual 94, 3) := by decide +kernel
theorem dX3_costFromBottom_43 : decode cX3_costFromBottom 43 = .ok (.if_icmp .ne 7, 3) := by decide +kernel
theorem dX3_costFromBottom_46 : decode cX3_costFromBottom 46 = .ok (.iconst 0, 1) := by decide +kernel
theorem dX3_costFromBottom_47 : decode cX3_costFromBottom 47 = .ok (.goto 5, 3) := by decide +kernel
theorem dX3_costFromBottom_50 : decode cX3_costFromBottom 50 = .ok (.ldc 67, 2) := by decide +kernel
theorem dX3_costFromBottom_52 : decode cX3_costFromBottom 52 = .ok (.istore_n 3, 1) := by decide +kernel
theorem dX3_costFromBottom_53 : decode cX3_costFromBottom 53 = .ok (.iconst 1, 1) := by decide +kernel
theorem dX3_costFromBottom_54 : decode cX3_costFromBottom 54 = .ok (.istore 4, 2) := by decide +kernel
theorem dX3_costFromBottom_56 : decode cX3_costFromBottom 56 = .ok (.iload 4, 2) := by decide +kernel
theorem dX3_costFromBottom_58 : decode cX3_costFromBottom 58 = .ok (.iconst 4, 1) := by decide +kernel
theorem dX3_costFromBottom_59 : decode cX3_costFromBottom 59 = .ok (.if_icmp .gt 31, 3) := by decide +kernel
theorem dX3_costFromBottom_62 : decode cX3_costFromBottom 62 = .ok (.iload_n 3, 1) := by decide +kernel
theorem dX3_costFromBottom_63 : decode cX3_costFromBottom 63 = .ok (.aload_n 0, 1) := by decide +kernel
theorem dX3_costFromBottom_64 : decode cX3_costFromBottom 64 = .ok (.iload 4, 2) := by decide +kernel
theorem dX3_costFromBottom_66 : decode cX3_costFromBottom 66 = .ok (.iload_n 1, 1) := by decide +kernel
theorem dX3_costFromBottom_67 : decode cX3_costFromBottom 67 = .ok (.iload_n 2, 1) := by decide +kernel
theorem dX3_costFromBottom_68 : decode cX3_costFromBottom 68 = .ok (.invokevirtual 98, 3) := by decide +kernel
theorem dX3_costFromBottom_71 : decode cX3_costFromBottom 71 = .ok (.aload_n 0, 1) := by decide +kernel
theorem dX3_costFromBottom_72 : decode cX3_costFromBottom 72 = .ok (.iload 4, 2) := by decide +kernel
theorem dX3_costFromBottom_74 : decode cX3_costFromBottom 74 = .ok (.iload_n 1, 1) := by decide +kernel
theorem dX3_costFromBottom_75 : decode cX3_costFromBottom 75 = .ok (.iload_n 2, 1) := by decide +kernel
theorem dX3_costFromBottom_76 : decode cX3_costFromBottom 76 = .ok (.invokevirtual 102, 3) := by decide +kernel
theorem dX3_costFromBottom_79 : decode cX3_costFromBottom 79 = .ok (.iadd, 1) := by decide +kernel
theorem dX3_costFromBottom_80 : decode cX3_costFromBottom 80 = .ok (.invokestatic 105, 3) := by decide +kernel
theorem dX3_costFromBottom_83 : decode cX3_costFromBottom 83 = .ok (.istore_n 3, 1) := by decide +kernel
theorem dX3_costFromBottom_84 : decode cX3_costFromBottom 84 = .ok (.iinc 4 1, 3) := by decide +kernel
theorem dX3_costFromBottom_87 : decode cX3_costFromBottom 87 = .ok (.goto (-31), 3) := by decide +kernel
theorem dX3_costFromBottom_90 : decode cX3_costFromBottom 90 = .ok (.aload_n 0, 1) := by decide +kernel
theorem dX3_costFromBottom_91 : decode cX3_costFromBottom 91 = .ok (.iload_n 1, 1) := by decide +kernel
theorem dX3_costFromBottom_92 : decode cX3_costFromBottom 92 = .ok (.iload_n 2, 1) := by decide +kernel
theorem dX3_costFromBottom_93 : decode cX3_costFromBottom 93 = .ok (.iload_n 3, 1) := by decide +kernel
theorem dX3_costFromBottom_94 : decode cX3_costFromBottom 94 = .ok (.invokevirtual 108, 3) := by decide +kernel
theorem dX3_costFromBottom_97 : decode cX3_costFromBottom 97 = .ok (.iinc 2 (-1), 3) := by decide +kernel
theorem dX3_costFromBottom_100 : decode cX3_costFromBottom 100 = .ok (.goto (-80), 3) := by decide +kernel
theorem dX3_costFromBottom_103 : decode cX3_costFromBottom 103 = .ok (.iinc 1 (-1), 3) := by decide +kernel
theorem dX3_costFromBottom_106 : decode cX3_costFromBottom 106 = .ok (.goto (-98), 3) := by decide +kernel
theorem dX3_costFromBottom_109 : decode cX3_costFromBottom 109 = .ok (.aload_n 0, 1) := by decide +kernel
theorem dX3_costFromBottom_110 : decode cX3_costFromBottom 110 = .ok (.iconst 0, 1) := by decide +kernel
theorem dX3_costFromBottom_111 : decode cX3_costFromBottom 111 = .ok (.iconst 0, 1) := by decide +kernel
theorem dX3_costFromBottom_112 : decode cX3_costFromBottom 112 = .ok (.invokevirtual 91, 3) := by decide +kernel
theorem dX3_costFromBottom_115 : decode cX3_costFromBottom 115 = .ok (.ireturn, 1) := by decide +kernel
theorem dX3_costFromTop_0 : decode cX3_costFromTop 0 = .ok (.iconst 0, 1) := by decide +kernel
theorem dX3_costFromTop_1 : decode cX3_costFromTop 1 = .ok (.istore_n 1, 1) := by decide +kernel
theorem dX3_costFromTop_2 : decode cX3_costFromTop 2 = .ok (.iload_n 1, 1) := by decide +kernel
theorem dX3_costFromTop_3 : decode cX3_costFromTop 3 = .ok (.sipush 625, 3) := by decide +kernel
theorem dX3_costFromTop_6 : decode cX3_costFromTop 6 = .ok (.if_icmp .ge 17, 3) := by decide +kernel
theorem dX3_costFromTop_9 : decode cX3_costFromTop 9 = .ok (.aload_n 0, 1) := by decide +kernel
theorem dX3_costFromTop_10 : decode cX3_costFromTop 10 = .ok (.getfield 35, 3) := by decide +kernel
theorem dX3_costFromTop_13 : decode cX3_costFromTop 13 = .ok (.iload_n 1, 1) := by decide +kernel
theorem dX3_costFromTop_14 : decode cX3_costFromTop 14 = .ok (.ldc 67, 2) := by decide +kernel
theorem dX3_costFromTop_16 : decode cX3_costFromTop 16 = .ok (.iastore, 1) := by decide +kernel
theorem dX3_costFromTop_17 : decode cX3_costFromTop 17 = .ok (.iinc 1 1, 3) := by decide +kernel
theorem dX3_costFromTop_20 : decode cX3_costFromTop 20 = .ok (.goto (-18), 3) := by decide +kernel
theorem dX3_costFromTop_23 : decode cX3_costFromTop 23 = .ok (.aload_n 0, 1) := by decide +kernel
theorem dX3_costFromTop_24 : decode cX3_costFromTop 24 = .ok (.iconst 0, 1) := by decide +kernel
theorem dX3_costFromTop_25 : decode cX3_costFromTop 25 = .ok (.iconst 0, 1) := by decide +kernel
theorem dX3_costFromTop_26 : decode cX3_costFromTop 26 = .ok (.iconst 0, 1) := by decide +kernel
theorem dX3_costFromTop_27 : decode cX3_costFromTop 27 = .ok (.invokevirtual 108, 3) := by decide +kernel
theorem dX3_costFromTop_30 : decode cX3_costFromTop 30 = .ok (.iconst 0, 1) := by decide +kernel
theorem dX3_costFromTop_31 : decode cX3_costFromTop 31 = .ok (.istore_n 1, 1) := by decide +kernel
theorem dX3_costFromTop_32 : decode cX3_costFromTop 32 = .ok (.iload_n 1, 1) := by decide +kernel
theorem dX3_costFromTop_33 : decode cX3_costFromTop 33 = .ok (.aload_n 0, 1) := by decide +kernel
theorem dX3_costFromTop_34 : decode cX3_costFromTop 34 = .ok (.getfield 12, 3) := by decide +kernel
theorem dX3_costFromTop_37 : decode cX3_costFromTop 37 = .ok (.invokevirtual 94, 3) := by decide +kernel
theorem dX3_costFromTop_40 : decode cX3_costFromTop 40 = .ok (.if_icmp .gt 85, 3) := by decide +kernel
theorem dX3_costFromTop_43 : decode cX3_costFromTop 43 = .ok (.iconst 0, 1) := by decide +kernel
theorem dX3_costFromTop_44 : decode cX3_costFromTop 44 = .ok (.istore_n 2, 1) := by decide +kernel
theorem dX3_costFromTop_45 : decode cX3_costFromTop 45 = .ok (.iload_n 2, 1) := by decide +kernel
theorem dX3_costFromTop_46 : decode cX3_costFromTop 46 = .ok (.aload_n 0, 1) := by decide +kernel
theorem dX3_costFromTop_47 : decode cX3_costFromTop 47 = .ok (.getfield 18, 3) := by decide +kernel
theorem dX3_costFromTop_50 : decode cX3_costFromTop 50 = .ok (.invokevirtual 94, 3) := by decide +kernel
theorem dX3_costFromTop_53 : decode cX3_costFromTop 53 = .ok (.if_icmp .gt 66, 3) := by decide +kernel
theorem dX3_costFromTop_56 : decode cX3_costFromTop 56 = .ok (.iconst 1, 1) := by decide +kernel
theorem dX3_costFromTop_57 : decode cX3_costFromTop 57 = .ok (.istore_n 3, 1) := by decide +kernel
theorem dX3_costFromTop_58 : decode cX3_costFromTop 58 = .ok (.iload_n 3, 1) := by decide +kernel
theorem dX3_costFromTop_59 : decode cX3_costFromTop 59 = .ok (.iconst 4, 1) := by decide +kernel
theorem dX3_costFromTop_60 : decode cX3_costFromTop 60 = .ok (.if_icmp .gt 53, 3) := by decide +kernel
theorem dX3_costFromTop_63 : decode cX3_costFromTop 63 = .ok (.aload_n 0, 1) := by decide +kernel
theorem dX3_costFromTop_64 : decode cX3_costFromTop 64 = .ok (.iload_n 1, 1) := by decide +kernel
theorem dX3_costFromTop_65 : decode cX3_costFromTop 65 = .ok (.iload_n 2, 1) := by decide +kernel
theorem dX3_costFromTop_66 : decode cX3_costFromTop 66 = .ok (.invokevirtual 91, 3) := by decide +kernel
theorem dX3_costFromTop_69 : decode cX3_costFromTop 69 = .ok (.aload_n 0, 1) := by decide +kernel
theorem dX3_costFromTop_70 : decode cX3_costFromTop 70 = .ok (.iload_n 3, 1) := by decide +kernel
theorem dX3_costFromTop_71 : decode cX3_costFromTop 71 = .ok (.iload_n 1, 1) := by decide +kernel
theorem dX3_costFromTop_72 : decode cX3_costFromTop 72 = .ok (.iload_n 2, 1) := by decide +kernel
theorem dX3_costFromTop_73 : decode cX3_costFromTop 73 = .ok (.invokevirtual 98, 3) := by decide +kernel
theorem dX3_costFromTop_76 : decode cX3_costFromTop 76 = .ok (.iadd, 1) := by decide +kernel
theorem dX3_costFromTop_77 : decode cX3_costFromTop 77 = .ok (.istore 4, 2) := by decide +kernel
theorem dX3_costFromTop_79 : decode cX3_costFromTop 79 = .ok (.iload 4, 2) := by decide +kernel
theorem dX3_costFromTop_81 : decode cX3_costFromTop 81 = .ok (.aload_n 0, 1) := by decide +kernel
theorem dX3_costFromTop_82 : decode cX3_costFromTop 82 = .ok (.iload_n 3, 1) := by decide +kernel
theorem dX3_costFromTop_83 : decode cX3_costFromTop 83 = .ok (.iload_n 1, 1) := by decide +kernel
theorem dX3_costFromTop_84 : decode cX3_costFromTop 84 = .ok (.iload_n 2, 1) := by decide +kernel
theorem dX3_costFromTop_85 : decode cX3_costFromTop 85 = .ok (.invokevirtual 102, 3) := by decide +kernel
theorem dX3_costFromTop_88 : decode cX3_costFromTop 88 = .ok (.if_icmp .ge 19, 3) := by decide +kernel
theorem dX3_costFromTop_91 : decode cX3_costFromTop 91 = .ok (.aload_n 0, 1) := by decide +kernel
theorem dX3_costFromTop_92 : decode cX3_costFromTop 92 = .ok (.iload_n 3, 1) := by decide +kernel
theorem dX3_costFromTop_93 : decode cX3_costFromTop 93 = .ok (.iload_n 1, 1) := by decide +kernel
theorem dX3_costFromTop_94 : decode cX3_costFromTop 94 = .ok (.invokestatic 85, 3) := by decide +kernel
theorem dX3_costFromTop_97 : decode cX3_costFromTop 97 = .ok (.iload_n 3, 1) := by decide +kernel
theorem dX3_costFromTop_98 : decode cX3_costFromTop 98 = .ok (.iload_n 2, 1) := by decide +kernel
theorem dX3_costFromTop_99 : decode cX3_costFromTop 99 = .ok (.invokestatic 88, 3) := by decide +kernel
theorem dX3_costFromTop_102 : decode cX3_costFromTop 102 = .ok (.iload 4, 2) := by decide +kernel
theorem dX3_costFromTop_104 : decode cX3_costFromTop 104 = .ok (.invokevirtual 108, 3) := by decide +kernel
theorem dX3_costFromTop_107 : decode cX3_costFromTop 107 = .ok (.iinc 3 1, 3) := by decide +kernel
theorem dX3_costFromTop_110 : decode cX3_costFromTop 110 = .ok (.goto (-52), 3) := by decide +kernel
theorem dX3_costFromTop_113 : decode cX3_costFromTop 113 = .ok (.iinc 2 1, 3) := by decide +kernel
theorem dX3_costFromTop_116 : decode cX3_costFromTop 116 = .ok (.goto (-71), 3) := by decide +kernel
theorem dX3_costFromTop_119 : decode cX3_costFromTop 119 = .ok (.iinc 1 1, 3) := by decide +kernel
theorem dX3_costFromTop_122 : decode cX3_costFromTop 122 = .ok (.goto (-90), 3) := by decide +kernel
theorem dX3_costFromTop_125 : decode cX3_costFromTop 125 = .ok (.aload_n 0, 1) := by decide +kernel
theorem dX3_costFromTop_126 : decode cX3_costFromTop 126 = .ok (.aload_n 0, 1) := by decide +kernel
theorem dX3_costFromTop_127 : decode cX3_costFromTop 127 = .ok (.getfield 12, 3) := by decide +kernel
theorem dX3_costFromTop_130 : decode cX3_costFromTop 130 = .ok (.invokevirtual 94, 3) := by decide +kernel
theorem dX3_costFromTop_133 : decode cX3_costFromTop 133 = .ok (.aload_n 0, 1) := by decide +kernel
theorem dX3_costFromTop_134 : decode cX3_costFromTop 134 = .ok (.getfield 18, 3) := by decide +kernel
theorem dX3_costFromTop_137 : decode cX3_costFromTop 137 = .ok (.invokevirtual 94, 3) := by decide +kernel
theorem dX3_costFromTop_140 : decode cX3_costFromTop 140 = .ok (.invokevirtual 91, 3) := by decide +kernel
theorem dX3_costFromTop_143 : decode cX3_costFromTop 143 = .ok (.ireturn, 1) := by decide +kernel
theorem dX3_firstBestStep_0 : decode cX3_firstBestStep 0 = .ok (.iconst 1, 1) := by decide +kernel
theorem dX3_firstBestStep_1 : decode cX3_firstBestStep 1 = .ok (.istore_n 3, 1) := by decide +kernel
theorem dX3_firstBestStep_2 : decode cX3_firstBestStep 2 = .ok (.iload_n 3, 1) := by decide +kernel
theorem dX3_firstBestStep_3 : decode cX3_firstBestStep 3 = .ok (.iconst 4, 1) := by decide +kernel
theorem dX3_firstBestStep_4 : decode cX3_firstBestStep 4 = .ok (.if_icmp .gt 35, 3) := by decide +kernel
theorem dX3_firstBestStep_7 : decode cX3_firstBestStep 7 = .ok (.aload_n 0, 1) := by decide +kernel
theorem dX3_firstBestStep_8 : decode cX3_firstBestStep 8 = .ok (.iload_n 3, 1) := by decide +kernel
theorem dX3_firstBestStep_9 : decode cX3_firstBestStep 9 = .ok (.iload_n 1, 1) := by decide +kernel
theorem dX3_firstBestStep_10 : decode cX3_firstBestStep 10 = .ok (.iload_n 2, 1) := by decide +kernel
theorem dX3_firstBestStep_11 : decode cX3_firstBestStep 11 = .ok (.invokevirtual 98, 3) := by decide +kernel
theorem dX3_firstBestStep_14 : decode cX3_firstBestStep 14 = .ok (.aload_n 0, 1) := by decide +kernel
theorem dX3_firstBestStep_15 : decode cX3_firstBestStep 15 = .ok (.iload_n 3, 1) := by decide +kernel
theorem dX3_firstBestStep_16 : decode cX3_firstBestStep 16 = .ok (.iload_n 1, 1) := by decide +kernel
theorem dX3_firstBestStep_17 : decode cX3_firstBestStep 17 = .ok (.iload_n 2, 1) := by decide +kernel
theorem dX3_firstBestStep_18 : decode cX3_firstBestStep 18 = .ok (.invokevirtual 102, 3) := by decide +kernel
theorem dX3_firstBestStep_21 : decode cX3_firstBestStep 21 = .ok (.iadd, 1) := by decide +kernel
theorem dX3_firstBestStep_22 : decode cX3_firstBestStep 22 = .ok (.aload_n 0, 1) := by decide +kernel
theorem dX3_firstBestStep_23 : decode cX3_firstBestStep 23 = .ok (.iload_n 1, 1) := by decide +kernel
theorem dX3_firstBestStep_24 : decode cX3_firstBestStep 24 = .ok (.iload_n 2, 1) := by decide +kernel
theorem dX3_firstBestStep_25 : decode cX3_firstBestStep 25 = .ok (.invokevirtual 91, 3) := by decide +kernel
theorem dX3_firstBestStep_28 : decode cX3_firstBestStep 28 = .ok (.if_icmp .ne 5, 3) := by decide +kernel
theorem dX3_firstBestStep_31 : decode cX3_firstBestStep 31 = .ok (.iload_n 3, 1) := by decide +kernel
theorem dX3_firstBestStep_32 : decode cX3_firstBestStep 32 = .ok (.ireturn, 1) := by decide +kernel
theorem dX3_firstBestStep_33 : decode cX3_firstBestStep 33 = .ok (.iinc 3 1, 3) := by decide +kernel
theorem dX3_firstBestStep_36 : decode cX3_firstBestStep 36 = .ok (.goto (-34), 3) := by decide +kernel
theorem dX3_firstBestStep_39 : decode cX3_firstBestStep 39 = .ok (.iconst 0, 1) := by decide +kernel
theorem dX3_firstBestStep_40 : decode cX3_firstBestStep 40 = .ok (.ireturn, 1) := by decide +kernel
theorem dX4_init_0 : decode cX4_init 0 = .ok (.aload_n 0, 1) := by decide +kernel
theorem dX4_init_1 : decode cX4_init 1 = .ok (.invokespecial 3, 3) := by decide +kernel
theorem dX4_init_4 : decode cX4_init 4 = .ok (.aload_n 0, 1) := by decide +kernel
theorem dX4_init_5 : decode cX4_init 5 = .ok (.iconst 5, 1) := by decide +kernel
theorem dX4_init_6 : decode cX4_init 6 = .ok (.newarray .int, 2) := by decide +kernel
theorem dX4_init_8 : decode cX4_init 8 = .ok (.putfield 9, 3) := by decide +kernel
theorem dX4_init_11 : decode cX4_init 11 = .ok (.iconst 0, 1) := by decide +kernel
theorem dX4_init_12 : decode cX4_init 12 = .ok (.istore_n 1, 1) := by decide +kernel
theorem dX4_init_13 : decode cX4_init 13 = .ok (.iload_n 1, 1) := by decide +kernel
theorem dX4_init_14 : decode cX4_init 14 = .ok (.iconst 5, 1) := by decide +kernel
theorem dX4_init_15 : decode cX4_init 15 = .ok (.if_icmp .ge 20, 3) := by decide +kernel
theorem dX4_init_18 : decode cX4_init 18 = .ok (.aload_n 0, 1) := by decide +kernel
theorem dX4_init_19 : decode cX4_init 19 = .ok (.getfield 9, 3) := by decide +kernel
theorem dX4_init_22 : decode cX4_init 22 = .ok (.iload_n 1, 1) := by decide +kernel
theorem dX4_init_23 : decode cX4_init 23 = .ok (.getstatic 15, 3) := by decide +kernel
theorem dX4_init_26 : decode cX4_init 26 = .ok (.iload_n 1, 1) := by decide +kernel
theorem dX4_init_27 : decode cX4_init 27 = .ok (.iaload, 1) := by decide +kernel
theorem dX4_init_28 : decode cX4_init 28 = .ok (.iastore, 1) := by decide +kernel
theorem dX4_init_29 : decode cX4_init 29 = .ok (.iinc 1 1, 3) := by decide +kernel
theorem dX4_init_32 : decode cX4_init 32 = .ok (.goto (-19), 3) := by decide +kernel
theorem dX4_init_35 : decode cX4_init 35 = .ok (.aload_n 0, 1) := by decide +kernel
theorem dX4_init_36 : decode cX4_init 36 = .ok (.iconst 0, 1) := by decide +kernel
theorem dX4_init_37 : decode cX4_init 37 = .ok (.putfield 18, 3) := by decide +kernel
theorem dX4_init_40 : decode cX4_init 40 = .ok (.aload_n 0, 1) := by decide +kernel
theorem dX4_init_41 : decode cX4_init 41 = .ok (.iconst 4, 1) := by decide +kernel
theorem dX4_init_42 : decode cX4_init 42 = .ok (.anewarray 22, 3) := by decide +kernel
theorem dX4_init_45 : decode cX4_init 45 = .ok (.putfield 24, 3) := by decide +kernel
theorem dX4_init_48 : decode cX4_init 48 = .ok (.iconst 0, 1) := by decide +kernel
theorem dX4_init_49 : decode cX4_init 49 = .ok (.istore_n 1, 1) := by decide +kernel
theorem dX4_init_50 : decode cX4_init 50 = .ok (.iload_n 1, 1) := by decide +kernel
theorem dX4_init_51 : decode cX4_init 51 = .ok (.iconst 4, 1) := by decide +kernel
theorem dX4_init_52 : decode cX4_init 52 = .ok (.if_icmp .ge 22, 3) := by decide +kernel
theorem dX4_init_55 : decode cX4_init 55 = .ok (.aload_n 0, 1) := by decide +kernel
theorem dX4_init_56 : decode cX4_init 56 = .ok (.getfield 24, 3) := by decide +kernel
theorem dX4_init_59 : decode cX4_init 59 = .ok (.iload_n 1, 1) := by decide +kernel
theorem dX4_init_60 : decode cX4_init 60 = .ok (.new 22, 3) := by decide +kernel
theorem dX4_init_63 : decode cX4_init 63 = .ok (.dup, 1) := by decide +kernel
theorem dX4_init_64 : decode cX4_init 64 = .ok (.invokespecial 28, 3) := by decide +kernel
theorem dX4_init_67 : decode cX4_init 67 = .ok (.aastore, 1) := by decide +kernel
theorem dX4_init_68 : decode cX4_init 68 = .ok (.iinc 1 1, 3) := by decide +kernel
theorem dX4_init_71 : decode cX4_init 71 = .ok (.goto (-21), 3) := by decide +kernel
theorem dX4_init_74 : decode cX4_init 74 = .ok (.aload_n 0, 1) := by decide +kernel
theorem dX4_init_75 : decode cX4_init 75 = .ok (.iconst 5, 1) := by decide +kernel
theorem dX4_init_76 : decode cX4_init 76 = .ok (.newarray .int, 2) := by decide +kernel
theorem dX4_init_78 : decode cX4_init 78 = .ok (.putfield 29, 3) := by decide +kernel
theorem dX4_init_81 : decode cX4_init 81 = .ok (.return_, 1) := by decide +kernel
theorem dX4_numberOf_0 : decode cX4_numberOf 0 = .ok (.iload_n 1, 1) := by decide +kernel
theorem dX4_numberOf_1 : decode cX4_numberOf 1 = .ok (.ifCond .lt 17, 3) := by decide +kernel
theorem dX4_numberOf_4 : decode cX4_numberOf 4 = .ok (.iload_n 1, 1) := by decide +kernel
theorem dX4_numberOf_5 : decode cX4_numberOf 5 = .ok (.iconst 5, 1) := by decide +kernel
theorem dX4_numberOf_6 : decode cX4_numberOf 6 = .ok (.if_icmp .ge 12, 3) := by decide +kernel
theorem dX4_numberOf_9 : decode cX4_numberOf 9 = .ok (.aload_n 0, 1) := by decide +kernel
theorem dX4_numberOf_10 : decode cX4_numberOf 10 = .ok (.getfield 9, 3) := by decide +kernel
theorem dX4_numberOf_13 : decode cX4_numberOf 13 = .ok (.iload_n 1, 1) := by decide +kernel
theorem dX4_numberOf_14 : decode cX4_numberOf 14 = .ok (.iaload, 1) := by decide +kernel
theorem dX4_numberOf_15 : decode cX4_numberOf 15 = .ok (.goto 4, 3) := by decide +kernel
theorem dX4_numberOf_18 : decode cX4_numberOf 18 = .ok (.iconst 0, 1) := by decide +kernel
theorem dX4_numberOf_19 : decode cX4_numberOf 19 = .ok (.ireturn, 1) := by decide +kernel
theorem dX4_putNumber_0 : decode cX4_putNumber 0 = .ok (.iload_n 1, 1) := by decide +kernel
theorem dX4_putNumber_1 : decode cX4_putNumber 1 = .ok (.ifCond .lt 15, 3) := by decide +kernel
theorem dX4_putNumber_4 : decode cX4_putNumber 4 = .ok (.iload_n 1, 1) := by decide +kernel
theorem dX4_putNumber_5 : decode cX4_putNumber 5 = .ok (.iconst 5, 1) := by decide +kernel
theorem dX4_putNumber_6 : decode cX4_putNumber 6 = .ok (.if_icmp .ge 10, 3) := by decide +kernel
theorem dX4_putNumber_9 : decode cX4_putNumber 9 = .ok (.aload_n 0, 1) := by decide +kernel
theorem dX4_putNumber_10 : decode cX4_putNumber 10 = .ok (.getfield 9, 3) := by decide +kernel
theorem dX4_putNumber_13 : decode cX4_putNumber 13 = .ok (.iload_n 1, 1) := by decide +kernel
theorem dX4_putNumber_14 : decode cX4_putNumber 14 = .ok (.iload_n 2, 1) := by decide +kernel
theorem dX4_putNumber_15 : decode cX4_putNumber 15 = .ok (.iastore, 1) := by decide +kernel
theorem dX4_putNumber_16 : decode cX4_putNumber 16 = .ok (.return_, 1) := by decide +kernel
theorem dX4_isKey_0 : decode cX4_isKey 0 = .ok (.iload_n 1, 1) := by decide +kernel
theorem dX4_isKey_1 : decode cX4_isKey 1 = .ok (.invokestatic 32, 3) := by decide +kernel
theorem dX4_isKey_4 : decode cX4_isKey 4 = .ok (.ifCond .eq 18, 3) := by decide +kernel
theorem dX4_isKey_7 : decode cX4_isKey 7 = .ok (.aload_n 0, 1) := by decide +kernel
theorem dX4_isKey_8 : decode cX4_isKey 8 = .ok (.getfield 18, 3) := by decide +kernel
theorem dX4_isKey_11 : decode cX4_isKey 11 = .ok (.iconst 1, 1) := by decide +kernel
theorem dX4_isKey_12 : decode cX4_isKey 12 = .ok (.iload_n 1, 1) := by decide +kernel
theorem dX4_isKey_13 : decode cX4_isKey 13 = .ok (.ishl, 1) := by decide +kernel
theorem dX4_isKey_14 : decode cX4_isKey 14 = .ok (.iand, 1) := by decide +kernel
theorem dX4_isKey_15 : decode cX4_isKey 15 = .ok (.ifCond .eq 7, 3) := by decide +kernel
theorem dX4_isKey_18 : decode cX4_isKey 18 = .ok (.iconst 1, 1) := by decide +kernel
theorem dX4_isKey_19 : decode cX4_isKey 19 = .ok (.goto 4, 3) := by decide +kernel
theorem dX4_isKey_22 : decode cX4_isKey 22 = .ok (.iconst 0, 1) := by decide +kernel
theorem dX4_isKey_23 : decode cX4_isKey 23 = .ok (.ireturn, 1) := by decide +kernel
theorem dX4_putKey_0 : decode cX4_putKey 0 = .ok (.iload_n 1, 1) := by decide +kernel
theorem dX4_putKey_1 : decode cX4_putKey 1 = .ok (.invokestatic 32, 3) := by decide +kernel
theorem dX4_putKey_4 : decode cX4_putKey 4 = .ok (.ifCond .eq 32, 3) := by decide +kernel
theorem dX4_putKey_7 : decode cX4_putKey 7 = .ok (.aload_n 0, 1) := by decide +kernel
theorem dX4_putKey_8 : decode cX4_putKey 8 = .ok (.iload_n 2, 1) := by decide +kernel
theorem dX4_putKey_9 : decode cX4_putKey 9 = .ok (.ifCond .eq 14, 3) := by decide +kernel
theorem dX4_putKey_12 : decode cX4_putKey 12 = .ok (.aload_n 0, 1) := by decide +kernel
theorem dX4_putKey_13 : decode cX4_putKey 13 = .ok (.getfield 18, 3) := by decide +kernel
theorem dX4_putKey_16 : decode cX4_putKey 16 = .ok (.iconst 1, 1) := by decide +kernel
theorem dX4_putKey_17 : decode cX4_putKey 17 = .ok (.iload_n 1, 1) := by decide +kernel
theorem dX4_putKey_18 : decode cX4_putKey 18 = .ok (.ishl, 1) := by decide +kernel
theorem dX4_putKey_19 : decode cX4_putKey 19 = .ok (.ior, 1) := by decide +kernel
theorem dX4_putKey_20 : decode cX4_putKey 20 = .ok (.goto 13, 3) := by decide +kernel
theorem dX4_putKey_23 : decode cX4_putKey 23 = .ok (.aload_n 0, 1) := by decide +kernel
theorem dX4_putKey_24 : decode cX4_putKey 24 = .ok (.getfield 18, 3) := by decide +kernel
theorem dX4_putKey_27 : decode cX4_putKey 27 = .ok (.iconst 1, 1) := by decide +kernel
theorem dX4_putKey_28 : decode cX4_putKey 28 = .ok (.iload_n 1, 1) := by decide +kernel
theorem dX4_putKey_29 : decode cX4_putKey 29 = .ok (.ishl, 1) := by decide +kernel
theorem dX4_putKey_30 : decode cX4_putKey 30 = .ok (.iconst (-1), 1) := by decide +kernel
theorem dX4_putKey_31 : decode cX4_putKey 31 = .ok (.ixor, 1) := by decide +kernel
theorem dX4_putKey_32 : decode cX4_putKey 32 = .ok (.iand, 1) := by decide +kernel
theorem dX4_putKey_33 : decode cX4_putKey 33 = .ok (.putfield 18, 3) := by decide +kernel
theorem dX4_putKey_36 : decode cX4_putKey 36 = .ok (.return_, 1) := by decide +kernel
theorem dX4_keyMarkCount_0 : decode cX4_keyMarkCount 0 = .ok (.aload_n 0, 1) := by decide +kernel
theorem dX4_keyMarkCount_1 : decode cX4_keyMarkCount 1 = .ok (.getfield 18, 3) := by decide +kernel
theorem dX4_keyMarkCount_4 : decode cX4_keyMarkCount 4 = .ok (.invokestatic 36, 3) := by decide +kernel
theorem dX4_keyMarkCount_7 : decode cX4_keyMarkCount 7 = .ok (.ireturn, 1) := by decide +kernel
theorem dX4_columnOf_0 : decode cX4_columnOf 0 = .ok (.aload_n 0, 1) := by decide +kernel
theorem dX4_columnOf_1 : decode cX4_columnOf 1 = .ok (.getfield 24, 3) := by decide +kernel
theorem dX4_columnOf_4 : decode cX4_columnOf 4 = .ok (.iload_n 1, 1) := by decide +kernel
theorem dX4_columnOf_5 : decode cX4_columnOf 5 = .ok (.invokestatic 42, 3) := by decide +kernel
theorem dX4_columnOf_8 : decode cX4_columnOf 8 = .ok (.ifCond .eq 7, 3) := by decide +kernel
theorem dX4_columnOf_11 : decode cX4_columnOf 11 = .ok (.iload_n 1, 1) := by decide +kernel
theorem dX4_columnOf_12 : decode cX4_columnOf 12 = .ok (.goto 4, 3) := by decide +kernel
theorem dX4_columnOf_15 : decode cX4_columnOf 15 = .ok (.iconst 0, 1) := by decide +kernel
theorem dX4_columnOf_16 : decode cX4_columnOf 16 = .ok (.aaload, 1) := by decide +kernel
theorem dX4_columnOf_17 : decode cX4_columnOf 17 = .ok (.areturn, 1) := by decide +kernel
theorem dX4_bookedIn_0 : decode cX4_bookedIn 0 = .ok (.iload_n 1, 1) := by decide +kernel
theorem dX4_bookedIn_1 : decode cX4_bookedIn 1 = .ok (.ifCond .lt 17, 3) := by decide +kernel
theorem dX4_bookedIn_4 : decode cX4_bookedIn 4 = .ok (.iload_n 1, 1) := by decide +kernel
theorem dX4_bookedIn_5 : decode cX4_bookedIn 5 = .ok (.iconst 5, 1) := by decide +kernel
theorem dX4_bookedIn_6 : decode cX4_bookedIn 6 = .ok (.if_icmp .ge 12, 3) := by decide +kernel
theorem dX4_bookedIn_9 : decode cX4_bookedIn 9 = .ok (.aload_n 0, 1) := by decide +kernel
theorem dX4_bookedIn_10 : decode cX4_bookedIn 10 = .ok (.getfield 29, 3) := by decide +kernel
theorem dX4_bookedIn_13 : decode cX4_bookedIn 13 = .ok (.iload_n 1, 1) := by decide +kernel
theorem dX4_bookedIn_14 : decode cX4_bookedIn 14 = .ok (.iaload, 1) := by decide +kernel
theorem dX4_bookedIn_15 : decode cX4_bookedIn 15 = .ok (.goto 4, 3) := by decide +kernel
theorem dX4_bookedIn_18 : decode cX4_bookedIn 18 = .ok (.iconst 0, 1) := by decide +kernel
theorem dX4_bookedIn_19 : decode cX4_bookedIn 19 = .ok (.ireturn, 1) := by decide +kernel
theorem dX4_book_0 : decode cX4_book 0 = .ok (.iload_n 1, 1) := by decide +kernel
theorem dX4_book_1 : decode cX4_book 1 = .ok (.ifCond .lt 18, 3) := by decide +kernel
theorem dX4_book_4 : decode cX4_book 4 = .ok (.iload_n 1, 1) := by decide +kernel
theorem dX4_book_5 : decode cX4_book 5 = .ok (.iconst 5, 1) := by decide +kernel
theorem dX4_book_6 : decode cX4_book 6 = .ok (.if_icmp .ge 13, 3) := by decide +kernel
theorem dX4_book_9 : decode cX4_book 9 = .ok (.aload_n 0, 1) := by decide +kernel
theorem dX4_book_10 : decode cX4_book 10 = .ok (.getfield 29, 3) := by decide +kernel
theorem dX4_book_13 : decode cX4_book 13 = .ok (.iload_n 1, 1) := by decide +kernel
theorem dX4_book_14 : decode cX4_book 14 = .ok (.dup2, 1) := by decide +kernel
theorem dX4_book_15 : decode cX4_book 15 = .ok (.iaload, 1) := by decide +kernel
theorem dX4_book_16 : decode cX4_book 16 = .ok (.iload_n 2, 1) := by decide +kernel
theorem dX4_book_17 : decode cX4_book 17 = .ok (.iadd, 1) := by decide +kernel
theorem dX4_book_18 : decode cX4_book 18 = .ok (.iastore, 1) := by decide +kernel
theorem dX4_book_19 : decode cX4_book 19 = .ok (.return_, 1) := by decide +kernel
theorem dX4_sumOfSizes_0 : decode cX4_sumOfSizes 0 = .ok (.iconst 0, 1) := by decide +kernel
theorem dX4_sumOfSizes_1 : decode cX4_sumOfSizes 1 = .ok (.istore_n 1, 1) := by decide +kernel
theorem dX4_sumOfSizes_2 : decode cX4_sumOfSizes 2 = .ok (.iconst 0, 1) := by decide +kernel
theorem dX4_sumOfSizes_3 : decode cX4_sumOfSizes 3 = .ok (.istore_n 2, 1) := by decide +kernel
theorem dX4_sumOfSizes_4 : decode cX4_sumOfSizes 4 = .ok (.iload_n 2, 1) := by decide +kernel
theorem dX4_sumOfSizes_5 : decode cX4_sumOfSizes 5 = .ok (.iconst 4, 1) := by decide +kernel
theorem dX4_sumOfSizes_6 : decode cX4_sumOfSizes 6 = .ok (.if_icmp .ge 21, 3) := by decide +kernel
theorem dX4_sumOfSizes_9 : decode cX4_sumOfSizes 9 = .ok (.iload_n 1, 1) := by decide +kernel
theorem dX4_sumOfSizes_10 : decode cX4_sumOfSizes 10 = .ok (.aload_n 0, 1) := by decide +kernel
theorem dX4_sumOfSizes_11 : decode cX4_sumOfSizes 11 = .ok (.getfield 24, 3) := by decide +kernel
theorem dX4_sumOfSizes_14 : decode cX4_sumOfSizes 14 = .ok (.iload_n 2, 1) := by decide +kernel
theorem dX4_sumOfSizes_15 : decode cX4_sumOfSizes 15 = .ok (.aaload, 1) := by decide +kernel
theorem dX4_sumOfSizes_16 : decode cX4_sumOfSizes 16 = .ok (.invokevirtual 45, 3) := by decide +kernel
theorem dX4_sumOfSizes_19 : decode cX4_sumOfSizes 19 = .ok (.iadd, 1) := by decide +kernel
theorem dX4_sumOfSizes_20 : decode cX4_sumOfSizes 20 = .ok (.istore_n 1, 1) := by decide +kernel
theorem dX4_sumOfSizes_21 : decode cX4_sumOfSizes 21 = .ok (.iinc 2 1, 3) := by decide +kernel
theorem dX4_sumOfSizes_24 : decode cX4_sumOfSizes 24 = .ok (.goto (-20), 3) := by decide +kernel
theorem dX4_sumOfSizes_27 : decode cX4_sumOfSizes 27 = .ok (.iload_n 1, 1) := by decide +kernel
theorem dX4_sumOfSizes_28 : decode cX4_sumOfSizes 28 = .ok (.ireturn, 1) := by decide +kernel
theorem dX4_sumOfLengths_0 : decode cX4_sumOfLengths 0 = .ok (.iconst 0, 1) := by decide +kernel
theorem dX4_sumOfLengths_1 : decode cX4_sumOfLengths 1 = .ok (.istore_n 1, 1) := by decide +kernel
theorem dX4_sumOfLengths_2 : decode cX4_sumOfLengths 2 = .ok (.iconst 0, 1) := by decide +kernel
theorem dX4_sumOfLengths_3 : decode cX4_sumOfLengths 3 = .ok (.istore_n 2, 1) := by decide +kernel
theorem dX4_sumOfLengths_4 : decode cX4_sumOfLengths 4 = .ok (.iload_n 2, 1) := by decide +kernel
theorem dX4_sumOfLengths_5 : decode cX4_sumOfLengths 5 = .ok (.iconst 4, 1) := by decide +kernel
theorem dX4_sumOfLengths_6 : decode cX4_sumOfLengths 6 = .ok (.if_icmp .ge 21, 3) := by decide +kernel
theorem dX4_sumOfLengths_9 : decode cX4_sumOfLengths 9 = .ok (.iload_n 1, 1) := by decide +kernel
theorem dX4_sumOfLengths_10 : decode cX4_sumOfLengths 10 = .ok (.aload_n 0, 1) := by decide +kernel
theorem dX4_sumOfLengths_11 : decode cX4_sumOfLengths 11 = .ok (.getfield 24, 3) := by decide +kernel
theorem dX4_sumOfLengths_14 : decode cX4_sumOfLengths 14 = .ok (.iload_n 2, 1) := by decide +kernel
theorem dX4_sumOfLengths_15 : decode cX4_sumOfLengths 15 = .ok (.aaload, 1) := by decide +kernel
theorem dX4_sumOfLengths_16 : decode cX4_sumOfLengths 16 = .ok (.invokevirtual 49, 3) := by decide +kernel
theorem dX4_sumOfLengths_19 : decode cX4_sumOfLengths 19 = .ok (.iadd, 1) := by decide +kernel
theorem dX4_sumOfLengths_20 : decode cX4_sumOfLengths 20 = .ok (.istore_n 1, 1) := by decide +kernel
theorem dX4_sumOfLengths_21 : decode cX4_sumOfLengths 21 = .ok (.iinc 2 1, 3) := by decide +kernel
theorem dX4_sumOfLengths_24 : decode cX4_sumOfLengths 24 = .ok (.goto (-20), 3) := by decide +kernel
theorem dX4_sumOfLengths_27 : decode cX4_sumOfLengths 27 = .ok (.iload_n 1, 1) := by decide +kernel
theorem dX4_sumOfLengths_28 : decode cX4_sumOfLengths 28 = .ok (.ireturn, 1) := by decide +kernel
theorem dX4_copyFrom_0 : decode cX4_copyFrom 0 = .ok (.aload_n 1, 1) := by decide +kernel
theorem dX4_copyFrom_1 : decode cX4_copyFrom 1 = .ok (.getfield 9, 3) := by decide +kernel
theorem dX4_copyFrom_4 : decode cX4_copyFrom 4 = .ok (.iconst 0, 1) := by decide +kernel
theorem dX4_copyFrom_5 : decode cX4_copyFrom 5 = .ok (.aload_n 0, 1) := by decide +kernel
theorem dX4_copyFrom_6 : decode cX4_copyFrom 6 = .ok (.getfield 9, 3) := by decide +kernel
theorem dX4_copyFrom_9 : decode cX4_copyFrom 9 = .ok (.iconst 0, 1) := by decide +kernel
theorem dX4_copyFrom_10 : decode cX4_copyFrom 10 = .ok (.iconst 5, 1) := by decide +kernel
theorem dX4_copyFrom_11 : decode cX4_copyFrom 11 = .ok (.invokestatic 52, 3) := by decide +kernel
theorem dX4_copyFrom_14 : decode cX4_copyFrom 14 = .ok (.aload_n 0, 1) := by decide +kernel
theorem dX4_copyFrom_15 : decode cX4_copyFrom 15 = .ok (.aload_n 1, 1) := by decide +kernel
theorem dX4_copyFrom_16 : decode cX4_copyFrom 16 = .ok (.getfield 18, 3) := by decide +kernel
theorem dX4_copyFrom_19 : decode cX4_copyFrom 19 = .ok (.putfield 18, 3) := by decide +kernel
theorem dX4_copyFrom_22 : decode cX4_copyFrom 22 = .ok (.iconst 0, 1) := by decide +kernel
theorem dX4_copyFrom_23 : decode cX4_copyFrom 23 = .ok (.istore_n 2, 1) := by decide +kernel
theorem dX4_copyFrom_24 : decode cX4_copyFrom 24 = .ok (.iload_n 2, 1) := by decide +kernel
theorem dX4_copyFrom_25 : decode cX4_copyFrom 25 = .ok (.iconst 4, 1) := by decide +kernel
theorem dX4_copyFrom_26 : decode cX4_copyFrom 26 = .ok (.if_icmp .ge 24, 3) := by decide +kernel
theorem dX4_copyFrom_29 : decode cX4_copyFrom 29 = .ok (.aload_n 0, 1) := by decide +kernel
theorem dX4_copyFrom_30 : decode cX4_copyFrom 30 = .ok (.getfield 24, 3) := by decide +kernel
theorem dX4_copyFrom_33 : decode cX4_copyFrom 33 = .ok (.iload_n 2, 1) := by decide +kernel
theorem dX4_copyFrom_34 : decode cX4_copyFrom 34 = .ok (.aaload, 1) := by decide +kernel
theorem dX4_copyFrom_35 : decode cX4_copyFrom 35 = .ok (.aload_n 1, 1) := by decide +kernel
theorem dX4_copyFrom_36 : decode cX4_copyFrom 36 = .ok (.getfield 24, 3) := by decide +kernel
theorem dX4_copyFrom_39 : decode cX4_copyFrom 39 = .ok (.iload_n 2, 1) := by decide +kernel
theorem dX4_copyFrom_40 : decode cX4_copyFrom 40 = .ok (.aaload, 1) := by decide +kernel
theorem dX4_copyFrom_41 : decode cX4_copyFrom 41 = .ok (.invokevirtual 58, 3) := by decide +kernel
theorem dX4_copyFrom_44 : decode cX4_copyFrom 44 = .ok (.iinc 2 1, 3) := by decide +kernel
theorem dX4_copyFrom_47 : decode cX4_copyFrom 47 = .ok (.goto (-23), 3) := by decide +kernel
theorem dX4_copyFrom_50 : decode cX4_copyFrom 50 = .ok (.aload_n 1, 1) := by decide +kernel
theorem dX4_copyFrom_51 : decode cX4_copyFrom 51 = .ok (.getfield 29, 3) := by decide +kernel
theorem dX4_copyFrom_54 : decode cX4_copyFrom 54 = .ok (.iconst 0, 1) := by decide +kernel
theorem dX4_copyFrom_55 : decode cX4_copyFrom 55 = .ok (.aload_n 0, 1) := by decide +kernel
theorem dX4_copyFrom_56 : decode cX4_copyFrom 56 = .ok (.getfield 29, 3) := by decide +kernel
theorem dX4_copyFrom_59 : decode cX4_copyFrom 59 = .ok (.iconst 0, 1) := by decide +kernel
theorem dX4_copyFrom_60 : decode cX4_copyFrom 60 = .ok (.iconst 5, 1) := by decide +kernel
theorem dX4_copyFrom_61 : decode cX4_copyFrom 61 = .ok (.invokestatic 52, 3) := by decide +kernel
theorem dX4_copyFrom_64 : decode cX4_copyFrom 64 = .ok (.return_, 1) := by decide +kernel
theorem dX5_init_0 : decode cX5_init 0 = .ok (.aload_n 0, 1) := by decide +kernel
theorem dX5_init_1 : decode cX5_init 1 = .ok (.invokespecial 3, 3) := by decide +kernel
theorem dX5_init_4 : decode cX5_init 4 = .ok (.aload_n 0, 1) := by decide +kernel
theorem dX5_init_5 : decode cX5_init 5 = .ok (.bipush 100, 2) := by decide +kernel
theorem dX5_init_7 : decode cX5_init 7 = .ok (.newarray .int, 2) := by decide +kernel
theorem dX5_init_9 : decode cX5_init 9 = .ok (.putfield 9, 3) := by decide +kernel
theorem dX5_init_12 : decode cX5_init 12 = .ok (.aload_n 0, 1) := by decide +kernel
theorem dX5_init_13 : decode cX5_init 13 = .ok (.iconst 0, 1) := by decide +kernel
theorem dX5_init_14 : decode cX5_init 14 = .ok (.putfield 15, 3) := by decide +kernel
theorem dX5_init_17 : decode cX5_init 17 = .ok (.aload_n 0, 1) := by decide +kernel
theorem dX5_init_18 : decode cX5_init 18 = .ok (.iconst 0, 1) := by decide +kernel
theorem dX5_init_19 : decode cX5_init 19 = .ok (.putfield 19, 3) := by decide +kernel
theorem dX5_init_22 : decode cX5_init 22 = .ok (.aload_n 0, 1) := by decide +kernel
theorem dX5_init_23 : decode cX5_init 23 = .ok (.iconst 0, 1) := by decide +kernel
theorem dX5_init_24 : decode cX5_init 24 = .ok (.putfield 22, 3) := by decide +kernel
theorem dX5_init_27 : decode cX5_init 27 = .ok (.aload_n 0, 1) := by decide +kernel
theorem dX5_init_28 : decode cX5_init 28 = .ok (.new 25, 3) := by decide +kernel
theorem dX5_init_31 : decode cX5_init 31 = .ok (.dup, 1) := by decide +kernel
theorem dX5_init_32 : decode cX5_init 32 = .ok (.invokespecial 27, 3) := by decide +kernel
theorem dX5_init_35 : decode cX5_init 35 = .ok (.putfield 28, 3) := by decide +kernel
theorem dX5_init_38 : decode cX5_init 38 = .ok (.return_, 1) := by decide +kernel
theorem dX5_size_0 : decode cX5_size 0 = .ok (.aload_n 0, 1) := by decide +kernel
theorem dX5_size_1 : decode cX5_size 1 = .ok (.getfield 15, 3) := by decide +kernel
theorem dX5_size_4 : decode cX5_size 4 = .ok (.ireturn, 1) := by decide +kernel
theorem dX5_clear_0 : decode cX5_clear 0 = .ok (.aload_n 0, 1) := by decide +kernel
theorem dX5_clear_1 : decode cX5_clear 1 = .ok (.iconst 0, 1) := by decide +kernel
theorem dX5_clear_2 : decode cX5_clear 2 = .ok (.putfield 15, 3) := by decide +kernel
theorem dX5_clear_5 : decode cX5_clear 5 = .ok (.return_, 1) := by decide +kernel
theorem dX5_append_0 : decode cX5_append 0 = .ok (.aload_n 0, 1) := by decide +kernel
theorem dX5_append_1 : decode cX5_append 1 = .ok (.getfield 15, 3) := by decide +kernel
theorem dX5_append_4 : decode cX5_append 4 = .ok (.ifCond .lt 12, 3) := by decide +kernel
theorem dX5_append_7 : decode cX5_append 7 = .ok (.aload_n 0, 1) := by decide +kernel
theorem dX5_append_8 : decode cX5_append 8 = .ok (.getfield 15, 3) := by decide +kernel
theorem dX5_append_11 : decode cX5_append 11 = .ok (.bipush 100, 2) := by decide +kernel
theorem dX5_append_13 : decode cX5_append 13 = .ok (.if_icmp .lt 5, 3) := by decide +kernel
theorem dX5_append_16 : decode cX5_append 16 = .ok (.iconst 0, 1) := by decide +kernel
theorem dX5_append_17 : decode cX5_append 17 = .ok (.ireturn, 1) := by decide +kernel
theorem dX5_append_18 : decode cX5_append 18 = .ok (.aload_n 0, 1) := by decide +kernel
theorem dX5_append_19 : decode cX5_append 19 = .ok (.getfield 9, 3) := by decide +kernel
theorem dX5_append_22 : decode cX5_append 22 = .ok (.aload_n 0, 1) := by decide +kernel
theorem dX5_append_23 : decode cX5_append 23 = .ok (.getfield 15, 3) := by decide +kernel
theorem dX5_append_26 : decode cX5_append 26 = .ok (.iload_n 1, 1) := by decide +kernel
theorem dX5_append_27 : decode cX5_append 27 = .ok (.iastore, 1) := by decide +kernel
theorem dX5_append_28 : decode cX5_append 28 = .ok (.aload_n 0, 1) := by decide +kernel
theorem dX5_append_29 : decode cX5_append 29 = .ok (.dup, 1) := by decide +kernel
theorem dX5_append_30 : decode cX5_append 30 = .ok (.getfield 15, 3) := by decide +kernel
theorem dX5_append_33 : decode cX5_append 33 = .ok (.iconst 1, 1) := by decide +kernel
theorem dX5_append_34 : decode cX5_append 34 = .ok (.iadd, 1) := by decide +kernel
theorem dX5_append_35 : decode cX5_append 35 = .ok (.putfield 15, 3) := by decide +kernel
theorem dX5_append_38 : decode cX5_append 38 = .ok (.iconst 1, 1) := by decide +kernel
theorem dX5_append_39 : decode cX5_append 39 = .ok (.ireturn, 1) := by decide +kernel
theorem dX5_parse_0 : decode cX5_parse 0 = .ok (.aload_n 0, 1) := by decide +kernel
theorem dX5_parse_1 : decode cX5_parse 1 = .ok (.iconst 0, 1) := by decide +kernel
theorem dX5_parse_2 : decode cX5_parse 2 = .ok (.putfield 19, 3) := by decide +kernel
theorem dX5_parse_5 : decode cX5_parse 5 = .ok (.aload_n 0, 1) := by decide +kernel
theorem dX5_parse_6 : decode cX5_parse 6 = .ok (.getfield 28, 3) := by decide +kernel
theorem dX5_parse_9 : decode cX5_parse 9 = .ok (.invokevirtual 32, 3) := by decide +kernel
theorem dX5_parse_12 : decode cX5_parse 12 = .ok (.aload_n 0, 1) := by decide +kernel
theorem dX5_parse_13 : decode cX5_parse 13 = .ok (.invokevirtual 35, 3) := by decide +kernel
theorem dX5_parse_16 : decode cX5_parse 16 = .ok (.ifCond .eq 28, 3) := by decide +kernel
theorem dX5_parse_19 : decode cX5_parse 19 = .ok (.aload_n 0, 1) := by decide +kernel
theorem dX5_parse_20 : decode cX5_parse 20 = .ok (.bipush 58, 2) := by decide +kernel
theorem dX5_parse_22 : decode cX5_parse 22 = .ok (.invokevirtual 39, 3) := by decide +kernel
theorem dX5_parse_25 : decode cX5_parse 25 = .ok (.ifCond .eq 19, 3) := by decide +kernel
theorem dX5_parse_28 : decode cX5_parse 28 = .ok (.aload_n 0, 1) := by decide +kernel
theorem dX5_parse_29 : decode cX5_parse 29 = .ok (.invokevirtual 43, 3) := by decide +kernel
theorem dX5_parse_32 : decode cX5_parse 32 = .ok (.ifCond .eq 12, 3) := by decide +kernel
theorem dX5_parse_35 : decode cX5_parse 35 = .ok (.aload_n 0, 1) := by decide +kernel
theorem dX5_parse_36 : decode cX5_parse 36 = .ok (.bipush 59, 2) := by decide +kernel
theorem dX5_parse_38 : decode cX5_parse 38 = .ok (.invokevirtual 39, 3) := by decide +kernel
theorem dX5_parse_41 : decode cX5_parse 41 = .ok (.ifCond .ne 5, 3) := by decide +kernel
theorem dX5_parse_44 : decode cX5_parse 44 = .ok (.iconst 0, 1) := by decide +kernel
theorem dX5_parse_45 : decode cX5_parse 45 = .ok (.ireturn, 1) := by decide +kernel
theorem dX5_parse_46 : decode cX5_parse 46 = .ok (.aload_n 0, 1) := by decide +kernel
theorem dX5_parse_47 : decode cX5_parse 47 = .ok (.invokevirtual 46, 3) := by decide +kernel
theorem dX5_parse_50 : decode cX5_parse 50 = .ok (.aload_n 0, 1) := by decide +kernel
theorem dX5_parse_51 : decode cX5_parse 51 = .ok (.getfield 19, 3) := by decide +kernel
theorem dX5_parse_54 : decode cX5_parse 54 = .ok (.aload_n 0, 1) := by decide +kernel
theorem dX5_parse_55 : decode cX5_parse 55 = .ok (.getfield 15, 3) := by decide +kernel
theorem dX5_parse_58 : decode cX5_parse 58 = .ok (.if_icmp .ne 7, 3) := by decide +kernel
theorem dX5_parse_61 : decode cX5_parse 61 = .ok (.iconst 1, 1) := by decide +kernel
theorem dX5_parse_62 : decode cX5_parse 62 = .ok (.goto 4, 3) := by decide +kernel
theorem dX5_parse_65 : decode cX5_parse 65 = .ok (.iconst 0, 1) := by decide +kernel
theorem dX5_parse_66 : decode cX5_parse 66 = .ok (.ireturn, 1) := by decide +kernel
theorem dX5_parsedTo_0 : decode cX5_parsedTo 0 = .ok (.aload_n 0, 1) := by decide +kernel
theorem dX5_parsedTo_1 : decode cX5_parsedTo 1 = .ok (.getfield 19, 3) := by decide +kernel
theorem dX5_parsedTo_4 : decode cX5_parsedTo 4 = .ok (.ireturn, 1) := by decide +kernel
theorem dX5_parsedHole_0 : decode cX5_parsedHole 0 = .ok (.aload_n 0, 1) := by decide +kernel
theorem dX5_parsedHole_1 : decode cX5_parsedHole 1 = .ok (.getfield 22, 3) := by decide +kernel
theorem dX5_parsedHole_4 : decode cX5_parsedHole 4 = .ok (.ireturn, 1) := by decide +kernel
theorem dX5_parsedBeds_0 : decode cX5_parsedBeds 0 = .ok (.aload_n 0, 1) := by decide +kernel
theorem dX5_parsedBeds_1 : decode cX5_parsedBeds 1 = .ok (.getfield 28, 3) := by decide +kernel
theorem dX5_parsedBeds_4 : decode cX5_parsedBeds 4 = .ok (.areturn, 1) := by decide +kernel
theorem dX5_current_0 : decode cX5_current 0 = .ok (.aload_n 0, 1) := by decide +kernel
theorem dX5_current_1 : decode cX5_current 1 = .ok (.getfield 19, 3) := by decide +kernel
theorem dX5_current_4 : decode cX5_current 4 = .ok (.ifCond .lt 35, 3) := by decide +kernel
theorem dX5_current_7 : decode cX5_current 7 = .ok (.aload_n 0, 1) := by decide +kernel
theorem dX5_current_8 : decode cX5_current 8 = .ok (.getfield 19, 3) := by decide +kernel
theorem dX5_current_11 : decode cX5_current 11 = .ok (.aload_n 0, 1) := by decide +kernel
theorem dX5_current_12 : decode cX5_current 12 = .ok (.getfield 15, 3) := by decide +kernel
theorem dX5_current_15 : decode cX5_current 15 = .ok (.if_icmp .ge 24, 3) := by decide +kernel
theorem dX5_current_18 : decode cX5_current 18 = .ok (.aload_n 0, 1) := by decide +kernel
theorem dX5_current_19 : decode cX5_current 19 = .ok (.getfield 19, 3) := by decide +kernel
theorem dX5_current_22 : decode cX5_current 22 = .ok (.bipush 100, 2) := by decide +kernel
theorem dX5_current_24 : decode cX5_current 24 = .ok (.if_icmp .ge 15, 3) := by decide +kernel
theorem dX5_current_27 : decode cX5_current 27 = .ok (.aload_n 0, 1) := by decide +kernel
theorem dX5_current_28 : decode cX5_current 28 = .ok (.getfield 9, 3) := by decide +kernel
theorem dX5_current_31 : decode cX5_current 31 = .ok (.aload_n 0, 1) := by decide +kernel
theorem dX5_current_32 : decode cX5_current 32 = .ok (.getfield 19, 3) := by decide +kernel
theorem dX5_current_35 : decode cX5_current 35 = .ok (.iaload, 1) := by decide +kernel
theorem dX5_current_36 : decode cX5_current 36 = .ok (.goto 4, 3) := by decide +kernel
theorem dX5_current_39 : decode cX5_current 39 = .ok (.iconst (-1), 1) := by decide +kernel
theorem dX5_current_40 : decode cX5_current 40 = .ok (.ireturn, 1) := by decide +kernel
theorem dX5_skipSpaces_0 : decode cX5_skipSpaces 0 = .ok (.aload_n 0, 1) := by decide +kernel
theorem dX5_skipSpaces_1 : decode cX5_skipSpaces 1 = .ok (.getfield 19, 3) := by decide +kernel
theorem dX5_skipSpaces_4 : decode cX5_skipSpaces 4 = .ok (.aload_n 0, 1) := by decide +kernel
theorem dX5_skipSpaces_5 : decode cX5_skipSpaces 5 = .ok (.getfield 15, 3) := by decide +kernel
theorem dX5_skipSpaces_8 : decode cX5_skipSpaces 8 = .ok (.if_icmp .ge 25, 3) := by decide +kernel
theorem dX5_skipSpaces_11 : decode cX5_skipSpaces 11 = .ok (.aload_n 0, 1) := by decide +kernel
theorem dX5_skipSpaces_12 : decode cX5_skipSpaces 12 = .ok (.invokevirtual 49, 3) := by decide +kernel
theorem dX5_skipSpaces_15 : decode cX5_skipSpaces 15 = .ok (.bipush 32, 2) := by decide +kernel
theorem dX5_skipSpaces_17 : decode cX5_skipSpaces 17 = .ok (.if_icmp .ne 16, 3) := by decide +kernel
theorem dX5_skipSpaces_20 : decode cX5_skipSpaces 20 = .ok (.aload_n 0, 1) := by decide +kernel
theorem dX5_skipSpaces_21 : decode cX5_skipSpaces 21 = .ok (.dup, 1) := by decide +kernel
theorem dX5_skipSpaces_22 : decode cX5_skipSpaces 22 = .ok (.getfield 19, 3) := by decide +kernel
theorem dX5_skipSpaces_25 : decode cX5_skipSpaces 25 = .ok (.iconst 1, 1) := by decide +kernel
theorem dX5_skipSpaces_26 : decode cX5_skipSpaces 26 = .ok (.iadd, 1) := by decide +kernel
theorem dX5_skipSpaces_27 : decode cX5_skipSpaces 27 = .ok (.putfield 19, 3) := by decide +kernel
theorem dX5_skipSpaces_30 : decode cX5_skipSpaces 30 = .ok (.goto (-30), 3) := by decide +kernel
theorem dX5_skipSpaces_33 : decode cX5_skipSpaces 33 = .ok (.return_, 1) := by decide +kernel
theorem dX5_parseSign_0 : decode cX5_parseSign 0 = .ok (.aload_n 0, 1) := by decide +kernel
theorem dX5_parseSign_1 : decode cX5_parseSign 1 = .ok (.invokevirtual 46, 3) := by decide +kernel
theorem dX5_parseSign_4 : decode cX5_parseSign 4 = .ok (.aload_n 0, 1) := by decide +kernel
theorem dX5_parseSign_5 : decode cX5_parseSign 5 = .ok (.invokevirtual 49, 3) := by decide +kernel
theorem dX5_parseSign_8 : decode cX5_parseSign 8 = .ok (.iload_n 1, 1) := by decide +kernel
theorem dX5_parseSign_9 : decode cX5_parseSign 9 = .ok (.if_icmp .eq 5, 3) := by decide +kernel
theorem dX5_parseSign_12 : decode cX5_parseSign 12 = .ok (.iconst 0, 1) := by decide +kernel
theorem dX5_parseSign_13 : decode cX5_parseSign 13 = .ok (.ireturn, 1) := by decide +kernel
theorem dX5_parseSign_14 : decode cX5_parseSign 14 = .ok (.aload_n 0, 1) := by decide +kernel
theorem dX5_parseSign_15 : decode cX5_parseSign 15 = .ok (.dup, 1) := by decide +kernel
theorem dX5_parseSign_16 : decode cX5_parseSign 16 = .ok (.getfield 19, 3) := by decide +kernel
theorem dX5_parseSign_19 : decode cX5_parseSign 19 = .ok (.iconst 1, 1) := by decide +kernel
theorem dX5_parseSign_20 : decode cX5_parseSign 20 = .ok (.iadd, 1) := by decide +kernel
theorem dX5_parseSign_21 : decode cX5_parseSign 21 = .ok (.putfield 19, 3) := by decide +kernel
theorem dX5_parseSign_24 : decode cX5_parseSign 24 = .ok (.iconst 1, 1) := by decide +kernel
theorem dX5_parseSign_25 : decode cX5_parseSign 25 = .ok (.ireturn, 1) := by decide +kernel
theorem dX5_parseHole_0 : decode cX5_parseHole 0 = .ok (.aload_n 0, 1) := by decide +kernel
theorem dX5_parseHole_1 : decode cX5_parseHole 1 = .ok (.invokevirtual 46, 3) := by decide +kernel
theorem dX5_parseHole_4 : decode cX5_parseHole 4 = .ok (.aload_n 0, 1) := by decide +kernel
theorem dX5_parseHole_5 : decode cX5_parseHole 5 = .ok (.invokevirtual 49, 3) := by decide +kernel
theorem dX5_parseHole_8 : decode cX5_parseHole 8 = .ok (.bipush 48, 2) := by decide +kernel
theorem dX5_parseHole_10 : decode cX5_parseHole 10 = .ok (.isub, 1) := by decide +kernel
theorem dX5_parseHole_11 : decode cX5_parseHole 11 = .ok (.istore_n 1, 1) := by decide +kernel
theorem dX5_parseHole_12 : decode cX5_parseHole 12 = .ok (.iload_n 1, 1) := by decide +kernel
theorem dX5_parseHole_13 : decode cX5_parseHole 13 = .ok (.invokestatic 53, 3) := by decide +kernel
theorem dX5_parseHole_16 : decode cX5_parseHole 16 = .ok (.ifCond .ne 5, 3) := by decide +kernel
theorem dX5_parseHole_19 : decode cX5_parseHole 19 = .ok (.iconst 0, 1) := by decide +kernel
theorem dX5_parseHole_20 : decode cX5_parseHole 20 = .ok (.ireturn, 1) := by decide +kernel
theorem dX5_parseHole_21 : decode cX5_parseHole 21 = .ok (.aload_n 0, 1) := by decide +kernel
theorem dX5_parseHole_22 : decode cX5_parseHole 22 = .ok (.iload_n 1, 1) := by decide +kernel
theorem dX5_parseHole_23 : decode cX5_parseHole 23 = .ok (.putfield 22, 3) := by decide +kernel
theorem dX5_parseHole_26 : decode cX5_parseHole 26 = .ok (.aload_n 0, 1) := by decide +kernel
theorem dX5_parseHole_27 : decode cX5_parseHole 27 = .ok (.dup, 1) := by decide +kernel
theorem dX5_parseHole_28 : decode cX5_parseHole 28 = .ok (.getfield 19, 3) := by decide +kernel
theorem dX5_parseHole_31 : decode cX5_parseHole 31 = .ok (.iconst 1, 1) := by decide +kernel
theorem dX5_parseHole_32 : decode cX5_parseHole 32 = .ok (.iadd, 1) := by decide +kernel
theorem dX5_parseHole_33 : decode cX5_parseHole 33 = .ok (.putfield 19, 3) := by decide +kernel
theorem dX5_parseHole_36 : decode cX5_parseHole 36 = .ok (.iconst 1, 1) := by decide +kernel
theorem dX5_parseHole_37 : decode cX5_parseHole 37 = .ok (.ireturn, 1) := by decide +kernel
theorem dX5_parseBeds_0 : decode cX5_parseBeds 0 = .ok (.iconst 0, 1) := by decide +kernel
theorem dX5_parseBeds_1 : decode cX5_parseBeds 1 = .ok (.istore_n 1, 1) := by decide +kernel
theorem dX5_parseBeds_2 : decode cX5_parseBeds 2 = .ok (.iload_n 1, 1) := by decide +kernel
theorem dX5_parseBeds_3 : decode cX5_parseBeds 3 = .ok (.bipush 24, 2) := by decide +kernel
theorem dX5_parseBeds_5 : decode cX5_parseBeds 5 = .ok (.if_icmp .ge 66, 3) := by decide +kernel
theorem dX5_parseBeds_8 : decode cX5_parseBeds 8 = .ok (.aload_n 0, 1) := by decide +kernel
theorem dX5_parseBeds_9 : decode cX5_parseBeds 9 = .ok (.invokevirtual 46, 3) := by decide +kernel
theorem dX5_parseBeds_12 : decode cX5_parseBeds 12 = .ok (.aload_n 0, 1) := by decide +kernel
theorem dX5_parseBeds_13 : decode cX5_parseBeds 13 = .ok (.invokevirtual 49, 3) := by decide +kernel
theorem dX5_parseBeds_16 : decode cX5_parseBeds 16 = .ok (.bipush 97, 2) := by decide +kernel
theorem dX5_parseBeds_18 : decode cX5_parseBeds 18 = .ok (.isub, 1) := by decide +kernel
theorem dX5_parseBeds_19 : decode cX5_parseBeds 19 = .ok (.istore_n 2, 1) := by decide +kernel
theorem dX5_parseBeds_20 : decode cX5_parseBeds 20 = .ok (.iload_n 2, 1) := by decide +kernel
theorem dX5_parseBeds_21 : decode cX5_parseBeds 21 = .ok (.invokestatic 56, 3) := by decide +kernel
theorem dX5_parseBeds_24 : decode cX5_parseBeds 24 = .ok (.ifCond .ne 5, 3) := by decide +kernel
theorem dX5_parseBeds_27 : decode cX5_parseBeds 27 = .ok (.iconst 1, 1) := by decide +kernel
theorem dX5_parseBeds_28 : decode cX5_parseBeds 28 = .ok (.ireturn, 1) := by decide +kernel
theorem dX5_parseBeds_29 : decode cX5_parseBeds 29 = .ok (.aload_n 0, 1) := by decide +kernel
theorem dX5_parseBeds_30 : decode cX5_parseBeds 30 = .ok (.dup, 1) := by decide +kernel
theorem dX5_parseBeds_31 : decode cX5_parseBeds 31 = .ok (.getfield 19, 3) := by decide +kernel
theorem dX5_parseBeds_34 : decode cX5_parseBeds 34 = .ok (.iconst 1, 1) := by decide +kernel
theorem dX5_parseBeds_35 : decode cX5_parseBeds 35 = .ok (.iadd, 1) := by decide +kernel
theorem dX5_parseBeds_36 : decode cX5_parseBeds 36 = .ok (.putfield 19, 3) := by decide +kernel
theorem dX5_parseBeds_39 : decode cX5_parseBeds 39 = .ok (.aload_n 0, 1) := by decide +kernel
theorem dX5_parseBeds_40 : decode cX5_parseBeds 40 = .ok (.invokevirtual 46, 3) := by decide +kernel
theorem dX5_parseBeds_43 : decode cX5_parseBeds 43 = .ok (.aload_n 0, 1) := by decide +kernel
theorem dX5_parseBeds_44 : decode cX5_parseBeds 44 = .ok (.invokevirtual 59, 3) := by decide +kernel
theorem dX5_parseBeds_47 : decode cX5_parseBeds 47 = .ok (.istore_n 3, 1) := by decide +kernel
theorem dX5_parseBeds_48 : decode cX5_parseBeds 48 = .ok (.iload_n 3, 1) := by decide +kernel
theorem dX5_parseBeds_49 : decode cX5_parseBeds 49 = .ok (.ifCond .ne 5, 3) := by decide +kernel
theorem dX5_parseBeds_52 : decode cX5_parseBeds 52 = .ok (.iconst 0, 1) := by decide +kernel
theorem dX5_parseBeds_53 : decode cX5_parseBeds 53 = .ok (.ireturn, 1) := by decide +kernel
theorem dX5_parseBeds_54 : decode cX5_parseBeds 54 = .ok (.aload_n 0, 1) := by decide +kernel
theorem dX5_parseBeds_55 : decode cX5_parseBeds 55 = .ok (.getfield 28, 3) := by decide +kernel
theorem dX5_parseBeds_58 : decode cX5_parseBeds 58 = .ok (.iload_n 1, 1) := by decide +kernel
theorem dX5_parseBeds_59 : decode cX5_parseBeds 59 = .ok (.iload_n 2, 1) := by decide +kernel
theorem dX5_parseBeds_60 : decode cX5_parseBeds 60 = .ok (.iload_n 3, 1) := by decide +kernel
theorem dX5_parseBeds_61 : decode cX5_parseBeds 61 = .ok (.invokevirtual 62, 3) := by decide +kernel
theorem dX5_parseBeds_64 : decode cX5_parseBeds 64 = .ok (.pop, 1) := by decide +kernel
theorem dX5_parseBeds_65 : decode cX5_parseBeds 65 = .ok (.iinc 1 1, 3) := by decide +kernel
theorem dX5_parseBeds_68 : decode cX5_parseBeds 68 = .ok (.goto (-66), 3) := by decide +kernel
theorem dX5_parseBeds_71 : decode cX5_parseBeds 71 = .ok (.iconst 1, 1) := by decide +kernel
theorem dX5_parseBeds_72 : decode cX5_parseBeds 72 = .ok (.ireturn, 1) := by decide +kernel
theorem dX5_parseThickness_0 : decode cX5_parseThickness 0 = .ok (.aload_n 0, 1) := by decide +kernel
theorem dX5_parseThickness_1 : decode cX5_parseThickness 1 = .ok (.invokevirtual 49, 3) := by decide +kernel
theorem dX5_parseThickness_4 : decode cX5_parseThickness 4 = .ok (.bipush 48, 2) := by decide +kernel
theorem dX5_parseThickness_6 : decode cX5_parseThickness 6 = .ok (.isub, 1) := by decide +kernel
theorem dX5_parseThickness_7 : decode cX5_parseThickness 7 = .ok (.istore_n 1, 1) := by decide +kernel
theorem dX5_parseThickness_8 : decode cX5_parseThickness 8 = .ok (.iload_n 1, 1) := by decide +kernel
theorem dX5_parseThickness_9 : decode cX5_parseThickness 9 = .ok (.iconst 1, 1) := by decide +kernel
theorem dX5_parseThickness_10 : decode cX5_parseThickness 10 = .ok (.if_icmp .lt 9, 3) := by decide +kernel
theorem dX5_parseThickness_13 : decode cX5_parseThickness 13 = .ok (.iload_n 1, 1) := by decide +kernel
theorem dX5_parseThickness_14 : decode cX5_parseThickness 14 = .ok (.bipush 9, 2) := by decide +kernel
theorem dX5_parseThickness_16 : decode cX5_parseThickness 16 = .ok (.if_icmp .le 5, 3) := by decide +kernel
theorem dX5_parseThickness_19 : decode cX5_parseThickness 19 = .ok (.iconst 0, 1) := by decide +kernel
theorem dX5_parseThickness_20 : decode cX5_parseThickness 20 = .ok (.ireturn, 1) := by decide +kernel
theorem dX5_parseThickness_21 : decode cX5_parseThickness 21 = .ok (.aload_n 0, 1) := by decide +kernel
theorem dX5_parseThickness_22 : decode cX5_parseThickness 22 = .ok (.dup, 1) := by decide +kernel
theorem dX5_parseThickness_23 : decode cX5_parseThickness 23 = .ok (.getfield 19, 3) := by decide +kernel
theorem dX5_parseThickness_26 : decode cX5_parseThickness 26 = .ok (.iconst 1, 1) := by decide +kernel
theorem dX5_parseThickness_27 : decode cX5_parseThickness 27 = .ok (.iadd, 1) := by decide +kernel
theorem dX5_parseThickness_28 : decode cX5_parseThickness 28 = .ok (.putfield 19, 3) := by decide +kernel
theorem dX5_parseThickness_31 : decode cX5_parseThickness 31 = .ok (.aload_n 0, 1) := by decide +kernel
theorem dX5_parseThickness_32 : decode cX5_parseThickness 32 = .ok (.invokevirtual 49, 3) := by decide +kernel
theorem dX5_parseThickness_35 : decode cX5_parseThickness 35 = .ok (.bipush 48, 2) := by decide +kernel
theorem dX5_parseThickness_37 : decode cX5_parseThickness 37 = .ok (.isub, 1) := by decide +kernel
theorem dX5_parseThickness_38 : decode cX5_parseThickness 38 = .ok (.istore_n 2, 1) := by decide +kernel
theorem dX5_parseThickness_39 : decode cX5_parseThickness 39 = .ok (.iload_n 2, 1) := by decide +kernel
theorem dX5_parseThickness_40 : decode cX5_parseThickness 40 = .ok (.ifCond .lt 9, 3) := by decide +kernel
theorem dX5_parseThickness_43 : decode cX5_parseThickness 43 = .ok (.iload_n 2, 1) := by decide +kernel
theorem dX5_parseThickness_44 : decode cX5_parseThickness 44 = .ok (.bipush 9, 2) := by decide +kernel
theorem dX5_parseThickness_46 : decode cX5_parseThickness 46 = .ok (.if_icmp .le 5, 3) := by decide +kernel
theorem dX5_parseThickness_49 : decode cX5_parseThickness 49 = .ok (.iload_n 1, 1) := by decide +kernel
theorem dX5_parseThickness_50 : decode cX5_parseThickness 50 = .ok (.ireturn, 1) := by decide +kernel
theorem dX5_parseThickness_51 : decode cX5_parseThickness 51 = .ok (.aload_n 0, 1) := by decide +kernel
theorem dX5_parseThickness_52 : decode cX5_parseThickness 52 = .ok (.dup, 1) := by decide +kernel
theorem dX5_parseThickness_53 : decode cX5_parseThickness 53 = .ok (.getfield 19, 3) := by decide +kernel
theorem dX5_parseThickness_56 : decode cX5_parseThickness 56 = .ok (.iconst 1, 1) := by decide +kernel
theorem dX5_parseThickness_57 : decode cX5_parseThickness 57 = .ok (.iadd, 1) := by decide +kernel
theorem dX5_parseThickness_58 : decode cX5_parseThickness 58 = .ok (.putfield 19, 3) := by decide +kernel
theorem dX5_parseThickness_61 : decode cX5_parseThickness 61 = .ok (.bipush 10, 2) := by decide +kernel
theorem dX5_parseThickness_63 : decode cX5_parseThickness 63 = .ok (.iload_n 1, 1) := by decide +kernel
theorem dX5_parseThickness_64 : decode cX5_parseThickness 64 = .ok (.imul, 1) := by decide +kernel
theorem dX5_parseThickness_65 : decode cX5_parseThickness 65 = .ok (.iload_n 2, 1) := by decide +kernel
theorem dX5_parseThickness_66 : decode cX5_parseThickness 66 = .ok (.iadd, 1) := by decide +kernel
theorem dX5_parseThickness_67 : decode cX5_parseThickness 67 = .ok (.ireturn, 1) := by decide +kernel
theorem dX6_init_0 : decode cX6_init 0 = .ok (.aload_n 0, 1) := by decide +kernel
theorem dX6_init_1 : decode cX6_init 1 = .ok (.invokespecial 1, 3) := by decide +kernel
theorem dX6_init_4 : decode cX6_init 4 = .ok (.aload_n 0, 1) := by decide +kernel
theorem dX6_init_5 : decode cX6_init 5 = .ok (.new 7, 3) := by decide +kernel
theorem dX6_init_8 : decode cX6_init 8 = .ok (.dup, 1) := by decide +kernel
theorem dX6_init_9 : decode cX6_init 9 = .ok (.invokespecial 9, 3) := by decide +kernel
theorem dX6_init_12 : decode cX6_init 12 = .ok (.putfield 10, 3) := by decide +kernel
theorem dX6_init_15 : decode cX6_init 15 = .ok (.aload_n 0, 1) := by decide +kernel
theorem dX6_init_16 : decode cX6_init 16 = .ok (.new 16, 3) := by decide +kernel
theorem dX6_init_19 : decode cX6_init 19 = .ok (.dup, 1) := by decide +kernel
theorem dX6_init_20 : decode cX6_init 20 = .ok (.invokespecial 18, 3) := by decide +kernel
theorem dX6_init_23 : decode cX6_init 23 = .ok (.putfield 19, 3) := by decide +kernel
theorem dX6_init_26 : decode cX6_init 26 = .ok (.aload_n 0, 1) := by decide +kernel
theorem dX6_init_27 : decode cX6_init 27 = .ok (.iconst 2, 1) := by decide +kernel
theorem dX6_init_28 : decode cX6_init 28 = .ok (.anewarray 7, 3) := by decide +kernel
theorem dX6_init_31 : decode cX6_init 31 = .ok (.putfield 23, 3) := by decide +kernel
theorem dX6_init_34 : decode cX6_init 34 = .ok (.iconst 0, 1) := by decide +kernel
theorem dX6_init_35 : decode cX6_init 35 = .ok (.istore_n 1, 1) := by decide +kernel
theorem dX6_init_36 : decode cX6_init 36 = .ok (.iload_n 1, 1) := by decide +kernel
theorem dX6_init_37 : decode cX6_init 37 = .ok (.iconst 2, 1) := by decide +kernel
theorem dX6_init_38 : decode cX6_init 38 = .ok (.if_icmp .ge 22, 3) := by decide +kernel
theorem dX6_init_41 : decode cX6_init 41 = .ok (.aload_n 0, 1) := by decide +kernel
theorem dX6_init_42 : decode cX6_init 42 = .ok (.getfield 23, 3) := by decide +kernel
theorem dX6_init_45 : decode cX6_init 45 = .ok (.iload_n 1, 1) := by decide +kernel
theorem dX6_init_46 : decode cX6_init 46 = .ok (.new 7, 3) := by decide +kernel
theorem dX6_init_49 : decode cX6_init 49 = .ok (.dup, 1) := by decide +kernel
theorem dX6_init_50 : decode cX6_init 50 = .ok (.invokespecial 9, 3) := by decide +kernel
theorem dX6_init_53 : decode cX6_init 53 = .ok (.aastore, 1) := by decide +kernel
theorem dX6_init_54 : decode cX6_init 54 = .ok (.iinc 1 1, 3) := by decide +kernel
theorem dX6_init_57 : decode cX6_init 57 = .ok (.goto (-21), 3) := by decide +kernel
theorem dX6_init_60 : decode cX6_init 60 = .ok (.aload_n 0, 1) := by decide +kernel
theorem dX6_init_61 : decode cX6_init 61 = .ok (.iconst 0, 1) := by decide +kernel
theorem dX6_init_62 : decode cX6_init 62 = .ok (.putfield 27, 3) := by decide +kernel
theorem dX6_init_65 : decode cX6_init 65 = .ok (.aload_n 0, 1) := by decide +kernel
theorem dX6_init_66 : decode cX6_init 66 = .ok (.new 31, 3) := by decide +kernel
theorem dX6_init_69 : decode cX6_init 69 = .ok (.dup, 1) := by decide +kernel
theorem dX6_init_70 : decode cX6_init 70 = .ok (.invokespecial 33, 3) := by decide +kernel
theorem dX6_init_73 : decode cX6_init 73 = .ok (.putfield 34, 3) := by decide +kernel
theorem dX6_init_76 : decode cX6_init 76 = .ok (.aload_n 0, 1) := by decide +kernel
theorem dX6_init_77 : decode cX6_init 77 = .ok (.new 38, 3) := by decide +kernel
theorem dX6_init_80 : decode cX6_init 80 = .ok (.dup, 1) := by decide +kernel
theorem dX6_init_81 : decode cX6_init 81 = .ok (.invokespecial 40, 3) := by decide +kernel
theorem dX6_init_84 : decode cX6_init 84 = .ok (.putfield 41, 3) := by decide +kernel
theorem dX6_init_87 : decode cX6_init 87 = .ok (.aload_n 0, 1) := by decide +kernel
theorem dX6_init_88 : decode cX6_init 88 = .ok (.new 45, 3) := by decide +kernel
theorem dX6_init_91 : decode cX6_init 91 = .ok (.dup, 1) := by decide +kernel
theorem dX6_init_92 : decode cX6_init 92 = .ok (.invokespecial 47, 3) := by decide +kernel
theorem dX6_init_95 : decode cX6_init 95 = .ok (.putfield 48, 3) := by decide +kernel
theorem dX6_init_98 : decode cX6_init 98 = .ok (.aload_n 0, 1) := by decide +kernel
theorem dX6_init_99 : decode cX6_init 99 = .ok (.new 45, 3) := by decide +kernel
theorem dX6_init_102 : decode cX6_init 102 = .ok (.dup, 1) := by decide +kernel
theorem dX6_init_103 : decode cX6_init 103 = .ok (.invokespecial 47, 3) := by decide +kernel
theorem dX6_init_106 : decode cX6_init 106 = .ok (.putfield 52, 3) := by decide +kernel
theorem dX6_init_109 : decode cX6_init 109 = .ok (.aload_n 0, 1) := by decide +kernel
theorem dX6_init_110 : decode cX6_init 110 = .ok (.new 45, 3) := by decide +kernel
theorem dX6_init_113 : decode cX6_init 113 = .ok (.dup, 1) := by decide +kernel
theorem dX6_init_114 : decode cX6_init 114 = .ok (.invokespecial 47, 3) := by decide +kernel
theorem dX6_init_117 : decode cX6_init 117 = .ok (.putfield 55, 3) := by decide +kernel
theorem dX6_init_120 : decode cX6_init 120 = .ok (.return_, 1) := by decide +kernel
theorem dX6_setNumber_0 : decode cX6_setNumber 0 = .ok (.iload_n 1, 1) := by decide +kernel
theorem dX6_setNumber_1 : decode cX6_setNumber 1 = .ok (.ifCond .lt 8, 3) := by decide +kernel
theorem dX6_setNumber_4 : decode cX6_setNumber 4 = .ok (.iload_n 1, 1) := by decide +kernel
theorem dX6_setNumber_5 : decode cX6_setNumber 5 = .ok (.iconst 5, 1) := by decide +kernel
theorem dX6_setNumber_6 : decode cX6_setNumber 6 = .ok (.if_icmp .lt 6, 3) := by decide +kernel
theorem dX6_setNumber_9 : decode cX6_setNumber 9 = .ok (.ldc 58, 2) := by decide +kernel
theorem dX6_setNumber_11 : decode cX6_setNumber 11 = .ok (.ireturn, 1) := by decide +kernel
theorem dX6_setNumber_12 : decode cX6_setNumber 12 = .ok (.iload_n 2, 1) := by decide +kernel
theorem dX6_setNumber_13 : decode cX6_setNumber 13 = .ok (.getstatic 59, 3) := by decide +kernel
theorem dX6_setNumber_16 : decode cX6_setNumber 16 = .ok (.iload_n 1, 1) := by decide +kernel
theorem dX6_setNumber_17 : decode cX6_setNumber 17 = .ok (.iaload, 1) := by decide +kernel
theorem dX6_setNumber_18 : decode cX6_setNumber 18 = .ok (.if_icmp .lt 12, 3) := by decide +kernel
theorem dX6_setNumber_21 : decode cX6_setNumber 21 = .ok (.iload_n 2, 1) := by decide +kernel
theorem dX6_setNumber_22 : decode cX6_setNumber 22 = .ok (.getstatic 63, 3) := by decide +kernel
theorem dX6_setNumber_25 : decode cX6_setNumber 25 = .ok (.iload_n 1, 1) := by decide +kernel
theorem dX6_setNumber_26 : decode cX6_setNumber 26 = .ok (.iaload, 1) := by decide +kernel
theorem dX6_setNumber_27 : decode cX6_setNumber 27 = .ok (.if_icmp .le 6, 3) := by decide +kernel
theorem dX6_setNumber_30 : decode cX6_setNumber 30 = .ok (.ldc 58, 2) := by decide +kernel
theorem dX6_setNumber_32 : decode cX6_setNumber 32 = .ok (.ireturn, 1) := by decide +kernel
theorem dX6_setNumber_33 : decode cX6_setNumber 33 = .ok (.aload_n 0, 1) := by decide +kernel
theorem dX6_setNumber_34 : decode cX6_setNumber 34 = .ok (.getfield 19, 3) := by decide +kernel
theorem dX6_setNumber_37 : decode cX6_setNumber 37 = .ok (.aload_n 0, 1) := by decide +kernel
theorem dX6_setNumber_38 : decode cX6_setNumber 38 = .ok (.getfield 10, 3) := by decide +kernel
theorem dX6_setNumber_41 : decode cX6_setNumber 41 = .ok (.invokevirtual 66, 3) := by decide +kernel
theorem dX6_setNumber_44 : decode cX6_setNumber 44 = .ok (.aload_n 0, 1) := by decide +kernel
theorem dX6_setNumber_45 : decode cX6_setNumber 45 = .ok (.getfield 10, 3) := by decide +kernel
theorem dX6_setNumber_48 : decode cX6_setNumber 48 = .ok (.iload_n 1, 1) := by decide +kernel
theorem dX6_setNumber_49 : decode cX6_setNumber 49 = .ok (.invokevirtual 70, 3) := by decide +kernel
theorem dX6_setNumber_52 : decode cX6_setNumber 52 = .ok (.istore_n 3, 1) := by decide +kernel
theorem dX6_setNumber_53 : decode cX6_setNumber 53 = .ok (.aload_n 0, 1) := by decide +kernel
theorem dX6_setNumber_54 : decode cX6_setNumber 54 = .ok (.getfield 10, 3) := by decide +kernel
theorem dX6_setNumber_57 : decode cX6_setNumber 57 = .ok (.iload_n 1, 1) := by decide +kernel
theorem dX6_setNumber_58 : decode cX6_setNumber 58 = .ok (.iload_n 2, 1) := by decide +kernel
theorem dX6_setNumber_59 : decode cX6_setNumber 59 = .ok (.invokevirtual 74, 3) := by decide +kernel
theorem dX6_setNumber_62 : decode cX6_setNumber 62 = .ok (.iload_n 3, 1) := by decide +kernel
theorem dX6_setNumber_63 : decode cX6_setNumber 63 = .ok (.ireturn, 1) := by decide +kernel
theorem dX6_setKey_0 : decode cX6_setKey 0 = .ok (.iload_n 1, 1) := by decide +kernel
theorem dX6_setKey_1 : decode cX6_setKey 1 = .ok (.invokestatic 78, 3) := by decide +kernel
theorem dX6_setKey_4 : decode cX6_setKey 4 = .ok (.ifCond .eq 12, 3) := by decide +kernel
theorem dX6_setKey_7 : decode cX6_setKey 7 = .ok (.iload_n 2, 1) := by decide +kernel
theorem dX6_setKey_8 : decode cX6_setKey 8 = .ok (.ifCond .lt 8, 3) := by decide +kernel
theorem dX6_setKey_11 : decode cX6_setKey 11 = .ok (.iload_n 2, 1) := by decide +kernel
theorem dX6_setKey_12 : decode cX6_setKey 12 = .ok (.iconst 1, 1) := by decide +kernel
theorem dX6_setKey_13 : decode cX6_setKey 13 = .ok (.if_icmp .le 6, 3) := by decide +kernel
theorem dX6_setKey_16 : decode cX6_setKey 16 = .ok (.ldc 58, 2) := by decide +kernel
theorem dX6_setKey_18 : decode cX6_setKey 18 = .ok (.ireturn, 1) := by decide +kernel
theorem dX6_setKey_19 : decode cX6_setKey 19 = .ok (.aload_n 0, 1) := by decide +kernel
theorem dX6_setKey_20 : decode cX6_setKey 20 = .ok (.getfield 19, 3) := by decide +kernel
theorem dX6_setKey_23 : decode cX6_setKey 23 = .ok (.aload_n 0, 1) := by decide +kernel
theorem dX6_setKey_24 : decode cX6_setKey 24 = .ok (.getfield 10, 3) := by decide +kernel
theorem dX6_setKey_27 : decode cX6_setKey 27 = .ok (.invokevirtual 66, 3) := by decide +kernel
theorem dX6_setKey_30 : decode cX6_setKey 30 = .ok (.aload_n 0, 1) := by decide +kernel
theorem dX6_setKey_31 : decode cX6_setKey 31 = .ok (.getfield 10, 3) := by decide +kernel
theorem dX6_setKey_34 : decode cX6_setKey 34 = .ok (.iload_n 1, 1) := by decide +kernel
theorem dX6_setKey_35 : decode cX6_setKey 35 = .ok (.invokevirtual 82, 3) := by decide +kernel
theorem dX6_setKey_38 : decode cX6_setKey 38 = .ok (.ifCond .eq 7, 3) := by decide +kernel
theorem dX6_setKey_41 : decode cX6_setKey 41 = .ok (.iconst 1, 1) := by decide +kernel
theorem dX6_setKey_42 : decode cX6_setKey 42 = .ok (.goto 4, 3) := by decide +kernel
theorem dX6_setKey_45 : decode cX6_setKey 45 = .ok (.iconst 0, 1) := by decide +kernel
theorem dX6_setKey_46 : decode cX6_setKey 46 = .ok (.istore_n 3, 1) := by decide +kernel
theorem dX6_setKey_47 : decode cX6_setKey 47 = .ok (.aload_n 0, 1) := by decide +kernel
theorem dX6_setKey_48 : decode cX6_setKey 48 = .ok (.getfield 10, 3) := by decide +kernel
theorem dX6_setKey_51 : decode cX6_setKey 51 = .ok (.iload_n 1, 1) := by decide +kernel
theorem dX6_setKey_52 : decode cX6_setKey 52 = .ok (.iload_n 2, 1) := by decide +kernel
theorem dX6_setKey_53 : decode cX6_setKey 53 = .ok (.iconst 1, 1) := by decide +kernel
theorem dX6_setKey_54 : decode cX6_setKey 54 = .ok (.if_icmp .ne 7, 3) := by decide +kernel
theorem dX6_setKey_57 : decode cX6_setKey 57 = .ok (.iconst 1, 1) := by decide +kernel
theorem dX6_setKey_58 : decode cX6_setKey 58 = .ok (.goto 4, 3) := by decide +kernel
theorem dX6_setKey_61 : decode cX6_setKey 61 = .ok (.iconst 0, 1) := by decide +kernel
theorem dX6_setKey_62 : decode cX6_setKey 62 = .ok (.invokevirtual 85, 3) := by decide +kernel
theorem dX6_setKey_65 : decode cX6_setKey 65 = .ok (.iload_n 3, 1) := by decide +kernel
theorem dX6_setKey_66 : decode cX6_setKey 66 = .ok (.ireturn, 1) := by decide +kernel
theorem dX6_setCollar_0 : decode cX6_setCollar 0 = .ok (.iload_n 1, 1) := by decide +kernel
theorem dX6_setCollar_1 : decode cX6_setCollar 1 = .ok (.invokestatic 89, 3) := by decide +kernel
theorem dX6_setCollar_4 : decode cX6_setCollar 4 = .ok (.ifCond .eq 17, 3) := by decide +kernel
theorem dX6_setCollar_7 : decode cX6_setCollar 7 = .ok (.iload_n 2, 1) := by decide +kernel
theorem dX6_setCollar_8 : decode cX6_setCollar 8 = .ok (.sipush (-9999), 3) := by decide +kernel
theorem dX6_setCollar_11 : decode cX6_setCollar 11 = .ok (.if_icmp .lt 10, 3) := by decide +kernel
theorem dX6_setCollar_14 : decode cX6_setCollar 14 = .ok (.iload_n 2, 1) := by decide +kernel
theorem dX6_setCollar_15 : decode cX6_setCollar 15 = .ok (.sipush 9999, 3) := by decide +kernel
theorem dX6_setCollar_18 : decode cX6_setCollar 18 = .ok (.if_icmp .le 6, 3) := by decide +kernel
theorem dX6_setCollar_21 : decode cX6_setCollar 21 = .ok (.ldc 58, 2) := by decide +kernel
theorem dX6_setCollar_23 : decode cX6_setCollar 23 = .ok (.ireturn, 1) := by decide +kernel
theorem dX6_setCollar_24 : decode cX6_setCollar 24 = .ok (.aload_n 0, 1) := by decide +kernel
theorem dX6_setCollar_25 : decode cX6_setCollar 25 = .ok (.getfield 19, 3) := by decide +kernel
theorem dX6_setCollar_28 : decode cX6_setCollar 28 = .ok (.aload_n 0, 1) := by decide +kernel
theorem dX6_setCollar_29 : decode cX6_setCollar 29 = .ok (.getfield 10, 3) := by decide +kernel
theorem dX6_setCollar_32 : decode cX6_setCollar 32 = .ok (.invokevirtual 66, 3) := by decide +kernel
theorem dX6_setCollar_35 : decode cX6_setCollar 35 = .ok (.aload_n 0, 1) := by decide +kernel
theorem dX6_setCollar_36 : decode cX6_setCollar 36 = .ok (.getfield 10, 3) := by decide +kernel
theorem dX6_setCollar_39 : decode cX6_setCollar 39 = .ok (.iload_n 1, 1) := by decide +kernel
theorem dX6_setCollar_40 : decode cX6_setCollar 40 = .ok (.invokevirtual 92, 3) := by decide +kernel
theorem dX6_setCollar_43 : decode cX6_setCollar 43 = .ok (.astore_n 3, 1) := by decide +kernel
theorem dX6_setCollar_44 : decode cX6_setCollar 44 = .ok (.aload_n 3, 1) := by decide +kernel
theorem dX6_setCollar_45 : decode cX6_setCollar 45 = .ok (.invokevirtual 96, 3) := by decide +kernel
theorem dX6_setCollar_48 : decode cX6_setCollar 48 = .ok (.istore 4, 2) := by decide +kernel
theorem dX6_setCollar_50 : decode cX6_setCollar 50 = .ok (.aload_n 3, 1) := by decide +kernel
theorem dX6_setCollar_51 : decode cX6_setCollar 51 = .ok (.iload_n 2, 1) := by decide +kernel
theorem dX6_setCollar_52 : decode cX6_setCollar 52 = .ok (.invokevirtual 100, 3) := by decide +kernel
theorem dX6_setCollar_55 : decode cX6_setCollar 55 = .ok (.iload 4, 2) := by decide +kernel
theorem dX6_setCollar_57 : decode cX6_setCollar 57 = .ok (.ireturn, 1) := by decide +kernel
theorem dX6_addBed_0 : decode cX6_addBed 0 = .ok (.iload_n 1, 1) := by decide +kernel
theorem dX6_addBed_1 : decode cX6_addBed 1 = .ok (.invokestatic 89, 3) := by decide +kernel
theorem dX6_addBed_4 : decode cX6_addBed 4 = .ok (.ifCond .eq 18, 3) := by decide +kernel
theorem dX6_addBed_7 : decode cX6_addBed 7 = .ok (.iload_n 3, 1) := by decide +kernel
theorem dX6_addBed_8 : decode cX6_addBed 8 = .ok (.invokestatic 78, 3) := by decide +kernel
theorem dX6_addBed_11 : decode cX6_addBed 11 = .ok (.ifCond .eq 11, 3) := by decide +kernel
theorem dX6_addBed_14 : decode cX6_addBed 14 = .ok (.iload 4, 2) := by decide +kernel
theorem dX6_addBed_16 : decode cX6_addBed 16 = .ok (.invokestatic 104, 3) := by decide +kernel
theorem dX6_addBed_19 : decode cX6_addBed 19 = .ok (.ifCond .ne 6, 3) := by decide +kernel
theorem dX6_addBed_22 : decode cX6_addBed 22 = .ok (.ldc 58, 2) := by decide +kernel
theorem dX6_addBed_24 : decode cX6_addBed 24 = .ok (.ireturn, 1) := by decide +kernel
theorem dX6_addBed_25 : decode cX6_addBed 25 = .ok (.aload_n 0, 1) := by decide +kernel
theorem dX6_addBed_26 : decode cX6_addBed 26 = .ok (.getfield 10, 3) := by decide +kernel
theorem dX6_addBed_29 : decode cX6_addBed 29 = .ok (.iload_n 1, 1) := by decide +kernel
theorem dX6_addBed_30 : decode cX6_addBed 30 = .ok (.invokevirtual 92, 3) := by decide +kernel
theorem dX6_addBed_33 : decode cX6_addBed 33 = .ok (.astore 5, 2) := by decide +kernel
theorem dX6_addBed_35 : decode cX6_addBed 35 = .ok (.iload_n 2, 1) := by decide +kernel
theorem dX6_addBed_36 : decode cX6_addBed 36 = .ok (.ifCond .lt 12, 3) := by decide +kernel
theorem dX6_addBed_39 : decode cX6_addBed 39 = .ok (.iload_n 2, 1) := by decide +kernel
theorem dX6_addBed_40 : decode cX6_addBed 40 = .ok (.aload 5, 2) := by decide +kernel
theorem dX6_addBed_42 : decode cX6_addBed 42 = .ok (.invokevirtual 107, 3) := by decide +kernel
theorem dX6_addBed_45 : decode cX6_addBed 45 = .ok (.if_icmp .le 6, 3) := by decide +kernel
theorem dX6_addBed_48 : decode cX6_addBed 48 = .ok (.ldc 58, 2) := by decide +kernel
theorem dX6_addBed_50 : decode cX6_addBed 50 = .ok (.ireturn, 1) := by decide +kernel
theorem dX6_addBed_51 : decode cX6_addBed 51 = .ok (.aload 5, 2) := by decide +kernel
theorem dX6_addBed_53 : decode cX6_addBed 53 = .ok (.invokevirtual 107, 3) := by decide +kernel
theorem dX6_addBed_56 : decode cX6_addBed 56 = .ok (.bipush 24, 2) := by decide +kernel
theorem dX6_addBed_58 : decode cX6_addBed 58 = .ok (.if_icmp .lt 6, 3) := by decide +kernel
theorem dX6_addBed_61 : decode cX6_addBed 61 = .ok (.ldc 110, 2) := by decide +kernel
theorem dX6_addBed_63 : decode cX6_addBed 63 = .ok (.ireturn, 1) := by decide +kernel
theorem dX6_addBed_64 : decode cX6_addBed 64 = .ok (.aload_n 0, 1) := by decide +kernel
theorem dX6_addBed_65 : decode cX6_addBed 65 = .ok (.getfield 19, 3) := by decide +kernel
theorem dX6_addBed_68 : decode cX6_addBed 68 = .ok (.aload_n 0, 1) := by decide +kernel
theorem dX6_addBed_69 : decode cX6_addBed 69 = .ok (.getfield 10, 3) := by decide +kernel
theorem dX6_addBed_72 : decode cX6_addBed 72 = .ok (.invokevirtual 66, 3) := by decide +kernel
theorem dX6_addBed_75 : decode cX6_addBed 75 = .ok (.aload 5, 2) := by decide +kernel
theorem dX6_addBed_77 : decode cX6_addBed 77 = .ok (.iload_n 2, 1) := by decide +kernel
theorem dX6_addBed_78 : decode cX6_addBed 78 = .ok (.iload_n 3, 1) := by decide +kernel
theorem dX6_addBed_79 : decode cX6_addBed 79 = .ok (.iload 4, 2) := by decide +kernel
theorem dX6_addBed_81 : decode cX6_addBed 81 = .ok (.invokevirtual 111, 3) := by decide +kernel
theorem dX6_addBed_84 : decode cX6_addBed 84 = .ok (.pop, 1) := by decide +kernel
theorem dX6_addBed_85 : decode cX6_addBed 85 = .ok (.aload_n 0, 1) := by decide +kernel
theorem dX6_addBed_86 : decode cX6_addBed 86 = .ok (.getfield 10, 3) := by decide +kernel
theorem dX6_addBed_89 : decode cX6_addBed 89 = .ok (.iconst 1, 1) := by decide +kernel
theorem dX6_addBed_90 : decode cX6_addBed 90 = .ok (.iload 4, 2) := by decide +kernel
theorem dX6_addBed_92 : decode cX6_addBed 92 = .ok (.invokevirtual 115, 3) := by decide +kernel
theorem dX6_addBed_95 : decode cX6_addBed 95 = .ok (.aload 5, 2) := by decide +kernel
theorem dX6_addBed_97 : decode cX6_addBed 97 = .ok (.invokevirtual 107, 3) := by decide +kernel
theorem dX6_addBed_100 : decode cX6_addBed 100 = .ok (.ireturn, 1) := by decide +kernel
theorem dX6_removeBed_0 : decode cX6_removeBed 0 = .ok (.iload_n 1, 1) := by decide +kernel
theorem dX6_removeBed_1 : decode cX6_removeBed 1 = .ok (.invokestatic 89, 3) := by decide +kernel
theorem dX6_removeBed_4 : decode cX6_removeBed 4 = .ok (.ifCond .eq 18, 3) := by decide +kernel
theorem dX6_removeBed_7 : decode cX6_removeBed 7 = .ok (.aload_n 0, 1) := by decide +kernel
theorem dX6_removeBed_8 : decode cX6_removeBed 8 = .ok (.getfield 10, 3) := by decide +kernel
theorem dX6_removeBed_11 : decode cX6_removeBed 11 = .ok (.iload_n 1, 1) := by decide +kernel
theorem dX6_removeBed_12 : decode cX6_removeBed 12 = .ok (.invokevirtual 92, 3) := by decide +kernel
theorem dX6_removeBed_15 : decode cX6_removeBed 15 = .ok (.iload_n 2, 1) := by decide +kernel
theorem dX6_removeBed_16 : decode cX6_removeBed 16 = .ok (.invokevirtual 118, 3) := by decide +kernel
theorem dX6_removeBed_19 : decode cX6_removeBed 19 = .ok (.ifCond .ne 6, 3) := by decide +kernel
theorem dX6_removeBed_22 : decode cX6_removeBed 22 = .ok (.ldc 58, 2) := by decide +kernel
theorem dX6_removeBed_24 : decode cX6_removeBed 24 = .ok (.ireturn, 1) := by decide +kernel
theorem dX6_removeBed_25 : decode cX6_removeBed 25 = .ok (.aload_n 0, 1) := by decide +kernel
theorem dX6_removeBed_26 : decode cX6_removeBed 26 = .ok (.getfield 19, 3) := by decide +kernel
theorem dX6_removeBed_29 : decode cX6_removeBed 29 = .ok (.aload_n 0, 1) := by decide +kernel
theorem dX6_removeBed_30 : decode cX6_removeBed 30 = .ok (.getfield 10, 3) := by decide +kernel
theorem dX6_removeBed_33 : decode cX6_removeBed 33 = .ok (.invokevirtual 66, 3) := by decide +kernel
theorem dX6_removeBed_36 : decode cX6_removeBed 36 = .ok (.aload_n 0, 1) := by decide +kernel
theorem dX6_removeBed_37 : decode cX6_removeBed 37 = .ok (.getfield 10, 3) := by decide +kernel
theorem dX6_removeBed_40 : decode cX6_removeBed 40 = .ok (.iload_n 1, 1) := by decide +kernel
theorem dX6_removeBed_41 : decode cX6_removeBed 41 = .ok (.invokevirtual 92, 3) := by decide +kernel
theorem dX6_removeBed_44 : decode cX6_removeBed 44 = .ok (.astore_n 3, 1) := by decide +kernel
theorem dX6_removeBed_45 : decode cX6_removeBed 45 = .ok (.aload_n 3, 1) := by decide +kernel
theorem dX6_removeBed_46 : decode cX6_removeBed 46 = .ok (.iload_n 2, 1) := by decide +kernel
theorem dX6_removeBed_47 : decode cX6_removeBed 47 = .ok (.invokevirtual 121, 3) := by decide +kernel
theorem dX6_removeBed_50 : decode cX6_removeBed 50 = .ok (.istore 4, 2) := by decide +kernel
theorem dX6_removeBed_52 : decode cX6_removeBed 52 = .ok (.aload_n 3, 1) := by decide +kernel
theorem dX6_removeBed_53 : decode cX6_removeBed 53 = .ok (.iload_n 2, 1) := by decide +kernel
theorem dX6_removeBed_54 : decode cX6_removeBed 54 = .ok (.invokevirtual 124, 3) := by decide +kernel
theorem dX6_removeBed_57 : decode cX6_removeBed 57 = .ok (.aload_n 0, 1) := by decide +kernel
theorem dX6_removeBed_58 : decode cX6_removeBed 58 = .ok (.getfield 10, 3) := by decide +kernel
theorem dX6_removeBed_61 : decode cX6_removeBed 61 = .ok (.iconst 2, 1) := by decide +kernel
theorem dX6_removeBed_62 : decode cX6_removeBed 62 = .ok (.iload 4, 2) := by decide +kernel
theorem dX6_removeBed_64 : decode cX6_removeBed 64 = .ok (.invokevirtual 115, 3) := by decide +kernel
theorem dX6_removeBed_67 : decode cX6_removeBed 67 = .ok (.iload 4, 2) := by decide +kernel
theorem dX6_removeBed_69 : decode cX6_removeBed 69 = .ok (.ireturn, 1) := by decide +kernel
theorem dX6_setThickness_0 : decode cX6_setThickness 0 = .ok (.iload_n 1, 1) := by decide +kernel
theorem dX6_setThickness_1 : decode cX6_setThickness 1 = .ok (.invokestatic 89, 3) := by decide +kernel
theorem dX6_setThickness_4 : decode cX6_setThickness 4 = .ok (.ifCond .eq 25, 3) := by decide +kernel
theorem dX6_setThickness_7 : decode cX6_setThickness 7 = .ok (.iload_n 3, 1) := by decide +kernel
theorem dX6_setThickness_8 : decode cX6_setThickness 8 = .ok (.invokestatic 104, 3) := by decide +kernel
theorem dX6_setThickness_11 : decode cX6_setThickness 11 = .ok (.ifCond .eq 18, 3) := by decide +kernel
theorem dX6_setThickness_14 : decode cX6_setThickness 14 = .ok (.aload_n 0, 1) := by decide +kernel
theorem dX6_setThickness_15 : decode cX6_setThickness 15 = .ok (.getfield 10, 3) := by decide +kernel
theorem dX6_setThickness_18 : decode cX6_setThickness 18 = .ok (.iload_n 1, 1) := by decide +kernel
theorem dX6_setThickness_19 : decode cX6_setThickness 19 = .ok (.invokevirtual 92, 3) := by decide +kernel
theorem dX6_setThickness_22 : decode cX6_setThickness 22 = .ok (.iload_n 2, 1) := by decide +kernel
theorem dX6_setThickness_23 : decode cX6_setThickness 23 = .ok (.invokevirtual 118, 3) := by decide +kernel
theorem dX6_setThickness_26 : decode cX6_setThickness 26 = .ok (.ifCond .ne 6, 3) := by decide +kernel
theorem dX6_setThickness_29 : decode cX6_setThickness 29 = .ok (.ldc 58, 2) := by decide +kernel
theorem dX6_setThickness_31 : decode cX6_setThickness 31 = .ok (.ireturn, 1) := by decide +kernel
theorem dX6_setThickness_32 : decode cX6_setThickness 32 = .ok (.aload_n 0, 1) := by decide +kernel
theorem dX6_setThickness_33 : decode cX6_setThickness 33 = .ok (.getfield 19, 3) := by decide +kernel
theorem dX6_setThickness_36 : decode cX6_setThickness 36 = .ok (.aload_n 0, 1) := by decide +kernel
theorem dX6_setThickness_37 : decode cX6_setThickness 37 = .ok (.getfield 10, 3) := by decide +kernel
theorem dX6_setThickness_40 : decode cX6_setThickness 40 = .ok (.invokevirtual 66, 3) := by decide +kernel
theorem dX6_setThickness_43 : decode cX6_setThickness 43 = .ok (.aload_n 0, 1) := by decide +kernel
theorem dX6_setThickness_44 : decode cX6_setThickness 44 = .ok (.getfield 10, 3) := by decide +kernel
theorem dX6_setThickness_47 : decode cX6_setThickness 47 = .ok (.iload_n 1, 1) := by decide +kernel
theorem dX6_setThickness_48 : decode cX6_setThickness 48 = .ok (.invokevirtual 92, 3) := by decide +kernel
theorem dX6_setThickness_51 : decode cX6_setThickness 51 = .ok (.astore 4, 2) := by decide +kernel
theorem dX6_setThickness_53 : decode cX6_setThickness 53 = .ok (.aload 4, 2) := by decide +kernel
theorem dX6_setThickness_55 : decode cX6_setThickness 55 = .ok (.iload_n 2, 1) := by decide +kernel
theorem dX6_setThickness_56 : decode cX6_setThickness 56 = .ok (.invokevirtual 121, 3) := by decide +kernel
theorem dX6_setThickness_59 : decode cX6_setThickness 59 = .ok (.istore 5, 2) := by decide +kernel
theorem dX6_setThickness_61 : decode cX6_setThickness 61 = .ok (.aload 4, 2) := by decide +kernel
theorem dX6_setThickness_63 : decode cX6_setThickness 63 = .ok (.iload_n 2, 1) := by decide +kernel
theorem dX6_setThickness_64 : decode cX6_setThickness 64 = .ok (.iload_n 3, 1) := by decide +kernel
theorem dX6_setThickness_65 : decode cX6_setThickness 65 = .ok (.invokevirtual 127, 3) := by decide +kernel
theorem dX6_setThickness_68 : decode cX6_setThickness 68 = .ok (.aload_n 0, 1) := by decide +kernel
theorem dX6_setThickness_69 : decode cX6_setThickness 69 = .ok (.getfield 10, 3) := by decide +kernel
theorem dX6_setThickness_72 : decode cX6_setThickness 72 = .ok (.iconst 1, 1) := by decide +kernel
theorem dX6_setThickness_73 : decode cX6_setThickness 73 = .ok (.iload_n 3, 1) := by decide +kernel
theorem dX6_setThickness_74 : decode cX6_setThickness 74 = .ok (.iload 5, 2) := by decide +kernel
theorem dX6_setThickness_76 : decode cX6_setThickness 76 = .ok (.isub, 1) := by decide +kernel
theorem dX6_setThickness_77 : decode cX6_setThickness 77 = .ok (.iconst 0, 1) := by decide +kernel
theorem dX6_setThickness_78 : decode cX6_setThickness 78 = .ok (.invokestatic 130, 3) := by decide +kernel
theorem dX6_setThickness_81 : decode cX6_setThickness 81 = .ok (.invokevirtual 115, 3) := by decide +kernel
theorem dX6_setThickness_84 : decode cX6_setThickness 84 = .ok (.aload_n 0, 1) := by decide +kernel
theorem dX6_setThickness_85 : decode cX6_setThickness 85 = .ok (.getfield 10, 3) := by decide +kernel
theorem dX6_setThickness_88 : decode cX6_setThickness 88 = .ok (.iconst 2, 1) := by decide +kernel
theorem dX6_setThickness_89 : decode cX6_setThickness 89 = .ok (.iload 5, 2) := by decide +kernel
theorem dX6_setThickness_91 : decode cX6_setThickness 91 = .ok (.iload_n 3, 1) := by decide +kernel
theorem dX6_setThickness_92 : decode cX6_setThickness 92 = .ok (.isub, 1) := by decide +kernel
theorem dX6_setThickness_93 : decode cX6_setThickness 93 = .ok (.iconst 0, 1) := by decide +kernel
theorem dX6_setThickness_94 : decode cX6_setThickness 94 = .ok (.invokestatic 130, 3) := by decide +kernel
theorem dX6_setThickness_97 : decode cX6_setThickness 97 = .ok (.invokevirtual 115, 3) := by decide +kernel
theorem dX6_setThickness_100 : decode cX6_setThickness 100 = .ok (.iload 5, 2) := by decide +kernel
theorem dX6_setThickness_102 : decode cX6_setThickness 102 = .ok (.ireturn, 1) := by decide +kernel
theorem dX6_cut_0 : decode cX6_cut 0 = .ok (.iload_n 1, 1) := by decide +kernel
theorem dX6_cut_1 : decode cX6_cut 1 = .ok (.invokestatic 89, 3) := by decide +kernel
theorem dX6_cut_4 : decode cX6_cut 4 = .ok (.ifCond .ne 6, 3) := by decide +kernel
theorem dX6_cut_7 : decode cX6_cut 7 = .ok (.ldc 58, 2) := by decide +kernel
theorem dX6_cut_9 : decode cX6_cut 9 = .ok (.ireturn, 1) := by decide +kernel
theorem dX6_cut_10 : decode cX6_cut 10 = .ok (.aload_n 0, 1) := by decide +kernel
theorem dX6_cut_11 : decode cX6_cut 11 = .ok (.getfield 10, 3) := by decide +kernel
theorem dX6_cut_14 : decode cX6_cut 14 = .ok (.iload_n 1, 1) := by decide +kernel
theorem dX6_cut_15 : decode cX6_cut 15 = .ok (.invokevirtual 92, 3) := by decide +kernel
theorem dX6_cut_18 : decode cX6_cut 18 = .ok (.astore 4, 2) := by decide +kernel
theorem dX6_cut_20 : decode cX6_cut 20 = .ok (.aload 4, 2) := by decide +kernel
theorem dX6_cut_22 : decode cX6_cut 22 = .ok (.invokevirtual 136, 3) := by decide +kernel
theorem dX6_cut_25 : decode cX6_cut 25 = .ok (.istore 5, 2) := by decide +kernel
theorem dX6_cut_27 : decode cX6_cut 27 = .ok (.iload_n 2, 1) := by decide +kernel
theorem dX6_cut_28 : decode cX6_cut 28 = .ok (.iconst 1, 1) := by decide +kernel
theorem dX6_cut_29 : decode cX6_cut 29 = .ok (.if_icmp .lt 28, 3) := by decide +kernel
theorem dX6_cut_32 : decode cX6_cut 32 = .ok (.iload_n 2, 1) := by decide +kernel
theorem dX6_cut_33 : decode cX6_cut 33 = .ok (.iload 5, 2) := by decide +kernel
theorem dX6_cut_35 : decode cX6_cut 35 = .ok (.iconst 1, 1) := by decide +kernel
theorem dX6_cut_36 : decode cX6_cut 36 = .ok (.isub, 1) := by decide +kernel
theorem dX6_cut_37 : decode cX6_cut 37 = .ok (.if_icmp .gt 20, 3) := by decide +kernel
theorem dX6_cut_40 : decode cX6_cut 40 = .ok (.iload_n 3, 1) := by decide +kernel
theorem dX6_cut_41 : decode cX6_cut 41 = .ok (.ifCond .eq 16, 3) := by decide +kernel
theorem dX6_cut_44 : decode cX6_cut 44 = .ok (.iload_n 3, 1) := by decide +kernel
theorem dX6_cut_45 : decode cX6_cut 45 = .ok (.iload_n 2, 1) := by decide +kernel
theorem dX6_cut_46 : decode cX6_cut 46 = .ok (.ineg, 1) := by decide +kernel
theorem dX6_cut_47 : decode cX6_cut 47 = .ok (.if_icmp .lt 10, 3) := by decide +kernel
theorem dX6_cut_50 : decode cX6_cut 50 = .ok (.iload_n 3, 1) := by decide +kernel
theorem dX6_cut_51 : decode cX6_cut 51 = .ok (.sipush 9999, 3) := by decide +kernel
theorem dX6_cut_54 : decode cX6_cut 54 = .ok (.if_icmp .le 6, 3) := by decide +kernel
theorem dX6_cut_57 : decode cX6_cut 57 = .ok (.ldc 58, 2) := by decide +kernel
theorem dX6_cut_59 : decode cX6_cut 59 = .ok (.ireturn, 1) := by decide +kernel
theorem dX6_cut_60 : decode cX6_cut 60 = .ok (.iload_n 2, 1) := by decide +kernel
theorem dX6_cut_61 : decode cX6_cut 61 = .ok (.iload_n 2, 1) := by decide +kernel
theorem dX6_cut_62 : decode cX6_cut 62 = .ok (.iload_n 3, 1) := by decide +kernel
theorem dX6_cut_63 : decode cX6_cut 63 = .ok (.iadd, 1) := by decide +kernel
theorem dX6_cut_64 : decode cX6_cut 64 = .ok (.invokestatic 139, 3) := by decide +kernel
theorem dX6_cut_67 : decode cX6_cut 67 = .ok (.istore 6, 2) := by decide +kernel
theorem dX6_cut_69 : decode cX6_cut 69 = .ok (.iload 5, 2) := by decide +kernel
theorem dX6_cut_71 : decode cX6_cut 71 = .ok (.iload_n 2, 1) := by decide +kernel
theorem dX6_cut_72 : decode cX6_cut 72 = .ok (.iload_n 2, 1) := by decide +kernel
theorem dX6_cut_73 : decode cX6_cut 73 = .ok (.iload_n 3, 1) := by decide +kernel
theorem dX6_cut_74 : decode cX6_cut 74 = .ok (.iadd, 1) := by decide +kernel
theorem dX6_cut_75 : decode cX6_cut 75 = .ok (.invokestatic 130, 3) := by decide +kernel
theorem dX6_cut_78 : decode cX6_cut 78 = .ok (.invokestatic 139, 3) := by decide +kernel
theorem dX6_cut_81 : decode cX6_cut 81 = .ok (.istore 7, 2) := by decide +kernel
theorem dX6_cut_83 : decode cX6_cut 83 = .ok (.aload_n 0, 1) := by decide +kernel
theorem dX6_cut_84 : decode cX6_cut 84 = .ok (.getfield 41, 3) := by decide +kernel
theorem dX6_cut_87 : decode cX6_cut 87 = .ok (.invokevirtual 142, 3) := by decide +kernel
theorem dX6_cut_90 : decode cX6_cut 90 = .ok (.aload_n 0, 1) := by decide +kernel
theorem dX6_cut_91 : decode cX6_cut 91 = .ok (.getfield 41, 3) := by decide +kernel
theorem dX6_cut_94 : decode cX6_cut 94 = .ok (.aload 4, 2) := by decide +kernel
theorem dX6_cut_96 : decode cX6_cut 96 = .ok (.iconst 0, 1) := by decide +kernel
theorem dX6_cut_97 : decode cX6_cut 97 = .ok (.iload_n 2, 1) := by decide +kernel
theorem dX6_cut_98 : decode cX6_cut 98 = .ok (.invokevirtual 145, 3) := by decide +kernel
theorem dX6_cut_101 : decode cX6_cut 101 = .ok (.ifCond .eq 38, 3) := by decide +kernel
theorem dX6_cut_104 : decode cX6_cut 104 = .ok (.aload_n 0, 1) := by decide +kernel
theorem dX6_cut_105 : decode cX6_cut 105 = .ok (.getfield 41, 3) := by decide +kernel
theorem dX6_cut_108 : decode cX6_cut 108 = .ok (.aload 4, 2) := by decide +kernel
theorem dX6_cut_110 : decode cX6_cut 110 = .ok (.iload 6, 2) := by decide +kernel
theorem dX6_cut_112 : decode cX6_cut 112 = .ok (.iload_n 2, 1) := by decide +kernel
theorem dX6_cut_113 : decode cX6_cut 113 = .ok (.invokevirtual 145, 3) := by decide +kernel
theorem dX6_cut_116 : decode cX6_cut 116 = .ok (.ifCond .eq 23, 3) := by decide +kernel
theorem dX6_cut_119 : decode cX6_cut 119 = .ok (.aload_n 0, 1) := by decide +kernel
theorem dX6_cut_120 : decode cX6_cut 120 = .ok (.getfield 41, 3) := by decide +kernel
theorem dX6_cut_123 : decode cX6_cut 123 = .ok (.aload 4, 2) := by decide +kernel
theorem dX6_cut_125 : decode cX6_cut 125 = .ok (.iload 7, 2) := by decide +kernel
theorem dX6_cut_127 : decode cX6_cut 127 = .ok (.iload 5, 2) := by decide +kernel
theorem dX6_cut_129 : decode cX6_cut 129 = .ok (.invokevirtual 145, 3) := by decide +kernel
theorem dX6_cut_132 : decode cX6_cut 132 = .ok (.ifCond .eq 7, 3) := by decide +kernel
theorem dX6_cut_135 : decode cX6_cut 135 = .ok (.iconst 1, 1) := by decide +kernel
theorem dX6_cut_136 : decode cX6_cut 136 = .ok (.goto 4, 3) := by decide +kernel
theorem dX6_cut_139 : decode cX6_cut 139 = .ok (.iconst 0, 1) := by decide +kernel
theorem dX6_cut_140 : decode cX6_cut 140 = .ok (.istore 8, 2) := by decide +kernel
theorem dX6_cut_142 : decode cX6_cut 142 = .ok (.iload 8, 2) := by decide +kernel
theorem dX6_cut_144 : decode cX6_cut 144 = .ok (.ifCond .ne 6, 3) := by decide +kernel
theorem dX6_cut_147 : decode cX6_cut 147 = .ok (.ldc 110, 2) := by decide +kernel
theorem dX6_cut_149 : decode cX6_cut 149 = .ok (.ireturn, 1) := by decide +kernel
theorem dX6_cut_150 : decode cX6_cut 150 = .ok (.aload_n 0, 1) := by decide +kernel
theorem dX6_cut_151 : decode cX6_cut 151 = .ok (.getfield 19, 3) := by decide +kernel
theorem dX6_cut_154 : decode cX6_cut 154 = .ok (.aload_n 0, 1) := by decide +kernel
theorem dX6_cut_155 : decode cX6_cut 155 = .ok (.getfield 10, 3) := by decide +kernel
theorem dX6_cut_158 : decode cX6_cut 158 = .ok (.invokevirtual 66, 3) := by decide +kernel
theorem dX6_cut_161 : decode cX6_cut 161 = .ok (.aload 4, 2) := by decide +kernel
theorem dX6_cut_163 : decode cX6_cut 163 = .ok (.aload_n 0, 1) := by decide +kernel
theorem dX6_cut_164 : decode cX6_cut 164 = .ok (.getfield 41, 3) := by decide +kernel
theorem dX6_cut_167 : decode cX6_cut 167 = .ok (.invokevirtual 149, 3) := by decide +kernel
theorem dX6_cut_170 : decode cX6_cut 170 = .ok (.aload_n 0, 1) := by decide +kernel
theorem dX6_cut_171 : decode cX6_cut 171 = .ok (.getfield 10, 3) := by decide +kernel
theorem dX6_cut_174 : decode cX6_cut 174 = .ok (.iconst 3, 1) := by decide +kernel
theorem dX6_cut_175 : decode cX6_cut 175 = .ok (.iload 7, 2) := by decide +kernel
theorem dX6_cut_177 : decode cX6_cut 177 = .ok (.iload_n 2, 1) := by decide +kernel
theorem dX6_cut_178 : decode cX6_cut 178 = .ok (.isub, 1) := by decide +kernel
theorem dX6_cut_179 : decode cX6_cut 179 = .ok (.invokevirtual 115, 3) := by decide +kernel
theorem dX6_cut_182 : decode cX6_cut 182 = .ok (.aload_n 0, 1) := by decide +kernel
theorem dX6_cut_183 : decode cX6_cut 183 = .ok (.getfield 10, 3) := by decide +kernel
theorem dX6_cut_186 : decode cX6_cut 186 = .ok (.iconst 4, 1) := by decide +kernel
theorem dX6_cut_187 : decode cX6_cut 187 = .ok (.iload_n 2, 1) := by decide +kernel
theorem dX6_cut_188 : decode cX6_cut 188 = .ok (.iload 6, 2) := by decide +kernel
theorem dX6_cut_190 : decode cX6_cut 190 = .ok (.isub, 1) := by decide +kernel
theorem dX6_cut_191 : decode cX6_cut 191 = .ok (.invokevirtual 115, 3) := by decide +kernel
theorem dX6_cut_194 : decode cX6_cut 194 = .ok (.aload 4, 2) := by decide +kernel
theorem dX6_cut_196 : decode cX6_cut 196 = .ok (.invokevirtual 107, 3) := by decide +kernel
theorem dX6_cut_199 : decode cX6_cut 199 = .ok (.ireturn, 1) := by decide +kernel
theorem dX6_appendCharacter_0 : decode cX6_appendCharacter 0 = .ok (.iload_n 1, 1) := by decide +kernel
theorem dX6_appendCharacter_1 : decode cX6_appendCharacter 1 = .ok (.ifCond .lt 10, 3) := by decide +kernel
theorem dX6_appendCharacter_4 : decode cX6_appendCharacter 4 = .ok (.iload_n 1, 1) := by decide +kernel
theorem dX6_appendCharacter_5 : decode cX6_appendCharacter 5 = .ok (.sipush 255, 3) := by decide +kernel
theorem dX6_appendCharacter_8 : decode cX6_appendCharacter 8 = .ok (.if_icmp .le 6, 3) := by decide +kernel
theorem dX6_appendCharacter_11 : decode cX6_appendCharacter 11 = .ok (.ldc 58, 2) := by decide +kernel
theorem dX6_appendCharacter_13 : decode cX6_appendCharacter 13 = .ok (.ireturn, 1) := by decide +kernel
theorem dX6_appendCharacter_14 : decode cX6_appendCharacter 14 = .ok (.aload_n 0, 1) := by decide +kernel
theorem dX6_appendCharacter_15 : decode cX6_appendCharacter 15 = .ok (.getfield 34, 3) := by decide +kernel
theorem dX6_appendCharacter_18 : decode cX6_appendCharacter 18 = .ok (.iload_n 1, 1) := by decide +kernel
theorem dX6_appendCharacter_19 : decode cX6_appendCharacter 19 = .ok (.invokevirtual 153, 3) := by decide +kernel
theorem dX6_appendCharacter_22 : decode cX6_appendCharacter 22 = .ok (.ifCond .ne 6, 3) := by decide +kernel
theorem dX6_appendCharacter_25 : decode cX6_appendCharacter 25 = .ok (.ldc 110, 2) := by decide +kernel
theorem dX6_appendCharacter_27 : decode cX6_appendCharacter 27 = .ok (.ireturn, 1) := by decide +kernel
theorem dX6_appendCharacter_28 : decode cX6_appendCharacter 28 = .ok (.aload_n 0, 1) := by decide +kernel
theorem dX6_appendCharacter_29 : decode cX6_appendCharacter 29 = .ok (.getfield 34, 3) := by decide +kernel
theorem dX6_appendCharacter_32 : decode cX6_appendCharacter 32 = .ok (.invokevirtual 156, 3) := by decide +kernel
theorem dX6_appendCharacter_35 : decode cX6_appendCharacter 35 = .ok (.ireturn, 1) := by decide +kernel
theorem dX6_clearText_0 : decode cX6_clearText 0 = .ok (.aload_n 0, 1) := by decide +kernel
theorem dX6_clearText_1 : decode cX6_clearText 1 = .ok (.getfield 34, 3) := by decide +kernel
theorem dX6_clearText_4 : decode cX6_clearText 4 = .ok (.invokevirtual 156, 3) := by decide +kernel
theorem dX6_clearText_7 : decode cX6_clearText 7 = .ok (.istore_n 1, 1) := by decide +kernel
theorem dX6_clearText_8 : decode cX6_clearText 8 = .ok (.aload_n 0, 1) := by decide +kernel
theorem dX6_clearText_9 : decode cX6_clearText 9 = .ok (.getfield 34, 3) := by decide +kernel
theorem dX6_clearText_12 : decode cX6_clearText 12 = .ok (.invokevirtual 157, 3) := by decide +kernel
theorem dX6_clearText_15 : decode cX6_clearText 15 = .ok (.iload_n 1, 1) := by decide +kernel
theorem dX6_clearText_16 : decode cX6_clearText 16 = .ok (.ireturn, 1) := by decide +kernel
theorem dX6_load_0 : decode cX6_load 0 = .ok (.aload_n 0, 1) := by decide +kernel
theorem dX6_load_1 : decode cX6_load 1 = .ok (.getfield 34, 3) := by decide +kernel
theorem dX6_load_4 : decode cX6_load 4 = .ok (.invokevirtual 158, 3) := by decide +kernel
theorem dX6_load_7 : decode cX6_load 7 = .ok (.ifCond .ne 14, 3) := by decide +kernel
theorem dX6_load_10 : decode cX6_load 10 = .ok (.ldc 162, 2) := by decide +kernel
theorem dX6_load_12 : decode cX6_load 12 = .ok (.aload_n 0, 1) := by decide +kernel
theorem dX6_load_13 : decode cX6_load 13 = .ok (.getfield 34, 3) := by decide +kernel
theorem dX6_load_16 : decode cX6_load 16 = .ok (.invokevirtual 163, 3) := by decide +kernel
theorem dX6_load_19 : decode cX6_load 19 = .ok (.isub, 1) := by decide +kernel
theorem dX6_load_20 : decode cX6_load 20 = .ok (.ireturn, 1) := by decide +kernel
theorem dX6_load_21 : decode cX6_load 21 = .ok (.aload_n 0, 1) := by decide +kernel
theorem dX6_load_22 : decode cX6_load 22 = .ok (.getfield 19, 3) := by decide +kernel
theorem dX6_load_25 : decode cX6_load 25 = .ok (.aload_n 0, 1) := by decide +kernel
theorem dX6_load_26 : decode cX6_load 26 = .ok (.getfield 10, 3) := by decide +kernel
theorem dX6_load_29 : decode cX6_load 29 = .ok (.invokevirtual 66, 3) := by decide +kernel
theorem dX6_load_32 : decode cX6_load 32 = .ok (.aload_n 0, 1) := by decide +kernel
theorem dX6_load_33 : decode cX6_load 33 = .ok (.getfield 10, 3) := by decide +kernel
theorem dX6_load_36 : decode cX6_load 36 = .ok (.aload_n 0, 1) := by decide +kernel
theorem dX6_load_37 : decode cX6_load 37 = .ok (.getfield 34, 3) := by decide +kernel
theorem dX6_load_40 : decode cX6_load 40 = .ok (.invokevirtual 166, 3) := by decide +kernel
theorem dX6_load_43 : decode cX6_load 43 = .ok (.invokevirtual 92, 3) := by decide +kernel
theorem dX6_load_46 : decode cX6_load 46 = .ok (.astore_n 1, 1) := by decide +kernel
theorem dX6_load_47 : decode cX6_load 47 = .ok (.aload_n 0, 1) := by decide +kernel
theorem dX6_load_48 : decode cX6_load 48 = .ok (.getfield 10, 3) := by decide +kernel
theorem dX6_load_51 : decode cX6_load 51 = .ok (.iconst 2, 1) := by decide +kernel
theorem dX6_load_52 : decode cX6_load 52 = .ok (.aload_n 1, 1) := by decide +kernel
theorem dX6_load_53 : decode cX6_load 53 = .ok (.invokevirtual 136, 3) := by decide +kernel
theorem dX6_load_56 : decode cX6_load 56 = .ok (.invokevirtual 115, 3) := by decide +kernel
theorem dX6_load_59 : decode cX6_load 59 = .ok (.aload_n 1, 1) := by decide +kernel
theorem dX6_load_60 : decode cX6_load 60 = .ok (.aload_n 0, 1) := by decide +kernel
theorem dX6_load_61 : decode cX6_load 61 = .ok (.getfield 34, 3) := by decide +kernel
theorem dX6_load_64 : decode cX6_load 64 = .ok (.invokevirtual 169, 3) := by decide +kernel
theorem dX6_load_67 : decode cX6_load 67 = .ok (.invokevirtual 149, 3) := by decide +kernel
theorem dX6_load_70 : decode cX6_load 70 = .ok (.aload_n 0, 1) := by decide +kernel
theorem dX6_load_71 : decode cX6_load 71 = .ok (.getfield 10, 3) := by decide +kernel
theorem dX6_load_74 : decode cX6_load 74 = .ok (.iconst 1, 1) := by decide +kernel
theorem dX6_load_75 : decode cX6_load 75 = .ok (.aload_n 1, 1) := by decide +kernel
theorem dX6_load_76 : decode cX6_load 76 = .ok (.invokevirtual 136, 3) := by decide +kernel
theorem dX6_load_79 : decode cX6_load 79 = .ok (.invokevirtual 115, 3) := by decide +kernel
theorem dX6_load_82 : decode cX6_load 82 = .ok (.aload_n 0, 1) := by decide +kernel
theorem dX6_load_83 : decode cX6_load 83 = .ok (.getfield 34, 3) := by decide +kernel
theorem dX6_load_86 : decode cX6_load 86 = .ok (.invokevirtual 157, 3) := by decide +kernel
theorem dX6_load_89 : decode cX6_load 89 = .ok (.aload_n 1, 1) := by decide +kernel
theorem dX6_load_90 : decode cX6_load 90 = .ok (.invokevirtual 107, 3) := by decide +kernel
theorem dX6_load_93 : decode cX6_load 93 = .ok (.ireturn, 1) := by decide +kernel
theorem dX6_keep_0 : decode cX6_keep 0 = .ok (.iload_n 1, 1) := by decide +kernel
theorem dX6_keep_1 : decode cX6_keep 1 = .ok (.invokestatic 173, 3) := by decide +kernel
theorem dX6_keep_4 : decode cX6_keep 4 = .ok (.ifCond .ne 6, 3) := by decide +kernel
theorem dX6_keep_7 : decode cX6_keep 7 = .ok (.ldc 58, 2) := by decide +kernel
theorem dX6_keep_9 : decode cX6_keep 9 = .ok (.ireturn, 1) := by decide +kernel
theorem dX6_keep_10 : decode cX6_keep 10 = .ok (.aload_n 0, 1) := by decide +kernel
theorem dX6_keep_11 : decode cX6_keep 11 = .ok (.getfield 23, 3) := by decide +kernel
theorem dX6_keep_14 : decode cX6_keep 14 = .ok (.iload_n 1, 1) := by decide +kernel
theorem dX6_keep_15 : decode cX6_keep 15 = .ok (.aaload, 1) := by decide +kernel
theorem dX6_keep_16 : decode cX6_keep 16 = .ok (.aload_n 0, 1) := by decide +kernel
theorem dX6_keep_17 : decode cX6_keep 17 = .ok (.getfield 10, 3) := by decide +kernel
theorem dX6_keep_20 : decode cX6_keep 20 = .ok (.invokevirtual 176, 3) := by decide +kernel
theorem dX6_keep_23 : decode cX6_keep 23 = .ok (.aload_n 0, 1) := by decide +kernel
theorem dX6_keep_24 : decode cX6_keep 24 = .ok (.dup, 1) := by decide +kernel
theorem dX6_keep_25 : decode cX6_keep 25 = .ok (.getfield 27, 3) := by decide +kernel
theorem dX6_keep_28 : decode cX6_keep 28 = .ok (.iconst 1, 1) := by decide +kernel
theorem dX6_keep_29 : decode cX6_keep 29 = .ok (.iload_n 1, 1) := by decide +kernel
theorem dX6_keep_30 : decode cX6_keep 30 = .ok (.ishl, 1) := by decide +kernel
theorem dX6_keep_31 : decode cX6_keep 31 = .ok (.ior, 1) := by decide +kernel
theorem dX6_keep_32 : decode cX6_keep 32 = .ok (.putfield 27, 3) := by decide +kernel
theorem dX6_keep_35 : decode cX6_keep 35 = .ok (.aload_n 0, 1) := by decide +kernel
theorem dX6_keep_36 : decode cX6_keep 36 = .ok (.getfield 10, 3) := by decide +kernel
theorem dX6_keep_39 : decode cX6_keep 39 = .ok (.invokevirtual 179, 3) := by decide +kernel
theorem dX6_keep_42 : decode cX6_keep 42 = .ok (.ireturn, 1) := by decide +kernel
theorem dX6_back_0 : decode cX6_back 0 = .ok (.iload_n 1, 1) := by decide +kernel
theorem dX6_back_1 : decode cX6_back 1 = .ok (.invokestatic 173, 3) := by decide +kernel
theorem dX6_back_4 : decode cX6_back 4 = .ok (.ifCond .ne 6, 3) := by decide +kernel
theorem dX6_back_7 : decode cX6_back 7 = .ok (.ldc 58, 2) := by decide +kernel
theorem dX6_back_9 : decode cX6_back 9 = .ok (.ireturn, 1) := by decide +kernel
theorem dX6_back_10 : decode cX6_back 10 = .ok (.aload_n 0, 1) := by decide +kernel
theorem dX6_back_11 : decode cX6_back 11 = .ok (.getfield 27, 3) := by decide +kernel
theorem dX6_back_14 : decode cX6_back 14 = .ok (.iconst 1, 1) := by decide +kernel
theorem dX6_back_15 : decode cX6_back 15 = .ok (.iload_n 1, 1) := by decide +kernel
theorem dX6_back_16 : decode cX6_back 16 = .ok (.ishl, 1) := by decide +kernel
theorem dX6_back_17 : decode cX6_back 17 = .ok (.iand, 1) := by decide +kernel
theorem dX6_back_18 : decode cX6_back 18 = .ok (.ifCond .ne 6, 3) := by decide +kernel
theorem dX6_back_21 : decode cX6_back 21 = .ok (.ldc 182, 2) := by decide +kernel
theorem dX6_back_23 : decode cX6_back 23 = .ok (.ireturn, 1) := by decide +kernel
theorem dX6_back_24 : decode cX6_back 24 = .ok (.aload_n 0, 1) := by decide +kernel
theorem dX6_back_25 : decode cX6_back 25 = .ok (.getfield 19, 3) := by decide +kernel
theorem dX6_back_28 : decode cX6_back 28 = .ok (.aload_n 0, 1) := by decide +kernel
theorem dX6_back_29 : decode cX6_back 29 = .ok (.getfield 10, 3) := by decide +kernel
theorem dX6_back_32 : decode cX6_back 32 = .ok (.invokevirtual 66, 3) := by decide +kernel
theorem dX6_back_35 : decode cX6_back 35 = .ok (.aload_n 0, 1) := by decide +kernel
theorem dX6_back_36 : decode cX6_back 36 = .ok (.getfield 10, 3) := by decide +kernel
theorem dX6_back_39 : decode cX6_back 39 = .ok (.aload_n 0, 1) := by decide +kernel
theorem dX6_back_40 : decode cX6_back 40 = .ok (.getfield 23, 3) := by decide +kernel
theorem dX6_back_43 : decode cX6_back 43 = .ok (.iload_n 1, 1) := by decide +kernel
theorem dX6_back_44 : decode cX6_back 44 = .ok (.aaload, 1) := by decide +kernel
theorem dX6_back_45 : decode cX6_back 45 = .ok (.invokevirtual 176, 3) := by decide +kernel
theorem dX6_back_48 : decode cX6_back 48 = .ok (.aload_n 0, 1) := by decide +kernel
theorem dX6_back_49 : decode cX6_back 49 = .ok (.getfield 10, 3) := by decide +kernel
theorem dX6_back_52 : decode cX6_back 52 = .ok (.invokevirtual 179, 3) := by decide +kernel
theorem dX6_back_55 : decode cX6_back 55 = .ok (.ireturn, 1) := by decide +kernel
theorem dX6_undo_0 : decode cX6_undo 0 = .ok (.aload_n 0, 1) := by decide +kernel
theorem dX6_undo_1 : decode cX6_undo 1 = .ok (.getfield 19, 3) := by decide +kernel
theorem dX6_undo_4 : decode cX6_undo 4 = .ok (.aload_n 0, 1) := by decide +kernel
theorem dX6_undo_5 : decode cX6_undo 5 = .ok (.getfield 10, 3) := by decide +kernel
theorem dX6_undo_8 : decode cX6_undo 8 = .ok (.invokevirtual 183, 3) := by decide +kernel
theorem dX6_undo_11 : decode cX6_undo 11 = .ok (.ifCond .ne 6, 3) := by decide +kernel
theorem dX6_undo_14 : decode cX6_undo 14 = .ok (.ldc 182, 2) := by decide +kernel
theorem dX6_undo_16 : decode cX6_undo 16 = .ok (.ireturn, 1) := by decide +kernel
theorem dX6_undo_17 : decode cX6_undo 17 = .ok (.aload_n 0, 1) := by decide +kernel
theorem dX6_undo_18 : decode cX6_undo 18 = .ok (.getfield 19, 3) := by decide +kernel
theorem dX6_undo_21 : decode cX6_undo 21 = .ok (.invokevirtual 187, 3) := by decide +kernel
theorem dX6_undo_24 : decode cX6_undo 24 = .ok (.ireturn, 1) := by decide +kernel
theorem dX6_count_0 : decode cX6_count 0 = .ok (.iload_n 1, 1) := by decide +kernel
theorem dX6_count_1 : decode cX6_count 1 = .ok (.ifCond .lt 17, 3) := by decide +kernel
theorem dX6_count_4 : decode cX6_count 4 = .ok (.iload_n 1, 1) := by decide +kernel
theorem dX6_count_5 : decode cX6_count 5 = .ok (.iconst 5, 1) := by decide +kernel
theorem dX6_count_6 : decode cX6_count 6 = .ok (.if_icmp .ge 12, 3) := by decide +kernel
theorem dX6_count_9 : decode cX6_count 9 = .ok (.aload_n 0, 1) := by decide +kernel
theorem dX6_count_10 : decode cX6_count 10 = .ok (.getfield 10, 3) := by decide +kernel
theorem dX6_count_13 : decode cX6_count 13 = .ok (.iload_n 1, 1) := by decide +kernel
theorem dX6_count_14 : decode cX6_count 14 = .ok (.invokevirtual 70, 3) := by decide +kernel
theorem dX6_count_17 : decode cX6_count 17 = .ok (.ireturn, 1) := by decide +kernel
theorem dX6_count_18 : decode cX6_count 18 = .ok (.iload_n 1, 1) := by decide +kernel
theorem dX6_count_19 : decode cX6_count 19 = .ok (.tableswitch 70 5 9 #[33, 41, 49, 57, 65], 33) := by decide +kernel
theorem dX6_count_52 : decode cX6_count 52 = .ok (.aload_n 0, 1) := by decide +kernel
theorem dX6_count_53 : decode cX6_count 53 = .ok (.getfield 10, 3) := by decide +kernel
theorem dX6_count_56 : decode cX6_count 56 = .ok (.invokevirtual 188, 3) := by decide +kernel
theorem dX6_count_59 : decode cX6_count 59 = .ok (.ireturn, 1) := by decide +kernel
theorem dX6_count_60 : decode cX6_count 60 = .ok (.aload_n 0, 1) := by decide +kernel
theorem dX6_count_61 : decode cX6_count 61 = .ok (.getfield 10, 3) := by decide +kernel
theorem dX6_count_64 : decode cX6_count 64 = .ok (.invokevirtual 179, 3) := by decide +kernel
theorem dX6_count_67 : decode cX6_count 67 = .ok (.ireturn, 1) := by decide +kernel
theorem dX6_count_68 : decode cX6_count 68 = .ok (.aload_n 0, 1) := by decide +kernel
theorem dX6_count_69 : decode cX6_count 69 = .ok (.getfield 34, 3) := by decide +kernel
theorem dX6_count_72 : decode cX6_count 72 = .ok (.invokevirtual 156, 3) := by decide +kernel
theorem dX6_count_75 : decode cX6_count 75 = .ok (.ireturn, 1) := by decide +kernel
theorem dX6_count_76 : decode cX6_count 76 = .ok (.aload_n 0, 1) := by decide +kernel
theorem dX6_count_77 : decode cX6_count 77 = .ok (.getfield 19, 3) := by decide +kernel
theorem dX6_count_80 : decode cX6_count 80 = .ok (.invokevirtual 187, 3) := by decide +kernel
theorem dX6_count_83 : decode cX6_count 83 = .ok (.ireturn, 1) := by decide +kernel
theorem dX6_count_84 : decode cX6_count 84 = .ok (.aload_n 0, 1) := by decide +kernel
theorem dX6_count_85 : decode cX6_count 85 = .ok (.getfield 27, 3) := by decide +kernel
theorem dX6_count_88 : decode cX6_count 88 = .ok (.ireturn, 1) := by decide +kernel
theorem dX6_count_89 : decode cX6_count 89 = .ok (.ldc 58, 2) := by decide +kernel
theorem dX6_count_91 : decode cX6_count 91 = .ok (.ireturn, 1) := by decide +kernel
theorem dX6_hole_0 : decode cX6_hole 0 = .ok (.iload_n 1, 1) := by decide +kernel
theorem dX6_hole_1 : decode cX6_hole 1 = .ok (.invokestatic 89, 3) := by decide +kernel
theorem dX6_hole_4 : decode cX6_hole 4 = .ok (.ifCond .ne 6, 3) := by decide +kernel
theorem dX6_hole_7 : decode cX6_hole 7 = .ok (.ldc 58, 2) := by decide +kernel
theorem dX6_hole_9 : decode cX6_hole 9 = .ok (.ireturn, 1) := by decide +kernel
theorem dX6_hole_10 : decode cX6_hole 10 = .ok (.aload_n 0, 1) := by decide +kernel
theorem dX6_hole_11 : decode cX6_hole 11 = .ok (.getfield 10, 3) := by decide +kernel
theorem dX6_hole_14 : decode cX6_hole 14 = .ok (.iload_n 1, 1) := by decide +kernel
theorem dX6_hole_15 : decode cX6_hole 15 = .ok (.invokevirtual 92, 3) := by decide +kernel
theorem dX6_hole_18 : decode cX6_hole 18 = .ok (.astore_n 3, 1) := by decide +kernel
theorem dX6_hole_19 : decode cX6_hole 19 = .ok (.iload_n 2, 1) := by decide +kernel
theorem dX6_hole_20 : decode cX6_hole 20 = .ok (.tableswitch 43 0 2 #[28, 33, 38], 28) := by decide +kernel
theorem dX6_hole_48 : decode cX6_hole 48 = .ok (.aload_n 3, 1) := by decide +kernel
theorem dX6_hole_49 : decode cX6_hole 49 = .ok (.invokevirtual 96, 3) := by decide +kernel
theorem dX6_hole_52 : decode cX6_hole 52 = .ok (.ireturn, 1) := by decide +kernel
theorem dX6_hole_53 : decode cX6_hole 53 = .ok (.aload_n 3, 1) := by decide +kernel
theorem dX6_hole_54 : decode cX6_hole 54 = .ok (.invokevirtual 107, 3) := by decide +kernel
theorem dX6_hole_57 : decode cX6_hole 57 = .ok (.ireturn, 1) := by decide +kernel
theorem dX6_hole_58 : decode cX6_hole 58 = .ok (.aload_n 3, 1) := by decide +kernel
theorem dX6_hole_59 : decode cX6_hole 59 = .ok (.invokevirtual 136, 3) := by decide +kernel
theorem dX6_hole_62 : decode cX6_hole 62 = .ok (.ireturn, 1) := by decide +kernel
theorem dX6_hole_63 : decode cX6_hole 63 = .ok (.ldc 58, 2) := by decide +kernel
theorem dX6_hole_65 : decode cX6_hole 65 = .ok (.ireturn, 1) := by decide +kernel
theorem dX6_bed_0 : decode cX6_bed 0 = .ok (.iload_n 1, 1) := by decide +kernel
theorem dX6_bed_1 : decode cX6_bed 1 = .ok (.invokestatic 89, 3) := by decide +kernel
theorem dX6_bed_4 : decode cX6_bed 4 = .ok (.ifCond .eq 16, 3) := by decide +kernel
theorem dX6_bed_7 : decode cX6_bed 7 = .ok (.iload_n 3, 1) := by decide +kernel
theorem dX6_bed_8 : decode cX6_bed 8 = .ok (.ifCond .lt 12, 3) := by decide +kernel
theorem dX6_bed_11 : decode cX6_bed 11 = .ok (.iload_n 3, 1) := by decide +kernel
theorem dX6_bed_12 : decode cX6_bed 12 = .ok (.iconst 3, 1) := by decide +kernel
theorem dX6_bed_13 : decode cX6_bed 13 = .ok (.if_icmp .gt 7, 3) := by decide +kernel
theorem dX6_bed_16 : decode cX6_bed 16 = .ok (.iload_n 2, 1) := by decide +kernel
theorem dX6_bed_17 : decode cX6_bed 17 = .ok (.ifCond .ge 6, 3) := by decide +kernel
theorem dX6_bed_20 : decode cX6_bed 20 = .ok (.ldc 58, 2) := by decide +kernel
theorem dX6_bed_22 : decode cX6_bed 22 = .ok (.ireturn, 1) := by decide +kernel
theorem dX6_bed_23 : decode cX6_bed 23 = .ok (.aload_n 0, 1) := by decide +kernel
theorem dX6_bed_24 : decode cX6_bed 24 = .ok (.getfield 10, 3) := by decide +kernel
theorem dX6_bed_27 : decode cX6_bed 27 = .ok (.iload_n 1, 1) := by decide +kernel
theorem dX6_bed_28 : decode cX6_bed 28 = .ok (.invokevirtual 92, 3) := by decide +kernel
theorem dX6_bed_31 : decode cX6_bed 31 = .ok (.astore 4, 2) := by decide +kernel
theorem dX6_bed_33 : decode cX6_bed 33 = .ok (.aload 4, 2) := by decide +kernel
theorem dX6_bed_35 : decode cX6_bed 35 = .ok (.iload_n 2, 1) := by decide +kernel
theorem dX6_bed_36 : decode cX6_bed 36 = .ok (.invokevirtual 118, 3) := by decide +kernel
theorem dX6_bed_39 : decode cX6_bed 39 = .ok (.ifCond .ne 6, 3) := by decide +kernel
theorem dX6_bed_42 : decode cX6_bed 42 = .ok (.ldc 191, 2) := by decide +kernel
theorem dX6_bed_44 : decode cX6_bed 44 = .ok (.ireturn, 1) := by decide +kernel
theorem dX6_bed_45 : decode cX6_bed 45 = .ok (.iload_n 3, 1) := by decide +kernel
theorem dX6_bed_46 : decode cX6_bed 46 = .ok (.tableswitch 47 0 2 #[26, 33, 40], 26) := by decide +kernel
theorem dX6_bed_72 : decode cX6_bed 72 = .ok (.aload 4, 2) := by decide +kernel
theorem dX6_bed_74 : decode cX6_bed 74 = .ok (.iload_n 2, 1) := by decide +kernel
theorem dX6_bed_75 : decode cX6_bed 75 = .ok (.invokevirtual 192, 3) := by decide +kernel
theorem dX6_bed_78 : decode cX6_bed 78 = .ok (.ireturn, 1) := by decide +kernel
theorem dX6_bed_79 : decode cX6_bed 79 = .ok (.aload 4, 2) := by decide +kernel
theorem dX6_bed_81 : decode cX6_bed 81 = .ok (.iload_n 2, 1) := by decide +kernel
theorem dX6_bed_82 : decode cX6_bed 82 = .ok (.invokevirtual 121, 3) := by decide +kernel
theorem dX6_bed_85 : decode cX6_bed 85 = .ok (.ireturn, 1) := by decide +kernel
theorem dX6_bed_86 : decode cX6_bed 86 = .ok (.aload 4, 2) := by decide +kernel
theorem dX6_bed_88 : decode cX6_bed 88 = .ok (.iload_n 2, 1) := by decide +kernel
theorem dX6_bed_89 : decode cX6_bed 89 = .ok (.invokevirtual 195, 3) := by decide +kernel
theorem dX6_bed_92 : decode cX6_bed 92 = .ok (.ireturn, 1) := by decide +kernel
theorem dX6_bed_93 : decode cX6_bed 93 = .ok (.aload 4, 2) := by decide +kernel
theorem dX6_bed_95 : decode cX6_bed 95 = .ok (.iload_n 2, 1) := by decide +kernel
theorem dX6_bed_96 : decode cX6_bed 96 = .ok (.invokevirtual 198, 3) := by decide +kernel
theorem dX6_bed_99 : decode cX6_bed 99 = .ok (.ireturn, 1) := by decide +kernel
theorem dX6_find_0 : decode cX6_find 0 = .ok (.iload_n 1, 1) := by decide +kernel
theorem dX6_find_1 : decode cX6_find 1 = .ok (.invokestatic 89, 3) := by decide +kernel
theorem dX6_find_4 : decode cX6_find 4 = .ok (.ifCond .eq 14, 3) := by decide +kernel
theorem dX6_find_7 : decode cX6_find 7 = .ok (.iload_n 2, 1) := by decide +kernel
theorem dX6_find_8 : decode cX6_find 8 = .ok (.invokestatic 78, 3) := by decide +kernel
theorem dX6_find_11 : decode cX6_find 11 = .ok (.ifCond .eq 7, 3) := by decide +kernel
theorem dX6_find_14 : decode cX6_find 14 = .ok (.iload_n 3, 1) := by decide +kernel
theorem dX6_find_15 : decode cX6_find 15 = .ok (.ifCond .ge 6, 3) := by decide +kernel
theorem dX6_find_18 : decode cX6_find 18 = .ok (.ldc 58, 2) := by decide +kernel
theorem dX6_find_20 : decode cX6_find 20 = .ok (.ireturn, 1) := by decide +kernel
theorem dX6_find_21 : decode cX6_find 21 = .ok (.aload_n 0, 1) := by decide +kernel
theorem dX6_find_22 : decode cX6_find 22 = .ok (.getfield 10, 3) := by decide +kernel
theorem dX6_find_25 : decode cX6_find 25 = .ok (.iload_n 1, 1) := by decide +kernel
theorem dX6_find_26 : decode cX6_find 26 = .ok (.invokevirtual 92, 3) := by decide +kernel
theorem dX6_find_29 : decode cX6_find 29 = .ok (.iload_n 2, 1) := by decide +kernel
theorem dX6_find_30 : decode cX6_find 30 = .ok (.iload_n 3, 1) := by decide +kernel
theorem dX6_find_31 : decode cX6_find 31 = .ok (.invokevirtual 201, 3) := by decide +kernel
theorem dX6_find_34 : decode cX6_find 34 = .ok (.ireturn, 1) := by decide +kernel
theorem dX6_account_0 : decode cX6_account 0 = .ok (.iload_n 1, 1) := by decide +kernel
theorem dX6_account_1 : decode cX6_account 1 = .ok (.ifCond .lt 8, 3) := by decide +kernel
theorem dX6_account_4 : decode cX6_account 4 = .ok (.iload_n 1, 1) := by decide +kernel
theorem dX6_account_5 : decode cX6_account 5 = .ok (.iconst 5, 1) := by decide +kernel
theorem dX6_account_6 : decode cX6_account 6 = .ok (.if_icmp .lt 6, 3) := by decide +kernel
theorem dX6_account_9 : decode cX6_account 9 = .ok (.ldc 58, 2) := by decide +kernel
theorem dX6_account_11 : decode cX6_account 11 = .ok (.ireturn, 1) := by decide +kernel
theorem dX6_account_12 : decode cX6_account 12 = .ok (.iload_n 1, 1) := by decide +kernel
theorem dX6_account_13 : decode cX6_account 13 = .ok (.ifCond .ne 13, 3) := by decide +kernel
theorem dX6_account_16 : decode cX6_account 16 = .ok (.aload_n 0, 1) := by decide +kernel
theorem dX6_account_17 : decode cX6_account 17 = .ok (.getfield 10, 3) := by decide +kernel
theorem dX6_account_20 : decode cX6_account 20 = .ok (.invokevirtual 204, 3) := by decide +kernel
theorem dX6_account_23 : decode cX6_account 23 = .ok (.goto 11, 3) := by decide +kernel
theorem dX6_account_26 : decode cX6_account 26 = .ok (.aload_n 0, 1) := by decide +kernel
theorem dX6_account_27 : decode cX6_account 27 = .ok (.getfield 10, 3) := by decide +kernel
theorem dX6_account_30 : decode cX6_account 30 = .ok (.iload_n 1, 1) := by decide +kernel
theorem dX6_account_31 : decode cX6_account 31 = .ok (.invokevirtual 207, 3) := by decide +kernel
theorem dX6_account_34 : decode cX6_account 34 = .ok (.ireturn, 1) := by decide +kernel
theorem dX6_cost_0 : decode cX6_cost 0 = .ok (.iload_n 1, 1) := by decide +kernel
theorem dX6_cost_1 : decode cX6_cost 1 = .ok (.iload_n 2, 1) := by decide +kernel
theorem dX6_cost_2 : decode cX6_cost 2 = .ok (.invokestatic 210, 3) := by decide +kernel
theorem dX6_cost_5 : decode cX6_cost 5 = .ok (.ifCond .eq 12, 3) := by decide +kernel
theorem dX6_cost_8 : decode cX6_cost 8 = .ok (.iload_n 3, 1) := by decide +kernel
theorem dX6_cost_9 : decode cX6_cost 9 = .ok (.ifCond .eq 11, 3) := by decide +kernel
theorem dX6_cost_12 : decode cX6_cost 12 = .ok (.iload_n 3, 1) := by decide +kernel
theorem dX6_cost_13 : decode cX6_cost 13 = .ok (.iconst 1, 1) := by decide +kernel
theorem dX6_cost_14 : decode cX6_cost 14 = .ok (.if_icmp .eq 6, 3) := by decide +kernel
theorem dX6_cost_17 : decode cX6_cost 17 = .ok (.ldc 58, 2) := by decide +kernel
theorem dX6_cost_19 : decode cX6_cost 19 = .ok (.ireturn, 1) := by decide +kernel
theorem dX6_cost_20 : decode cX6_cost 20 = .ok (.aload_n 0, 1) := by decide +kernel
theorem dX6_cost_21 : decode cX6_cost 21 = .ok (.getfield 48, 3) := by decide +kernel
theorem dX6_cost_24 : decode cX6_cost 24 = .ok (.aload_n 0, 1) := by decide +kernel
theorem dX6_cost_25 : decode cX6_cost 25 = .ok (.getfield 10, 3) := by decide +kernel
theorem dX6_cost_28 : decode cX6_cost 28 = .ok (.iload_n 1, 1) := by decide +kernel
theorem dX6_cost_29 : decode cX6_cost 29 = .ok (.iload_n 2, 1) := by decide +kernel
theorem dX6_cost_30 : decode cX6_cost 30 = .ok (.iload_n 3, 1) := by decide +kernel
theorem dX6_cost_31 : decode cX6_cost 31 = .ok (.invokevirtual 214, 3) := by decide +kernel
theorem dX6_cost_34 : decode cX6_cost 34 = .ok (.ireturn, 1) := by decide +kernel
theorem dX6_why_0 : decode cX6_why 0 = .ok (.aload_n 0, 1) := by decide +kernel
theorem dX6_why_1 : decode cX6_why 1 = .ok (.iload_n 1, 1) := by decide +kernel
theorem dX6_why_2 : decode cX6_why 2 = .ok (.iload_n 2, 1) := by decide +kernel
theorem dX6_why_3 : decode cX6_why 3 = .ok (.iload_n 3, 1) := by decide +kernel
theorem dX6_why_4 : decode cX6_why 4 = .ok (.iload 4, 2) := by decide +kernel
theorem dX6_why_6 : decode cX6_why 6 = .ok (.invokevirtual 218, 3) := by decide +kernel
theorem dX6_why_9 : decode cX6_why 9 = .ok (.ifCond .ne 6, 3) := by decide +kernel
theorem dX6_why_12 : decode cX6_why 12 = .ok (.ldc 58, 2) := by decide +kernel
theorem dX6_why_14 : decode cX6_why 14 = .ok (.ireturn, 1) := by decide +kernel
theorem dX6_why_15 : decode cX6_why 15 = .ok (.aload_n 0, 1) := by decide +kernel
theorem dX6_why_16 : decode cX6_why 16 = .ok (.getfield 48, 3) := by decide +kernel
theorem dX6_why_19 : decode cX6_why 19 = .ok (.aload_n 0, 1) := by decide +kernel
theorem dX6_why_20 : decode cX6_why 20 = .ok (.getfield 10, 3) := by decide +kernel
theorem dX6_why_23 : decode cX6_why 23 = .ok (.iload_n 1, 1) := by decide +kernel
theorem dX6_why_24 : decode cX6_why 24 = .ok (.iload_n 2, 1) := by decide +kernel
theorem dX6_why_25 : decode cX6_why 25 = .ok (.invokevirtual 222, 3) := by decide +kernel
theorem dX6_why_28 : decode cX6_why 28 = .ok (.aload_n 0, 1) := by decide +kernel
theorem dX6_why_29 : decode cX6_why 29 = .ok (.getfield 48, 3) := by decide +kernel
theorem dX6_why_32 : decode cX6_why 32 = .ok (.iload_n 3, 1) := by decide +kernel
theorem dX6_why_33 : decode cX6_why 33 = .ok (.iload 4, 2) := by decide +kernel
theorem dX6_why_35 : decode cX6_why 35 = .ok (.invokevirtual 226, 3) := by decide +kernel
theorem dX6_why_38 : decode cX6_why 38 = .ok (.ireturn, 1) := by decide +kernel
theorem dX6_partner_0 : decode cX6_partner 0 = .ok (.aload_n 0, 1) := by decide +kernel
theorem dX6_partner_1 : decode cX6_partner 1 = .ok (.iload_n 1, 1) := by decide +kernel
theorem dX6_partner_2 : decode cX6_partner 2 = .ok (.iload_n 2, 1) := by decide +kernel
theorem dX6_partner_3 : decode cX6_partner 3 = .ok (.iload_n 3, 1) := by decide +kernel
theorem dX6_partner_4 : decode cX6_partner 4 = .ok (.iload 4, 2) := by decide +kernel
theorem dX6_partner_6 : decode cX6_partner 6 = .ok (.invokevirtual 218, 3) := by decide +kernel
theorem dX6_partner_9 : decode cX6_partner 9 = .ok (.ifCond .ne 6, 3) := by decide +kernel
theorem dX6_partner_12 : decode cX6_partner 12 = .ok (.ldc 58, 2) := by decide +kernel
theorem dX6_partner_14 : decode cX6_partner 14 = .ok (.ireturn, 1) := by decide +kernel
theorem dX6_partner_15 : decode cX6_partner 15 = .ok (.aload_n 0, 1) := by decide +kernel
theorem dX6_partner_16 : decode cX6_partner 16 = .ok (.getfield 48, 3) := by decide +kernel
theorem dX6_partner_19 : decode cX6_partner 19 = .ok (.aload_n 0, 1) := by decide +kernel
theorem dX6_partner_20 : decode cX6_partner 20 = .ok (.getfield 10, 3) := by decide +kernel
theorem dX6_partner_23 : decode cX6_partner 23 = .ok (.iload_n 1, 1) := by decide +kernel
theorem dX6_partner_24 : decode cX6_partner 24 = .ok (.iload_n 2, 1) := by decide +kernel
theorem dX6_partner_25 : decode cX6_partner 25 = .ok (.invokevirtual 222, 3) := by decide +kernel
theorem dX6_partner_28 : decode cX6_partner 28 = .ok (.aload_n 0, 1) := by decide +kernel
theorem dX6_partner_29 : decode cX6_partner 29 = .ok (.getfield 48, 3) := by decide +kernel
theorem dX6_partner_32 : decode cX6_partner 32 = .ok (.iload_n 3, 1) := by decide +kernel
theorem dX6_partner_33 : decode cX6_partner 33 = .ok (.iload 4, 2) := by decide +kernel
theorem dX6_partner_35 : decode cX6_partner 35 = .ok (.invokevirtual 229, 3) := by decide +kernel
theorem dX6_partner_38 : decode cX6_partner 38 = .ok (.ireturn, 1) := by decide +kernel
theorem dX6_matched_0 : decode cX6_matched 0 = .ok (.iload_n 1, 1) := by decide +kernel
theorem dX6_matched_1 : decode cX6_matched 1 = .ok (.iload_n 2, 1) := by decide +kernel
theorem dX6_matched_2 : decode cX6_matched 2 = .ok (.invokestatic 210, 3) := by decide +kernel
theorem dX6_matched_5 : decode cX6_matched 5 = .ok (.ifCond .eq 13, 3) := by decide +kernel
theorem dX6_matched_8 : decode cX6_matched 8 = .ok (.iload_n 3, 1) := by decide +kernel
theorem dX6_matched_9 : decode cX6_matched 9 = .ok (.iconst 1, 1) := by decide +kernel
theorem dX6_matched_10 : decode cX6_matched 10 = .ok (.if_icmp .lt 8, 3) := by decide +kernel
theorem dX6_matched_13 : decode cX6_matched 13 = .ok (.iload_n 3, 1) := by decide +kernel
theorem dX6_matched_14 : decode cX6_matched 14 = .ok (.iconst 5, 1) := by decide +kernel
theorem dX6_matched_15 : decode cX6_matched 15 = .ok (.if_icmp .le 6, 3) := by decide +kernel
theorem dX6_matched_18 : decode cX6_matched 18 = .ok (.ldc 58, 2) := by decide +kernel
theorem dX6_matched_20 : decode cX6_matched 20 = .ok (.ireturn, 1) := by decide +kernel
theorem dX6_matched_21 : decode cX6_matched 21 = .ok (.aload_n 0, 1) := by decide +kernel
theorem dX6_matched_22 : decode cX6_matched 22 = .ok (.getfield 48, 3) := by decide +kernel
theorem dX6_matched_25 : decode cX6_matched 25 = .ok (.aload_n 0, 1) := by decide +kernel
theorem dX6_matched_26 : decode cX6_matched 26 = .ok (.getfield 10, 3) := by decide +kernel
theorem dX6_matched_29 : decode cX6_matched 29 = .ok (.iload_n 1, 1) := by decide +kernel
theorem dX6_matched_30 : decode cX6_matched 30 = .ok (.iload_n 2, 1) := by decide +kernel
theorem dX6_matched_31 : decode cX6_matched 31 = .ok (.invokevirtual 222, 3) := by decide +kernel
theorem dX6_matched_34 : decode cX6_matched 34 = .ok (.iload_n 3, 1) := by decide +kernel
theorem dX6_matched_35 : decode cX6_matched 35 = .ok (.tableswitch 49 1 4 #[29, 29, 39, 39], 29) := by decide +kernel
theorem dX6_matched_64 : decode cX6_matched 64 = .ok (.aload_n 0, 1) := by decide +kernel
theorem dX6_matched_65 : decode cX6_matched 65 = .ok (.getfield 48, 3) := by decide +kernel
theorem dX6_matched_68 : decode cX6_matched 68 = .ok (.iconst 0, 1) := by decide +kernel
theorem dX6_matched_69 : decode cX6_matched 69 = .ok (.iload_n 3, 1) := by decide +kernel
theorem dX6_matched_70 : decode cX6_matched 70 = .ok (.invokevirtual 232, 3) := by decide +kernel
theorem dX6_matched_73 : decode cX6_matched 73 = .ok (.ireturn, 1) := by decide +kernel
theorem dX6_matched_74 : decode cX6_matched 74 = .ok (.aload_n 0, 1) := by decide +kernel
theorem dX6_matched_75 : decode cX6_matched 75 = .ok (.getfield 48, 3) := by decide +kernel
theorem dX6_matched_78 : decode cX6_matched 78 = .ok (.iconst 1, 1) := by decide +kernel
theorem dX6_matched_79 : decode cX6_matched 79 = .ok (.iload_n 3, 1) := by decide +kernel
theorem dX6_matched_80 : decode cX6_matched 80 = .ok (.invokevirtual 232, 3) := by decide +kernel
theorem dX6_matched_83 : decode cX6_matched 83 = .ok (.ireturn, 1) := by decide +kernel
theorem dX6_matched_84 : decode cX6_matched 84 = .ok (.aload_n 0, 1) := by decide +kernel
theorem dX6_matched_85 : decode cX6_matched 85 = .ok (.getfield 48, 3) := by decide +kernel
theorem dX6_matched_88 : decode cX6_matched 88 = .ok (.invokevirtual 235, 3) := by decide +kernel
theorem dX6_matched_91 : decode cX6_matched 91 = .ok (.ireturn, 1) := by decide +kernel
theorem dX6_fault_0 : decode cX6_fault 0 = .ok (.iload_n 1, 1) := by decide +kernel
theorem dX6_fault_1 : decode cX6_fault 1 = .ok (.iload_n 2, 1) := by decide +kernel
theorem dX6_fault_2 : decode cX6_fault 2 = .ok (.invokestatic 210, 3) := by decide +kernel
theorem dX6_fault_5 : decode cX6_fault 5 = .ok (.ifCond .eq 18, 3) := by decide +kernel
theorem dX6_fault_8 : decode cX6_fault 8 = .ok (.iload_n 3, 1) := by decide +kernel
theorem dX6_fault_9 : decode cX6_fault 9 = .ok (.ifCond .lt 14, 3) := by decide +kernel
theorem dX6_fault_12 : decode cX6_fault 12 = .ok (.iload 4, 2) := by decide +kernel
theorem dX6_fault_14 : decode cX6_fault 14 = .ok (.ifCond .lt 9, 3) := by decide +kernel
theorem dX6_fault_17 : decode cX6_fault 17 = .ok (.iload 4, 2) := by decide +kernel
theorem dX6_fault_19 : decode cX6_fault 19 = .ok (.iconst 2, 1) := by decide +kernel
theorem dX6_fault_20 : decode cX6_fault 20 = .ok (.if_icmp .le 6, 3) := by decide +kernel
theorem dX6_fault_23 : decode cX6_fault 23 = .ok (.ldc 58, 2) := by decide +kernel
theorem dX6_fault_25 : decode cX6_fault 25 = .ok (.ireturn, 1) := by decide +kernel
theorem dX6_fault_26 : decode cX6_fault 26 = .ok (.aload_n 0, 1) := by decide +kernel
theorem dX6_fault_27 : decode cX6_fault 27 = .ok (.getfield 48, 3) := by decide +kernel
theorem dX6_fault_30 : decode cX6_fault 30 = .ok (.aload_n 0, 1) := by decide +kernel
theorem dX6_fault_31 : decode cX6_fault 31 = .ok (.getfield 10, 3) := by decide +kernel
theorem dX6_fault_34 : decode cX6_fault 34 = .ok (.iload_n 1, 1) := by decide +kernel
theorem dX6_fault_35 : decode cX6_fault 35 = .ok (.iload_n 2, 1) := by decide +kernel
theorem dX6_fault_36 : decode cX6_fault 36 = .ok (.invokevirtual 222, 3) := by decide +kernel
theorem dX6_fault_39 : decode cX6_fault 39 = .ok (.aload_n 0, 1) := by decide +kernel
theorem dX6_fault_40 : decode cX6_fault 40 = .ok (.getfield 48, 3) := by decide +kernel
theorem dX6_fault_43 : decode cX6_fault 43 = .ok (.iload_n 3, 1) := by decide +kernel
theorem dX6_fault_44 : decode cX6_fault 44 = .ok (.invokevirtual 238, 3) := by decide +kernel
theorem dX6_fault_47 : decode cX6_fault 47 = .ok (.istore 5, 2) := by decide +kernel
theorem dX6_fault_49 : decode cX6_fault 49 = .ok (.iload 5, 2) := by decide +kernel
theorem dX6_fault_51 : decode cX6_fault 51 = .ok (.ldc 191, 2) := by decide +kernel
theorem dX6_fault_53 : decode cX6_fault 53 = .ok (.if_icmp .ne 6, 3) := by decide +kernel
theorem dX6_fault_56 : decode cX6_fault 56 = .ok (.ldc 191, 2) := by decide +kernel
theorem dX6_fault_58 : decode cX6_fault 58 = .ok (.ireturn, 1) := by decide +kernel
theorem dX6_fault_59 : decode cX6_fault 59 = .ok (.iload 4, 2) := by decide +kernel
theorem dX6_fault_61 : decode cX6_fault 61 = .ok (.lookupswitch 40 #[(0, 27), (1, 30)], 27) := by decide +kernel
theorem dX6_fault_88 : decode cX6_fault 88 = .ok (.iload 5, 2) := by decide +kernel
theorem dX6_fault_90 : decode cX6_fault 90 = .ok (.ireturn, 1) := by decide +kernel
theorem dX6_fault_91 : decode cX6_fault 91 = .ok (.aload_n 0, 1) := by decide +kernel
theorem dX6_fault_92 : decode cX6_fault 92 = .ok (.getfield 48, 3) := by decide +kernel
theorem dX6_fault_95 : decode cX6_fault 95 = .ok (.iload 5, 2) := by decide +kernel
theorem dX6_fault_97 : decode cX6_fault 97 = .ok (.invokevirtual 241, 3) := by decide +kernel
theorem dX6_fault_100 : decode cX6_fault 100 = .ok (.ireturn, 1) := by decide +kernel
theorem dX6_fault_101 : decode cX6_fault 101 = .ok (.aload_n 0, 1) := by decide +kernel
theorem dX6_fault_102 : decode cX6_fault 102 = .ok (.getfield 48, 3) := by decide +kernel
theorem dX6_fault_105 : decode cX6_fault 105 = .ok (.iload 5, 2) := by decide +kernel
theorem dX6_fault_107 : decode cX6_fault 107 = .ok (.invokevirtual 244, 3) := by decide +kernel
theorem dX6_fault_110 : decode cX6_fault 110 = .ok (.ireturn, 1) := by decide +kernel
theorem dX6_sumOfThrows_0 : decode cX6_sumOfThrows 0 = .ok (.iload_n 1, 1) := by decide +kernel
theorem dX6_sumOfThrows_1 : decode cX6_sumOfThrows 1 = .ok (.iload_n 2, 1) := by decide +kernel
theorem dX6_sumOfThrows_2 : decode cX6_sumOfThrows 2 = .ok (.invokestatic 210, 3) := by decide +kernel
theorem dX6_sumOfThrows_5 : decode cX6_sumOfThrows 5 = .ok (.ifCond .eq 12, 3) := by decide +kernel
theorem dX6_sumOfThrows_8 : decode cX6_sumOfThrows 8 = .ok (.iload_n 3, 1) := by decide +kernel
theorem dX6_sumOfThrows_9 : decode cX6_sumOfThrows 9 = .ok (.ifCond .lt 8, 3) := by decide +kernel
theorem dX6_sumOfThrows_12 : decode cX6_sumOfThrows 12 = .ok (.iload_n 3, 1) := by decide +kernel
theorem dX6_sumOfThrows_13 : decode cX6_sumOfThrows 13 = .ok (.iconst 2, 1) := by decide +kernel
theorem dX6_sumOfThrows_14 : decode cX6_sumOfThrows 14 = .ok (.if_icmp .le 6, 3) := by decide +kernel
theorem dX6_sumOfThrows_17 : decode cX6_sumOfThrows 17 = .ok (.ldc 58, 2) := by decide +kernel
theorem dX6_sumOfThrows_19 : decode cX6_sumOfThrows 19 = .ok (.ireturn, 1) := by decide +kernel
theorem dX6_sumOfThrows_20 : decode cX6_sumOfThrows 20 = .ok (.aload_n 0, 1) := by decide +kernel
theorem dX6_sumOfThrows_21 : decode cX6_sumOfThrows 21 = .ok (.getfield 48, 3) := by decide +kernel
theorem dX6_sumOfThrows_24 : decode cX6_sumOfThrows 24 = .ok (.aload_n 0, 1) := by decide +kernel
theorem dX6_sumOfThrows_25 : decode cX6_sumOfThrows 25 = .ok (.getfield 10, 3) := by decide +kernel
theorem dX6_sumOfThrows_28 : decode cX6_sumOfThrows 28 = .ok (.iload_n 1, 1) := by decide +kernel
theorem dX6_sumOfThrows_29 : decode cX6_sumOfThrows 29 = .ok (.iload_n 2, 1) := by decide +kernel
theorem dX6_sumOfThrows_30 : decode cX6_sumOfThrows 30 = .ok (.invokevirtual 222, 3) := by decide +kernel
theorem dX6_sumOfThrows_33 : decode cX6_sumOfThrows 33 = .ok (.aload_n 0, 1) := by decide +kernel
theorem dX6_sumOfThrows_34 : decode cX6_sumOfThrows 34 = .ok (.getfield 48, 3) := by decide +kernel
theorem dX6_sumOfThrows_37 : decode cX6_sumOfThrows 37 = .ok (.iconst (-1), 1) := by decide +kernel
theorem dX6_sumOfThrows_38 : decode cX6_sumOfThrows 38 = .ok (.invokevirtual 247, 3) := by decide +kernel
theorem dX6_sumOfThrows_41 : decode cX6_sumOfThrows 41 = .ok (.ldc 191, 2) := by decide +kernel
theorem dX6_sumOfThrows_43 : decode cX6_sumOfThrows 43 = .ok (.if_icmp .ne 6, 3) := by decide +kernel
theorem dX6_sumOfThrows_46 : decode cX6_sumOfThrows 46 = .ok (.ldc 191, 2) := by decide +kernel
theorem dX6_sumOfThrows_48 : decode cX6_sumOfThrows 48 = .ok (.ireturn, 1) := by decide +kernel
theorem dX6_sumOfThrows_49 : decode cX6_sumOfThrows 49 = .ok (.iload_n 3, 1) := by decide +kernel
theorem dX6_sumOfThrows_50 : decode cX6_sumOfThrows 50 = .ok (.lookupswitch 44 #[(0, 26), (1, 35)], 26) := by decide +kernel
theorem dX6_sumOfThrows_76 : decode cX6_sumOfThrows 76 = .ok (.aload_n 0, 1) := by decide +kernel
theorem dX6_sumOfThrows_77 : decode cX6_sumOfThrows 77 = .ok (.getfield 48, 3) := by decide +kernel
theorem dX6_sumOfThrows_80 : decode cX6_sumOfThrows 80 = .ok (.iconst 0, 1) := by decide +kernel
theorem dX6_sumOfThrows_81 : decode cX6_sumOfThrows 81 = .ok (.invokevirtual 250, 3) := by decide +kernel
theorem dX6_sumOfThrows_84 : decode cX6_sumOfThrows 84 = .ok (.ireturn, 1) := by decide +kernel
theorem dX6_sumOfThrows_85 : decode cX6_sumOfThrows 85 = .ok (.aload_n 0, 1) := by decide +kernel
theorem dX6_sumOfThrows_86 : decode cX6_sumOfThrows 86 = .ok (.getfield 48, 3) := by decide +kernel
theorem dX6_sumOfThrows_89 : decode cX6_sumOfThrows 89 = .ok (.iconst 1, 1) := by decide +kernel
theorem dX6_sumOfThrows_90 : decode cX6_sumOfThrows 90 = .ok (.invokevirtual 250, 3) := by decide +kernel
theorem dX6_sumOfThrows_93 : decode cX6_sumOfThrows 93 = .ok (.ireturn, 1) := by decide +kernel
theorem dX6_sumOfThrows_94 : decode cX6_sumOfThrows 94 = .ok (.aload_n 0, 1) := by decide +kernel
theorem dX6_sumOfThrows_95 : decode cX6_sumOfThrows 95 = .ok (.getfield 48, 3) := by decide +kernel
theorem dX6_sumOfThrows_98 : decode cX6_sumOfThrows 98 = .ok (.invokevirtual 254, 3) := by decide +kernel
theorem dX6_sumOfThrows_101 : decode cX6_sumOfThrows 101 = .ok (.ireturn, 1) := by decide +kernel
theorem dX6_nearest_0 : decode cX6_nearest 0 = .ok (.iload_n 1, 1) := by decide +kernel
theorem dX6_nearest_1 : decode cX6_nearest 1 = .ok (.invokestatic 89, 3) := by decide +kernel
theorem dX6_nearest_4 : decode cX6_nearest 4 = .ok (.ifCond .eq 12, 3) := by decide +kernel
theorem dX6_nearest_7 : decode cX6_nearest 7 = .ok (.iload_n 2, 1) := by decide +kernel
theorem dX6_nearest_8 : decode cX6_nearest 8 = .ok (.ifCond .lt 8, 3) := by decide +kernel
theorem dX6_nearest_11 : decode cX6_nearest 11 = .ok (.iload_n 2, 1) := by decide +kernel
theorem dX6_nearest_12 : decode cX6_nearest 12 = .ok (.iconst 1, 1) := by decide +kernel
theorem dX6_nearest_13 : decode cX6_nearest 13 = .ok (.if_icmp .le 6, 3) := by decide +kernel
theorem dX6_nearest_16 : decode cX6_nearest 16 = .ok (.ldc 58, 2) := by decide +kernel
theorem dX6_nearest_18 : decode cX6_nearest 18 = .ok (.ireturn, 1) := by decide +kernel
theorem dX6_nearest_19 : decode cX6_nearest 19 = .ok (.ldc 191, 2) := by decide +kernel
theorem dX6_nearest_21 : decode cX6_nearest 21 = .ok (.istore_n 3, 1) := by decide +kernel
theorem dX6_nearest_22 : decode cX6_nearest 22 = .ok (.ldc_w 257, 3) := by decide +kernel
theorem dX6_nearest_25 : decode cX6_nearest 25 = .ok (.istore 4, 2) := by decide +kernel
theorem dX6_nearest_27 : decode cX6_nearest 27 = .ok (.iconst 0, 1) := by decide +kernel
theorem dX6_nearest_28 : decode cX6_nearest 28 = .ok (.istore 5, 2) := by decide +kernel
theorem dX6_nearest_30 : decode cX6_nearest 30 = .ok (.iload 5, 2) := by decide +kernel
theorem dX6_nearest_32 : decode cX6_nearest 32 = .ok (.iconst 4, 1) := by decide +kernel
theorem dX6_nearest_33 : decode cX6_nearest 33 = .ok (.if_icmp .ge 46, 3) := by decide +kernel
theorem dX6_nearest_36 : decode cX6_nearest 36 = .ok (.iload 5, 2) := by decide +kernel
theorem dX6_nearest_38 : decode cX6_nearest 38 = .ok (.iload_n 1, 1) := by decide +kernel
theorem dX6_nearest_39 : decode cX6_nearest 39 = .ok (.if_icmp .eq 34, 3) := by decide +kernel
theorem dX6_nearest_42 : decode cX6_nearest 42 = .ok (.aload_n 0, 1) := by decide +kernel
theorem dX6_nearest_43 : decode cX6_nearest 43 = .ok (.getfield 48, 3) := by decide +kernel
theorem dX6_nearest_46 : decode cX6_nearest 46 = .ok (.aload_n 0, 1) := by decide +kernel
theorem dX6_nearest_47 : decode cX6_nearest 47 = .ok (.getfield 10, 3) := by decide +kernel
theorem dX6_nearest_50 : decode cX6_nearest 50 = .ok (.iload_n 1, 1) := by decide +kernel
theorem dX6_nearest_51 : decode cX6_nearest 51 = .ok (.iload 5, 2) := by decide +kernel
theorem dX6_nearest_53 : decode cX6_nearest 53 = .ok (.iconst 0, 1) := by decide +kernel
theorem dX6_nearest_54 : decode cX6_nearest 54 = .ok (.invokevirtual 214, 3) := by decide +kernel
theorem dX6_nearest_57 : decode cX6_nearest 57 = .ok (.istore 6, 2) := by decide +kernel
theorem dX6_nearest_59 : decode cX6_nearest 59 = .ok (.iload 6, 2) := by decide +kernel
theorem dX6_nearest_61 : decode cX6_nearest 61 = .ok (.iload 4, 2) := by decide +kernel
theorem dX6_nearest_63 : decode cX6_nearest 63 = .ok (.if_icmp .ge 10, 3) := by decide +kernel
theorem dX6_nearest_66 : decode cX6_nearest 66 = .ok (.iload 6, 2) := by decide +kernel
theorem dX6_nearest_68 : decode cX6_nearest 68 = .ok (.istore 4, 2) := by decide +kernel
theorem dX6_nearest_70 : decode cX6_nearest 70 = .ok (.iload 5, 2) := by decide +kernel
theorem dX6_nearest_72 : decode cX6_nearest 72 = .ok (.istore_n 3, 1) := by decide +kernel
theorem dX6_nearest_73 : decode cX6_nearest 73 = .ok (.iinc 5 1, 3) := by decide +kernel
theorem dX6_nearest_76 : decode cX6_nearest 76 = .ok (.goto (-46), 3) := by decide +kernel
theorem dX6_nearest_79 : decode cX6_nearest 79 = .ok (.iload_n 2, 1) := by decide +kernel
theorem dX6_nearest_80 : decode cX6_nearest 80 = .ok (.ifCond .ne 7, 3) := by decide +kernel
theorem dX6_nearest_83 : decode cX6_nearest 83 = .ok (.iload_n 3, 1) := by decide +kernel
theorem dX6_nearest_84 : decode cX6_nearest 84 = .ok (.goto 5, 3) := by decide +kernel
theorem dX6_nearest_87 : decode cX6_nearest 87 = .ok (.iload 4, 2) := by decide +kernel
theorem dX6_nearest_89 : decode cX6_nearest 89 = .ok (.ireturn, 1) := by decide +kernel
theorem dX6_closed_0 : decode cX6_closed 0 = .ok (.iload_n 1, 1) := by decide +kernel
theorem dX6_closed_1 : decode cX6_closed 1 = .ok (.iload_n 2, 1) := by decide +kernel
theorem dX6_closed_2 : decode cX6_closed 2 = .ok (.invokestatic 210, 3) := by decide +kernel
theorem dX6_closed_5 : decode cX6_closed 5 = .ok (.ifCond .eq 19, 3) := by decide +kernel
theorem dX6_closed_8 : decode cX6_closed 8 = .ok (.iload_n 1, 1) := by decide +kernel
theorem dX6_closed_9 : decode cX6_closed 9 = .ok (.iload_n 3, 1) := by decide +kernel
theorem dX6_closed_10 : decode cX6_closed 10 = .ok (.invokestatic 210, 3) := by decide +kernel
theorem dX6_closed_13 : decode cX6_closed 13 = .ok (.ifCond .eq 11, 3) := by decide +kernel
theorem dX6_closed_16 : decode cX6_closed 16 = .ok (.iload_n 2, 1) := by decide +kernel
theorem dX6_closed_17 : decode cX6_closed 17 = .ok (.iload_n 3, 1) := by decide +kernel
theorem dX6_closed_18 : decode cX6_closed 18 = .ok (.invokestatic 210, 3) := by decide +kernel
theorem dX6_closed_21 : decode cX6_closed 21 = .ok (.ifCond .ne 6, 3) := by decide +kernel
theorem dX6_closed_24 : decode cX6_closed 24 = .ok (.ldc 58, 2) := by decide +kernel
theorem dX6_closed_26 : decode cX6_closed 26 = .ok (.ireturn, 1) := by decide +kernel
theorem dX6_closed_27 : decode cX6_closed 27 = .ok (.aload_n 0, 1) := by decide +kernel
theorem dX6_closed_28 : decode cX6_closed 28 = .ok (.getfield 48, 3) := by decide +kernel
theorem dX6_closed_31 : decode cX6_closed 31 = .ok (.aload_n 0, 1) := by decide +kernel
theorem dX6_closed_32 : decode cX6_closed 32 = .ok (.getfield 10, 3) := by decide +kernel
theorem dX6_closed_35 : decode cX6_closed 35 = .ok (.iload_n 1, 1) := by decide +kernel
theorem dX6_closed_36 : decode cX6_closed 36 = .ok (.iload_n 2, 1) := by decide +kernel
theorem dX6_closed_37 : decode cX6_closed 37 = .ok (.invokevirtual 222, 3) := by decide +kernel
theorem dX6_closed_40 : decode cX6_closed 40 = .ok (.aload_n 0, 1) := by decide +kernel
theorem dX6_closed_41 : decode cX6_closed 41 = .ok (.getfield 52, 3) := by decide +kernel
theorem dX6_closed_44 : decode cX6_closed 44 = .ok (.aload_n 0, 1) := by decide +kernel
theorem dX6_closed_45 : decode cX6_closed 45 = .ok (.getfield 10, 3) := by decide +kernel
theorem dX6_closed_48 : decode cX6_closed 48 = .ok (.iload_n 2, 1) := by decide +kernel
theorem dX6_closed_49 : decode cX6_closed 49 = .ok (.iload_n 3, 1) := by decide +kernel
theorem dX6_closed_50 : decode cX6_closed 50 = .ok (.invokevirtual 222, 3) := by decide +kernel
theorem dX6_closed_53 : decode cX6_closed 53 = .ok (.aload_n 0, 1) := by decide +kernel
theorem dX6_closed_54 : decode cX6_closed 54 = .ok (.getfield 55, 3) := by decide +kernel
theorem dX6_closed_57 : decode cX6_closed 57 = .ok (.aload_n 0, 1) := by decide +kernel
theorem dX6_closed_58 : decode cX6_closed 58 = .ok (.getfield 10, 3) := by decide +kernel
theorem dX6_closed_61 : decode cX6_closed 61 = .ok (.iload_n 1, 1) := by decide +kernel
theorem dX6_closed_62 : decode cX6_closed 62 = .ok (.iload_n 3, 1) := by decide +kernel
theorem dX6_closed_63 : decode cX6_closed 63 = .ok (.invokevirtual 222, 3) := by decide +kernel
theorem dX6_closed_66 : decode cX6_closed 66 = .ok (.iconst 0, 1) := by decide +kernel
theorem dX6_closed_67 : decode cX6_closed 67 = .ok (.istore 4, 2) := by decide +kernel
theorem dX6_closed_69 : decode cX6_closed 69 = .ok (.iconst 0, 1) := by decide +kernel
theorem dX6_closed_70 : decode cX6_closed 70 = .ok (.istore 5, 2) := by decide +kernel
theorem dX6_closed_72 : decode cX6_closed 72 = .ok (.iload 5, 2) := by decide +kernel
theorem dX6_closed_74 : decode cX6_closed 74 = .ok (.bipush 24, 2) := by decide +kernel
theorem dX6_closed_76 : decode cX6_closed 76 = .ok (.if_icmp .ge 58, 3) := by decide +kernel
theorem dX6_closed_79 : decode cX6_closed 79 = .ok (.aload_n 0, 1) := by decide +kernel
theorem dX6_closed_80 : decode cX6_closed 80 = .ok (.getfield 48, 3) := by decide +kernel
theorem dX6_closed_83 : decode cX6_closed 83 = .ok (.iconst 0, 1) := by decide +kernel
theorem dX6_closed_84 : decode cX6_closed 84 = .ok (.iload 5, 2) := by decide +kernel
theorem dX6_closed_86 : decode cX6_closed 86 = .ok (.invokevirtual 229, 3) := by decide +kernel
theorem dX6_closed_89 : decode cX6_closed 89 = .ok (.istore 6, 2) := by decide +kernel
theorem dX6_closed_91 : decode cX6_closed 91 = .ok (.aload_n 0, 1) := by decide +kernel
theorem dX6_closed_92 : decode cX6_closed 92 = .ok (.getfield 52, 3) := by decide +kernel
theorem dX6_closed_95 : decode cX6_closed 95 = .ok (.iconst 0, 1) := by decide +kernel
theorem dX6_closed_96 : decode cX6_closed 96 = .ok (.iload 6, 2) := by decide +kernel
theorem dX6_closed_98 : decode cX6_closed 98 = .ok (.invokevirtual 229, 3) := by decide +kernel
theorem dX6_closed_101 : decode cX6_closed 101 = .ok (.istore 7, 2) := by decide +kernel
theorem dX6_closed_103 : decode cX6_closed 103 = .ok (.iload 7, 2) := by decide +kernel
theorem dX6_closed_105 : decode cX6_closed 105 = .ok (.ldc 191, 2) := by decide +kernel
theorem dX6_closed_107 : decode cX6_closed 107 = .ok (.if_icmp .eq 21, 3) := by decide +kernel
theorem dX6_closed_110 : decode cX6_closed 110 = .ok (.iload 7, 2) := by decide +kernel
theorem dX6_closed_112 : decode cX6_closed 112 = .ok (.aload_n 0, 1) := by decide +kernel
theorem dX6_closed_113 : decode cX6_closed 113 = .ok (.getfield 55, 3) := by decide +kernel
theorem dX6_closed_116 : decode cX6_closed 116 = .ok (.iconst 0, 1) := by decide +kernel
theorem dX6_closed_117 : decode cX6_closed 117 = .ok (.iload 5, 2) := by decide +kernel
theorem dX6_closed_119 : decode cX6_closed 119 = .ok (.invokevirtual 229, 3) := by decide +kernel
theorem dX6_closed_122 : decode cX6_closed 122 = .ok (.if_icmp .ne 6, 3) := by decide +kernel
theorem dX6_closed_125 : decode cX6_closed 125 = .ok (.iinc 4 1, 3) := by decide +kernel
theorem dX6_closed_128 : decode cX6_closed 128 = .ok (.iinc 5 1, 3) := by decide +kernel
theorem dX6_closed_131 : decode cX6_closed 131 = .ok (.goto (-59), 3) := by decide +kernel
theorem dX6_closed_134 : decode cX6_closed 134 = .ok (.iload 4, 2) := by decide +kernel
theorem dX6_closed_136 : decode cX6_closed 136 = .ok (.ireturn, 1) := by decide +kernel
theorem dX6_isHole_0 : decode cX6_isHole 0 = .ok (.iload_n 0, 1) := by decide +kernel
theorem dX6_isHole_1 : decode cX6_isHole 1 = .ok (.ifCond .lt 12, 3) := by decide +kernel
theorem dX6_isHole_4 : decode cX6_isHole 4 = .ok (.iload_n 0, 1) := by decide +kernel
theorem dX6_isHole_5 : decode cX6_isHole 5 = .ok (.iconst 4, 1) := by decide +kernel
theorem dX6_isHole_6 : decode cX6_isHole 6 = .ok (.if_icmp .ge 7, 3) := by decide +kernel
theorem dX6_isHole_9 : decode cX6_isHole 9 = .ok (.iconst 1, 1) := by decide +kernel
theorem dX6_isHole_10 : decode cX6_isHole 10 = .ok (.goto 4, 3) := by decide +kernel
theorem dX6_isHole_13 : decode cX6_isHole 13 = .ok (.iconst 0, 1) := by decide +kernel
theorem dX6_isHole_14 : decode cX6_isHole 14 = .ok (.ireturn, 1) := by decide +kernel
theorem dX6_isMark_0 : decode cX6_isMark 0 = .ok (.iload_n 0, 1) := by decide +kernel
theorem dX6_isMark_1 : decode cX6_isMark 1 = .ok (.ifCond .lt 13, 3) := by decide +kernel
theorem dX6_isMark_4 : decode cX6_isMark 4 = .ok (.iload_n 0, 1) := by decide +kernel
theorem dX6_isMark_5 : decode cX6_isMark 5 = .ok (.bipush 26, 2) := by decide +kernel
theorem dX6_isMark_7 : decode cX6_isMark 7 = .ok (.if_icmp .ge 7, 3) := by decide +kernel
theorem dX6_isMark_10 : decode cX6_isMark 10 = .ok (.iconst 1, 1) := by decide +kernel
theorem dX6_isMark_11 : decode cX6_isMark 11 = .ok (.goto 4, 3) := by decide +kernel
theorem dX6_isMark_14 : decode cX6_isMark 14 = .ok (.iconst 0, 1) := by decide +kernel
theorem dX6_isMark_15 : decode cX6_isMark 15 = .ok (.ireturn, 1) := by decide +kernel
theorem dX6_isThickness_0 : decode cX6_isThickness 0 = .ok (.iload_n 0, 1) := by decide +kernel
theorem dX6_isThickness_1 : decode cX6_isThickness 1 = .ok (.iconst 1, 1) := by decide +kernel
theorem dX6_isThickness_2 : decode cX6_isThickness 2 = .ok (.if_icmp .lt 13, 3) := by decide +kernel
theorem dX6_isThickness_5 : decode cX6_isThickness 5 = .ok (.iload_n 0, 1) := by decide +kernel
theorem dX6_isThickness_6 : decode cX6_isThickness 6 = .ok (.bipush 99, 2) := by decide +kernel
theorem dX6_isThickness_8 : decode cX6_isThickness 8 = .ok (.if_icmp .gt 7, 3) := by decide +kernel
theorem dX6_isThickness_11 : decode cX6_isThickness 11 = .ok (.iconst 1, 1) := by decide +kernel
theorem dX6_isThickness_12 : decode cX6_isThickness 12 = .ok (.goto 4, 3) := by decide +kernel
theorem dX6_isThickness_15 : decode cX6_isThickness 15 = .ok (.iconst 0, 1) := by decide +kernel
theorem dX6_isThickness_16 : decode cX6_isThickness 16 = .ok (.ireturn, 1) := by decide +kernel
theorem dX6_isImage_0 : decode cX6_isImage 0 = .ok (.iload_n 0, 1) := by decide +kernel
theorem dX6_isImage_1 : decode cX6_isImage 1 = .ok (.ifCond .lt 12, 3) := by decide +kernel
theorem dX6_isImage_4 : decode cX6_isImage 4 = .ok (.iload_n 0, 1) := by decide +kernel
theorem dX6_isImage_5 : decode cX6_isImage 5 = .ok (.iconst 2, 1) := by decide +kernel
theorem dX6_isImage_6 : decode cX6_isImage 6 = .ok (.if_icmp .ge 7, 3) := by decide +kernel
theorem dX6_isImage_9 : decode cX6_isImage 9 = .ok (.iconst 1, 1) := by decide +kernel
theorem dX6_isImage_10 : decode cX6_isImage 10 = .ok (.goto 4, 3) := by decide +kernel
theorem dX6_isImage_13 : decode cX6_isImage 13 = .ok (.iconst 0, 1) := by decide +kernel
theorem dX6_isImage_14 : decode cX6_isImage 14 = .ok (.ireturn, 1) := by decide +kernel
theorem dX6_arePair_0 : decode cX6_arePair 0 = .ok (.iload_n 0, 1) := by decide +kernel
theorem dX6_arePair_1 : decode cX6_arePair 1 = .ok (.invokestatic 89, 3) := by decide +kernel
theorem dX6_arePair_4 : decode cX6_arePair 4 = .ok (.ifCond .eq 19, 3) := by decide +kernel
theorem dX6_arePair_7 : decode cX6_arePair 7 = .ok (.iload_n 1, 1) := by decide +kernel
theorem dX6_arePair_8 : decode cX6_arePair 8 = .ok (.invokestatic 89, 3) := by decide +kernel
theorem dX6_arePair_11 : decode cX6_arePair 11 = .ok (.ifCond .eq 12, 3) := by decide +kernel
theorem dX6_arePair_14 : decode cX6_arePair 14 = .ok (.iload_n 0, 1) := by decide +kernel
theorem dX6_arePair_15 : decode cX6_arePair 15 = .ok (.iload_n 1, 1) := by decide +kernel
theorem dX6_arePair_16 : decode cX6_arePair 16 = .ok (.if_icmp .eq 7, 3) := by decide +kernel
theorem dX6_arePair_19 : decode cX6_arePair 19 = .ok (.iconst 1, 1) := by decide +kernel
theorem dX6_arePair_20 : decode cX6_arePair 20 = .ok (.goto 4, 3) := by decide +kernel
theorem dX6_arePair_23 : decode cX6_arePair 23 = .ok (.iconst 0, 1) := by decide +kernel
theorem dX6_arePair_24 : decode cX6_arePair 24 = .ok (.ireturn, 1) := by decide +kernel
theorem dX6_isBedOfPair_0 : decode cX6_isBedOfPair 0 = .ok (.iload_n 1, 1) := by decide +kernel
theorem dX6_isBedOfPair_1 : decode cX6_isBedOfPair 1 = .ok (.iload_n 2, 1) := by decide +kernel
theorem dX6_isBedOfPair_2 : decode cX6_isBedOfPair 2 = .ok (.invokestatic 210, 3) := by decide +kernel
theorem dX6_isBedOfPair_5 : decode cX6_isBedOfPair 5 = .ok (.ifCond .eq 12, 3) := by decide +kernel
theorem dX6_isBedOfPair_8 : decode cX6_isBedOfPair 8 = .ok (.iload_n 3, 1) := by decide +kernel
theorem dX6_isBedOfPair_9 : decode cX6_isBedOfPair 9 = .ok (.ifCond .eq 10, 3) := by decide +kernel
theorem dX6_isBedOfPair_12 : decode cX6_isBedOfPair 12 = .ok (.iload_n 3, 1) := by decide +kernel
theorem dX6_isBedOfPair_13 : decode cX6_isBedOfPair 13 = .ok (.iconst 1, 1) := by decide +kernel
theorem dX6_isBedOfPair_14 : decode cX6_isBedOfPair 14 = .ok (.if_icmp .eq 5, 3) := by decide +kernel
theorem dX6_isBedOfPair_17 : decode cX6_isBedOfPair 17 = .ok (.iconst 0, 1) := by decide +kernel
theorem dX6_isBedOfPair_18 : decode cX6_isBedOfPair 18 = .ok (.ireturn, 1) := by decide +kernel
theorem dX6_isBedOfPair_19 : decode cX6_isBedOfPair 19 = .ok (.aload_n 0, 1) := by decide +kernel
theorem dX6_isBedOfPair_20 : decode cX6_isBedOfPair 20 = .ok (.getfield 10, 3) := by decide +kernel
theorem dX6_isBedOfPair_23 : decode cX6_isBedOfPair 23 = .ok (.iload_n 3, 1) := by decide +kernel
theorem dX6_isBedOfPair_24 : decode cX6_isBedOfPair 24 = .ok (.ifCond .ne 7, 3) := by decide +kernel
theorem dX6_isBedOfPair_27 : decode cX6_isBedOfPair 27 = .ok (.iload_n 1, 1) := by decide +kernel
theorem dX6_isBedOfPair_28 : decode cX6_isBedOfPair 28 = .ok (.goto 4, 3) := by decide +kernel
theorem dX6_isBedOfPair_31 : decode cX6_isBedOfPair 31 = .ok (.iload_n 2, 1) := by decide +kernel
theorem dX6_isBedOfPair_32 : decode cX6_isBedOfPair 32 = .ok (.invokevirtual 92, 3) := by decide +kernel
theorem dX6_isBedOfPair_35 : decode cX6_isBedOfPair 35 = .ok (.iload 4, 2) := by decide +kernel
theorem dX6_isBedOfPair_37 : decode cX6_isBedOfPair 37 = .ok (.invokevirtual 118, 3) := by decide +kernel
theorem dX6_isBedOfPair_40 : decode cX6_isBedOfPair 40 = .ok (.ireturn, 1) := by decide +kernel
theorem dX7_init_0 : decode cX7_init 0 = .ok (.aload_n 0, 1) := by decide +kernel
theorem dX7_init_1 : decode cX7_init 1 = .ok (.invokespecial 1, 3) := by decide +kernel
theorem dX7_init_4 : decode cX7_init 4 = .ok (.aload_n 0, 1) := by decide +kernel
theorem dX7_init_5 : decode cX7_init 5 = .ok (.sipush 210, 3) := by decide +kernel
theorem dX7_init_8 : decode cX7_init 8 = .ok (.newarray .int, 2) := by decide +kernel
theorem dX7_init_10 : decode cX7_init 10 = .ok (.putfield 7, 3) := by decide +kernel
theorem dX7_init_13 : decode cX7_init 13 = .ok (.aload_n 0, 1) := by decide +kernel
theorem dX7_init_14 : decode cX7_init 14 = .ok (.sipush 1260, 3) := by decide +kernel
theorem dX7_init_17 : decode cX7_init 17 = .ok (.newarray .int, 2) := by decide +kernel
theorem dX7_init_19 : decode cX7_init 19 = .ok (.putfield 13, 3) := by decide +kernel
theorem dX7_init_22 : decode cX7_init 22 = .ok (.aload_n 0, 1) := by decide +kernel
theorem dX7_init_23 : decode cX7_init 23 = .ok (.sipush 420, 3) := by decide +kernel
theorem dX7_init_26 : decode cX7_init 26 = .ok (.newarray .int, 2) := by decide +kernel
theorem dX7_init_28 : decode cX7_init 28 = .ok (.putfield 16, 3) := by decide +kernel
theorem dX7_init_31 : decode cX7_init 31 = .ok (.aload_n 0, 1) := by decide +kernel
theorem dX7_init_32 : decode cX7_init 32 = .ok (.sipush 210, 3) := by decide +kernel
theorem dX7_init_35 : decode cX7_init 35 = .ok (.newarray .int, 2) := by decide +kernel
theorem dX7_init_37 : decode cX7_init 37 = .ok (.putfield 19, 3) := by decide +kernel
theorem dX7_init_40 : decode cX7_init 40 = .ok (.aload_n 0, 1) := by decide +kernel
theorem dX7_init_41 : decode cX7_init 41 = .ok (.bipush 100, 2) := by decide +kernel
theorem dX7_init_43 : decode cX7_init 43 = .ok (.newarray .int, 2) := by decide +kernel
theorem dX7_init_45 : decode cX7_init 45 = .ok (.putfield 22, 3) := by decide +kernel
theorem dX7_init_48 : decode cX7_init 48 = .ok (.aload_n 0, 1) := by decide +kernel
theorem dX7_init_49 : decode cX7_init 49 = .ok (.sipush 196, 3) := by decide +kernel
theorem dX7_init_52 : decode cX7_init 52 = .ok (.newarray .int, 2) := by decide +kernel
theorem dX7_init_54 : decode cX7_init 54 = .ok (.putfield 25, 3) := by decide +kernel
theorem dX7_init_57 : decode cX7_init 57 = .ok (.aload_n 0, 1) := by decide +kernel
theorem dX7_init_58 : decode cX7_init 58 = .ok (.bipush 48, 2) := by decide +kernel
theorem dX7_init_60 : decode cX7_init 60 = .ok (.newarray .int, 2) := by decide +kernel
theorem dX7_init_62 : decode cX7_init 62 = .ok (.putfield 28, 3) := by decide +kernel
theorem dX7_init_65 : decode cX7_init 65 = .ok (.aload_n 0, 1) := by decide +kernel
theorem dX7_init_66 : decode cX7_init 66 = .ok (.sipush 625, 3) := by decide +kernel
theorem dX7_init_69 : decode cX7_init 69 = .ok (.newarray .int, 2) := by decide +kernel
theorem dX7_init_71 : decode cX7_init 71 = .ok (.putfield 31, 3) := by decide +kernel
theorem dX7_init_74 : decode cX7_init 74 = .ok (.aload_n 0, 1) := by decide +kernel
theorem dX7_init_75 : decode cX7_init 75 = .ok (.bipush 24, 2) := by decide +kernel
theorem dX7_init_77 : decode cX7_init 77 = .ok (.newarray .int, 2) := by decide +kernel
theorem dX7_init_79 : decode cX7_init 79 = .ok (.putfield 34, 3) := by decide +kernel
theorem dX7_init_82 : decode cX7_init 82 = .ok (.aload_n 0, 1) := by decide +kernel
theorem dX7_init_83 : decode cX7_init 83 = .ok (.bipush 24, 2) := by decide +kernel
theorem dX7_init_85 : decode cX7_init 85 = .ok (.newarray .int, 2) := by decide +kernel
theorem dX7_init_87 : decode cX7_init 87 = .ok (.putfield 37, 3) := by decide +kernel
theorem dX7_init_90 : decode cX7_init 90 = .ok (.aload_n 0, 1) := by decide +kernel
theorem dX7_init_91 : decode cX7_init 91 = .ok (.bipush 24, 2) := by decide +kernel
theorem dX7_init_93 : decode cX7_init 93 = .ok (.newarray .int, 2) := by decide +kernel
theorem dX7_init_95 : decode cX7_init 95 = .ok (.putfield 40, 3) := by decide +kernel
theorem dX7_init_98 : decode cX7_init 98 = .ok (.aload_n 0, 1) := by decide +kernel
theorem dX7_init_99 : decode cX7_init 99 = .ok (.bipush 24, 2) := by decide +kernel
theorem dX7_init_101 : decode cX7_init 101 = .ok (.newarray .int, 2) := by decide +kernel
theorem dX7_init_103 : decode cX7_init 103 = .ok (.putfield 43, 3) := by decide +kernel
theorem dX7_init_106 : decode cX7_init 106 = .ok (.aload_n 0, 1) := by decide +kernel
theorem dX7_init_107 : decode cX7_init 107 = .ok (.bipush 72, 2) := by decide +kernel
theorem dX7_init_109 : decode cX7_init 109 = .ok (.newarray .int, 2) := by decide +kernel
theorem dX7_init_111 : decode cX7_init 111 = .ok (.putfield 46, 3) := by decide +kernel
theorem dX7_init_114 : decode cX7_init 114 = .ok (.aload_n 0, 1) := by decide +kernel
theorem dX7_init_115 : decode cX7_init 115 = .ok (.bipush 24, 2) := by decide +kernel
theorem dX7_init_117 : decode cX7_init 117 = .ok (.newarray .int, 2) := by decide +kernel
theorem dX7_init_119 : decode cX7_init 119 = .ok (.putfield 49, 3) := by decide +kernel
theorem dX7_init_122 : decode cX7_init 122 = .ok (.aload_n 0, 1) := by decide +kernel
theorem dX7_init_123 : decode cX7_init 123 = .ok (.bipush 24, 2) := by decide +kernel
theorem dX7_init_125 : decode cX7_init 125 = .ok (.newarray .int, 2) := by decide +kernel
theorem dX7_init_127 : decode cX7_init 127 = .ok (.putfield 52, 3) := by decide +kernel
theorem dX7_init_130 : decode cX7_init 130 = .ok (.aload_n 0, 1) := by decide +kernel
theorem dX7_init_131 : decode cX7_init 131 = .ok (.getfield 7, 3) := by decide +kernel
theorem dX7_init_134 : decode cX7_init 134 = .ok (.iconst 0, 1) := by decide +kernel
theorem dX7_init_135 : decode cX7_init 135 = .ok (.bipush 10, 2) := by decide +kernel
theorem dX7_init_137 : decode cX7_init 137 = .ok (.iastore, 1) := by decide +kernel
theorem dX7_init_138 : decode cX7_init 138 = .ok (.aload_n 0, 1) := by decide +kernel
theorem dX7_init_139 : decode cX7_init 139 = .ok (.getfield 7, 3) := by decide +kernel
theorem dX7_init_142 : decode cX7_init 142 = .ok (.iconst 1, 1) := by decide +kernel
theorem dX7_init_143 : decode cX7_init 143 = .ok (.bipush 6, 2) := by decide +kernel
theorem dX7_init_145 : decode cX7_init 145 = .ok (.iastore, 1) := by decide +kernel
theorem dX7_init_146 : decode cX7_init 146 = .ok (.aload_n 0, 1) := by decide +kernel
theorem dX7_init_147 : decode cX7_init 147 = .ok (.getfield 7, 3) := by decide +kernel
theorem dX7_init_150 : decode cX7_init 150 = .ok (.iconst 2, 1) := by decide +kernel
theorem dX7_init_151 : decode cX7_init 151 = .ok (.iconst 1, 1) := by decide +kernel
theorem dX7_init_152 : decode cX7_init 152 = .ok (.iastore, 1) := by decide +kernel
theorem dX7_init_153 : decode cX7_init 153 = .ok (.aload_n 0, 1) := by decide +kernel
theorem dX7_init_154 : decode cX7_init 154 = .ok (.getfield 7, 3) := by decide +kernel
theorem dX7_init_157 : decode cX7_init 157 = .ok (.iconst 3, 1) := by decide +kernel
theorem dX7_init_158 : decode cX7_init 158 = .ok (.iconst 3, 1) := by decide +kernel
theorem dX7_init_159 : decode cX7_init 159 = .ok (.iastore, 1) := by decide +kernel
theorem dX7_init_160 : decode cX7_init 160 = .ok (.aload_n 0, 1) := by decide +kernel
theorem dX7_init_161 : decode cX7_init 161 = .ok (.getfield 7, 3) := by decide +kernel
theorem dX7_init_164 : decode cX7_init 164 = .ok (.iconst 4, 1) := by decide +kernel
theorem dX7_init_165 : decode cX7_init 165 = .ok (.iconst 5, 1) := by decide +kernel
theorem dX7_init_166 : decode cX7_init 166 = .ok (.iastore, 1) := by decide +kernel
theorem dX7_init_167 : decode cX7_init 167 = .ok (.return_, 1) := by decide +kernel
theorem dX7_in_0 : decode cX7_in 0 = .ok (.iload_n 0, 1) := by decide +kernel
theorem dX7_in_1 : decode cX7_in 1 = .ok (.iload_n 1, 1) := by decide +kernel
theorem dX7_in_2 : decode cX7_in 2 = .ok (.if_icmp .lt 12, 3) := by decide +kernel
theorem dX7_in_5 : decode cX7_in 5 = .ok (.iload_n 0, 1) := by decide +kernel
theorem dX7_in_6 : decode cX7_in 6 = .ok (.iload_n 2, 1) := by decide +kernel
theorem dX7_in_7 : decode cX7_in 7 = .ok (.if_icmp .gt 7, 3) := by decide +kernel
theorem dX7_in_10 : decode cX7_in 10 = .ok (.iconst 1, 1) := by decide +kernel
theorem dX7_in_11 : decode cX7_in 11 = .ok (.goto 4, 3) := by decide +kernel
theorem dX7_in_14 : decode cX7_in 14 = .ok (.iconst 0, 1) := by decide +kernel
theorem dX7_in_15 : decode cX7_in 15 = .ok (.ireturn, 1) := by decide +kernel
theorem dX7_saves_0 : decode cX7_saves 0 = .ok (.aload_n 0, 1) := by decide +kernel
theorem dX7_saves_1 : decode cX7_saves 1 = .ok (.getfield 55, 3) := by decide +kernel
theorem dX7_saves_4 : decode cX7_saves 4 = .ok (.bipush 6, 2) := by decide +kernel
theorem dX7_saves_6 : decode cX7_saves 6 = .ok (.if_icmp .ne 44, 3) := by decide +kernel
theorem dX7_saves_9 : decode cX7_saves 9 = .ok (.iconst 0, 1) := by decide +kernel
theorem dX7_saves_10 : decode cX7_saves 10 = .ok (.istore_n 1, 1) := by decide +kernel
theorem dX7_saves_11 : decode cX7_saves 11 = .ok (.iload_n 1, 1) := by decide +kernel
theorem dX7_saves_12 : decode cX7_saves 12 = .ok (.sipush 1050, 3) := by decide +kernel
theorem dX7_saves_15 : decode cX7_saves 15 = .ok (.if_icmp .ge 25, 3) := by decide +kernel
theorem dX7_saves_18 : decode cX7_saves 18 = .ok (.aload_n 0, 1) := by decide +kernel
theorem dX7_saves_19 : decode cX7_saves 19 = .ok (.getfield 13, 3) := by decide +kernel
theorem dX7_saves_22 : decode cX7_saves 22 = .ok (.iload_n 1, 1) := by decide +kernel
theorem dX7_saves_23 : decode cX7_saves 23 = .ok (.aload_n 0, 1) := by decide +kernel
theorem dX7_saves_24 : decode cX7_saves 24 = .ok (.getfield 13, 3) := by decide +kernel
theorem dX7_saves_27 : decode cX7_saves 27 = .ok (.iload_n 1, 1) := by decide +kernel
theorem dX7_saves_28 : decode cX7_saves 28 = .ok (.sipush 210, 3) := by decide +kernel
theorem dX7_saves_31 : decode cX7_saves 31 = .ok (.iadd, 1) := by decide +kernel
theorem dX7_saves_32 : decode cX7_saves 32 = .ok (.iaload, 1) := by decide +kernel
theorem dX7_saves_33 : decode cX7_saves 33 = .ok (.iastore, 1) := by decide +kernel
theorem dX7_saves_34 : decode cX7_saves 34 = .ok (.iinc 1 1, 3) := by decide +kernel
theorem dX7_saves_37 : decode cX7_saves 37 = .ok (.goto (-26), 3) := by decide +kernel
theorem dX7_saves_40 : decode cX7_saves 40 = .ok (.aload_n 0, 1) := by decide +kernel
theorem dX7_saves_41 : decode cX7_saves 41 = .ok (.dup, 1) := by decide +kernel
theorem dX7_saves_42 : decode cX7_saves 42 = .ok (.getfield 55, 3) := by decide +kernel
theorem dX7_saves_45 : decode cX7_saves 45 = .ok (.iconst 1, 1) := by decide +kernel
theorem dX7_saves_46 : decode cX7_saves 46 = .ok (.isub, 1) := by decide +kernel
theorem dX7_saves_47 : decode cX7_saves 47 = .ok (.putfield 55, 3) := by decide +kernel
theorem dX7_saves_50 : decode cX7_saves 50 = .ok (.iconst 0, 1) := by decide +kernel
theorem dX7_saves_51 : decode cX7_saves 51 = .ok (.istore_n 1, 1) := by decide +kernel
theorem dX7_saves_52 : decode cX7_saves 52 = .ok (.iload_n 1, 1) := by decide +kernel
theorem dX7_saves_53 : decode cX7_saves 53 = .ok (.sipush 210, 3) := by decide +kernel
theorem dX7_saves_56 : decode cX7_saves 56 = .ok (.if_icmp .ge 30, 3) := by decide +kernel
theorem dX7_saves_59 : decode cX7_saves 59 = .ok (.aload_n 0, 1) := by decide +kernel
theorem dX7_saves_60 : decode cX7_saves 60 = .ok (.getfield 13, 3) := by decide +kernel
theorem dX7_saves_63 : decode cX7_saves 63 = .ok (.sipush 210, 3) := by decide +kernel
theorem dX7_saves_66 : decode cX7_saves 66 = .ok (.aload_n 0, 1) := by decide +kernel
theorem dX7_saves_67 : decode cX7_saves 67 = .ok (.getfield 55, 3) := by decide +kernel
theorem dX7_saves_70 : decode cX7_saves 70 = .ok (.imul, 1) := by decide +kernel
theorem dX7_saves_71 : decode cX7_saves 71 = .ok (.iload_n 1, 1) := by decide +kernel
theorem dX7_saves_72 : decode cX7_saves 72 = .ok (.iadd, 1) := by decide +kernel
theorem dX7_saves_73 : decode cX7_saves 73 = .ok (.aload_n 0, 1) := by decide +kernel
theorem dX7_saves_74 : decode cX7_saves 74 = .ok (.getfield 7, 3) := by decide +kernel
theorem dX7_saves_77 : decode cX7_saves 77 = .ok (.iload_n 1, 1) := by decide +kernel
theorem dX7_saves_78 : decode cX7_saves 78 = .ok (.iaload, 1) := by decide +kernel
theorem dX7_saves_79 : decode cX7_saves 79 = .ok (.iastore, 1) := by decide +kernel
theorem dX7_saves_80 : decode cX7_saves 80 = .ok (.iinc 1 1, 3) := by decide +kernel
theorem dX7_saves_83 : decode cX7_saves 83 = .ok (.goto (-31), 3) := by decide +kernel
theorem dX7_saves_86 : decode cX7_saves 86 = .ok (.aload_n 0, 1) := by decide +kernel
theorem dX7_saves_87 : decode cX7_saves 87 = .ok (.dup, 1) := by decide +kernel
theorem dX7_saves_88 : decode cX7_saves 88 = .ok (.getfield 55, 3) := by decide +kernel
theorem dX7_saves_91 : decode cX7_saves 91 = .ok (.iconst 1, 1) := by decide +kernel
theorem dX7_saves_92 : decode cX7_saves 92 = .ok (.iadd, 1) := by decide +kernel
theorem dX7_saves_93 : decode cX7_saves 93 = .ok (.putfield 55, 3) := by decide +kernel
theorem dX7_saves_96 : decode cX7_saves 96 = .ok (.return_, 1) := by decide +kernel
theorem dX7_isHole_0 : decode cX7_isHole 0 = .ok (.iload_n 0, 1) := by decide +kernel
theorem dX7_isHole_1 : decode cX7_isHole 1 = .ok (.iconst 0, 1) := by decide +kernel
theorem dX7_isHole_2 : decode cX7_isHole 2 = .ok (.iconst 3, 1) := by decide +kernel
theorem dX7_isHole_3 : decode cX7_isHole 3 = .ok (.invokestatic 59, 3) := by decide +kernel
theorem dX7_isHole_6 : decode cX7_isHole 6 = .ok (.ireturn, 1) := by decide +kernel
theorem dX7_isMark_0 : decode cX7_isMark 0 = .ok (.iload_n 0, 1) := by decide +kernel
theorem dX7_isMark_1 : decode cX7_isMark 1 = .ok (.iconst 0, 1) := by decide +kernel
theorem dX7_isMark_2 : decode cX7_isMark 2 = .ok (.bipush 25, 2) := by decide +kernel
theorem dX7_isMark_4 : decode cX7_isMark 4 = .ok (.invokestatic 59, 3) := by decide +kernel
theorem dX7_isMark_7 : decode cX7_isMark 7 = .ok (.ireturn, 1) := by decide +kernel
theorem dX7_isBed_0 : decode cX7_isBed 0 = .ok (.iload_n 1, 1) := by decide +kernel
theorem dX7_isBed_1 : decode cX7_isBed 1 = .ok (.invokestatic 63, 3) := by decide +kernel
theorem dX7_isBed_4 : decode cX7_isBed 4 = .ok (.ifCond .eq 24, 3) := by decide +kernel
theorem dX7_isBed_7 : decode cX7_isBed 7 = .ok (.iload_n 2, 1) := by decide +kernel
theorem dX7_isBed_8 : decode cX7_isBed 8 = .ok (.ifCond .lt 20, 3) := by decide +kernel
theorem dX7_isBed_11 : decode cX7_isBed 11 = .ok (.iload_n 2, 1) := by decide +kernel
theorem dX7_isBed_12 : decode cX7_isBed 12 = .ok (.aload_n 0, 1) := by decide +kernel
theorem dX7_isBed_13 : decode cX7_isBed 13 = .ok (.getfield 7, 3) := by decide +kernel
theorem dX7_isBed_16 : decode cX7_isBed 16 = .ok (.bipush 10, 2) := by decide +kernel
theorem dX7_isBed_18 : decode cX7_isBed 18 = .ok (.iload_n 1, 1) := by decide +kernel
theorem dX7_isBed_19 : decode cX7_isBed 19 = .ok (.iadd, 1) := by decide +kernel
theorem dX7_isBed_20 : decode cX7_isBed 20 = .ok (.iaload, 1) := by decide +kernel
theorem dX7_isBed_21 : decode cX7_isBed 21 = .ok (.if_icmp .ge 7, 3) := by decide +kernel
theorem dX7_isBed_24 : decode cX7_isBed 24 = .ok (.iconst 1, 1) := by decide +kernel
theorem dX7_isBed_25 : decode cX7_isBed 25 = .ok (.goto 4, 3) := by decide +kernel
theorem dX7_isBed_28 : decode cX7_isBed 28 = .ok (.iconst 0, 1) := by decide +kernel
theorem dX7_isBed_29 : decode cX7_isBed 29 = .ok (.ireturn, 1) := by decide +kernel
theorem dX7_at_0 : decode cX7_at 0 = .ok (.bipush 18, 2) := by decide +kernel
theorem dX7_at_2 : decode cX7_at 2 = .ok (.bipush 48, 2) := by decide +kernel
theorem dX7_at_4 : decode cX7_at 4 = .ok (.iload_n 0, 1) := by decide +kernel
theorem dX7_at_5 : decode cX7_at 5 = .ok (.imul, 1) := by decide +kernel
theorem dX7_at_6 : decode cX7_at 6 = .ok (.iadd, 1) := by decide +kernel
theorem dX7_at_7 : decode cX7_at 7 = .ok (.iconst 2, 1) := by decide +kernel
theorem dX7_at_8 : decode cX7_at 8 = .ok (.iload_n 1, 1) := by decide +kernel
theorem dX7_at_9 : decode cX7_at 9 = .ok (.imul, 1) := by decide +kernel
theorem dX7_at_10 : decode cX7_at 10 = .ok (.iadd, 1) := by decide +kernel
theorem dX7_at_11 : decode cX7_at 11 = .ok (.ireturn, 1) := by decide +kernel
theorem dX7_mark_0 : decode cX7_mark 0 = .ok (.aload_n 0, 1) := by decide +kernel
theorem dX7_mark_1 : decode cX7_mark 1 = .ok (.getfield 7, 3) := by decide +kernel
theorem dX7_mark_4 : decode cX7_mark 4 = .ok (.iload_n 1, 1) := by decide +kernel
theorem dX7_mark_5 : decode cX7_mark 5 = .ok (.iload_n 2, 1) := by decide +kernel
theorem dX7_mark_6 : decode cX7_mark 6 = .ok (.invokestatic 67, 3) := by decide +kernel
theorem dX7_mark_9 : decode cX7_mark 9 = .ok (.iaload, 1) := by decide +kernel
theorem dX7_mark_10 : decode cX7_mark 10 = .ok (.ireturn, 1) := by decide +kernel
theorem dX7_thick_0 : decode cX7_thick 0 = .ok (.aload_n 0, 1) := by decide +kernel
theorem dX7_thick_1 : decode cX7_thick 1 = .ok (.getfield 7, 3) := by decide +kernel
theorem dX7_thick_4 : decode cX7_thick 4 = .ok (.iload_n 1, 1) := by decide +kernel
theorem dX7_thick_5 : decode cX7_thick 5 = .ok (.iload_n 2, 1) := by decide +kernel
theorem dX7_thick_6 : decode cX7_thick 6 = .ok (.invokestatic 67, 3) := by decide +kernel
theorem dX7_thick_9 : decode cX7_thick 9 = .ok (.iconst 1, 1) := by decide +kernel
theorem dX7_thick_10 : decode cX7_thick 10 = .ok (.iadd, 1) := by decide +kernel
theorem dX7_thick_11 : decode cX7_thick 11 = .ok (.iaload, 1) := by decide +kernel
theorem dX7_thick_12 : decode cX7_thick 12 = .ok (.ireturn, 1) := by decide +kernel
theorem dX7_depth_0 : decode cX7_depth 0 = .ok (.iconst 0, 1) := by decide +kernel
theorem dX7_depth_1 : decode cX7_depth 1 = .ok (.istore_n 3, 1) := by decide +kernel
theorem dX7_depth_2 : decode cX7_depth 2 = .ok (.iconst 0, 1) := by decide +kernel
theorem dX7_depth_3 : decode cX7_depth 3 = .ok (.istore 4, 2) := by decide +kernel
theorem dX7_depth_5 : decode cX7_depth 5 = .ok (.iload 4, 2) := by decide +kernel
theorem dX7_depth_7 : decode cX7_depth 7 = .ok (.iload_n 2, 1) := by decide +kernel
theorem dX7_depth_8 : decode cX7_depth 8 = .ok (.if_icmp .ge 19, 3) := by decide +kernel
theorem dX7_depth_11 : decode cX7_depth 11 = .ok (.iload_n 3, 1) := by decide +kernel
theorem dX7_depth_12 : decode cX7_depth 12 = .ok (.aload_n 0, 1) := by decide +kernel
theorem dX7_depth_13 : decode cX7_depth 13 = .ok (.iload_n 1, 1) := by decide +kernel
theorem dX7_depth_14 : decode cX7_depth 14 = .ok (.iload 4, 2) := by decide +kernel
theorem dX7_depth_16 : decode cX7_depth 16 = .ok (.invokevirtual 71, 3) := by decide +kernel
theorem dX7_depth_19 : decode cX7_depth 19 = .ok (.iadd, 1) := by decide +kernel
theorem dX7_depth_20 : decode cX7_depth 20 = .ok (.istore_n 3, 1) := by decide +kernel
theorem dX7_depth_21 : decode cX7_depth 21 = .ok (.iinc 4 1, 3) := by decide +kernel
theorem dX7_depth_24 : decode cX7_depth 24 = .ok (.goto (-19), 3) := by decide +kernel
theorem dX7_depth_27 : decode cX7_depth 27 = .ok (.iload_n 3, 1) := by decide +kernel
theorem dX7_depth_28 : decode cX7_depth 28 = .ok (.ireturn, 1) := by decide +kernel
theorem dX7_length_0 : decode cX7_length 0 = .ok (.aload_n 0, 1) := by decide +kernel
theorem dX7_length_1 : decode cX7_length 1 = .ok (.iload_n 1, 1) := by decide +kernel
theorem dX7_length_2 : decode cX7_length 2 = .ok (.aload_n 0, 1) := by decide +kernel
theorem dX7_length_3 : decode cX7_length 3 = .ok (.getfield 7, 3) := by decide +kernel
theorem dX7_length_6 : decode cX7_length 6 = .ok (.bipush 10, 2) := by decide +kernel
theorem dX7_length_8 : decode cX7_length 8 = .ok (.iload_n 1, 1) := by decide +kernel
theorem dX7_length_9 : decode cX7_length 9 = .ok (.iadd, 1) := by decide +kernel
theorem dX7_length_10 : decode cX7_length 10 = .ok (.iaload, 1) := by decide +kernel
theorem dX7_length_11 : decode cX7_length 11 = .ok (.invokevirtual 74, 3) := by decide +kernel
theorem dX7_length_14 : decode cX7_length 14 = .ok (.ireturn, 1) := by decide +kernel
theorem dX7_comes_0 : decode cX7_comes 0 = .ok (.aload_n 0, 1) := by decide +kernel
theorem dX7_comes_1 : decode cX7_comes 1 = .ok (.getfield 7, 3) := by decide +kernel
theorem dX7_comes_4 : decode cX7_comes 4 = .ok (.bipush 14, 2) := by decide +kernel
theorem dX7_comes_6 : decode cX7_comes 6 = .ok (.iload_n 1, 1) := by decide +kernel
theorem dX7_comes_7 : decode cX7_comes 7 = .ok (.iadd, 1) := by decide +kernel
theorem dX7_comes_8 : decode cX7_comes 8 = .ok (.iconst 1, 1) := by decide +kernel
theorem dX7_comes_9 : decode cX7_comes 9 = .ok (.isub, 1) := by decide +kernel
theorem dX7_comes_10 : decode cX7_comes 10 = .ok (.dup2, 1) := by decide +kernel
theorem dX7_comes_11 : decode cX7_comes 11 = .ok (.iaload, 1) := by decide +kernel
theorem dX7_comes_12 : decode cX7_comes 12 = .ok (.iload_n 2, 1) := by decide +kernel
theorem dX7_comes_13 : decode cX7_comes 13 = .ok (.iadd, 1) := by decide +kernel
theorem dX7_comes_14 : decode cX7_comes 14 = .ok (.iastore, 1) := by decide +kernel
theorem dX7_comes_15 : decode cX7_comes 15 = .ok (.return_, 1) := by decide +kernel
theorem dX7_puts_0 : decode cX7_puts 0 = .ok (.aload_n 0, 1) := by decide +kernel
theorem dX7_puts_1 : decode cX7_puts 1 = .ok (.invokevirtual 77, 3) := by decide +kernel
theorem dX7_puts_4 : decode cX7_puts 4 = .ok (.aload_n 0, 1) := by decide +kernel
theorem dX7_puts_5 : decode cX7_puts 5 = .ok (.getfield 7, 3) := by decide +kernel
theorem dX7_puts_8 : decode cX7_puts 8 = .ok (.iload_n 1, 1) := by decide +kernel
theorem dX7_puts_9 : decode cX7_puts 9 = .ok (.iaload, 1) := by decide +kernel
theorem dX7_puts_10 : decode cX7_puts 10 = .ok (.istore_n 3, 1) := by decide +kernel
theorem dX7_puts_11 : decode cX7_puts 11 = .ok (.aload_n 0, 1) := by decide +kernel
theorem dX7_puts_12 : decode cX7_puts 12 = .ok (.getfield 7, 3) := by decide +kernel
theorem dX7_puts_15 : decode cX7_puts 15 = .ok (.iload_n 1, 1) := by decide +kernel
theorem dX7_puts_16 : decode cX7_puts 16 = .ok (.iload_n 2, 1) := by decide +kernel
theorem dX7_puts_17 : decode cX7_puts 17 = .ok (.iastore, 1) := by decide +kernel
theorem dX7_puts_18 : decode cX7_puts 18 = .ok (.iload_n 3, 1) := by decide +kernel
theorem dX7_puts_19 : decode cX7_puts 19 = .ok (.ireturn, 1) := by decide +kernel
theorem dX7_mostOf_0 : decode cX7_mostOf 0 = .ok (.iload_n 0, 1) := by decide +kernel
theorem dX7_mostOf_1 : decode cX7_mostOf 1 = .ok (.iconst 2, 1) := by decide +kernel
theorem dX7_mostOf_2 : decode cX7_mostOf 2 = .ok (.if_icmp .ge 8, 3) := by decide +kernel
theorem dX7_mostOf_5 : decode cX7_mostOf 5 = .ok (.bipush 99, 2) := by decide +kernel
theorem dX7_mostOf_7 : decode cX7_mostOf 7 = .ok (.goto 26, 3) := by decide +kernel
theorem dX7_mostOf_10 : decode cX7_mostOf 10 = .ok (.iload_n 0, 1) := by decide +kernel
theorem dX7_mostOf_11 : decode cX7_mostOf 11 = .ok (.iconst 2, 1) := by decide +kernel
theorem dX7_mostOf_12 : decode cX7_mostOf 12 = .ok (.if_icmp .ne 8, 3) := by decide +kernel
theorem dX7_mostOf_15 : decode cX7_mostOf 15 = .ok (.bipush 9, 2) := by decide +kernel
theorem dX7_mostOf_17 : decode cX7_mostOf 17 = .ok (.goto 16, 3) := by decide +kernel
theorem dX7_mostOf_20 : decode cX7_mostOf 20 = .ok (.iload_n 0, 1) := by decide +kernel
theorem dX7_mostOf_21 : decode cX7_mostOf 21 = .ok (.iconst 3, 1) := by decide +kernel
theorem dX7_mostOf_22 : decode cX7_mostOf 22 = .ok (.if_icmp .ne 8, 3) := by decide +kernel
theorem dX7_mostOf_25 : decode cX7_mostOf 25 = .ok (.bipush 8, 2) := by decide +kernel
theorem dX7_mostOf_27 : decode cX7_mostOf 27 = .ok (.goto 6, 3) := by decide +kernel
theorem dX7_mostOf_30 : decode cX7_mostOf 30 = .ok (.sipush 999, 3) := by decide +kernel
theorem dX7_mostOf_33 : decode cX7_mostOf 33 = .ok (.ireturn, 1) := by decide +kernel
theorem dX7_setNumber_0 : decode cX7_setNumber 0 = .ok (.iload_n 1, 1) := by decide +kernel
theorem dX7_setNumber_1 : decode cX7_setNumber 1 = .ok (.iconst 0, 1) := by decide +kernel
theorem dX7_setNumber_2 : decode cX7_setNumber 2 = .ok (.iconst 4, 1) := by decide +kernel
theorem dX7_setNumber_3 : decode cX7_setNumber 3 = .ok (.invokestatic 59, 3) := by decide +kernel
theorem dX7_setNumber_6 : decode cX7_setNumber 6 = .ok (.ifCond .eq 33, 3) := by decide +kernel
theorem dX7_setNumber_9 : decode cX7_setNumber 9 = .ok (.iload_n 2, 1) := by decide +kernel
theorem dX7_setNumber_10 : decode cX7_setNumber 10 = .ok (.iload_n 1, 1) := by decide +kernel
theorem dX7_setNumber_11 : decode cX7_setNumber 11 = .ok (.iconst 2, 1) := by decide +kernel
theorem dX7_setNumber_12 : decode cX7_setNumber 12 = .ok (.if_icmp .ne 7, 3) := by decide +kernel
theorem dX7_setNumber_15 : decode cX7_setNumber 15 = .ok (.iconst 0, 1) := by decide +kernel
theorem dX7_setNumber_16 : decode cX7_setNumber 16 = .ok (.goto 4, 3) := by decide +kernel
theorem dX7_setNumber_19 : decode cX7_setNumber 19 = .ok (.iconst 1, 1) := by decide +kernel
theorem dX7_setNumber_20 : decode cX7_setNumber 20 = .ok (.iload_n 1, 1) := by decide +kernel
theorem dX7_setNumber_21 : decode cX7_setNumber 21 = .ok (.invokestatic 80, 3) := by decide +kernel
theorem dX7_setNumber_24 : decode cX7_setNumber 24 = .ok (.invokestatic 59, 3) := by decide +kernel
theorem dX7_setNumber_27 : decode cX7_setNumber 27 = .ok (.ifCond .eq 12, 3) := by decide +kernel
theorem dX7_setNumber_30 : decode cX7_setNumber 30 = .ok (.aload_n 0, 1) := by decide +kernel
theorem dX7_setNumber_31 : decode cX7_setNumber 31 = .ok (.iload_n 1, 1) := by decide +kernel
theorem dX7_setNumber_32 : decode cX7_setNumber 32 = .ok (.iload_n 2, 1) := by decide +kernel
theorem dX7_setNumber_33 : decode cX7_setNumber 33 = .ok (.invokevirtual 84, 3) := by decide +kernel
theorem dX7_setNumber_36 : decode cX7_setNumber 36 = .ok (.goto 5, 3) := by decide +kernel
theorem dX7_setNumber_39 : decode cX7_setNumber 39 = .ok (.ldc 87, 2) := by decide +kernel
theorem dX7_setNumber_41 : decode cX7_setNumber 41 = .ok (.ireturn, 1) := by decide +kernel
theorem dX7_setKey_0 : decode cX7_setKey 0 = .ok (.iload_n 1, 1) := by decide +kernel
theorem dX7_setKey_1 : decode cX7_setKey 1 = .ok (.invokestatic 88, 3) := by decide +kernel
theorem dX7_setKey_4 : decode cX7_setKey 4 = .ok (.ifCond .eq 12, 3) := by decide +kernel
theorem dX7_setKey_7 : decode cX7_setKey 7 = .ok (.iload_n 2, 1) := by decide +kernel
theorem dX7_setKey_8 : decode cX7_setKey 8 = .ok (.iconst 0, 1) := by decide +kernel
theorem dX7_setKey_9 : decode cX7_setKey 9 = .ok (.iconst 1, 1) := by decide +kernel
theorem dX7_setKey_10 : decode cX7_setKey 10 = .ok (.invokestatic 59, 3) := by decide +kernel
theorem dX7_setKey_13 : decode cX7_setKey 13 = .ok (.ifCond .ne 6, 3) := by decide +kernel
theorem dX7_setKey_16 : decode cX7_setKey 16 = .ok (.ldc 87, 2) := by decide +kernel
theorem dX7_setKey_18 : decode cX7_setKey 18 = .ok (.ireturn, 1) := by decide +kernel
theorem dX7_setKey_19 : decode cX7_setKey 19 = .ok (.aload_n 0, 1) := by decide +kernel
theorem dX7_setKey_20 : decode cX7_setKey 20 = .ok (.invokevirtual 77, 3) := by decide +kernel
theorem dX7_setKey_23 : decode cX7_setKey 23 = .ok (.aload_n 0, 1) := by decide +kernel
theorem dX7_setKey_24 : decode cX7_setKey 24 = .ok (.getfield 7, 3) := by decide +kernel
theorem dX7_setKey_27 : decode cX7_setKey 27 = .ok (.iconst 5, 1) := by decide +kernel
theorem dX7_setKey_28 : decode cX7_setKey 28 = .ok (.iaload, 1) := by decide +kernel
theorem dX7_setKey_29 : decode cX7_setKey 29 = .ok (.iload_n 1, 1) := by decide +kernel
theorem dX7_setKey_30 : decode cX7_setKey 30 = .ok (.ishr, 1) := by decide +kernel
theorem dX7_setKey_31 : decode cX7_setKey 31 = .ok (.iconst 1, 1) := by decide +kernel
theorem dX7_setKey_32 : decode cX7_setKey 32 = .ok (.iand, 1) := by decide +kernel
theorem dX7_setKey_33 : decode cX7_setKey 33 = .ok (.istore_n 3, 1) := by decide +kernel
theorem dX7_setKey_34 : decode cX7_setKey 34 = .ok (.aload_n 0, 1) := by decide +kernel
theorem dX7_setKey_35 : decode cX7_setKey 35 = .ok (.getfield 7, 3) := by decide +kernel
theorem dX7_setKey_38 : decode cX7_setKey 38 = .ok (.iconst 5, 1) := by decide +kernel
theorem dX7_setKey_39 : decode cX7_setKey 39 = .ok (.aload_n 0, 1) := by decide +kernel
theorem dX7_setKey_40 : decode cX7_setKey 40 = .ok (.getfield 7, 3) := by decide +kernel
theorem dX7_setKey_43 : decode cX7_setKey 43 = .ok (.iconst 5, 1) := by decide +kernel
theorem dX7_setKey_44 : decode cX7_setKey 44 = .ok (.iaload, 1) := by decide +kernel
theorem dX7_setKey_45 : decode cX7_setKey 45 = .ok (.iconst 1, 1) := by decide +kernel
theorem dX7_setKey_46 : decode cX7_setKey 46 = .ok (.iload_n 1, 1) := by decide +kernel
theorem dX7_setKey_47 : decode cX7_setKey 47 = .ok (.ishl, 1) := by decide +kernel
theorem dX7_setKey_48 : decode cX7_setKey 48 = .ok (.iconst (-1), 1) := by decide +kernel
theorem dX7_setKey_49 : decode cX7_setKey 49 = .ok (.ixor, 1) := by decide +kernel
theorem dX7_setKey_50 : decode cX7_setKey 50 = .ok (.iand, 1) := by decide +kernel
theorem dX7_setKey_51 : decode cX7_setKey 51 = .ok (.iload_n 2, 1) := by decide +kernel
theorem dX7_setKey_52 : decode cX7_setKey 52 = .ok (.iload_n 1, 1) := by decide +kernel
theorem dX7_setKey_53 : decode cX7_setKey 53 = .ok (.ishl, 1) := by decide +kernel
theorem dX7_setKey_54 : decode cX7_setKey 54 = .ok (.ior, 1) := by decide +kernel
theorem dX7_setKey_55 : decode cX7_setKey 55 = .ok (.iastore, 1) := by decide +kernel
theorem dX7_setKey_56 : decode cX7_setKey 56 = .ok (.iload_n 3, 1) := by decide +kernel
theorem dX7_setKey_57 : decode cX7_setKey 57 = .ok (.ireturn, 1) := by decide +kernel
theorem dX7_setCollar_0 : decode cX7_setCollar 0 = .ok (.iload_n 1, 1) := by decide +kernel
theorem dX7_setCollar_1 : decode cX7_setCollar 1 = .ok (.invokestatic 63, 3) := by decide +kernel
theorem dX7_setCollar_4 : decode cX7_setCollar 4 = .ok (.ifCond .eq 28, 3) := by decide +kernel
theorem dX7_setCollar_7 : decode cX7_setCollar 7 = .ok (.iload_n 2, 1) := by decide +kernel
theorem dX7_setCollar_8 : decode cX7_setCollar 8 = .ok (.sipush (-9999), 3) := by decide +kernel
theorem dX7_setCollar_11 : decode cX7_setCollar 11 = .ok (.sipush 9999, 3) := by decide +kernel
theorem dX7_setCollar_14 : decode cX7_setCollar 14 = .ok (.invokestatic 59, 3) := by decide +kernel
theorem dX7_setCollar_17 : decode cX7_setCollar 17 = .ok (.ifCond .eq 15, 3) := by decide +kernel
theorem dX7_setCollar_20 : decode cX7_setCollar 20 = .ok (.aload_n 0, 1) := by decide +kernel
theorem dX7_setCollar_21 : decode cX7_setCollar 21 = .ok (.bipush 6, 2) := by decide +kernel
theorem dX7_setCollar_23 : decode cX7_setCollar 23 = .ok (.iload_n 1, 1) := by decide +kernel
theorem dX7_setCollar_24 : decode cX7_setCollar 24 = .ok (.iadd, 1) := by decide +kernel
theorem dX7_setCollar_25 : decode cX7_setCollar 25 = .ok (.iload_n 2, 1) := by decide +kernel
theorem dX7_setCollar_26 : decode cX7_setCollar 26 = .ok (.invokevirtual 84, 3) := by decide +kernel
theorem dX7_setCollar_29 : decode cX7_setCollar 29 = .ok (.goto 5, 3) := by decide +kernel
theorem dX7_setCollar_32 : decode cX7_setCollar 32 = .ok (.ldc 87, 2) := by decide +kernel
theorem dX7_setCollar_34 : decode cX7_setCollar 34 = .ok (.ireturn, 1) := by decide +kernel
theorem dX7_adds_0 : decode cX7_adds 0 = .ok (.iload_n 1, 1) := by decide +kernel
theorem dX7_adds_1 : decode cX7_adds 1 = .ok (.aload_n 0, 1) := by decide +kernel
theorem dX7_adds_2 : decode cX7_adds 2 = .ok (.getfield 7, 3) := by decide +kernel
theorem dX7_adds_5 : decode cX7_adds 5 = .ok (.bipush 10, 2) := by decide +kernel
theorem dX7_adds_7 : decode cX7_adds 7 = .ok (.iload_n 1, 1) := by decide +kernel
theorem dX7_adds_8 : decode cX7_adds 8 = .ok (.iadd, 1) := by decide +kernel
theorem dX7_adds_9 : decode cX7_adds 9 = .ok (.iaload, 1) := by decide +kernel
theorem dX7_adds_10 : decode cX7_adds 10 = .ok (.invokestatic 67, 3) := by decide +kernel
theorem dX7_adds_13 : decode cX7_adds 13 = .ok (.iconst 1, 1) := by decide +kernel
theorem dX7_adds_14 : decode cX7_adds 14 = .ok (.isub, 1) := by decide +kernel
theorem dX7_adds_15 : decode cX7_adds 15 = .ok (.istore 5, 2) := by decide +kernel
theorem dX7_adds_17 : decode cX7_adds 17 = .ok (.iload 5, 2) := by decide +kernel
theorem dX7_adds_19 : decode cX7_adds 19 = .ok (.iload_n 1, 1) := by decide +kernel
theorem dX7_adds_20 : decode cX7_adds 20 = .ok (.iload_n 2, 1) := by decide +kernel
theorem dX7_adds_21 : decode cX7_adds 21 = .ok (.invokestatic 67, 3) := by decide +kernel
theorem dX7_adds_24 : decode cX7_adds 24 = .ok (.if_icmp .lt 25, 3) := by decide +kernel
theorem dX7_adds_27 : decode cX7_adds 27 = .ok (.aload_n 0, 1) := by decide +kernel
theorem dX7_adds_28 : decode cX7_adds 28 = .ok (.getfield 7, 3) := by decide +kernel
theorem dX7_adds_31 : decode cX7_adds 31 = .ok (.iload 5, 2) := by decide +kernel
theorem dX7_adds_33 : decode cX7_adds 33 = .ok (.iconst 2, 1) := by decide +kernel
theorem dX7_adds_34 : decode cX7_adds 34 = .ok (.iadd, 1) := by decide +kernel
theorem dX7_adds_35 : decode cX7_adds 35 = .ok (.aload_n 0, 1) := by decide +kernel
theorem dX7_adds_36 : decode cX7_adds 36 = .ok (.getfield 7, 3) := by decide +kernel
theorem dX7_adds_39 : decode cX7_adds 39 = .ok (.iload 5, 2) := by decide +kernel
theorem dX7_adds_41 : decode cX7_adds 41 = .ok (.iaload, 1) := by decide +kernel
theorem dX7_adds_42 : decode cX7_adds 42 = .ok (.iastore, 1) := by decide +kernel
theorem dX7_adds_43 : decode cX7_adds 43 = .ok (.iinc 5 (-1), 3) := by decide +kernel
theorem dX7_adds_46 : decode cX7_adds 46 = .ok (.goto (-29), 3) := by decide +kernel
theorem dX7_adds_49 : decode cX7_adds 49 = .ok (.aload_n 0, 1) := by decide +kernel
theorem dX7_adds_50 : decode cX7_adds 50 = .ok (.getfield 7, 3) := by decide +kernel
theorem dX7_adds_53 : decode cX7_adds 53 = .ok (.iload_n 1, 1) := by decide +kernel
theorem dX7_adds_54 : decode cX7_adds 54 = .ok (.iload_n 2, 1) := by decide +kernel
theorem dX7_adds_55 : decode cX7_adds 55 = .ok (.invokestatic 67, 3) := by decide +kernel
theorem dX7_adds_58 : decode cX7_adds 58 = .ok (.iload_n 3, 1) := by decide +kernel
theorem dX7_adds_59 : decode cX7_adds 59 = .ok (.iastore, 1) := by decide +kernel
theorem dX7_adds_60 : decode cX7_adds 60 = .ok (.aload_n 0, 1) := by decide +kernel
theorem dX7_adds_61 : decode cX7_adds 61 = .ok (.getfield 7, 3) := by decide +kernel
theorem dX7_adds_64 : decode cX7_adds 64 = .ok (.iload_n 1, 1) := by decide +kernel
theorem dX7_adds_65 : decode cX7_adds 65 = .ok (.iload_n 2, 1) := by decide +kernel
theorem dX7_adds_66 : decode cX7_adds 66 = .ok (.invokestatic 67, 3) := by decide +kernel
theorem dX7_adds_69 : decode cX7_adds 69 = .ok (.iconst 1, 1) := by decide +kernel
theorem dX7_adds_70 : decode cX7_adds 70 = .ok (.iadd, 1) := by decide +kernel
theorem dX7_adds_71 : decode cX7_adds 71 = .ok (.iload 4, 2) := by decide +kernel
theorem dX7_adds_73 : decode cX7_adds 73 = .ok (.iastore, 1) := by decide +kernel
theorem dX7_adds_74 : decode cX7_adds 74 = .ok (.aload_n 0, 1) := by decide +kernel
theorem dX7_adds_75 : decode cX7_adds 75 = .ok (.getfield 7, 3) := by decide +kernel
theorem dX7_adds_78 : decode cX7_adds 78 = .ok (.bipush 10, 2) := by decide +kernel
theorem dX7_adds_80 : decode cX7_adds 80 = .ok (.iload_n 1, 1) := by decide +kernel
theorem dX7_adds_81 : decode cX7_adds 81 = .ok (.iadd, 1) := by decide +kernel
theorem dX7_adds_82 : decode cX7_adds 82 = .ok (.dup2, 1) := by decide +kernel
theorem dX7_adds_83 : decode cX7_adds 83 = .ok (.iaload, 1) := by decide +kernel
theorem dX7_adds_84 : decode cX7_adds 84 = .ok (.iconst 1, 1) := by decide +kernel
theorem dX7_adds_85 : decode cX7_adds 85 = .ok (.iadd, 1) := by decide +kernel
theorem dX7_adds_86 : decode cX7_adds 86 = .ok (.iastore, 1) := by decide +kernel
theorem dX7_adds_87 : decode cX7_adds 87 = .ok (.return_, 1) := by decide +kernel
theorem dX7_addBed_0 : decode cX7_addBed 0 = .ok (.iload_n 1, 1) := by decide +kernel
theorem dX7_addBed_1 : decode cX7_addBed 1 = .ok (.invokestatic 63, 3) := by decide +kernel
theorem dX7_addBed_4 : decode cX7_addBed 4 = .ok (.ifCond .eq 38, 3) := by decide +kernel
theorem dX7_addBed_7 : decode cX7_addBed 7 = .ok (.iload_n 2, 1) := by decide +kernel
theorem dX7_addBed_8 : decode cX7_addBed 8 = .ok (.ifCond .lt 34, 3) := by decide +kernel
theorem dX7_addBed_11 : decode cX7_addBed 11 = .ok (.iload_n 2, 1) := by decide +kernel
theorem dX7_addBed_12 : decode cX7_addBed 12 = .ok (.aload_n 0, 1) := by decide +kernel
theorem dX7_addBed_13 : decode cX7_addBed 13 = .ok (.getfield 7, 3) := by decide +kernel
theorem dX7_addBed_16 : decode cX7_addBed 16 = .ok (.bipush 10, 2) := by decide +kernel
theorem dX7_addBed_18 : decode cX7_addBed 18 = .ok (.iload_n 1, 1) := by decide +kernel
theorem dX7_addBed_19 : decode cX7_addBed 19 = .ok (.iadd, 1) := by decide +kernel
theorem dX7_addBed_20 : decode cX7_addBed 20 = .ok (.iaload, 1) := by decide +kernel
theorem dX7_addBed_21 : decode cX7_addBed 21 = .ok (.if_icmp .gt 21, 3) := by decide +kernel
theorem dX7_addBed_24 : decode cX7_addBed 24 = .ok (.iload_n 3, 1) := by decide +kernel
theorem dX7_addBed_25 : decode cX7_addBed 25 = .ok (.invokestatic 88, 3) := by decide +kernel
theorem dX7_addBed_28 : decode cX7_addBed 28 = .ok (.ifCond .eq 14, 3) := by decide +kernel
theorem dX7_addBed_31 : decode cX7_addBed 31 = .ok (.iload 4, 2) := by decide +kernel
theorem dX7_addBed_33 : decode cX7_addBed 33 = .ok (.iconst 1, 1) := by decide +kernel
theorem dX7_addBed_34 : decode cX7_addBed 34 = .ok (.bipush 99, 2) := by decide +kernel
theorem dX7_addBed_36 : decode cX7_addBed 36 = .ok (.invokestatic 59, 3) := by decide +kernel
theorem dX7_addBed_39 : decode cX7_addBed 39 = .ok (.ifCond .ne 6, 3) := by decide +kernel
theorem dX7_addBed_42 : decode cX7_addBed 42 = .ok (.ldc 87, 2) := by decide +kernel
theorem dX7_addBed_44 : decode cX7_addBed 44 = .ok (.ireturn, 1) := by decide +kernel
theorem dX7_addBed_45 : decode cX7_addBed 45 = .ok (.aload_n 0, 1) := by decide +kernel
theorem dX7_addBed_46 : decode cX7_addBed 46 = .ok (.getfield 7, 3) := by decide +kernel
theorem dX7_addBed_49 : decode cX7_addBed 49 = .ok (.bipush 10, 2) := by decide +kernel
theorem dX7_addBed_51 : decode cX7_addBed 51 = .ok (.iload_n 1, 1) := by decide +kernel
theorem dX7_addBed_52 : decode cX7_addBed 52 = .ok (.iadd, 1) := by decide +kernel
theorem dX7_addBed_53 : decode cX7_addBed 53 = .ok (.iaload, 1) := by decide +kernel
theorem dX7_addBed_54 : decode cX7_addBed 54 = .ok (.bipush 24, 2) := by decide +kernel
theorem dX7_addBed_56 : decode cX7_addBed 56 = .ok (.if_icmp .ne 6, 3) := by decide +kernel
theorem dX7_addBed_59 : decode cX7_addBed 59 = .ok (.ldc 91, 2) := by decide +kernel
theorem dX7_addBed_61 : decode cX7_addBed 61 = .ok (.ireturn, 1) := by decide +kernel
theorem dX7_addBed_62 : decode cX7_addBed 62 = .ok (.aload_n 0, 1) := by decide +kernel
theorem dX7_addBed_63 : decode cX7_addBed 63 = .ok (.invokevirtual 77, 3) := by decide +kernel
theorem dX7_addBed_66 : decode cX7_addBed 66 = .ok (.aload_n 0, 1) := by decide +kernel
theorem dX7_addBed_67 : decode cX7_addBed 67 = .ok (.iload_n 1, 1) := by decide +kernel
theorem dX7_addBed_68 : decode cX7_addBed 68 = .ok (.iload_n 2, 1) := by decide +kernel
theorem dX7_addBed_69 : decode cX7_addBed 69 = .ok (.iload_n 3, 1) := by decide +kernel
theorem dX7_addBed_70 : decode cX7_addBed 70 = .ok (.iload 4, 2) := by decide +kernel
theorem dX7_addBed_72 : decode cX7_addBed 72 = .ok (.invokevirtual 92, 3) := by decide +kernel
theorem dX7_addBed_75 : decode cX7_addBed 75 = .ok (.aload_n 0, 1) := by decide +kernel
theorem dX7_addBed_76 : decode cX7_addBed 76 = .ok (.iconst 1, 1) := by decide +kernel
theorem dX7_addBed_77 : decode cX7_addBed 77 = .ok (.iload 4, 2) := by decide +kernel
theorem dX7_addBed_79 : decode cX7_addBed 79 = .ok (.invokevirtual 96, 3) := by decide +kernel
theorem dX7_addBed_82 : decode cX7_addBed 82 = .ok (.aload_n 0, 1) := by decide +kernel
theorem dX7_addBed_83 : decode cX7_addBed 83 = .ok (.getfield 7, 3) := by decide +kernel
theorem dX7_addBed_86 : decode cX7_addBed 86 = .ok (.bipush 10, 2) := by decide +kernel
theorem dX7_addBed_88 : decode cX7_addBed 88 = .ok (.iload_n 1, 1) := by decide +kernel
theorem dX7_addBed_89 : decode cX7_addBed 89 = .ok (.iadd, 1) := by decide +kernel
theorem dX7_addBed_90 : decode cX7_addBed 90 = .ok (.iaload, 1) := by decide +kernel
theorem dX7_addBed_91 : decode cX7_addBed 91 = .ok (.ireturn, 1) := by decide +kernel
theorem dX7_removeBed_0 : decode cX7_removeBed 0 = .ok (.aload_n 0, 1) := by decide +kernel
theorem dX7_removeBed_1 : decode cX7_removeBed 1 = .ok (.iload_n 1, 1) := by decide +kernel
theorem dX7_removeBed_2 : decode cX7_removeBed 2 = .ok (.iload_n 2, 1) := by decide +kernel
theorem dX7_removeBed_3 : decode cX7_removeBed 3 = .ok (.invokevirtual 100, 3) := by decide +kernel
theorem dX7_removeBed_6 : decode cX7_removeBed 6 = .ok (.ifCond .ne 6, 3) := by decide +kernel
theorem dX7_removeBed_9 : decode cX7_removeBed 9 = .ok (.ldc 87, 2) := by decide +kernel
theorem dX7_removeBed_11 : decode cX7_removeBed 11 = .ok (.ireturn, 1) := by decide +kernel
theorem dX7_removeBed_12 : decode cX7_removeBed 12 = .ok (.aload_n 0, 1) := by decide +kernel
theorem dX7_removeBed_13 : decode cX7_removeBed 13 = .ok (.invokevirtual 77, 3) := by decide +kernel
theorem dX7_removeBed_16 : decode cX7_removeBed 16 = .ok (.aload_n 0, 1) := by decide +kernel
theorem dX7_removeBed_17 : decode cX7_removeBed 17 = .ok (.iload_n 1, 1) := by decide +kernel
theorem dX7_removeBed_18 : decode cX7_removeBed 18 = .ok (.iload_n 2, 1) := by decide +kernel
theorem dX7_removeBed_19 : decode cX7_removeBed 19 = .ok (.invokevirtual 71, 3) := by decide +kernel
theorem dX7_removeBed_22 : decode cX7_removeBed 22 = .ok (.istore_n 3, 1) := by decide +kernel
theorem dX7_removeBed_23 : decode cX7_removeBed 23 = .ok (.aload_n 0, 1) := by decide +kernel
theorem dX7_removeBed_24 : decode cX7_removeBed 24 = .ok (.getfield 7, 3) := by decide +kernel
theorem dX7_removeBed_27 : decode cX7_removeBed 27 = .ok (.bipush 10, 2) := by decide +kernel
theorem dX7_removeBed_29 : decode cX7_removeBed 29 = .ok (.iload_n 1, 1) := by decide +kernel
theorem dX7_removeBed_30 : decode cX7_removeBed 30 = .ok (.iadd, 1) := by decide +kernel
theorem dX7_removeBed_31 : decode cX7_removeBed 31 = .ok (.dup2, 1) := by decide +kernel
theorem dX7_removeBed_32 : decode cX7_removeBed 32 = .ok (.iaload, 1) := by decide +kernel
theorem dX7_removeBed_33 : decode cX7_removeBed 33 = .ok (.iconst 1, 1) := by decide +kernel
theorem dX7_removeBed_34 : decode cX7_removeBed 34 = .ok (.isub, 1) := by decide +kernel
theorem dX7_removeBed_35 : decode cX7_removeBed 35 = .ok (.iastore, 1) := by decide +kernel
theorem dX7_removeBed_36 : decode cX7_removeBed 36 = .ok (.iload_n 1, 1) := by decide +kernel
theorem dX7_removeBed_37 : decode cX7_removeBed 37 = .ok (.iload_n 2, 1) := by decide +kernel
theorem dX7_removeBed_38 : decode cX7_removeBed 38 = .ok (.invokestatic 67, 3) := by decide +kernel
theorem dX7_removeBed_41 : decode cX7_removeBed 41 = .ok (.istore 4, 2) := by decide +kernel
theorem dX7_removeBed_43 : decode cX7_removeBed 43 = .ok (.iload 4, 2) := by decide +kernel
theorem dX7_removeBed_45 : decode cX7_removeBed 45 = .ok (.iload_n 1, 1) := by decide +kernel
theorem dX7_removeBed_46 : decode cX7_removeBed 46 = .ok (.aload_n 0, 1) := by decide +kernel
theorem dX7_removeBed_47 : decode cX7_removeBed 47 = .ok (.getfield 7, 3) := by decide +kernel
theorem dX7_removeBed_50 : decode cX7_removeBed 50 = .ok (.bipush 10, 2) := by decide +kernel
theorem dX7_removeBed_52 : decode cX7_removeBed 52 = .ok (.iload_n 1, 1) := by decide +kernel
theorem dX7_removeBed_53 : decode cX7_removeBed 53 = .ok (.iadd, 1) := by decide +kernel
theorem dX7_removeBed_54 : decode cX7_removeBed 54 = .ok (.iaload, 1) := by decide +kernel
theorem dX7_removeBed_55 : decode cX7_removeBed 55 = .ok (.invokestatic 67, 3) := by decide +kernel
theorem dX7_removeBed_58 : decode cX7_removeBed 58 = .ok (.if_icmp .ge 25, 3) := by decide +kernel
theorem dX7_removeBed_61 : decode cX7_removeBed 61 = .ok (.aload_n 0, 1) := by decide +kernel
theorem dX7_removeBed_62 : decode cX7_removeBed 62 = .ok (.getfield 7, 3) := by decide +kernel
theorem dX7_removeBed_65 : decode cX7_removeBed 65 = .ok (.iload 4, 2) := by decide +kernel
theorem dX7_removeBed_67 : decode cX7_removeBed 67 = .ok (.aload_n 0, 1) := by decide +kernel
theorem dX7_removeBed_68 : decode cX7_removeBed 68 = .ok (.getfield 7, 3) := by decide +kernel
theorem dX7_removeBed_71 : decode cX7_removeBed 71 = .ok (.iload 4, 2) := by decide +kernel
theorem dX7_removeBed_73 : decode cX7_removeBed 73 = .ok (.iconst 2, 1) := by decide +kernel
theorem dX7_removeBed_74 : decode cX7_removeBed 74 = .ok (.iadd, 1) := by decide +kernel
theorem dX7_removeBed_75 : decode cX7_removeBed 75 = .ok (.iaload, 1) := by decide +kernel
theorem dX7_removeBed_76 : decode cX7_removeBed 76 = .ok (.iastore, 1) := by decide +kernel
theorem dX7_removeBed_77 : decode cX7_removeBed 77 = .ok (.iinc 4 1, 3) := by decide +kernel
theorem dX7_removeBed_80 : decode cX7_removeBed 80 = .ok (.goto (-37), 3) := by decide +kernel
theorem dX7_removeBed_83 : decode cX7_removeBed 83 = .ok (.aload_n 0, 1) := by decide +kernel
theorem dX7_removeBed_84 : decode cX7_removeBed 84 = .ok (.iconst 2, 1) := by decide +kernel
theorem dX7_removeBed_85 : decode cX7_removeBed 85 = .ok (.iload_n 3, 1) := by decide +kernel
theorem dX7_removeBed_86 : decode cX7_removeBed 86 = .ok (.invokevirtual 96, 3) := by decide +kernel
theorem dX7_removeBed_89 : decode cX7_removeBed 89 = .ok (.iload_n 3, 1) := by decide +kernel
theorem dX7_removeBed_90 : decode cX7_removeBed 90 = .ok (.ireturn, 1) := by decide +kernel
theorem dX7_setThickness_0 : decode cX7_setThickness 0 = .ok (.aload_n 0, 1) := by decide +kernel
theorem dX7_setThickness_1 : decode cX7_setThickness 1 = .ok (.iload_n 1, 1) := by decide +kernel
theorem dX7_setThickness_2 : decode cX7_setThickness 2 = .ok (.iload_n 2, 1) := by decide +kernel
theorem dX7_setThickness_3 : decode cX7_setThickness 3 = .ok (.invokevirtual 100, 3) := by decide +kernel
theorem dX7_setThickness_6 : decode cX7_setThickness 6 = .ok (.ifCond .eq 13, 3) := by decide +kernel
theorem dX7_setThickness_9 : decode cX7_setThickness 9 = .ok (.iload_n 3, 1) := by decide +kernel
theorem dX7_setThickness_10 : decode cX7_setThickness 10 = .ok (.iconst 1, 1) := by decide +kernel
theorem dX7_setThickness_11 : decode cX7_setThickness 11 = .ok (.bipush 99, 2) := by decide +kernel
theorem dX7_setThickness_13 : decode cX7_setThickness 13 = .ok (.invokestatic 59, 3) := by decide +kernel
theorem dX7_setThickness_16 : decode cX7_setThickness 16 = .ok (.ifCond .ne 6, 3) := by decide +kernel
theorem dX7_setThickness_19 : decode cX7_setThickness 19 = .ok (.ldc 87, 2) := by decide +kernel
theorem dX7_setThickness_21 : decode cX7_setThickness 21 = .ok (.ireturn, 1) := by decide +kernel
theorem dX7_setThickness_22 : decode cX7_setThickness 22 = .ok (.aload_n 0, 1) := by decide +kernel
theorem dX7_setThickness_23 : decode cX7_setThickness 23 = .ok (.invokevirtual 77, 3) := by decide +kernel
theorem dX7_setThickness_26 : decode cX7_setThickness 26 = .ok (.aload_n 0, 1) := by decide +kernel
theorem dX7_setThickness_27 : decode cX7_setThickness 27 = .ok (.iload_n 1, 1) := by decide +kernel
theorem dX7_setThickness_28 : decode cX7_setThickness 28 = .ok (.iload_n 2, 1) := by decide +kernel
theorem dX7_setThickness_29 : decode cX7_setThickness 29 = .ok (.invokevirtual 71, 3) := by decide +kernel
theorem dX7_setThickness_32 : decode cX7_setThickness 32 = .ok (.istore 4, 2) := by decide +kernel
theorem dX7_setThickness_34 : decode cX7_setThickness 34 = .ok (.aload_n 0, 1) := by decide +kernel
theorem dX7_setThickness_35 : decode cX7_setThickness 35 = .ok (.getfield 7, 3) := by decide +kernel
theorem dX7_setThickness_38 : decode cX7_setThickness 38 = .ok (.iload_n 1, 1) := by decide +kernel
theorem dX7_setThickness_39 : decode cX7_setThickness 39 = .ok (.iload_n 2, 1) := by decide +kernel
theorem dX7_setThickness_40 : decode cX7_setThickness 40 = .ok (.invokestatic 67, 3) := by decide +kernel
theorem dX7_setThickness_43 : decode cX7_setThickness 43 = .ok (.iconst 1, 1) := by decide +kernel
theorem dX7_setThickness_44 : decode cX7_setThickness 44 = .ok (.iadd, 1) := by decide +kernel
theorem dX7_setThickness_45 : decode cX7_setThickness 45 = .ok (.iload_n 3, 1) := by decide +kernel
theorem dX7_setThickness_46 : decode cX7_setThickness 46 = .ok (.iastore, 1) := by decide +kernel
theorem dX7_setThickness_47 : decode cX7_setThickness 47 = .ok (.aload_n 0, 1) := by decide +kernel
theorem dX7_setThickness_48 : decode cX7_setThickness 48 = .ok (.iload_n 3, 1) := by decide +kernel
theorem dX7_setThickness_49 : decode cX7_setThickness 49 = .ok (.iload 4, 2) := by decide +kernel
theorem dX7_setThickness_51 : decode cX7_setThickness 51 = .ok (.if_icmp .le 7, 3) := by decide +kernel
theorem dX7_setThickness_54 : decode cX7_setThickness 54 = .ok (.iconst 1, 1) := by decide +kernel
theorem dX7_setThickness_55 : decode cX7_setThickness 55 = .ok (.goto 4, 3) := by decide +kernel
theorem dX7_setThickness_58 : decode cX7_setThickness 58 = .ok (.iconst 2, 1) := by decide +kernel
theorem dX7_setThickness_59 : decode cX7_setThickness 59 = .ok (.iload_n 3, 1) := by decide +kernel
theorem dX7_setThickness_60 : decode cX7_setThickness 60 = .ok (.iload 4, 2) := by decide +kernel
theorem dX7_setThickness_62 : decode cX7_setThickness 62 = .ok (.if_icmp .le 10, 3) := by decide +kernel
theorem dX7_setThickness_65 : decode cX7_setThickness 65 = .ok (.iload_n 3, 1) := by decide +kernel
theorem dX7_setThickness_66 : decode cX7_setThickness 66 = .ok (.iload 4, 2) := by decide +kernel
theorem dX7_setThickness_68 : decode cX7_setThickness 68 = .ok (.isub, 1) := by decide +kernel
theorem dX7_setThickness_69 : decode cX7_setThickness 69 = .ok (.goto 7, 3) := by decide +kernel
theorem dX7_setThickness_72 : decode cX7_setThickness 72 = .ok (.iload 4, 2) := by decide +kernel
theorem dX7_setThickness_74 : decode cX7_setThickness 74 = .ok (.iload_n 3, 1) := by decide +kernel
theorem dX7_setThickness_75 : decode cX7_setThickness 75 = .ok (.isub, 1) := by decide +kernel
theorem dX7_setThickness_76 : decode cX7_setThickness 76 = .ok (.invokevirtual 96, 3) := by decide +kernel
theorem dX7_setThickness_79 : decode cX7_setThickness 79 = .ok (.iload 4, 2) := by decide +kernel
theorem dX7_setThickness_81 : decode cX7_setThickness 81 = .ok (.ireturn, 1) := by decide +kernel
theorem dX7_takes_0 : decode cX7_takes 0 = .ok (.iconst 0, 1) := by decide +kernel
theorem dX7_takes_1 : decode cX7_takes 1 = .ok (.istore 4, 2) := by decide +kernel
theorem dX7_takes_3 : decode cX7_takes 3 = .ok (.iconst 0, 1) := by decide +kernel
theorem dX7_takes_4 : decode cX7_takes 4 = .ok (.istore 5, 2) := by decide +kernel
theorem dX7_takes_6 : decode cX7_takes 6 = .ok (.iload 5, 2) := by decide +kernel
theorem dX7_takes_8 : decode cX7_takes 8 = .ok (.aload_n 0, 1) := by decide +kernel
theorem dX7_takes_9 : decode cX7_takes 9 = .ok (.getfield 7, 3) := by decide +kernel
theorem dX7_takes_12 : decode cX7_takes 12 = .ok (.bipush 10, 2) := by decide +kernel
theorem dX7_takes_14 : decode cX7_takes 14 = .ok (.iload_n 1, 1) := by decide +kernel
theorem dX7_takes_15 : decode cX7_takes 15 = .ok (.iadd, 1) := by decide +kernel
theorem dX7_takes_16 : decode cX7_takes 16 = .ok (.iaload, 1) := by decide +kernel
theorem dX7_takes_17 : decode cX7_takes 17 = .ok (.if_icmp .ge 106, 3) := by decide +kernel
theorem dX7_takes_20 : decode cX7_takes 20 = .ok (.iload 4, 2) := by decide +kernel
theorem dX7_takes_22 : decode cX7_takes 22 = .ok (.aload_n 0, 1) := by decide +kernel
theorem dX7_takes_23 : decode cX7_takes 23 = .ok (.iload_n 1, 1) := by decide +kernel
theorem dX7_takes_24 : decode cX7_takes 24 = .ok (.iload 5, 2) := by decide +kernel
theorem dX7_takes_26 : decode cX7_takes 26 = .ok (.invokevirtual 71, 3) := by decide +kernel
theorem dX7_takes_29 : decode cX7_takes 29 = .ok (.iadd, 1) := by decide +kernel
theorem dX7_takes_30 : decode cX7_takes 30 = .ok (.istore 6, 2) := by decide +kernel
theorem dX7_takes_32 : decode cX7_takes 32 = .ok (.iload_n 2, 1) := by decide +kernel
theorem dX7_takes_33 : decode cX7_takes 33 = .ok (.iload 4, 2) := by decide +kernel
theorem dX7_takes_35 : decode cX7_takes 35 = .ok (.if_icmp .le 7, 3) := by decide +kernel
theorem dX7_takes_38 : decode cX7_takes 38 = .ok (.iload_n 2, 1) := by decide +kernel
theorem dX7_takes_39 : decode cX7_takes 39 = .ok (.goto 5, 3) := by decide +kernel
theorem dX7_takes_42 : decode cX7_takes 42 = .ok (.iload 4, 2) := by decide +kernel
theorem dX7_takes_44 : decode cX7_takes 44 = .ok (.istore 7, 2) := by decide +kernel
theorem dX7_takes_46 : decode cX7_takes 46 = .ok (.iload_n 3, 1) := by decide +kernel
theorem dX7_takes_47 : decode cX7_takes 47 = .ok (.iload 6, 2) := by decide +kernel
theorem dX7_takes_49 : decode cX7_takes 49 = .ok (.if_icmp .ge 7, 3) := by decide +kernel
theorem dX7_takes_52 : decode cX7_takes 52 = .ok (.iload_n 3, 1) := by decide +kernel
theorem dX7_takes_53 : decode cX7_takes 53 = .ok (.goto 5, 3) := by decide +kernel
theorem dX7_takes_56 : decode cX7_takes 56 = .ok (.iload 6, 2) := by decide +kernel
theorem dX7_takes_58 : decode cX7_takes 58 = .ok (.istore 8, 2) := by decide +kernel
theorem dX7_takes_60 : decode cX7_takes 60 = .ok (.iload 7, 2) := by decide +kernel
theorem dX7_takes_62 : decode cX7_takes 62 = .ok (.iload 8, 2) := by decide +kernel
theorem dX7_takes_64 : decode cX7_takes 64 = .ok (.if_icmp .ge 49, 3) := by decide +kernel
theorem dX7_takes_67 : decode cX7_takes 67 = .ok (.aload_n 0, 1) := by decide +kernel
theorem dX7_takes_68 : decode cX7_takes 68 = .ok (.getfield 25, 3) := by decide +kernel
theorem dX7_takes_71 : decode cX7_takes 71 = .ok (.iconst 2, 1) := by decide +kernel
theorem dX7_takes_72 : decode cX7_takes 72 = .ok (.aload_n 0, 1) := by decide +kernel
theorem dX7_takes_73 : decode cX7_takes 73 = .ok (.getfield 104, 3) := by decide +kernel
theorem dX7_takes_76 : decode cX7_takes 76 = .ok (.imul, 1) := by decide +kernel
theorem dX7_takes_77 : decode cX7_takes 77 = .ok (.aload_n 0, 1) := by decide +kernel
theorem dX7_takes_78 : decode cX7_takes 78 = .ok (.iload_n 1, 1) := by decide +kernel
theorem dX7_takes_79 : decode cX7_takes 79 = .ok (.iload 5, 2) := by decide +kernel
theorem dX7_takes_81 : decode cX7_takes 81 = .ok (.invokevirtual 107, 3) := by decide +kernel
theorem dX7_takes_84 : decode cX7_takes 84 = .ok (.iastore, 1) := by decide +kernel
theorem dX7_takes_85 : decode cX7_takes 85 = .ok (.aload_n 0, 1) := by decide +kernel
theorem dX7_takes_86 : decode cX7_takes 86 = .ok (.getfield 25, 3) := by decide +kernel
theorem dX7_takes_89 : decode cX7_takes 89 = .ok (.iconst 2, 1) := by decide +kernel
theorem dX7_takes_90 : decode cX7_takes 90 = .ok (.aload_n 0, 1) := by decide +kernel
theorem dX7_takes_91 : decode cX7_takes 91 = .ok (.getfield 104, 3) := by decide +kernel
theorem dX7_takes_94 : decode cX7_takes 94 = .ok (.imul, 1) := by decide +kernel
theorem dX7_takes_95 : decode cX7_takes 95 = .ok (.iconst 1, 1) := by decide +kernel
theorem dX7_takes_96 : decode cX7_takes 96 = .ok (.iadd, 1) := by decide +kernel
theorem dX7_takes_97 : decode cX7_takes 97 = .ok (.iload 8, 2) := by decide +kernel
theorem dX7_takes_99 : decode cX7_takes 99 = .ok (.iload 7, 2) := by decide +kernel
theorem dX7_takes_101 : decode cX7_takes 101 = .ok (.isub, 1) := by decide +kernel
theorem dX7_takes_102 : decode cX7_takes 102 = .ok (.iastore, 1) := by decide +kernel
theorem dX7_takes_103 : decode cX7_takes 103 = .ok (.aload_n 0, 1) := by decide +kernel
theorem dX7_takes_104 : decode cX7_takes 104 = .ok (.dup, 1) := by decide +kernel
theorem dX7_takes_105 : decode cX7_takes 105 = .ok (.getfield 104, 3) := by decide +kernel
theorem dX7_takes_108 : decode cX7_takes 108 = .ok (.iconst 1, 1) := by decide +kernel
theorem dX7_takes_109 : decode cX7_takes 109 = .ok (.iadd, 1) := by decide +kernel
theorem dX7_takes_110 : decode cX7_takes 110 = .ok (.putfield 104, 3) := by decide +kernel
theorem dX7_takes_113 : decode cX7_takes 113 = .ok (.iload 6, 2) := by decide +kernel
theorem dX7_takes_115 : decode cX7_takes 115 = .ok (.istore 4, 2) := by decide +kernel
theorem dX7_takes_117 : decode cX7_takes 117 = .ok (.iinc 5 1, 3) := by decide +kernel
theorem dX7_takes_120 : decode cX7_takes 120 = .ok (.goto (-114), 3) := by decide +kernel
theorem dX7_takes_123 : decode cX7_takes 123 = .ok (.return_, 1) := by decide +kernel
theorem dX7_cut_0 : decode cX7_cut 0 = .ok (.iload_n 1, 1) := by decide +kernel
theorem dX7_cut_1 : decode cX7_cut 1 = .ok (.invokestatic 63, 3) := by decide +kernel
theorem dX7_cut_4 : decode cX7_cut 4 = .ok (.ifCond .eq 35, 3) := by decide +kernel
theorem dX7_cut_7 : decode cX7_cut 7 = .ok (.iload_n 2, 1) := by decide +kernel
theorem dX7_cut_8 : decode cX7_cut 8 = .ok (.iconst 1, 1) := by decide +kernel
theorem dX7_cut_9 : decode cX7_cut 9 = .ok (.aload_n 0, 1) := by decide +kernel
theorem dX7_cut_10 : decode cX7_cut 10 = .ok (.iload_n 1, 1) := by decide +kernel
theorem dX7_cut_11 : decode cX7_cut 11 = .ok (.invokevirtual 110, 3) := by decide +kernel
theorem dX7_cut_14 : decode cX7_cut 14 = .ok (.iconst 1, 1) := by decide +kernel
theorem dX7_cut_15 : decode cX7_cut 15 = .ok (.isub, 1) := by decide +kernel
theorem dX7_cut_16 : decode cX7_cut 16 = .ok (.invokestatic 59, 3) := by decide +kernel
theorem dX7_cut_19 : decode cX7_cut 19 = .ok (.ifCond .eq 20, 3) := by decide +kernel
theorem dX7_cut_22 : decode cX7_cut 22 = .ok (.iload_n 3, 1) := by decide +kernel
theorem dX7_cut_23 : decode cX7_cut 23 = .ok (.ifCond .eq 16, 3) := by decide +kernel
theorem dX7_cut_26 : decode cX7_cut 26 = .ok (.iload_n 3, 1) := by decide +kernel
theorem dX7_cut_27 : decode cX7_cut 27 = .ok (.sipush 9999, 3) := by decide +kernel
theorem dX7_cut_30 : decode cX7_cut 30 = .ok (.if_icmp .gt 9, 3) := by decide +kernel
theorem dX7_cut_33 : decode cX7_cut 33 = .ok (.iload_n 3, 1) := by decide +kernel
theorem dX7_cut_34 : decode cX7_cut 34 = .ok (.iload_n 2, 1) := by decide +kernel
theorem dX7_cut_35 : decode cX7_cut 35 = .ok (.ineg, 1) := by decide +kernel
theorem dX7_cut_36 : decode cX7_cut 36 = .ok (.if_icmp .ge 6, 3) := by decide +kernel
theorem dX7_cut_39 : decode cX7_cut 39 = .ok (.ldc 87, 2) := by decide +kernel
theorem dX7_cut_41 : decode cX7_cut 41 = .ok (.ireturn, 1) := by decide +kernel
theorem dX7_cut_42 : decode cX7_cut 42 = .ok (.aload_n 0, 1) := by decide +kernel
theorem dX7_cut_43 : decode cX7_cut 43 = .ok (.iload_n 1, 1) := by decide +kernel
theorem dX7_cut_44 : decode cX7_cut 44 = .ok (.invokevirtual 110, 3) := by decide +kernel
theorem dX7_cut_47 : decode cX7_cut 47 = .ok (.istore 4, 2) := by decide +kernel
theorem dX7_cut_49 : decode cX7_cut 49 = .ok (.aload_n 0, 1) := by decide +kernel
theorem dX7_cut_50 : decode cX7_cut 50 = .ok (.iconst 0, 1) := by decide +kernel
theorem dX7_cut_51 : decode cX7_cut 51 = .ok (.putfield 104, 3) := by decide +kernel
theorem dX7_cut_54 : decode cX7_cut 54 = .ok (.aload_n 0, 1) := by decide +kernel
theorem dX7_cut_55 : decode cX7_cut 55 = .ok (.iload_n 1, 1) := by decide +kernel
theorem dX7_cut_56 : decode cX7_cut 56 = .ok (.iconst 0, 1) := by decide +kernel
theorem dX7_cut_57 : decode cX7_cut 57 = .ok (.iload_n 2, 1) := by decide +kernel
theorem dX7_cut_58 : decode cX7_cut 58 = .ok (.invokevirtual 113, 3) := by decide +kernel
theorem dX7_cut_61 : decode cX7_cut 61 = .ok (.iload_n 3, 1) := by decide +kernel
theorem dX7_cut_62 : decode cX7_cut 62 = .ok (.ifCond .ge 12, 3) := by decide +kernel
theorem dX7_cut_65 : decode cX7_cut 65 = .ok (.aload_n 0, 1) := by decide +kernel
theorem dX7_cut_66 : decode cX7_cut 66 = .ok (.iload_n 1, 1) := by decide +kernel
theorem dX7_cut_67 : decode cX7_cut 67 = .ok (.iload_n 2, 1) := by decide +kernel
theorem dX7_cut_68 : decode cX7_cut 68 = .ok (.iload_n 3, 1) := by decide +kernel
theorem dX7_cut_69 : decode cX7_cut 69 = .ok (.iadd, 1) := by decide +kernel
theorem dX7_cut_70 : decode cX7_cut 70 = .ok (.iload_n 2, 1) := by decide +kernel
theorem dX7_cut_71 : decode cX7_cut 71 = .ok (.invokevirtual 113, 3) := by decide +kernel
theorem dX7_cut_74 : decode cX7_cut 74 = .ok (.aload_n 0, 1) := by decide +kernel
theorem dX7_cut_75 : decode cX7_cut 75 = .ok (.iload_n 1, 1) := by decide +kernel
theorem dX7_cut_76 : decode cX7_cut 76 = .ok (.iload_n 3, 1) := by decide +kernel
theorem dX7_cut_77 : decode cX7_cut 77 = .ok (.ifCond .le 9, 3) := by decide +kernel
theorem dX7_cut_80 : decode cX7_cut 80 = .ok (.iload_n 2, 1) := by decide +kernel
theorem dX7_cut_81 : decode cX7_cut 81 = .ok (.iload_n 3, 1) := by decide +kernel
theorem dX7_cut_82 : decode cX7_cut 82 = .ok (.iadd, 1) := by decide +kernel
theorem dX7_cut_83 : decode cX7_cut 83 = .ok (.goto 4, 3) := by decide +kernel
theorem dX7_cut_86 : decode cX7_cut 86 = .ok (.iload_n 2, 1) := by decide +kernel
theorem dX7_cut_87 : decode cX7_cut 87 = .ok (.iload 4, 2) := by decide +kernel
theorem dX7_cut_89 : decode cX7_cut 89 = .ok (.invokevirtual 113, 3) := by decide +kernel
theorem dX7_cut_92 : decode cX7_cut 92 = .ok (.aload_n 0, 1) := by decide +kernel
theorem dX7_cut_93 : decode cX7_cut 93 = .ok (.getfield 104, 3) := by decide +kernel
theorem dX7_cut_96 : decode cX7_cut 96 = .ok (.bipush 24, 2) := by decide +kernel
theorem dX7_cut_98 : decode cX7_cut 98 = .ok (.if_icmp .le 6, 3) := by decide +kernel
theorem dX7_cut_101 : decode cX7_cut 101 = .ok (.ldc 91, 2) := by decide +kernel
theorem dX7_cut_103 : decode cX7_cut 103 = .ok (.ireturn, 1) := by decide +kernel
theorem dX7_cut_104 : decode cX7_cut 104 = .ok (.aload_n 0, 1) := by decide +kernel
theorem dX7_cut_105 : decode cX7_cut 105 = .ok (.invokevirtual 77, 3) := by decide +kernel
theorem dX7_cut_108 : decode cX7_cut 108 = .ok (.aload_n 0, 1) := by decide +kernel
theorem dX7_cut_109 : decode cX7_cut 109 = .ok (.getfield 7, 3) := by decide +kernel
theorem dX7_cut_112 : decode cX7_cut 112 = .ok (.bipush 10, 2) := by decide +kernel
theorem dX7_cut_114 : decode cX7_cut 114 = .ok (.iload_n 1, 1) := by decide +kernel
theorem dX7_cut_115 : decode cX7_cut 115 = .ok (.iadd, 1) := by decide +kernel
theorem dX7_cut_116 : decode cX7_cut 116 = .ok (.aload_n 0, 1) := by decide +kernel
theorem dX7_cut_117 : decode cX7_cut 117 = .ok (.getfield 104, 3) := by decide +kernel
theorem dX7_cut_120 : decode cX7_cut 120 = .ok (.iastore, 1) := by decide +kernel
theorem dX7_cut_121 : decode cX7_cut 121 = .ok (.iconst 0, 1) := by decide +kernel
theorem dX7_cut_122 : decode cX7_cut 122 = .ok (.istore 5, 2) := by decide +kernel
theorem dX7_cut_124 : decode cX7_cut 124 = .ok (.iload 5, 2) := by decide +kernel
theorem dX7_cut_126 : decode cX7_cut 126 = .ok (.iconst 2, 1) := by decide +kernel
theorem dX7_cut_127 : decode cX7_cut 127 = .ok (.aload_n 0, 1) := by decide +kernel
theorem dX7_cut_128 : decode cX7_cut 128 = .ok (.getfield 104, 3) := by decide +kernel
theorem dX7_cut_131 : decode cX7_cut 131 = .ok (.imul, 1) := by decide +kernel
theorem dX7_cut_132 : decode cX7_cut 132 = .ok (.if_icmp .ge 29, 3) := by decide +kernel
theorem dX7_cut_135 : decode cX7_cut 135 = .ok (.aload_n 0, 1) := by decide +kernel
theorem dX7_cut_136 : decode cX7_cut 136 = .ok (.getfield 7, 3) := by decide +kernel
theorem dX7_cut_139 : decode cX7_cut 139 = .ok (.iload_n 1, 1) := by decide +kernel
theorem dX7_cut_140 : decode cX7_cut 140 = .ok (.iconst 0, 1) := by decide +kernel
theorem dX7_cut_141 : decode cX7_cut 141 = .ok (.invokestatic 67, 3) := by decide +kernel
theorem dX7_cut_144 : decode cX7_cut 144 = .ok (.iload 5, 2) := by decide +kernel
theorem dX7_cut_146 : decode cX7_cut 146 = .ok (.iadd, 1) := by decide +kernel
theorem dX7_cut_147 : decode cX7_cut 147 = .ok (.aload_n 0, 1) := by decide +kernel
theorem dX7_cut_148 : decode cX7_cut 148 = .ok (.getfield 25, 3) := by decide +kernel
theorem dX7_cut_151 : decode cX7_cut 151 = .ok (.iload 5, 2) := by decide +kernel
theorem dX7_cut_153 : decode cX7_cut 153 = .ok (.iaload, 1) := by decide +kernel
theorem dX7_cut_154 : decode cX7_cut 154 = .ok (.iastore, 1) := by decide +kernel
theorem dX7_cut_155 : decode cX7_cut 155 = .ok (.iinc 5 1, 3) := by decide +kernel
theorem dX7_cut_158 : decode cX7_cut 158 = .ok (.goto (-34), 3) := by decide +kernel
theorem dX7_cut_161 : decode cX7_cut 161 = .ok (.iload_n 3, 1) := by decide +kernel
theorem dX7_cut_162 : decode cX7_cut 162 = .ok (.iload 4, 2) := by decide +kernel
theorem dX7_cut_164 : decode cX7_cut 164 = .ok (.iload_n 2, 1) := by decide +kernel
theorem dX7_cut_165 : decode cX7_cut 165 = .ok (.isub, 1) := by decide +kernel
theorem dX7_cut_166 : decode cX7_cut 166 = .ok (.if_icmp .ge 7, 3) := by decide +kernel
theorem dX7_cut_169 : decode cX7_cut 169 = .ok (.iload_n 3, 1) := by decide +kernel
theorem dX7_cut_170 : decode cX7_cut 170 = .ok (.goto 7, 3) := by decide +kernel
theorem dX7_cut_173 : decode cX7_cut 173 = .ok (.iload 4, 2) := by decide +kernel
theorem dX7_cut_175 : decode cX7_cut 175 = .ok (.iload_n 2, 1) := by decide +kernel
theorem dX7_cut_176 : decode cX7_cut 176 = .ok (.isub, 1) := by decide +kernel
theorem dX7_cut_177 : decode cX7_cut 177 = .ok (.istore 5, 2) := by decide +kernel
theorem dX7_cut_179 : decode cX7_cut 179 = .ok (.aload_n 0, 1) := by decide +kernel
theorem dX7_cut_180 : decode cX7_cut 180 = .ok (.iload_n 3, 1) := by decide +kernel
theorem dX7_cut_181 : decode cX7_cut 181 = .ok (.ifCond .le 7, 3) := by decide +kernel
theorem dX7_cut_184 : decode cX7_cut 184 = .ok (.iconst 3, 1) := by decide +kernel
theorem dX7_cut_185 : decode cX7_cut 185 = .ok (.goto 4, 3) := by decide +kernel
theorem dX7_cut_188 : decode cX7_cut 188 = .ok (.iconst 4, 1) := by decide +kernel
theorem dX7_cut_189 : decode cX7_cut 189 = .ok (.iload_n 3, 1) := by decide +kernel
theorem dX7_cut_190 : decode cX7_cut 190 = .ok (.ifCond .le 8, 3) := by decide +kernel
theorem dX7_cut_193 : decode cX7_cut 193 = .ok (.iload 5, 2) := by decide +kernel
theorem dX7_cut_195 : decode cX7_cut 195 = .ok (.goto 5, 3) := by decide +kernel
theorem dX7_cut_198 : decode cX7_cut 198 = .ok (.iload_n 3, 1) := by decide +kernel
theorem dX7_cut_199 : decode cX7_cut 199 = .ok (.ineg, 1) := by decide +kernel
theorem dX7_cut_200 : decode cX7_cut 200 = .ok (.invokevirtual 96, 3) := by decide +kernel
theorem dX7_cut_203 : decode cX7_cut 203 = .ok (.aload_n 0, 1) := by decide +kernel
theorem dX7_cut_204 : decode cX7_cut 204 = .ok (.getfield 104, 3) := by decide +kernel
theorem dX7_cut_207 : decode cX7_cut 207 = .ok (.ireturn, 1) := by decide +kernel
theorem dX7_appendCharacter_0 : decode cX7_appendCharacter 0 = .ok (.iload_n 1, 1) := by decide +kernel
theorem dX7_appendCharacter_1 : decode cX7_appendCharacter 1 = .ok (.iconst 0, 1) := by decide +kernel
theorem dX7_appendCharacter_2 : decode cX7_appendCharacter 2 = .ok (.sipush 255, 3) := by decide +kernel
theorem dX7_appendCharacter_5 : decode cX7_appendCharacter 5 = .ok (.invokestatic 59, 3) := by decide +kernel
theorem dX7_appendCharacter_8 : decode cX7_appendCharacter 8 = .ok (.ifCond .ne 6, 3) := by decide +kernel
theorem dX7_appendCharacter_11 : decode cX7_appendCharacter 11 = .ok (.ldc 87, 2) := by decide +kernel
theorem dX7_appendCharacter_13 : decode cX7_appendCharacter 13 = .ok (.ireturn, 1) := by decide +kernel
theorem dX7_appendCharacter_14 : decode cX7_appendCharacter 14 = .ok (.aload_n 0, 1) := by decide +kernel
theorem dX7_appendCharacter_15 : decode cX7_appendCharacter 15 = .ok (.getfield 117, 3) := by decide +kernel
theorem dX7_appendCharacter_18 : decode cX7_appendCharacter 18 = .ok (.bipush 100, 2) := by decide +kernel
theorem dX7_appendCharacter_20 : decode cX7_appendCharacter 20 = .ok (.if_icmp .ne 6, 3) := by decide +kernel
theorem dX7_appendCharacter_23 : decode cX7_appendCharacter 23 = .ok (.ldc 91, 2) := by decide +kernel
theorem dX7_appendCharacter_25 : decode cX7_appendCharacter 25 = .ok (.ireturn, 1) := by decide +kernel
theorem dX7_appendCharacter_26 : decode cX7_appendCharacter 26 = .ok (.aload_n 0, 1) := by decide +kernel
theorem dX7_appendCharacter_27 : decode cX7_appendCharacter 27 = .ok (.getfield 22, 3) := by decide +kernel
theorem dX7_appendCharacter_30 : decode cX7_appendCharacter 30 = .ok (.aload_n 0, 1) := by decide +kernel
theorem dX7_appendCharacter_31 : decode cX7_appendCharacter 31 = .ok (.getfield 117, 3) := by decide +kernel
theorem dX7_appendCharacter_34 : decode cX7_appendCharacter 34 = .ok (.iload_n 1, 1) := by decide +kernel
theorem dX7_appendCharacter_35 : decode cX7_appendCharacter 35 = .ok (.iastore, 1) := by decide +kernel
theorem dX7_appendCharacter_36 : decode cX7_appendCharacter 36 = .ok (.aload_n 0, 1) := by decide +kernel
theorem dX7_appendCharacter_37 : decode cX7_appendCharacter 37 = .ok (.dup, 1) := by decide +kernel
theorem dX7_appendCharacter_38 : decode cX7_appendCharacter 38 = .ok (.getfield 117, 3) := by decide +kernel
theorem dX7_appendCharacter_41 : decode cX7_appendCharacter 41 = .ok (.iconst 1, 1) := by decide +kernel
theorem dX7_appendCharacter_42 : decode cX7_appendCharacter 42 = .ok (.iadd, 1) := by decide +kernel
theorem dX7_appendCharacter_43 : decode cX7_appendCharacter 43 = .ok (.putfield 117, 3) := by decide +kernel
theorem dX7_appendCharacter_46 : decode cX7_appendCharacter 46 = .ok (.aload_n 0, 1) := by decide +kernel
theorem dX7_appendCharacter_47 : decode cX7_appendCharacter 47 = .ok (.getfield 117, 3) := by decide +kernel
theorem dX7_appendCharacter_50 : decode cX7_appendCharacter 50 = .ok (.ireturn, 1) := by decide +kernel
theorem dX7_clearText_0 : decode cX7_clearText 0 = .ok (.aload_n 0, 1) := by decide +kernel
theorem dX7_clearText_1 : decode cX7_clearText 1 = .ok (.getfield 117, 3) := by decide +kernel
theorem dX7_clearText_4 : decode cX7_clearText 4 = .ok (.istore_n 1, 1) := by decide +kernel
theorem dX7_clearText_5 : decode cX7_clearText 5 = .ok (.aload_n 0, 1) := by decide +kernel
theorem dX7_clearText_6 : decode cX7_clearText 6 = .ok (.iconst 0, 1) := by decide +kernel
theorem dX7_clearText_7 : decode cX7_clearText 7 = .ok (.putfield 117, 3) := by decide +kernel
theorem dX7_clearText_10 : decode cX7_clearText 10 = .ok (.iload_n 1, 1) := by decide +kernel
theorem dX7_clearText_11 : decode cX7_clearText 11 = .ok (.ireturn, 1) := by decide +kernel
theorem dX7_isAt_0 : decode cX7_isAt 0 = .ok (.aload_n 0, 1) := by decide +kernel
theorem dX7_isAt_1 : decode cX7_isAt 1 = .ok (.getfield 120, 3) := by decide +kernel
theorem dX7_isAt_4 : decode cX7_isAt 4 = .ok (.aload_n 0, 1) := by decide +kernel
theorem dX7_isAt_5 : decode cX7_isAt 5 = .ok (.getfield 117, 3) := by decide +kernel
theorem dX7_isAt_8 : decode cX7_isAt 8 = .ok (.if_icmp .ge 30, 3) := by decide +kernel
theorem dX7_isAt_11 : decode cX7_isAt 11 = .ok (.aload_n 0, 1) := by decide +kernel
theorem dX7_isAt_12 : decode cX7_isAt 12 = .ok (.getfield 22, 3) := by decide +kernel
theorem dX7_isAt_15 : decode cX7_isAt 15 = .ok (.aload_n 0, 1) := by decide +kernel
theorem dX7_isAt_16 : decode cX7_isAt 16 = .ok (.getfield 120, 3) := by decide +kernel
theorem dX7_isAt_19 : decode cX7_isAt 19 = .ok (.iaload, 1) := by decide +kernel
theorem dX7_isAt_20 : decode cX7_isAt 20 = .ok (.bipush 32, 2) := by decide +kernel
theorem dX7_isAt_22 : decode cX7_isAt 22 = .ok (.if_icmp .ne 16, 3) := by decide +kernel
theorem dX7_isAt_25 : decode cX7_isAt 25 = .ok (.aload_n 0, 1) := by decide +kernel
theorem dX7_isAt_26 : decode cX7_isAt 26 = .ok (.dup, 1) := by decide +kernel
theorem dX7_isAt_27 : decode cX7_isAt 27 = .ok (.getfield 120, 3) := by decide +kernel
theorem dX7_isAt_30 : decode cX7_isAt 30 = .ok (.iconst 1, 1) := by decide +kernel
theorem dX7_isAt_31 : decode cX7_isAt 31 = .ok (.iadd, 1) := by decide +kernel
theorem dX7_isAt_32 : decode cX7_isAt 32 = .ok (.putfield 120, 3) := by decide +kernel
theorem dX7_isAt_35 : decode cX7_isAt 35 = .ok (.goto (-35), 3) := by decide +kernel
theorem dX7_isAt_38 : decode cX7_isAt 38 = .ok (.aload_n 0, 1) := by decide +kernel
theorem dX7_isAt_39 : decode cX7_isAt 39 = .ok (.getfield 120, 3) := by decide +kernel
theorem dX7_isAt_42 : decode cX7_isAt 42 = .ok (.aload_n 0, 1) := by decide +kernel
theorem dX7_isAt_43 : decode cX7_isAt 43 = .ok (.getfield 117, 3) := by decide +kernel
theorem dX7_isAt_46 : decode cX7_isAt 46 = .ok (.if_icmp .ge 24, 3) := by decide +kernel
theorem dX7_isAt_49 : decode cX7_isAt 49 = .ok (.aload_n 0, 1) := by decide +kernel
theorem dX7_isAt_50 : decode cX7_isAt 50 = .ok (.getfield 22, 3) := by decide +kernel
theorem dX7_isAt_53 : decode cX7_isAt 53 = .ok (.aload_n 0, 1) := by decide +kernel
theorem dX7_isAt_54 : decode cX7_isAt 54 = .ok (.getfield 120, 3) := by decide +kernel
theorem dX7_isAt_57 : decode cX7_isAt 57 = .ok (.iaload, 1) := by decide +kernel
theorem dX7_isAt_58 : decode cX7_isAt 58 = .ok (.iload_n 1, 1) := by decide +kernel
theorem dX7_isAt_59 : decode cX7_isAt 59 = .ok (.iload_n 2, 1) := by decide +kernel
theorem dX7_isAt_60 : decode cX7_isAt 60 = .ok (.invokestatic 59, 3) := by decide +kernel
theorem dX7_isAt_63 : decode cX7_isAt 63 = .ok (.ifCond .eq 7, 3) := by decide +kernel
theorem dX7_isAt_66 : decode cX7_isAt 66 = .ok (.iconst 1, 1) := by decide +kernel
theorem dX7_isAt_67 : decode cX7_isAt 67 = .ok (.goto 4, 3) := by decide +kernel
theorem dX7_isAt_70 : decode cX7_isAt 70 = .ok (.iconst 0, 1) := by decide +kernel
theorem dX7_isAt_71 : decode cX7_isAt 71 = .ok (.ireturn, 1) := by decide +kernel
theorem dX7_readsBed_0 : decode cX7_readsBed 0 = .ok (.aload_n 0, 1) := by decide +kernel
theorem dX7_readsBed_1 : decode cX7_readsBed 1 = .ok (.getfield 123, 3) := by decide +kernel
theorem dX7_readsBed_4 : decode cX7_readsBed 4 = .ok (.bipush 24, 2) := by decide +kernel
theorem dX7_readsBed_6 : decode cX7_readsBed 6 = .ok (.if_icmp .ne 5, 3) := by decide +kernel
theorem dX7_readsBed_9 : decode cX7_readsBed 9 = .ok (.iconst 0, 1) := by decide +kernel
theorem dX7_readsBed_10 : decode cX7_readsBed 10 = .ok (.ireturn, 1) := by decide +kernel
theorem dX7_readsBed_11 : decode cX7_readsBed 11 = .ok (.aload_n 0, 1) := by decide +kernel
theorem dX7_readsBed_12 : decode cX7_readsBed 12 = .ok (.getfield 28, 3) := by decide +kernel
theorem dX7_readsBed_15 : decode cX7_readsBed 15 = .ok (.iconst 2, 1) := by decide +kernel
theorem dX7_readsBed_16 : decode cX7_readsBed 16 = .ok (.aload_n 0, 1) := by decide +kernel
theorem dX7_readsBed_17 : decode cX7_readsBed 17 = .ok (.getfield 123, 3) := by decide +kernel
theorem dX7_readsBed_20 : decode cX7_readsBed 20 = .ok (.imul, 1) := by decide +kernel
theorem dX7_readsBed_21 : decode cX7_readsBed 21 = .ok (.aload_n 0, 1) := by decide +kernel
theorem dX7_readsBed_22 : decode cX7_readsBed 22 = .ok (.getfield 22, 3) := by decide +kernel
theorem dX7_readsBed_25 : decode cX7_readsBed 25 = .ok (.aload_n 0, 1) := by decide +kernel
theorem dX7_readsBed_26 : decode cX7_readsBed 26 = .ok (.getfield 120, 3) := by decide +kernel
theorem dX7_readsBed_29 : decode cX7_readsBed 29 = .ok (.iaload, 1) := by decide +kernel
theorem dX7_readsBed_30 : decode cX7_readsBed 30 = .ok (.bipush 97, 2) := by decide +kernel
theorem dX7_readsBed_32 : decode cX7_readsBed 32 = .ok (.isub, 1) := by decide +kernel
theorem dX7_readsBed_33 : decode cX7_readsBed 33 = .ok (.iastore, 1) := by decide +kernel
theorem dX7_readsBed_34 : decode cX7_readsBed 34 = .ok (.aload_n 0, 1) := by decide +kernel
theorem dX7_readsBed_35 : decode cX7_readsBed 35 = .ok (.dup, 1) := by decide +kernel
theorem dX7_readsBed_36 : decode cX7_readsBed 36 = .ok (.getfield 120, 3) := by decide +kernel
theorem dX7_readsBed_39 : decode cX7_readsBed 39 = .ok (.iconst 1, 1) := by decide +kernel
theorem dX7_readsBed_40 : decode cX7_readsBed 40 = .ok (.iadd, 1) := by decide +kernel
theorem dX7_readsBed_41 : decode cX7_readsBed 41 = .ok (.putfield 120, 3) := by decide +kernel
theorem dX7_readsBed_44 : decode cX7_readsBed 44 = .ok (.aload_n 0, 1) := by decide +kernel
theorem dX7_readsBed_45 : decode cX7_readsBed 45 = .ok (.bipush 49, 2) := by decide +kernel
theorem dX7_readsBed_47 : decode cX7_readsBed 47 = .ok (.bipush 57, 2) := by decide +kernel
theorem dX7_readsBed_49 : decode cX7_readsBed 49 = .ok (.invokevirtual 126, 3) := by decide +kernel
theorem dX7_readsBed_52 : decode cX7_readsBed 52 = .ok (.ifCond .ne 5, 3) := by decide +kernel
theorem dX7_readsBed_55 : decode cX7_readsBed 55 = .ok (.iconst 0, 1) := by decide +kernel
theorem dX7_readsBed_56 : decode cX7_readsBed 56 = .ok (.ireturn, 1) := by decide +kernel
theorem dX7_readsBed_57 : decode cX7_readsBed 57 = .ok (.aload_n 0, 1) := by decide +kernel
theorem dX7_readsBed_58 : decode cX7_readsBed 58 = .ok (.getfield 22, 3) := by decide +kernel
theorem dX7_readsBed_61 : decode cX7_readsBed 61 = .ok (.aload_n 0, 1) := by decide +kernel
theorem dX7_readsBed_62 : decode cX7_readsBed 62 = .ok (.getfield 120, 3) := by decide +kernel
theorem dX7_readsBed_65 : decode cX7_readsBed 65 = .ok (.iaload, 1) := by decide +kernel
theorem dX7_readsBed_66 : decode cX7_readsBed 66 = .ok (.bipush 48, 2) := by decide +kernel
theorem dX7_readsBed_68 : decode cX7_readsBed 68 = .ok (.isub, 1) := by decide +kernel
theorem dX7_readsBed_69 : decode cX7_readsBed 69 = .ok (.istore_n 1, 1) := by decide +kernel
theorem dX7_readsBed_70 : decode cX7_readsBed 70 = .ok (.aload_n 0, 1) := by decide +kernel
theorem dX7_readsBed_71 : decode cX7_readsBed 71 = .ok (.dup, 1) := by decide +kernel
theorem dX7_readsBed_72 : decode cX7_readsBed 72 = .ok (.getfield 120, 3) := by decide +kernel
theorem dX7_readsBed_75 : decode cX7_readsBed 75 = .ok (.iconst 1, 1) := by decide +kernel
theorem dX7_readsBed_76 : decode cX7_readsBed 76 = .ok (.iadd, 1) := by decide +kernel
theorem dX7_readsBed_77 : decode cX7_readsBed 77 = .ok (.putfield 120, 3) := by decide +kernel
theorem dX7_readsBed_80 : decode cX7_readsBed 80 = .ok (.aload_n 0, 1) := by decide +kernel
theorem dX7_readsBed_81 : decode cX7_readsBed 81 = .ok (.getfield 120, 3) := by decide +kernel
theorem dX7_readsBed_84 : decode cX7_readsBed 84 = .ok (.aload_n 0, 1) := by decide +kernel
theorem dX7_readsBed_85 : decode cX7_readsBed 85 = .ok (.getfield 117, 3) := by decide +kernel
theorem dX7_readsBed_88 : decode cX7_readsBed 88 = .ok (.if_icmp .ge 50, 3) := by decide +kernel
theorem dX7_readsBed_91 : decode cX7_readsBed 91 = .ok (.aload_n 0, 1) := by decide +kernel
theorem dX7_readsBed_92 : decode cX7_readsBed 92 = .ok (.getfield 22, 3) := by decide +kernel
theorem dX7_readsBed_95 : decode cX7_readsBed 95 = .ok (.aload_n 0, 1) := by decide +kernel
theorem dX7_readsBed_96 : decode cX7_readsBed 96 = .ok (.getfield 120, 3) := by decide +kernel
theorem dX7_readsBed_99 : decode cX7_readsBed 99 = .ok (.iaload, 1) := by decide +kernel
theorem dX7_readsBed_100 : decode cX7_readsBed 100 = .ok (.bipush 48, 2) := by decide +kernel
theorem dX7_readsBed_102 : decode cX7_readsBed 102 = .ok (.bipush 57, 2) := by decide +kernel
theorem dX7_readsBed_104 : decode cX7_readsBed 104 = .ok (.invokestatic 59, 3) := by decide +kernel
theorem dX7_readsBed_107 : decode cX7_readsBed 107 = .ok (.ifCond .eq 31, 3) := by decide +kernel
theorem dX7_readsBed_110 : decode cX7_readsBed 110 = .ok (.bipush 10, 2) := by decide +kernel
theorem dX7_readsBed_112 : decode cX7_readsBed 112 = .ok (.iload_n 1, 1) := by decide +kernel
theorem dX7_readsBed_113 : decode cX7_readsBed 113 = .ok (.imul, 1) := by decide +kernel
theorem dX7_readsBed_114 : decode cX7_readsBed 114 = .ok (.aload_n 0, 1) := by decide +kernel
theorem dX7_readsBed_115 : decode cX7_readsBed 115 = .ok (.getfield 22, 3) := by decide +kernel
theorem dX7_readsBed_118 : decode cX7_readsBed 118 = .ok (.aload_n 0, 1) := by decide +kernel
theorem dX7_readsBed_119 : decode cX7_readsBed 119 = .ok (.getfield 120, 3) := by decide +kernel
theorem dX7_readsBed_122 : decode cX7_readsBed 122 = .ok (.iaload, 1) := by decide +kernel
theorem dX7_readsBed_123 : decode cX7_readsBed 123 = .ok (.iadd, 1) := by decide +kernel
theorem dX7_readsBed_124 : decode cX7_readsBed 124 = .ok (.bipush 48, 2) := by decide +kernel
theorem dX7_readsBed_126 : decode cX7_readsBed 126 = .ok (.isub, 1) := by decide +kernel
theorem dX7_readsBed_127 : decode cX7_readsBed 127 = .ok (.istore_n 1, 1) := by decide +kernel
theorem dX7_readsBed_128 : decode cX7_readsBed 128 = .ok (.aload_n 0, 1) := by decide +kernel
theorem dX7_readsBed_129 : decode cX7_readsBed 129 = .ok (.dup, 1) := by decide +kernel
theorem dX7_readsBed_130 : decode cX7_readsBed 130 = .ok (.getfield 120, 3) := by decide +kernel
theorem dX7_readsBed_133 : decode cX7_readsBed 133 = .ok (.iconst 1, 1) := by decide +kernel
theorem dX7_readsBed_134 : decode cX7_readsBed 134 = .ok (.iadd, 1) := by decide +kernel
theorem dX7_readsBed_135 : decode cX7_readsBed 135 = .ok (.putfield 120, 3) := by decide +kernel
theorem dX7_readsBed_138 : decode cX7_readsBed 138 = .ok (.aload_n 0, 1) := by decide +kernel
theorem dX7_readsBed_139 : decode cX7_readsBed 139 = .ok (.getfield 28, 3) := by decide +kernel
theorem dX7_readsBed_142 : decode cX7_readsBed 142 = .ok (.iconst 2, 1) := by decide +kernel
theorem dX7_readsBed_143 : decode cX7_readsBed 143 = .ok (.aload_n 0, 1) := by decide +kernel
theorem dX7_readsBed_144 : decode cX7_readsBed 144 = .ok (.getfield 123, 3) := by decide +kernel
theorem dX7_readsBed_147 : decode cX7_readsBed 147 = .ok (.imul, 1) := by decide +kernel
theorem dX7_readsBed_148 : decode cX7_readsBed 148 = .ok (.iconst 1, 1) := by decide +kernel
theorem dX7_readsBed_149 : decode cX7_readsBed 149 = .ok (.iadd, 1) := by decide +kernel
theorem dX7_readsBed_150 : decode cX7_readsBed 150 = .ok (.iload_n 1, 1) := by decide +kernel
theorem dX7_readsBed_151 : decode cX7_readsBed 151 = .ok (.iastore, 1) := by decide +kernel
theorem dX7_readsBed_152 : decode cX7_readsBed 152 = .ok (.aload_n 0, 1) := by decide +kernel
theorem dX7_readsBed_153 : decode cX7_readsBed 153 = .ok (.dup, 1) := by decide +kernel
theorem dX7_readsBed_154 : decode cX7_readsBed 154 = .ok (.getfield 123, 3) := by decide +kernel
theorem dX7_readsBed_157 : decode cX7_readsBed 157 = .ok (.iconst 1, 1) := by decide +kernel
theorem dX7_readsBed_158 : decode cX7_readsBed 158 = .ok (.iadd, 1) := by decide +kernel
theorem dX7_readsBed_159 : decode cX7_readsBed 159 = .ok (.putfield 123, 3) := by decide +kernel
theorem dX7_readsBed_162 : decode cX7_readsBed 162 = .ok (.iconst 1, 1) := by decide +kernel
theorem dX7_readsBed_163 : decode cX7_readsBed 163 = .ok (.ireturn, 1) := by decide +kernel
theorem dX7_reads_0 : decode cX7_reads 0 = .ok (.aload_n 0, 1) := by decide +kernel
theorem dX7_reads_1 : decode cX7_reads 1 = .ok (.iconst 0, 1) := by decide +kernel
theorem dX7_reads_2 : decode cX7_reads 2 = .ok (.putfield 120, 3) := by decide +kernel
theorem dX7_reads_5 : decode cX7_reads 5 = .ok (.aload_n 0, 1) := by decide +kernel
theorem dX7_reads_6 : decode cX7_reads 6 = .ok (.iconst 0, 1) := by decide +kernel
theorem dX7_reads_7 : decode cX7_reads 7 = .ok (.putfield 123, 3) := by decide +kernel
theorem dX7_reads_10 : decode cX7_reads 10 = .ok (.aload_n 0, 1) := by decide +kernel
theorem dX7_reads_11 : decode cX7_reads 11 = .ok (.bipush 48, 2) := by decide +kernel
theorem dX7_reads_13 : decode cX7_reads 13 = .ok (.bipush 51, 2) := by decide +kernel
theorem dX7_reads_15 : decode cX7_reads 15 = .ok (.invokevirtual 126, 3) := by decide +kernel
theorem dX7_reads_18 : decode cX7_reads 18 = .ok (.ifCond .ne 5, 3) := by decide +kernel
theorem dX7_reads_21 : decode cX7_reads 21 = .ok (.iconst (-1), 1) := by decide +kernel
theorem dX7_reads_22 : decode cX7_reads 22 = .ok (.ireturn, 1) := by decide +kernel
theorem dX7_reads_23 : decode cX7_reads 23 = .ok (.aload_n 0, 1) := by decide +kernel
theorem dX7_reads_24 : decode cX7_reads 24 = .ok (.getfield 22, 3) := by decide +kernel
theorem dX7_reads_27 : decode cX7_reads 27 = .ok (.aload_n 0, 1) := by decide +kernel
theorem dX7_reads_28 : decode cX7_reads 28 = .ok (.getfield 120, 3) := by decide +kernel
theorem dX7_reads_31 : decode cX7_reads 31 = .ok (.iaload, 1) := by decide +kernel
theorem dX7_reads_32 : decode cX7_reads 32 = .ok (.bipush 48, 2) := by decide +kernel
theorem dX7_reads_34 : decode cX7_reads 34 = .ok (.isub, 1) := by decide +kernel
theorem dX7_reads_35 : decode cX7_reads 35 = .ok (.istore_n 1, 1) := by decide +kernel
theorem dX7_reads_36 : decode cX7_reads 36 = .ok (.aload_n 0, 1) := by decide +kernel
theorem dX7_reads_37 : decode cX7_reads 37 = .ok (.dup, 1) := by decide +kernel
theorem dX7_reads_38 : decode cX7_reads 38 = .ok (.getfield 120, 3) := by decide +kernel
theorem dX7_reads_41 : decode cX7_reads 41 = .ok (.iconst 1, 1) := by decide +kernel
theorem dX7_reads_42 : decode cX7_reads 42 = .ok (.iadd, 1) := by decide +kernel
theorem dX7_reads_43 : decode cX7_reads 43 = .ok (.putfield 120, 3) := by decide +kernel
theorem dX7_reads_46 : decode cX7_reads 46 = .ok (.aload_n 0, 1) := by decide +kernel
theorem dX7_reads_47 : decode cX7_reads 47 = .ok (.bipush 58, 2) := by decide +kernel
theorem dX7_reads_49 : decode cX7_reads 49 = .ok (.bipush 58, 2) := by decide +kernel
theorem dX7_reads_51 : decode cX7_reads 51 = .ok (.invokevirtual 126, 3) := by decide +kernel
theorem dX7_reads_54 : decode cX7_reads 54 = .ok (.ifCond .ne 5, 3) := by decide +kernel
theorem dX7_reads_57 : decode cX7_reads 57 = .ok (.iconst (-1), 1) := by decide +kernel
theorem dX7_reads_58 : decode cX7_reads 58 = .ok (.ireturn, 1) := by decide +kernel
theorem dX7_reads_59 : decode cX7_reads 59 = .ok (.aload_n 0, 1) := by decide +kernel
theorem dX7_reads_60 : decode cX7_reads 60 = .ok (.dup, 1) := by decide +kernel
theorem dX7_reads_61 : decode cX7_reads 61 = .ok (.getfield 120, 3) := by decide +kernel
theorem dX7_reads_64 : decode cX7_reads 64 = .ok (.iconst 1, 1) := by decide +kernel
theorem dX7_reads_65 : decode cX7_reads 65 = .ok (.iadd, 1) := by decide +kernel
theorem dX7_reads_66 : decode cX7_reads 66 = .ok (.putfield 120, 3) := by decide +kernel
theorem dX7_reads_69 : decode cX7_reads 69 = .ok (.aload_n 0, 1) := by decide +kernel
theorem dX7_reads_70 : decode cX7_reads 70 = .ok (.bipush 97, 2) := by decide +kernel
theorem dX7_reads_72 : decode cX7_reads 72 = .ok (.bipush 122, 2) := by decide +kernel
theorem dX7_reads_74 : decode cX7_reads 74 = .ok (.invokevirtual 126, 3) := by decide +kernel
theorem dX7_reads_77 : decode cX7_reads 77 = .ok (.ifCond .eq 12, 3) := by decide +kernel
theorem dX7_reads_80 : decode cX7_reads 80 = .ok (.aload_n 0, 1) := by decide +kernel
theorem dX7_reads_81 : decode cX7_reads 81 = .ok (.invokevirtual 129, 3) := by decide +kernel
theorem dX7_reads_84 : decode cX7_reads 84 = .ok (.ifCond .ne (-15), 3) := by decide +kernel
theorem dX7_reads_87 : decode cX7_reads 87 = .ok (.iconst (-1), 1) := by decide +kernel
theorem dX7_reads_88 : decode cX7_reads 88 = .ok (.ireturn, 1) := by decide +kernel
theorem dX7_reads_89 : decode cX7_reads 89 = .ok (.aload_n 0, 1) := by decide +kernel
theorem dX7_reads_90 : decode cX7_reads 90 = .ok (.bipush 59, 2) := by decide +kernel
theorem dX7_reads_92 : decode cX7_reads 92 = .ok (.bipush 59, 2) := by decide +kernel
theorem dX7_reads_94 : decode cX7_reads 94 = .ok (.invokevirtual 126, 3) := by decide +kernel
theorem dX7_reads_97 : decode cX7_reads 97 = .ok (.ifCond .ne 5, 3) := by decide +kernel
theorem dX7_reads_100 : decode cX7_reads 100 = .ok (.iconst (-1), 1) := by decide +kernel
theorem dX7_reads_101 : decode cX7_reads 101 = .ok (.ireturn, 1) := by decide +kernel
theorem dX7_reads_102 : decode cX7_reads 102 = .ok (.aload_n 0, 1) := by decide +kernel
theorem dX7_reads_103 : decode cX7_reads 103 = .ok (.dup, 1) := by decide +kernel
theorem dX7_reads_104 : decode cX7_reads 104 = .ok (.getfield 120, 3) := by decide +kernel
theorem dX7_reads_107 : decode cX7_reads 107 = .ok (.iconst 1, 1) := by decide +kernel
theorem dX7_reads_108 : decode cX7_reads 108 = .ok (.iadd, 1) := by decide +kernel
theorem dX7_reads_109 : decode cX7_reads 109 = .ok (.putfield 120, 3) := by decide +kernel
theorem dX7_reads_112 : decode cX7_reads 112 = .ok (.aload_n 0, 1) := by decide +kernel
theorem dX7_reads_113 : decode cX7_reads 113 = .ok (.iconst 0, 1) := by decide +kernel
theorem dX7_reads_114 : decode cX7_reads 114 = .ok (.sipush 255, 3) := by decide +kernel
theorem dX7_reads_117 : decode cX7_reads 117 = .ok (.invokevirtual 126, 3) := by decide +kernel
theorem dX7_reads_120 : decode cX7_reads 120 = .ok (.ifCond .eq 7, 3) := by decide +kernel
theorem dX7_reads_123 : decode cX7_reads 123 = .ok (.iconst (-1), 1) := by decide +kernel
theorem dX7_reads_124 : decode cX7_reads 124 = .ok (.goto 4, 3) := by decide +kernel
theorem dX7_reads_127 : decode cX7_reads 127 = .ok (.iload_n 1, 1) := by decide +kernel
theorem dX7_reads_128 : decode cX7_reads 128 = .ok (.ireturn, 1) := by decide +kernel
theorem dX7_load_0 : decode cX7_load 0 = .ok (.aload_n 0, 1) := by decide +kernel
theorem dX7_load_1 : decode cX7_load 1 = .ok (.invokevirtual 133, 3) := by decide +kernel
theorem dX7_load_4 : decode cX7_load 4 = .ok (.istore_n 1, 1) := by decide +kernel
theorem dX7_load_5 : decode cX7_load 5 = .ok (.iload_n 1, 1) := by decide +kernel
theorem dX7_load_6 : decode cX7_load 6 = .ok (.ifCond .ge 11, 3) := by decide +kernel
theorem dX7_load_9 : decode cX7_load 9 = .ok (.ldc 137, 2) := by decide +kernel
theorem dX7_load_11 : decode cX7_load 11 = .ok (.aload_n 0, 1) := by decide +kernel
theorem dX7_load_12 : decode cX7_load 12 = .ok (.getfield 120, 3) := by decide +kernel
theorem dX7_load_15 : decode cX7_load 15 = .ok (.isub, 1) := by decide +kernel
theorem dX7_load_16 : decode cX7_load 16 = .ok (.ireturn, 1) := by decide +kernel
theorem dX7_load_17 : decode cX7_load 17 = .ok (.aload_n 0, 1) := by decide +kernel
theorem dX7_load_18 : decode cX7_load 18 = .ok (.invokevirtual 77, 3) := by decide +kernel
theorem dX7_load_21 : decode cX7_load 21 = .ok (.aload_n 0, 1) := by decide +kernel
theorem dX7_load_22 : decode cX7_load 22 = .ok (.iconst 2, 1) := by decide +kernel
theorem dX7_load_23 : decode cX7_load 23 = .ok (.aload_n 0, 1) := by decide +kernel
theorem dX7_load_24 : decode cX7_load 24 = .ok (.iload_n 1, 1) := by decide +kernel
theorem dX7_load_25 : decode cX7_load 25 = .ok (.invokevirtual 110, 3) := by decide +kernel
theorem dX7_load_28 : decode cX7_load 28 = .ok (.invokevirtual 96, 3) := by decide +kernel
theorem dX7_load_31 : decode cX7_load 31 = .ok (.aload_n 0, 1) := by decide +kernel
theorem dX7_load_32 : decode cX7_load 32 = .ok (.getfield 7, 3) := by decide +kernel
theorem dX7_load_35 : decode cX7_load 35 = .ok (.bipush 10, 2) := by decide +kernel
theorem dX7_load_37 : decode cX7_load 37 = .ok (.iload_n 1, 1) := by decide +kernel
theorem dX7_load_38 : decode cX7_load 38 = .ok (.iadd, 1) := by decide +kernel
theorem dX7_load_39 : decode cX7_load 39 = .ok (.aload_n 0, 1) := by decide +kernel
theorem dX7_load_40 : decode cX7_load 40 = .ok (.getfield 123, 3) := by decide +kernel
theorem dX7_load_43 : decode cX7_load 43 = .ok (.iastore, 1) := by decide +kernel
theorem dX7_load_44 : decode cX7_load 44 = .ok (.iconst 0, 1) := by decide +kernel
theorem dX7_load_45 : decode cX7_load 45 = .ok (.istore_n 2, 1) := by decide +kernel
theorem dX7_load_46 : decode cX7_load 46 = .ok (.iload_n 2, 1) := by decide +kernel
theorem dX7_load_47 : decode cX7_load 47 = .ok (.iconst 2, 1) := by decide +kernel
theorem dX7_load_48 : decode cX7_load 48 = .ok (.aload_n 0, 1) := by decide +kernel
theorem dX7_load_49 : decode cX7_load 49 = .ok (.getfield 123, 3) := by decide +kernel
theorem dX7_load_52 : decode cX7_load 52 = .ok (.imul, 1) := by decide +kernel
theorem dX7_load_53 : decode cX7_load 53 = .ok (.if_icmp .ge 27, 3) := by decide +kernel
theorem dX7_load_56 : decode cX7_load 56 = .ok (.aload_n 0, 1) := by decide +kernel
theorem dX7_load_57 : decode cX7_load 57 = .ok (.getfield 7, 3) := by decide +kernel
theorem dX7_load_60 : decode cX7_load 60 = .ok (.iload_n 1, 1) := by decide +kernel
theorem dX7_load_61 : decode cX7_load 61 = .ok (.iconst 0, 1) := by decide +kernel
theorem dX7_load_62 : decode cX7_load 62 = .ok (.invokestatic 67, 3) := by decide +kernel
theorem dX7_load_65 : decode cX7_load 65 = .ok (.iload_n 2, 1) := by decide +kernel
theorem dX7_load_66 : decode cX7_load 66 = .ok (.iadd, 1) := by decide +kernel
theorem dX7_load_67 : decode cX7_load 67 = .ok (.aload_n 0, 1) := by decide +kernel
theorem dX7_load_68 : decode cX7_load 68 = .ok (.getfield 28, 3) := by decide +kernel
theorem dX7_load_71 : decode cX7_load 71 = .ok (.iload_n 2, 1) := by decide +kernel
theorem dX7_load_72 : decode cX7_load 72 = .ok (.iaload, 1) := by decide +kernel
theorem dX7_load_73 : decode cX7_load 73 = .ok (.iastore, 1) := by decide +kernel
theorem dX7_load_74 : decode cX7_load 74 = .ok (.iinc 2 1, 3) := by decide +kernel
theorem dX7_load_77 : decode cX7_load 77 = .ok (.goto (-31), 3) := by decide +kernel
theorem dX7_load_80 : decode cX7_load 80 = .ok (.aload_n 0, 1) := by decide +kernel
theorem dX7_load_81 : decode cX7_load 81 = .ok (.iconst 1, 1) := by decide +kernel
theorem dX7_load_82 : decode cX7_load 82 = .ok (.aload_n 0, 1) := by decide +kernel
theorem dX7_load_83 : decode cX7_load 83 = .ok (.iload_n 1, 1) := by decide +kernel
theorem dX7_load_84 : decode cX7_load 84 = .ok (.invokevirtual 110, 3) := by decide +kernel
theorem dX7_load_87 : decode cX7_load 87 = .ok (.invokevirtual 96, 3) := by decide +kernel
theorem dX7_load_90 : decode cX7_load 90 = .ok (.aload_n 0, 1) := by decide +kernel
theorem dX7_load_91 : decode cX7_load 91 = .ok (.iconst 0, 1) := by decide +kernel
theorem dX7_load_92 : decode cX7_load 92 = .ok (.putfield 117, 3) := by decide +kernel
theorem dX7_load_95 : decode cX7_load 95 = .ok (.aload_n 0, 1) := by decide +kernel
theorem dX7_load_96 : decode cX7_load 96 = .ok (.getfield 123, 3) := by decide +kernel
theorem dX7_load_99 : decode cX7_load 99 = .ok (.ireturn, 1) := by decide +kernel
theorem dX7_allBeds_0 : decode cX7_allBeds 0 = .ok (.aload_n 0, 1) := by decide +kernel
theorem dX7_allBeds_1 : decode cX7_allBeds 1 = .ok (.getfield 7, 3) := by decide +kernel
theorem dX7_allBeds_4 : decode cX7_allBeds 4 = .ok (.bipush 10, 2) := by decide +kernel
theorem dX7_allBeds_6 : decode cX7_allBeds 6 = .ok (.iaload, 1) := by decide +kernel
theorem dX7_allBeds_7 : decode cX7_allBeds 7 = .ok (.aload_n 0, 1) := by decide +kernel
theorem dX7_allBeds_8 : decode cX7_allBeds 8 = .ok (.getfield 7, 3) := by decide +kernel
theorem dX7_allBeds_11 : decode cX7_allBeds 11 = .ok (.bipush 11, 2) := by decide +kernel
theorem dX7_allBeds_13 : decode cX7_allBeds 13 = .ok (.iaload, 1) := by decide +kernel
theorem dX7_allBeds_14 : decode cX7_allBeds 14 = .ok (.iadd, 1) := by decide +kernel
theorem dX7_allBeds_15 : decode cX7_allBeds 15 = .ok (.aload_n 0, 1) := by decide +kernel
theorem dX7_allBeds_16 : decode cX7_allBeds 16 = .ok (.getfield 7, 3) := by decide +kernel
theorem dX7_allBeds_19 : decode cX7_allBeds 19 = .ok (.bipush 12, 2) := by decide +kernel
theorem dX7_allBeds_21 : decode cX7_allBeds 21 = .ok (.iaload, 1) := by decide +kernel
theorem dX7_allBeds_22 : decode cX7_allBeds 22 = .ok (.iadd, 1) := by decide +kernel
theorem dX7_allBeds_23 : decode cX7_allBeds 23 = .ok (.aload_n 0, 1) := by decide +kernel
theorem dX7_allBeds_24 : decode cX7_allBeds 24 = .ok (.getfield 7, 3) := by decide +kernel
theorem dX7_allBeds_27 : decode cX7_allBeds 27 = .ok (.bipush 13, 2) := by decide +kernel
theorem dX7_allBeds_29 : decode cX7_allBeds 29 = .ok (.iaload, 1) := by decide +kernel
theorem dX7_allBeds_30 : decode cX7_allBeds 30 = .ok (.iadd, 1) := by decide +kernel
theorem dX7_allBeds_31 : decode cX7_allBeds 31 = .ok (.ireturn, 1) := by decide +kernel
theorem dX7_keep_0 : decode cX7_keep 0 = .ok (.iload_n 1, 1) := by decide +kernel
theorem dX7_keep_1 : decode cX7_keep 1 = .ok (.iconst 0, 1) := by decide +kernel
theorem dX7_keep_2 : decode cX7_keep 2 = .ok (.iconst 1, 1) := by decide +kernel
theorem dX7_keep_3 : decode cX7_keep 3 = .ok (.invokestatic 59, 3) := by decide +kernel
theorem dX7_keep_6 : decode cX7_keep 6 = .ok (.ifCond .ne 6, 3) := by decide +kernel
theorem dX7_keep_9 : decode cX7_keep 9 = .ok (.ldc 87, 2) := by decide +kernel
theorem dX7_keep_11 : decode cX7_keep 11 = .ok (.ireturn, 1) := by decide +kernel
theorem dX7_keep_12 : decode cX7_keep 12 = .ok (.iconst 0, 1) := by decide +kernel
theorem dX7_keep_13 : decode cX7_keep 13 = .ok (.istore_n 2, 1) := by decide +kernel
theorem dX7_keep_14 : decode cX7_keep 14 = .ok (.iload_n 2, 1) := by decide +kernel
theorem dX7_keep_15 : decode cX7_keep 15 = .ok (.sipush 210, 3) := by decide +kernel
theorem dX7_keep_18 : decode cX7_keep 18 = .ok (.if_icmp .ge 27, 3) := by decide +kernel
theorem dX7_keep_21 : decode cX7_keep 21 = .ok (.aload_n 0, 1) := by decide +kernel
theorem dX7_keep_22 : decode cX7_keep 22 = .ok (.getfield 16, 3) := by decide +kernel
theorem dX7_keep_25 : decode cX7_keep 25 = .ok (.sipush 210, 3) := by decide +kernel
theorem dX7_keep_28 : decode cX7_keep 28 = .ok (.iload_n 1, 1) := by decide +kernel
theorem dX7_keep_29 : decode cX7_keep 29 = .ok (.imul, 1) := by decide +kernel
theorem dX7_keep_30 : decode cX7_keep 30 = .ok (.iload_n 2, 1) := by decide +kernel
theorem dX7_keep_31 : decode cX7_keep 31 = .ok (.iadd, 1) := by decide +kernel
theorem dX7_keep_32 : decode cX7_keep 32 = .ok (.aload_n 0, 1) := by decide +kernel
theorem dX7_keep_33 : decode cX7_keep 33 = .ok (.getfield 7, 3) := by decide +kernel
theorem dX7_keep_36 : decode cX7_keep 36 = .ok (.iload_n 2, 1) := by decide +kernel
theorem dX7_keep_37 : decode cX7_keep 37 = .ok (.iaload, 1) := by decide +kernel
theorem dX7_keep_38 : decode cX7_keep 38 = .ok (.iastore, 1) := by decide +kernel
theorem dX7_keep_39 : decode cX7_keep 39 = .ok (.iinc 2 1, 3) := by decide +kernel
theorem dX7_keep_42 : decode cX7_keep 42 = .ok (.goto (-28), 3) := by decide +kernel
theorem dX7_keep_45 : decode cX7_keep 45 = .ok (.aload_n 0, 1) := by decide +kernel
theorem dX7_keep_46 : decode cX7_keep 46 = .ok (.dup, 1) := by decide +kernel
theorem dX7_keep_47 : decode cX7_keep 47 = .ok (.getfield 138, 3) := by decide +kernel
theorem dX7_keep_50 : decode cX7_keep 50 = .ok (.iconst 1, 1) := by decide +kernel
theorem dX7_keep_51 : decode cX7_keep 51 = .ok (.iload_n 1, 1) := by decide +kernel
theorem dX7_keep_52 : decode cX7_keep 52 = .ok (.ishl, 1) := by decide +kernel
theorem dX7_keep_53 : decode cX7_keep 53 = .ok (.ior, 1) := by decide +kernel
theorem dX7_keep_54 : decode cX7_keep 54 = .ok (.putfield 138, 3) := by decide +kernel
theorem dX7_keep_57 : decode cX7_keep 57 = .ok (.aload_n 0, 1) := by decide +kernel
theorem dX7_keep_58 : decode cX7_keep 58 = .ok (.invokevirtual 141, 3) := by decide +kernel
theorem dX7_keep_61 : decode cX7_keep 61 = .ok (.ireturn, 1) := by decide +kernel
theorem dX7_back_0 : decode cX7_back 0 = .ok (.iload_n 1, 1) := by decide +kernel
theorem dX7_back_1 : decode cX7_back 1 = .ok (.iconst 0, 1) := by decide +kernel
theorem dX7_back_2 : decode cX7_back 2 = .ok (.iconst 1, 1) := by decide +kernel
theorem dX7_back_3 : decode cX7_back 3 = .ok (.invokestatic 59, 3) := by decide +kernel
theorem dX7_back_6 : decode cX7_back 6 = .ok (.ifCond .ne 6, 3) := by decide +kernel
theorem dX7_back_9 : decode cX7_back 9 = .ok (.ldc 87, 2) := by decide +kernel
theorem dX7_back_11 : decode cX7_back 11 = .ok (.ireturn, 1) := by decide +kernel
theorem dX7_back_12 : decode cX7_back 12 = .ok (.aload_n 0, 1) := by decide +kernel
theorem dX7_back_13 : decode cX7_back 13 = .ok (.getfield 138, 3) := by decide +kernel
theorem dX7_back_16 : decode cX7_back 16 = .ok (.iload_n 1, 1) := by decide +kernel
theorem dX7_back_17 : decode cX7_back 17 = .ok (.ishr, 1) := by decide +kernel
theorem dX7_back_18 : decode cX7_back 18 = .ok (.iconst 1, 1) := by decide +kernel
theorem dX7_back_19 : decode cX7_back 19 = .ok (.iand, 1) := by decide +kernel
theorem dX7_back_20 : decode cX7_back 20 = .ok (.ifCond .ne 6, 3) := by decide +kernel
theorem dX7_back_23 : decode cX7_back 23 = .ok (.ldc 144, 2) := by decide +kernel
theorem dX7_back_25 : decode cX7_back 25 = .ok (.ireturn, 1) := by decide +kernel
theorem dX7_back_26 : decode cX7_back 26 = .ok (.aload_n 0, 1) := by decide +kernel
theorem dX7_back_27 : decode cX7_back 27 = .ok (.invokevirtual 77, 3) := by decide +kernel
theorem dX7_back_30 : decode cX7_back 30 = .ok (.iconst 0, 1) := by decide +kernel
theorem dX7_back_31 : decode cX7_back 31 = .ok (.istore_n 2, 1) := by decide +kernel
theorem dX7_back_32 : decode cX7_back 32 = .ok (.iload_n 2, 1) := by decide +kernel
theorem dX7_back_33 : decode cX7_back 33 = .ok (.sipush 210, 3) := by decide +kernel
theorem dX7_back_36 : decode cX7_back 36 = .ok (.if_icmp .ge 27, 3) := by decide +kernel
theorem dX7_back_39 : decode cX7_back 39 = .ok (.aload_n 0, 1) := by decide +kernel
theorem dX7_back_40 : decode cX7_back 40 = .ok (.getfield 7, 3) := by decide +kernel
theorem dX7_back_43 : decode cX7_back 43 = .ok (.iload_n 2, 1) := by decide +kernel
theorem dX7_back_44 : decode cX7_back 44 = .ok (.aload_n 0, 1) := by decide +kernel
theorem dX7_back_45 : decode cX7_back 45 = .ok (.getfield 16, 3) := by decide +kernel
theorem dX7_back_48 : decode cX7_back 48 = .ok (.sipush 210, 3) := by decide +kernel
theorem dX7_back_51 : decode cX7_back 51 = .ok (.iload_n 1, 1) := by decide +kernel
theorem dX7_back_52 : decode cX7_back 52 = .ok (.imul, 1) := by decide +kernel
theorem dX7_back_53 : decode cX7_back 53 = .ok (.iload_n 2, 1) := by decide +kernel
theorem dX7_back_54 : decode cX7_back 54 = .ok (.iadd, 1) := by decide +kernel
theorem dX7_back_55 : decode cX7_back 55 = .ok (.iaload, 1) := by decide +kernel
theorem dX7_back_56 : decode cX7_back 56 = .ok (.iastore, 1) := by decide +kernel
theorem dX7_back_57 : decode cX7_back 57 = .ok (.iinc 2 1, 3) := by decide +kernel
theorem dX7_back_60 : decode cX7_back 60 = .ok (.goto (-28), 3) := by decide +kernel
theorem dX7_back_63 : decode cX7_back 63 = .ok (.aload_n 0, 1) := by decide +kernel
theorem dX7_back_64 : decode cX7_back 64 = .ok (.invokevirtual 141, 3) := by decide +kernel
theorem dX7_back_67 : decode cX7_back 67 = .ok (.ireturn, 1) := by decide +kernel
theorem dX7_undo_0 : decode cX7_undo 0 = .ok (.aload_n 0, 1) := by decide +kernel
theorem dX7_undo_1 : decode cX7_undo 1 = .ok (.getfield 55, 3) := by decide +kernel
theorem dX7_undo_4 : decode cX7_undo 4 = .ok (.ifCond .ne 6, 3) := by decide +kernel
theorem dX7_undo_7 : decode cX7_undo 7 = .ok (.ldc 144, 2) := by decide +kernel
theorem dX7_undo_9 : decode cX7_undo 9 = .ok (.ireturn, 1) := by decide +kernel
theorem dX7_undo_10 : decode cX7_undo 10 = .ok (.aload_n 0, 1) := by decide +kernel
theorem dX7_undo_11 : decode cX7_undo 11 = .ok (.dup, 1) := by decide +kernel
theorem dX7_undo_12 : decode cX7_undo 12 = .ok (.getfield 55, 3) := by decide +kernel
theorem dX7_undo_15 : decode cX7_undo 15 = .ok (.iconst 1, 1) := by decide +kernel
theorem dX7_undo_16 : decode cX7_undo 16 = .ok (.isub, 1) := by decide +kernel
theorem dX7_undo_17 : decode cX7_undo 17 = .ok (.putfield 55, 3) := by decide +kernel
theorem dX7_undo_20 : decode cX7_undo 20 = .ok (.iconst 0, 1) := by decide +kernel
theorem dX7_undo_21 : decode cX7_undo 21 = .ok (.istore_n 1, 1) := by decide +kernel
theorem dX7_undo_22 : decode cX7_undo 22 = .ok (.iload_n 1, 1) := by decide +kernel
theorem dX7_undo_23 : decode cX7_undo 23 = .ok (.sipush 210, 3) := by decide +kernel
theorem dX7_undo_26 : decode cX7_undo 26 = .ok (.if_icmp .ge 30, 3) := by decide +kernel
theorem dX7_undo_29 : decode cX7_undo 29 = .ok (.aload_n 0, 1) := by decide +kernel
theorem dX7_undo_30 : decode cX7_undo 30 = .ok (.getfield 7, 3) := by decide +kernel
theorem dX7_undo_33 : decode cX7_undo 33 = .ok (.iload_n 1, 1) := by decide +kernel
theorem dX7_undo_34 : decode cX7_undo 34 = .ok (.aload_n 0, 1) := by decide +kernel
theorem dX7_undo_35 : decode cX7_undo 35 = .ok (.getfield 13, 3) := by decide +kernel
theorem dX7_undo_38 : decode cX7_undo 38 = .ok (.sipush 210, 3) := by decide +kernel
theorem dX7_undo_41 : decode cX7_undo 41 = .ok (.aload_n 0, 1) := by decide +kernel
theorem dX7_undo_42 : decode cX7_undo 42 = .ok (.getfield 55, 3) := by decide +kernel
theorem dX7_undo_45 : decode cX7_undo 45 = .ok (.imul, 1) := by decide +kernel
theorem dX7_undo_46 : decode cX7_undo 46 = .ok (.iload_n 1, 1) := by decide +kernel
theorem dX7_undo_47 : decode cX7_undo 47 = .ok (.iadd, 1) := by decide +kernel
theorem dX7_undo_48 : decode cX7_undo 48 = .ok (.iaload, 1) := by decide +kernel
theorem dX7_undo_49 : decode cX7_undo 49 = .ok (.iastore, 1) := by decide +kernel
theorem dX7_undo_50 : decode cX7_undo 50 = .ok (.iinc 1 1, 3) := by decide +kernel
theorem dX7_undo_53 : decode cX7_undo 53 = .ok (.goto (-31), 3) := by decide +kernel
theorem dX7_undo_56 : decode cX7_undo 56 = .ok (.aload_n 0, 1) := by decide +kernel
theorem dX7_undo_57 : decode cX7_undo 57 = .ok (.getfield 55, 3) := by decide +kernel
theorem dX7_undo_60 : decode cX7_undo 60 = .ok (.ireturn, 1) := by decide +kernel
theorem dX7_keyMany_0 : decode cX7_keyMany 0 = .ok (.iconst 0, 1) := by decide +kernel
theorem dX7_keyMany_1 : decode cX7_keyMany 1 = .ok (.istore_n 1, 1) := by decide +kernel
theorem dX7_keyMany_2 : decode cX7_keyMany 2 = .ok (.iconst 0, 1) := by decide +kernel
theorem dX7_keyMany_3 : decode cX7_keyMany 3 = .ok (.istore_n 2, 1) := by decide +kernel
theorem dX7_keyMany_4 : decode cX7_keyMany 4 = .ok (.iload_n 2, 1) := by decide +kernel
theorem dX7_keyMany_5 : decode cX7_keyMany 5 = .ok (.bipush 26, 2) := by decide +kernel
theorem dX7_keyMany_7 : decode cX7_keyMany 7 = .ok (.if_icmp .ge 22, 3) := by decide +kernel
theorem dX7_keyMany_10 : decode cX7_keyMany 10 = .ok (.iload_n 1, 1) := by decide +kernel
theorem dX7_keyMany_11 : decode cX7_keyMany 11 = .ok (.aload_n 0, 1) := by decide +kernel
theorem dX7_keyMany_12 : decode cX7_keyMany 12 = .ok (.getfield 7, 3) := by decide +kernel
theorem dX7_keyMany_15 : decode cX7_keyMany 15 = .ok (.iconst 5, 1) := by decide +kernel
theorem dX7_keyMany_16 : decode cX7_keyMany 16 = .ok (.iaload, 1) := by decide +kernel
theorem dX7_keyMany_17 : decode cX7_keyMany 17 = .ok (.iload_n 2, 1) := by decide +kernel
theorem dX7_keyMany_18 : decode cX7_keyMany 18 = .ok (.ishr, 1) := by decide +kernel
theorem dX7_keyMany_19 : decode cX7_keyMany 19 = .ok (.iconst 1, 1) := by decide +kernel
theorem dX7_keyMany_20 : decode cX7_keyMany 20 = .ok (.iand, 1) := by decide +kernel
theorem dX7_keyMany_21 : decode cX7_keyMany 21 = .ok (.iadd, 1) := by decide +kernel
theorem dX7_keyMany_22 : decode cX7_keyMany 22 = .ok (.istore_n 1, 1) := by decide +kernel
theorem dX7_keyMany_23 : decode cX7_keyMany 23 = .ok (.iinc 2 1, 3) := by decide +kernel
theorem dX7_keyMany_26 : decode cX7_keyMany 26 = .ok (.goto (-22), 3) := by decide +kernel
theorem dX7_keyMany_29 : decode cX7_keyMany 29 = .ok (.iload_n 1, 1) := by decide +kernel
theorem dX7_keyMany_30 : decode cX7_keyMany 30 = .ok (.ireturn, 1) := by decide +kernel
theorem dX7_count_0 : decode cX7_count 0 = .ok (.iload_n 1, 1) := by decide +kernel
theorem dX7_count_1 : decode cX7_count 1 = .ok (.tableswitch 60 5 9 #[35, 40, 45, 50, 55], 35) := by decide +kernel
theorem dX7_count_36 : decode cX7_count 36 = .ok (.aload_n 0, 1) := by decide +kernel
theorem dX7_count_37 : decode cX7_count 37 = .ok (.invokevirtual 145, 3) := by decide +kernel
theorem dX7_count_40 : decode cX7_count 40 = .ok (.ireturn, 1) := by decide +kernel
theorem dX7_count_41 : decode cX7_count 41 = .ok (.aload_n 0, 1) := by decide +kernel
theorem dX7_count_42 : decode cX7_count 42 = .ok (.invokevirtual 141, 3) := by decide +kernel
theorem dX7_count_45 : decode cX7_count 45 = .ok (.ireturn, 1) := by decide +kernel
theorem dX7_count_46 : decode cX7_count 46 = .ok (.aload_n 0, 1) := by decide +kernel
theorem dX7_count_47 : decode cX7_count 47 = .ok (.getfield 117, 3) := by decide +kernel
theorem dX7_count_50 : decode cX7_count 50 = .ok (.ireturn, 1) := by decide +kernel
theorem dX7_count_51 : decode cX7_count 51 = .ok (.aload_n 0, 1) := by decide +kernel
theorem dX7_count_52 : decode cX7_count 52 = .ok (.getfield 55, 3) := by decide +kernel
theorem dX7_count_55 : decode cX7_count 55 = .ok (.ireturn, 1) := by decide +kernel
theorem dX7_count_56 : decode cX7_count 56 = .ok (.aload_n 0, 1) := by decide +kernel
theorem dX7_count_57 : decode cX7_count 57 = .ok (.getfield 138, 3) := by decide +kernel
theorem dX7_count_60 : decode cX7_count 60 = .ok (.ireturn, 1) := by decide +kernel
theorem dX7_count_61 : decode cX7_count 61 = .ok (.iload_n 1, 1) := by decide +kernel
theorem dX7_count_62 : decode cX7_count 62 = .ok (.iconst 0, 1) := by decide +kernel
theorem dX7_count_63 : decode cX7_count 63 = .ok (.iconst 4, 1) := by decide +kernel
theorem dX7_count_64 : decode cX7_count 64 = .ok (.invokestatic 59, 3) := by decide +kernel
theorem dX7_count_67 : decode cX7_count 67 = .ok (.ifCond .eq 12, 3) := by decide +kernel
theorem dX7_count_70 : decode cX7_count 70 = .ok (.aload_n 0, 1) := by decide +kernel
theorem dX7_count_71 : decode cX7_count 71 = .ok (.getfield 7, 3) := by decide +kernel
theorem dX7_count_74 : decode cX7_count 74 = .ok (.iload_n 1, 1) := by decide +kernel
theorem dX7_count_75 : decode cX7_count 75 = .ok (.iaload, 1) := by decide +kernel
theorem dX7_count_76 : decode cX7_count 76 = .ok (.goto 5, 3) := by decide +kernel
theorem dX7_count_79 : decode cX7_count 79 = .ok (.ldc 87, 2) := by decide +kernel
theorem dX7_count_81 : decode cX7_count 81 = .ok (.ireturn, 1) := by decide +kernel
theorem dX7_hole_0 : decode cX7_hole 0 = .ok (.iload_n 1, 1) := by decide +kernel
theorem dX7_hole_1 : decode cX7_hole 1 = .ok (.invokestatic 63, 3) := by decide +kernel
theorem dX7_hole_4 : decode cX7_hole 4 = .ok (.ifCond .eq 12, 3) := by decide +kernel
theorem dX7_hole_7 : decode cX7_hole 7 = .ok (.iload_n 2, 1) := by decide +kernel
theorem dX7_hole_8 : decode cX7_hole 8 = .ok (.iconst 0, 1) := by decide +kernel
theorem dX7_hole_9 : decode cX7_hole 9 = .ok (.iconst 2, 1) := by decide +kernel
theorem dX7_hole_10 : decode cX7_hole 10 = .ok (.invokestatic 59, 3) := by decide +kernel
theorem dX7_hole_13 : decode cX7_hole 13 = .ok (.ifCond .ne 6, 3) := by decide +kernel
theorem dX7_hole_16 : decode cX7_hole 16 = .ok (.ldc 87, 2) := by decide +kernel
theorem dX7_hole_18 : decode cX7_hole 18 = .ok (.ireturn, 1) := by decide +kernel
theorem dX7_hole_19 : decode cX7_hole 19 = .ok (.iload_n 2, 1) := by decide +kernel
theorem dX7_hole_20 : decode cX7_hole 20 = .ok (.ifCond .ne 15, 3) := by decide +kernel
theorem dX7_hole_23 : decode cX7_hole 23 = .ok (.aload_n 0, 1) := by decide +kernel
theorem dX7_hole_24 : decode cX7_hole 24 = .ok (.getfield 7, 3) := by decide +kernel
theorem dX7_hole_27 : decode cX7_hole 27 = .ok (.bipush 6, 2) := by decide +kernel
theorem dX7_hole_29 : decode cX7_hole 29 = .ok (.iload_n 1, 1) := by decide +kernel
theorem dX7_hole_30 : decode cX7_hole 30 = .ok (.iadd, 1) := by decide +kernel
theorem dX7_hole_31 : decode cX7_hole 31 = .ok (.iaload, 1) := by decide +kernel
theorem dX7_hole_32 : decode cX7_hole 32 = .ok (.goto 25, 3) := by decide +kernel
theorem dX7_hole_35 : decode cX7_hole 35 = .ok (.iload_n 2, 1) := by decide +kernel
theorem dX7_hole_36 : decode cX7_hole 36 = .ok (.iconst 1, 1) := by decide +kernel
theorem dX7_hole_37 : decode cX7_hole 37 = .ok (.if_icmp .ne 15, 3) := by decide +kernel
theorem dX7_hole_40 : decode cX7_hole 40 = .ok (.aload_n 0, 1) := by decide +kernel
theorem dX7_hole_41 : decode cX7_hole 41 = .ok (.getfield 7, 3) := by decide +kernel
theorem dX7_hole_44 : decode cX7_hole 44 = .ok (.bipush 10, 2) := by decide +kernel
theorem dX7_hole_46 : decode cX7_hole 46 = .ok (.iload_n 1, 1) := by decide +kernel
theorem dX7_hole_47 : decode cX7_hole 47 = .ok (.iadd, 1) := by decide +kernel
theorem dX7_hole_48 : decode cX7_hole 48 = .ok (.iaload, 1) := by decide +kernel
theorem dX7_hole_49 : decode cX7_hole 49 = .ok (.goto 8, 3) := by decide +kernel
theorem dX7_hole_52 : decode cX7_hole 52 = .ok (.aload_n 0, 1) := by decide +kernel
theorem dX7_hole_53 : decode cX7_hole 53 = .ok (.iload_n 1, 1) := by decide +kernel
theorem dX7_hole_54 : decode cX7_hole 54 = .ok (.invokevirtual 110, 3) := by decide +kernel
theorem dX7_hole_57 : decode cX7_hole 57 = .ok (.ireturn, 1) := by decide +kernel
theorem dX7_bed_0 : decode cX7_bed 0 = .ok (.iload_n 1, 1) := by decide +kernel
theorem dX7_bed_1 : decode cX7_bed 1 = .ok (.invokestatic 63, 3) := by decide +kernel
theorem dX7_bed_4 : decode cX7_bed 4 = .ok (.ifCond .eq 16, 3) := by decide +kernel
theorem dX7_bed_7 : decode cX7_bed 7 = .ok (.iload_n 2, 1) := by decide +kernel
theorem dX7_bed_8 : decode cX7_bed 8 = .ok (.ifCond .lt 12, 3) := by decide +kernel
theorem dX7_bed_11 : decode cX7_bed 11 = .ok (.iload_n 3, 1) := by decide +kernel
theorem dX7_bed_12 : decode cX7_bed 12 = .ok (.iconst 0, 1) := by decide +kernel
theorem dX7_bed_13 : decode cX7_bed 13 = .ok (.iconst 3, 1) := by decide +kernel
theorem dX7_bed_14 : decode cX7_bed 14 = .ok (.invokestatic 59, 3) := by decide +kernel
theorem dX7_bed_17 : decode cX7_bed 17 = .ok (.ifCond .ne 6, 3) := by decide +kernel
theorem dX7_bed_20 : decode cX7_bed 20 = .ok (.ldc 87, 2) := by decide +kernel
theorem dX7_bed_22 : decode cX7_bed 22 = .ok (.ireturn, 1) := by decide +kernel
theorem dX7_bed_23 : decode cX7_bed 23 = .ok (.iload_n 2, 1) := by decide +kernel
theorem dX7_bed_24 : decode cX7_bed 24 = .ok (.aload_n 0, 1) := by decide +kernel
theorem dX7_bed_25 : decode cX7_bed 25 = .ok (.getfield 7, 3) := by decide +kernel
theorem dX7_bed_28 : decode cX7_bed 28 = .ok (.bipush 10, 2) := by decide +kernel
theorem dX7_bed_30 : decode cX7_bed 30 = .ok (.iload_n 1, 1) := by decide +kernel
theorem dX7_bed_31 : decode cX7_bed 31 = .ok (.iadd, 1) := by decide +kernel
theorem dX7_bed_32 : decode cX7_bed 32 = .ok (.iaload, 1) := by decide +kernel
theorem dX7_bed_33 : decode cX7_bed 33 = .ok (.if_icmp .lt 6, 3) := by decide +kernel
theorem dX7_bed_36 : decode cX7_bed 36 = .ok (.ldc 148, 2) := by decide +kernel
theorem dX7_bed_38 : decode cX7_bed 38 = .ok (.ireturn, 1) := by decide +kernel
theorem dX7_bed_39 : decode cX7_bed 39 = .ok (.iload_n 3, 1) := by decide +kernel
theorem dX7_bed_40 : decode cX7_bed 40 = .ok (.iconst 2, 1) := by decide +kernel
theorem dX7_bed_41 : decode cX7_bed 41 = .ok (.if_icmp .ge 18, 3) := by decide +kernel
theorem dX7_bed_44 : decode cX7_bed 44 = .ok (.aload_n 0, 1) := by decide +kernel
theorem dX7_bed_45 : decode cX7_bed 45 = .ok (.getfield 7, 3) := by decide +kernel
theorem dX7_bed_48 : decode cX7_bed 48 = .ok (.iload_n 1, 1) := by decide +kernel
theorem dX7_bed_49 : decode cX7_bed 49 = .ok (.iload_n 2, 1) := by decide +kernel
theorem dX7_bed_50 : decode cX7_bed 50 = .ok (.invokestatic 67, 3) := by decide +kernel
theorem dX7_bed_53 : decode cX7_bed 53 = .ok (.iload_n 3, 1) := by decide +kernel
theorem dX7_bed_54 : decode cX7_bed 54 = .ok (.iadd, 1) := by decide +kernel
theorem dX7_bed_55 : decode cX7_bed 55 = .ok (.iaload, 1) := by decide +kernel
theorem dX7_bed_56 : decode cX7_bed 56 = .ok (.goto 33, 3) := by decide +kernel
theorem dX7_bed_59 : decode cX7_bed 59 = .ok (.iload_n 3, 1) := by decide +kernel
theorem dX7_bed_60 : decode cX7_bed 60 = .ok (.iconst 2, 1) := by decide +kernel
theorem dX7_bed_61 : decode cX7_bed 61 = .ok (.if_icmp .ne 12, 3) := by decide +kernel
theorem dX7_bed_64 : decode cX7_bed 64 = .ok (.aload_n 0, 1) := by decide +kernel
theorem dX7_bed_65 : decode cX7_bed 65 = .ok (.iload_n 1, 1) := by decide +kernel
theorem dX7_bed_66 : decode cX7_bed 66 = .ok (.iload_n 2, 1) := by decide +kernel
theorem dX7_bed_67 : decode cX7_bed 67 = .ok (.invokevirtual 74, 3) := by decide +kernel
theorem dX7_bed_70 : decode cX7_bed 70 = .ok (.goto 19, 3) := by decide +kernel
theorem dX7_bed_73 : decode cX7_bed 73 = .ok (.aload_n 0, 1) := by decide +kernel
theorem dX7_bed_74 : decode cX7_bed 74 = .ok (.getfield 7, 3) := by decide +kernel
theorem dX7_bed_77 : decode cX7_bed 77 = .ok (.bipush 6, 2) := by decide +kernel
theorem dX7_bed_79 : decode cX7_bed 79 = .ok (.iload_n 1, 1) := by decide +kernel
theorem dX7_bed_80 : decode cX7_bed 80 = .ok (.iadd, 1) := by decide +kernel
theorem dX7_bed_81 : decode cX7_bed 81 = .ok (.iaload, 1) := by decide +kernel
theorem dX7_bed_82 : decode cX7_bed 82 = .ok (.aload_n 0, 1) := by decide +kernel
theorem dX7_bed_83 : decode cX7_bed 83 = .ok (.iload_n 1, 1) := by decide +kernel
theorem dX7_bed_84 : decode cX7_bed 84 = .ok (.iload_n 2, 1) := by decide +kernel
theorem dX7_bed_85 : decode cX7_bed 85 = .ok (.invokevirtual 74, 3) := by decide +kernel
theorem dX7_bed_88 : decode cX7_bed 88 = .ok (.isub, 1) := by decide +kernel
theorem dX7_bed_89 : decode cX7_bed 89 = .ok (.ireturn, 1) := by decide +kernel
theorem dX7_find_0 : decode cX7_find 0 = .ok (.iload_n 1, 1) := by decide +kernel
theorem dX7_find_1 : decode cX7_find 1 = .ok (.invokestatic 63, 3) := by decide +kernel
theorem dX7_find_4 : decode cX7_find 4 = .ok (.ifCond .eq 14, 3) := by decide +kernel
theorem dX7_find_7 : decode cX7_find 7 = .ok (.iload_n 2, 1) := by decide +kernel
theorem dX7_find_8 : decode cX7_find 8 = .ok (.invokestatic 88, 3) := by decide +kernel
theorem dX7_find_11 : decode cX7_find 11 = .ok (.ifCond .eq 7, 3) := by decide +kernel
theorem dX7_find_14 : decode cX7_find 14 = .ok (.iload_n 3, 1) := by decide +kernel
theorem dX7_find_15 : decode cX7_find 15 = .ok (.ifCond .ge 6, 3) := by decide +kernel
theorem dX7_find_18 : decode cX7_find 18 = .ok (.ldc 87, 2) := by decide +kernel
theorem dX7_find_20 : decode cX7_find 20 = .ok (.ireturn, 1) := by decide +kernel
theorem dX7_find_21 : decode cX7_find 21 = .ok (.iload_n 3, 1) := by decide +kernel
theorem dX7_find_22 : decode cX7_find 22 = .ok (.istore 4, 2) := by decide +kernel
theorem dX7_find_24 : decode cX7_find 24 = .ok (.iconst 0, 1) := by decide +kernel
theorem dX7_find_25 : decode cX7_find 25 = .ok (.istore 5, 2) := by decide +kernel
theorem dX7_find_27 : decode cX7_find 27 = .ok (.iload 5, 2) := by decide +kernel
theorem dX7_find_29 : decode cX7_find 29 = .ok (.aload_n 0, 1) := by decide +kernel
theorem dX7_find_30 : decode cX7_find 30 = .ok (.getfield 7, 3) := by decide +kernel
theorem dX7_find_33 : decode cX7_find 33 = .ok (.bipush 10, 2) := by decide +kernel
theorem dX7_find_35 : decode cX7_find 35 = .ok (.iload_n 1, 1) := by decide +kernel
theorem dX7_find_36 : decode cX7_find 36 = .ok (.iadd, 1) := by decide +kernel
theorem dX7_find_37 : decode cX7_find 37 = .ok (.iaload, 1) := by decide +kernel
theorem dX7_find_38 : decode cX7_find 38 = .ok (.if_icmp .ge 31, 3) := by decide +kernel
theorem dX7_find_41 : decode cX7_find 41 = .ok (.aload_n 0, 1) := by decide +kernel
theorem dX7_find_42 : decode cX7_find 42 = .ok (.iload_n 1, 1) := by decide +kernel
theorem dX7_find_43 : decode cX7_find 43 = .ok (.iload 5, 2) := by decide +kernel
theorem dX7_find_45 : decode cX7_find 45 = .ok (.invokevirtual 107, 3) := by decide +kernel
theorem dX7_find_48 : decode cX7_find 48 = .ok (.iload_n 2, 1) := by decide +kernel
theorem dX7_find_49 : decode cX7_find 49 = .ok (.if_icmp .ne 14, 3) := by decide +kernel
theorem dX7_find_52 : decode cX7_find 52 = .ok (.iload 4, 2) := by decide +kernel
theorem dX7_find_54 : decode cX7_find 54 = .ok (.ifCond .ne 6, 3) := by decide +kernel
theorem dX7_find_57 : decode cX7_find 57 = .ok (.iload 5, 2) := by decide +kernel
theorem dX7_find_59 : decode cX7_find 59 = .ok (.ireturn, 1) := by decide +kernel
theorem dX7_find_60 : decode cX7_find 60 = .ok (.iinc 4 (-1), 3) := by decide +kernel
theorem dX7_find_63 : decode cX7_find 63 = .ok (.iinc 5 1, 3) := by decide +kernel
theorem dX7_find_66 : decode cX7_find 66 = .ok (.goto (-39), 3) := by decide +kernel
theorem dX7_find_69 : decode cX7_find 69 = .ok (.ldc 148, 2) := by decide +kernel
theorem dX7_find_71 : decode cX7_find 71 = .ok (.ireturn, 1) := by decide +kernel
theorem dX7_account_0 : decode cX7_account 0 = .ok (.iload_n 1, 1) := by decide +kernel
theorem dX7_account_1 : decode cX7_account 1 = .ok (.iconst 0, 1) := by decide +kernel
theorem dX7_account_2 : decode cX7_account 2 = .ok (.iconst 4, 1) := by decide +kernel
theorem dX7_account_3 : decode cX7_account 3 = .ok (.invokestatic 59, 3) := by decide +kernel
theorem dX7_account_6 : decode cX7_account 6 = .ok (.ifCond .ne 6, 3) := by decide +kernel
theorem dX7_account_9 : decode cX7_account 9 = .ok (.ldc 87, 2) := by decide +kernel
theorem dX7_account_11 : decode cX7_account 11 = .ok (.ireturn, 1) := by decide +kernel
theorem dX7_account_12 : decode cX7_account 12 = .ok (.iload_n 1, 1) := by decide +kernel
theorem dX7_account_13 : decode cX7_account 13 = .ok (.ifCond .ne 29, 3) := by decide +kernel
theorem dX7_account_16 : decode cX7_account 16 = .ok (.aload_n 0, 1) := by decide +kernel
theorem dX7_account_17 : decode cX7_account 17 = .ok (.iconst 0, 1) := by decide +kernel
theorem dX7_account_18 : decode cX7_account 18 = .ok (.invokevirtual 110, 3) := by decide +kernel
theorem dX7_account_21 : decode cX7_account 21 = .ok (.aload_n 0, 1) := by decide +kernel
theorem dX7_account_22 : decode cX7_account 22 = .ok (.iconst 1, 1) := by decide +kernel
theorem dX7_account_23 : decode cX7_account 23 = .ok (.invokevirtual 110, 3) := by decide +kernel
theorem dX7_account_26 : decode cX7_account 26 = .ok (.iadd, 1) := by decide +kernel
theorem dX7_account_27 : decode cX7_account 27 = .ok (.aload_n 0, 1) := by decide +kernel
theorem dX7_account_28 : decode cX7_account 28 = .ok (.iconst 2, 1) := by decide +kernel
theorem dX7_account_29 : decode cX7_account 29 = .ok (.invokevirtual 110, 3) := by decide +kernel
theorem dX7_account_32 : decode cX7_account 32 = .ok (.iadd, 1) := by decide +kernel
theorem dX7_account_33 : decode cX7_account 33 = .ok (.aload_n 0, 1) := by decide +kernel
theorem dX7_account_34 : decode cX7_account 34 = .ok (.iconst 3, 1) := by decide +kernel
theorem dX7_account_35 : decode cX7_account 35 = .ok (.invokevirtual 110, 3) := by decide +kernel
theorem dX7_account_38 : decode cX7_account 38 = .ok (.iadd, 1) := by decide +kernel
theorem dX7_account_39 : decode cX7_account 39 = .ok (.goto 14, 3) := by decide +kernel
theorem dX7_account_42 : decode cX7_account 42 = .ok (.aload_n 0, 1) := by decide +kernel
theorem dX7_account_43 : decode cX7_account 43 = .ok (.getfield 7, 3) := by decide +kernel
theorem dX7_account_46 : decode cX7_account 46 = .ok (.bipush 14, 2) := by decide +kernel
theorem dX7_account_48 : decode cX7_account 48 = .ok (.iload_n 1, 1) := by decide +kernel
theorem dX7_account_49 : decode cX7_account 49 = .ok (.iadd, 1) := by decide +kernel
theorem dX7_account_50 : decode cX7_account 50 = .ok (.iconst 1, 1) := by decide +kernel
theorem dX7_account_51 : decode cX7_account 51 = .ok (.isub, 1) := by decide +kernel
theorem dX7_account_52 : decode cX7_account 52 = .ok (.iaload, 1) := by decide +kernel
theorem dX7_account_53 : decode cX7_account 53 = .ok (.ireturn, 1) := by decide +kernel
theorem dX7_differ_0 : decode cX7_differ 0 = .ok (.aload_n 0, 1) := by decide +kernel
theorem dX7_differ_1 : decode cX7_differ 1 = .ok (.iload_n 1, 1) := by decide +kernel
theorem dX7_differ_2 : decode cX7_differ 2 = .ok (.iload_n 2, 1) := by decide +kernel
theorem dX7_differ_3 : decode cX7_differ 3 = .ok (.invokevirtual 71, 3) := by decide +kernel
theorem dX7_differ_6 : decode cX7_differ 6 = .ok (.aload_n 0, 1) := by decide +kernel
theorem dX7_differ_7 : decode cX7_differ 7 = .ok (.iload_n 3, 1) := by decide +kernel
theorem dX7_differ_8 : decode cX7_differ 8 = .ok (.iload 4, 2) := by decide +kernel
theorem dX7_differ_10 : decode cX7_differ 10 = .ok (.invokevirtual 71, 3) := by decide +kernel
theorem dX7_differ_13 : decode cX7_differ 13 = .ok (.isub, 1) := by decide +kernel
theorem dX7_differ_14 : decode cX7_differ 14 = .ok (.istore 5, 2) := by decide +kernel
theorem dX7_differ_16 : decode cX7_differ 16 = .ok (.aload_n 0, 1) := by decide +kernel
theorem dX7_differ_17 : decode cX7_differ 17 = .ok (.getfield 7, 3) := by decide +kernel
theorem dX7_differ_20 : decode cX7_differ 20 = .ok (.iconst 2, 1) := by decide +kernel
theorem dX7_differ_21 : decode cX7_differ 21 = .ok (.iaload, 1) := by decide +kernel
theorem dX7_differ_22 : decode cX7_differ 22 = .ok (.iload 5, 2) := by decide +kernel
theorem dX7_differ_24 : decode cX7_differ 24 = .ok (.ifCond .ge 9, 3) := by decide +kernel
theorem dX7_differ_27 : decode cX7_differ 27 = .ok (.iload 5, 2) := by decide +kernel
theorem dX7_differ_29 : decode cX7_differ 29 = .ok (.ineg, 1) := by decide +kernel
theorem dX7_differ_30 : decode cX7_differ 30 = .ok (.goto 5, 3) := by decide +kernel
theorem dX7_differ_33 : decode cX7_differ 33 = .ok (.iload 5, 2) := by decide +kernel
theorem dX7_differ_35 : decode cX7_differ 35 = .ok (.imul, 1) := by decide +kernel
theorem dX7_differ_36 : decode cX7_differ 36 = .ok (.ireturn, 1) := by decide +kernel
theorem dX7_missing_0 : decode cX7_missing 0 = .ok (.aload_n 0, 1) := by decide +kernel
theorem dX7_missing_1 : decode cX7_missing 1 = .ok (.getfield 7, 3) := by decide +kernel
theorem dX7_missing_4 : decode cX7_missing 4 = .ok (.iconst 5, 1) := by decide +kernel
theorem dX7_missing_5 : decode cX7_missing 5 = .ok (.iaload, 1) := by decide +kernel
theorem dX7_missing_6 : decode cX7_missing 6 = .ok (.iload_n 1, 1) := by decide +kernel
theorem dX7_missing_7 : decode cX7_missing 7 = .ok (.ishr, 1) := by decide +kernel
theorem dX7_missing_8 : decode cX7_missing 8 = .ok (.iconst 1, 1) := by decide +kernel
theorem dX7_missing_9 : decode cX7_missing 9 = .ok (.iand, 1) := by decide +kernel
theorem dX7_missing_10 : decode cX7_missing 10 = .ok (.iconst 1, 1) := by decide +kernel
theorem dX7_missing_11 : decode cX7_missing 11 = .ok (.if_icmp .ne 14, 3) := by decide +kernel
theorem dX7_missing_14 : decode cX7_missing 14 = .ok (.iconst 3, 1) := by decide +kernel
theorem dX7_missing_15 : decode cX7_missing 15 = .ok (.aload_n 0, 1) := by decide +kernel
theorem dX7_missing_16 : decode cX7_missing 16 = .ok (.getfield 7, 3) := by decide +kernel
theorem dX7_missing_19 : decode cX7_missing 19 = .ok (.iconst 0, 1) := by decide +kernel
theorem dX7_missing_20 : decode cX7_missing 20 = .ok (.iaload, 1) := by decide +kernel
theorem dX7_missing_21 : decode cX7_missing 21 = .ok (.imul, 1) := by decide +kernel
theorem dX7_missing_22 : decode cX7_missing 22 = .ok (.goto 9, 3) := by decide +kernel
theorem dX7_missing_25 : decode cX7_missing 25 = .ok (.aload_n 0, 1) := by decide +kernel
theorem dX7_missing_26 : decode cX7_missing 26 = .ok (.getfield 7, 3) := by decide +kernel
theorem dX7_missing_29 : decode cX7_missing 29 = .ok (.iconst 0, 1) := by decide +kernel
theorem dX7_missing_30 : decode cX7_missing 30 = .ok (.iaload, 1) := by decide +kernel
theorem dX7_missing_31 : decode cX7_missing 31 = .ok (.ireturn, 1) := by decide +kernel
theorem dX7_repeated_0 : decode cX7_repeated 0 = .ok (.iload_n 2, 1) := by decide +kernel
theorem dX7_repeated_1 : decode cX7_repeated 1 = .ok (.iconst 1, 1) := by decide +kernel
theorem dX7_repeated_2 : decode cX7_repeated 2 = .ok (.isub, 1) := by decide +kernel
theorem dX7_repeated_3 : decode cX7_repeated 3 = .ok (.istore 5, 2) := by decide +kernel
theorem dX7_repeated_5 : decode cX7_repeated 5 = .ok (.iload 5, 2) := by decide +kernel
theorem dX7_repeated_7 : decode cX7_repeated 7 = .ok (.ifCond .lt 42, 3) := by decide +kernel
theorem dX7_repeated_10 : decode cX7_repeated 10 = .ok (.iload 5, 2) := by decide +kernel
theorem dX7_repeated_12 : decode cX7_repeated 12 = .ok (.iload_n 2, 1) := by decide +kernel
theorem dX7_repeated_13 : decode cX7_repeated 13 = .ok (.aload_n 0, 1) := by decide +kernel
theorem dX7_repeated_14 : decode cX7_repeated 14 = .ok (.getfield 7, 3) := by decide +kernel
theorem dX7_repeated_17 : decode cX7_repeated 17 = .ok (.iconst 3, 1) := by decide +kernel
theorem dX7_repeated_18 : decode cX7_repeated 18 = .ok (.iaload, 1) := by decide +kernel
theorem dX7_repeated_19 : decode cX7_repeated 19 = .ok (.isub, 1) := by decide +kernel
theorem dX7_repeated_20 : decode cX7_repeated 20 = .ok (.if_icmp .lt 29, 3) := by decide +kernel
theorem dX7_repeated_23 : decode cX7_repeated 23 = .ok (.aload_n 0, 1) := by decide +kernel
theorem dX7_repeated_24 : decode cX7_repeated 24 = .ok (.iload_n 1, 1) := by decide +kernel
theorem dX7_repeated_25 : decode cX7_repeated 25 = .ok (.iload 5, 2) := by decide +kernel
theorem dX7_repeated_27 : decode cX7_repeated 27 = .ok (.invokevirtual 107, 3) := by decide +kernel
theorem dX7_repeated_30 : decode cX7_repeated 30 = .ok (.aload_n 0, 1) := by decide +kernel
theorem dX7_repeated_31 : decode cX7_repeated 31 = .ok (.iload_n 3, 1) := by decide +kernel
theorem dX7_repeated_32 : decode cX7_repeated 32 = .ok (.iload 4, 2) := by decide +kernel
theorem dX7_repeated_34 : decode cX7_repeated 34 = .ok (.invokevirtual 107, 3) := by decide +kernel
theorem dX7_repeated_37 : decode cX7_repeated 37 = .ok (.if_icmp .ne 6, 3) := by decide +kernel
theorem dX7_repeated_40 : decode cX7_repeated 40 = .ok (.iload 5, 2) := by decide +kernel
theorem dX7_repeated_42 : decode cX7_repeated 42 = .ok (.ireturn, 1) := by decide +kernel
theorem dX7_repeated_43 : decode cX7_repeated 43 = .ok (.iinc 5 (-1), 3) := by decide +kernel
theorem dX7_repeated_46 : decode cX7_repeated 46 = .ok (.goto (-41), 3) := by decide +kernel
theorem dX7_repeated_49 : decode cX7_repeated 49 = .ok (.iconst (-1), 1) := by decide +kernel
theorem dX7_repeated_50 : decode cX7_repeated 50 = .ok (.ireturn, 1) := by decide +kernel
theorem dX7_costOf_0 : decode cX7_costOf 0 = .ok (.aload_n 0, 1) := by decide +kernel
theorem dX7_costOf_1 : decode cX7_costOf 1 = .ok (.getfield 7, 3) := by decide +kernel
theorem dX7_costOf_4 : decode cX7_costOf 4 = .ok (.bipush 10, 2) := by decide +kernel
theorem dX7_costOf_6 : decode cX7_costOf 6 = .ok (.iload_n 1, 1) := by decide +kernel
theorem dX7_costOf_7 : decode cX7_costOf 7 = .ok (.iadd, 1) := by decide +kernel
theorem dX7_costOf_8 : decode cX7_costOf 8 = .ok (.iaload, 1) := by decide +kernel
theorem dX7_costOf_9 : decode cX7_costOf 9 = .ok (.istore 6, 2) := by decide +kernel
theorem dX7_costOf_11 : decode cX7_costOf 11 = .ok (.aload_n 0, 1) := by decide +kernel
theorem dX7_costOf_12 : decode cX7_costOf 12 = .ok (.getfield 7, 3) := by decide +kernel
theorem dX7_costOf_15 : decode cX7_costOf 15 = .ok (.bipush 10, 2) := by decide +kernel
theorem dX7_costOf_17 : decode cX7_costOf 17 = .ok (.iload_n 3, 1) := by decide +kernel
theorem dX7_costOf_18 : decode cX7_costOf 18 = .ok (.iadd, 1) := by decide +kernel
theorem dX7_costOf_19 : decode cX7_costOf 19 = .ok (.iaload, 1) := by decide +kernel
theorem dX7_costOf_20 : decode cX7_costOf 20 = .ok (.istore 7, 2) := by decide +kernel
theorem dX7_costOf_22 : decode cX7_costOf 22 = .ok (.iload 5, 2) := by decide +kernel
theorem dX7_costOf_24 : decode cX7_costOf 24 = .ok (.iconst 1, 1) := by decide +kernel
theorem dX7_costOf_25 : decode cX7_costOf 25 = .ok (.if_icmp .ne 63, 3) := by decide +kernel
theorem dX7_costOf_28 : decode cX7_costOf 28 = .ok (.iload_n 2, 1) := by decide +kernel
theorem dX7_costOf_29 : decode cX7_costOf 29 = .ok (.iload 6, 2) := by decide +kernel
theorem dX7_costOf_31 : decode cX7_costOf 31 = .ok (.if_icmp .ge 55, 3) := by decide +kernel
theorem dX7_costOf_34 : decode cX7_costOf 34 = .ok (.iload 4, 2) := by decide +kernel
theorem dX7_costOf_36 : decode cX7_costOf 36 = .ok (.iload 7, 2) := by decide +kernel
theorem dX7_costOf_38 : decode cX7_costOf 38 = .ok (.if_icmp .ge 48, 3) := by decide +kernel
theorem dX7_costOf_41 : decode cX7_costOf 41 = .ok (.aload_n 0, 1) := by decide +kernel
theorem dX7_costOf_42 : decode cX7_costOf 42 = .ok (.iload_n 1, 1) := by decide +kernel
theorem dX7_costOf_43 : decode cX7_costOf 43 = .ok (.iload_n 2, 1) := by decide +kernel
theorem dX7_costOf_44 : decode cX7_costOf 44 = .ok (.invokevirtual 107, 3) := by decide +kernel
theorem dX7_costOf_47 : decode cX7_costOf 47 = .ok (.aload_n 0, 1) := by decide +kernel
theorem dX7_costOf_48 : decode cX7_costOf 48 = .ok (.iload_n 3, 1) := by decide +kernel
theorem dX7_costOf_49 : decode cX7_costOf 49 = .ok (.iload 4, 2) := by decide +kernel
theorem dX7_costOf_51 : decode cX7_costOf 51 = .ok (.invokevirtual 107, 3) := by decide +kernel
theorem dX7_costOf_54 : decode cX7_costOf 54 = .ok (.if_icmp .ne 32, 3) := by decide +kernel
theorem dX7_costOf_57 : decode cX7_costOf 57 = .ok (.aload_n 0, 1) := by decide +kernel
theorem dX7_costOf_58 : decode cX7_costOf 58 = .ok (.iload_n 1, 1) := by decide +kernel
theorem dX7_costOf_59 : decode cX7_costOf 59 = .ok (.iload_n 2, 1) := by decide +kernel
theorem dX7_costOf_60 : decode cX7_costOf 60 = .ok (.iload_n 3, 1) := by decide +kernel
theorem dX7_costOf_61 : decode cX7_costOf 61 = .ok (.iload 4, 2) := by decide +kernel
theorem dX7_costOf_63 : decode cX7_costOf 63 = .ok (.invokevirtual 149, 3) := by decide +kernel
theorem dX7_costOf_66 : decode cX7_costOf 66 = .ok (.aload_n 0, 1) := by decide +kernel
theorem dX7_costOf_67 : decode cX7_costOf 67 = .ok (.getfield 31, 3) := by decide +kernel
theorem dX7_costOf_70 : decode cX7_costOf 70 = .ok (.bipush 25, 2) := by decide +kernel
theorem dX7_costOf_72 : decode cX7_costOf 72 = .ok (.iload_n 2, 1) := by decide +kernel
theorem dX7_costOf_73 : decode cX7_costOf 73 = .ok (.iconst 1, 1) := by decide +kernel
theorem dX7_costOf_74 : decode cX7_costOf 74 = .ok (.iadd, 1) := by decide +kernel
theorem dX7_costOf_75 : decode cX7_costOf 75 = .ok (.imul, 1) := by decide +kernel
theorem dX7_costOf_76 : decode cX7_costOf 76 = .ok (.iload 4, 2) := by decide +kernel
theorem dX7_costOf_78 : decode cX7_costOf 78 = .ok (.iadd, 1) := by decide +kernel
theorem dX7_costOf_79 : decode cX7_costOf 79 = .ok (.iconst 1, 1) := by decide +kernel
theorem dX7_costOf_80 : decode cX7_costOf 80 = .ok (.iadd, 1) := by decide +kernel
theorem dX7_costOf_81 : decode cX7_costOf 81 = .ok (.iaload, 1) := by decide +kernel
theorem dX7_costOf_82 : decode cX7_costOf 82 = .ok (.iadd, 1) := by decide +kernel
theorem dX7_costOf_83 : decode cX7_costOf 83 = .ok (.goto 4, 3) := by decide +kernel
theorem dX7_costOf_86 : decode cX7_costOf 86 = .ok (.iconst (-1), 1) := by decide +kernel
theorem dX7_costOf_87 : decode cX7_costOf 87 = .ok (.ireturn, 1) := by decide +kernel
theorem dX7_costOf_88 : decode cX7_costOf 88 = .ok (.iload 5, 2) := by decide +kernel
theorem dX7_costOf_90 : decode cX7_costOf 90 = .ok (.iconst 2, 1) := by decide +kernel
theorem dX7_costOf_91 : decode cX7_costOf 91 = .ok (.if_icmp .ne 39, 3) := by decide +kernel
theorem dX7_costOf_94 : decode cX7_costOf 94 = .ok (.iload_n 2, 1) := by decide +kernel
theorem dX7_costOf_95 : decode cX7_costOf 95 = .ok (.iload 6, 2) := by decide +kernel
theorem dX7_costOf_97 : decode cX7_costOf 97 = .ok (.if_icmp .ge 31, 3) := by decide +kernel
theorem dX7_costOf_100 : decode cX7_costOf 100 = .ok (.aload_n 0, 1) := by decide +kernel
theorem dX7_costOf_101 : decode cX7_costOf 101 = .ok (.aload_n 0, 1) := by decide +kernel
theorem dX7_costOf_102 : decode cX7_costOf 102 = .ok (.iload_n 1, 1) := by decide +kernel
theorem dX7_costOf_103 : decode cX7_costOf 103 = .ok (.iload_n 2, 1) := by decide +kernel
theorem dX7_costOf_104 : decode cX7_costOf 104 = .ok (.invokevirtual 107, 3) := by decide +kernel
theorem dX7_costOf_107 : decode cX7_costOf 107 = .ok (.invokevirtual 153, 3) := by decide +kernel
theorem dX7_costOf_110 : decode cX7_costOf 110 = .ok (.aload_n 0, 1) := by decide +kernel
theorem dX7_costOf_111 : decode cX7_costOf 111 = .ok (.getfield 31, 3) := by decide +kernel
theorem dX7_costOf_114 : decode cX7_costOf 114 = .ok (.bipush 25, 2) := by decide +kernel
theorem dX7_costOf_116 : decode cX7_costOf 116 = .ok (.iload_n 2, 1) := by decide +kernel
theorem dX7_costOf_117 : decode cX7_costOf 117 = .ok (.iconst 1, 1) := by decide +kernel
theorem dX7_costOf_118 : decode cX7_costOf 118 = .ok (.iadd, 1) := by decide +kernel
theorem dX7_costOf_119 : decode cX7_costOf 119 = .ok (.imul, 1) := by decide +kernel
theorem dX7_costOf_120 : decode cX7_costOf 120 = .ok (.iload 4, 2) := by decide +kernel
theorem dX7_costOf_122 : decode cX7_costOf 122 = .ok (.iadd, 1) := by decide +kernel
theorem dX7_costOf_123 : decode cX7_costOf 123 = .ok (.iaload, 1) := by decide +kernel
theorem dX7_costOf_124 : decode cX7_costOf 124 = .ok (.iadd, 1) := by decide +kernel
theorem dX7_costOf_125 : decode cX7_costOf 125 = .ok (.goto 4, 3) := by decide +kernel
theorem dX7_costOf_128 : decode cX7_costOf 128 = .ok (.iconst (-1), 1) := by decide +kernel
theorem dX7_costOf_129 : decode cX7_costOf 129 = .ok (.ireturn, 1) := by decide +kernel
theorem dX7_costOf_130 : decode cX7_costOf 130 = .ok (.iload 4, 2) := by decide +kernel
theorem dX7_costOf_132 : decode cX7_costOf 132 = .ok (.iload 7, 2) := by decide +kernel
theorem dX7_costOf_134 : decode cX7_costOf 134 = .ok (.if_icmp .ne 5, 3) := by decide +kernel
theorem dX7_costOf_137 : decode cX7_costOf 137 = .ok (.iconst (-1), 1) := by decide +kernel
theorem dX7_costOf_138 : decode cX7_costOf 138 = .ok (.ireturn, 1) := by decide +kernel
theorem dX7_costOf_139 : decode cX7_costOf 139 = .ok (.iload 5, 2) := by decide +kernel
theorem dX7_costOf_141 : decode cX7_costOf 141 = .ok (.iconst 4, 1) := by decide +kernel
theorem dX7_costOf_142 : decode cX7_costOf 142 = .ok (.if_icmp .ne 30, 3) := by decide +kernel
theorem dX7_costOf_145 : decode cX7_costOf 145 = .ok (.aload_n 0, 1) := by decide +kernel
theorem dX7_costOf_146 : decode cX7_costOf 146 = .ok (.aload_n 0, 1) := by decide +kernel
theorem dX7_costOf_147 : decode cX7_costOf 147 = .ok (.iload_n 3, 1) := by decide +kernel
theorem dX7_costOf_148 : decode cX7_costOf 148 = .ok (.iload 4, 2) := by decide +kernel
theorem dX7_costOf_150 : decode cX7_costOf 150 = .ok (.invokevirtual 107, 3) := by decide +kernel
theorem dX7_costOf_153 : decode cX7_costOf 153 = .ok (.invokevirtual 153, 3) := by decide +kernel
theorem dX7_costOf_156 : decode cX7_costOf 156 = .ok (.aload_n 0, 1) := by decide +kernel
theorem dX7_costOf_157 : decode cX7_costOf 157 = .ok (.getfield 31, 3) := by decide +kernel
theorem dX7_costOf_160 : decode cX7_costOf 160 = .ok (.bipush 25, 2) := by decide +kernel
theorem dX7_costOf_162 : decode cX7_costOf 162 = .ok (.iload_n 2, 1) := by decide +kernel
theorem dX7_costOf_163 : decode cX7_costOf 163 = .ok (.imul, 1) := by decide +kernel
theorem dX7_costOf_164 : decode cX7_costOf 164 = .ok (.iload 4, 2) := by decide +kernel
theorem dX7_costOf_166 : decode cX7_costOf 166 = .ok (.iadd, 1) := by decide +kernel
theorem dX7_costOf_167 : decode cX7_costOf 167 = .ok (.iconst 1, 1) := by decide +kernel
theorem dX7_costOf_168 : decode cX7_costOf 168 = .ok (.iadd, 1) := by decide +kernel
theorem dX7_costOf_169 : decode cX7_costOf 169 = .ok (.iaload, 1) := by decide +kernel
theorem dX7_costOf_170 : decode cX7_costOf 170 = .ok (.iadd, 1) := by decide +kernel
theorem dX7_costOf_171 : decode cX7_costOf 171 = .ok (.ireturn, 1) := by decide +kernel
theorem dX7_costOf_172 : decode cX7_costOf 172 = .ok (.aload_n 0, 1) := by decide +kernel
theorem dX7_costOf_173 : decode cX7_costOf 173 = .ok (.iload_n 1, 1) := by decide +kernel
theorem dX7_costOf_174 : decode cX7_costOf 174 = .ok (.iload_n 2, 1) := by decide +kernel
theorem dX7_costOf_175 : decode cX7_costOf 175 = .ok (.iload_n 3, 1) := by decide +kernel
theorem dX7_costOf_176 : decode cX7_costOf 176 = .ok (.iload 4, 2) := by decide +kernel
theorem dX7_costOf_178 : decode cX7_costOf 178 = .ok (.invokevirtual 156, 3) := by decide +kernel
theorem dX7_costOf_181 : decode cX7_costOf 181 = .ok (.istore 8, 2) := by decide +kernel
theorem dX7_costOf_183 : decode cX7_costOf 183 = .ok (.iload 8, 2) := by decide +kernel
theorem dX7_costOf_185 : decode cX7_costOf 185 = .ok (.ifCond .ge 7, 3) := by decide +kernel
theorem dX7_costOf_188 : decode cX7_costOf 188 = .ok (.iconst (-1), 1) := by decide +kernel
theorem dX7_costOf_189 : decode cX7_costOf 189 = .ok (.goto 35, 3) := by decide +kernel
theorem dX7_costOf_192 : decode cX7_costOf 192 = .ok (.aload_n 0, 1) := by decide +kernel
theorem dX7_costOf_193 : decode cX7_costOf 193 = .ok (.getfield 7, 3) := by decide +kernel
theorem dX7_costOf_196 : decode cX7_costOf 196 = .ok (.iconst 1, 1) := by decide +kernel
theorem dX7_costOf_197 : decode cX7_costOf 197 = .ok (.iaload, 1) := by decide +kernel
theorem dX7_costOf_198 : decode cX7_costOf 198 = .ok (.aload_n 0, 1) := by decide +kernel
theorem dX7_costOf_199 : decode cX7_costOf 199 = .ok (.iload_n 1, 1) := by decide +kernel
theorem dX7_costOf_200 : decode cX7_costOf 200 = .ok (.iload 8, 2) := by decide +kernel
theorem dX7_costOf_202 : decode cX7_costOf 202 = .ok (.iload_n 3, 1) := by decide +kernel
theorem dX7_costOf_203 : decode cX7_costOf 203 = .ok (.iload 4, 2) := by decide +kernel
theorem dX7_costOf_205 : decode cX7_costOf 205 = .ok (.invokevirtual 149, 3) := by decide +kernel
theorem dX7_costOf_208 : decode cX7_costOf 208 = .ok (.iadd, 1) := by decide +kernel
theorem dX7_costOf_209 : decode cX7_costOf 209 = .ok (.aload_n 0, 1) := by decide +kernel
theorem dX7_costOf_210 : decode cX7_costOf 210 = .ok (.getfield 31, 3) := by decide +kernel
theorem dX7_costOf_213 : decode cX7_costOf 213 = .ok (.bipush 25, 2) := by decide +kernel
theorem dX7_costOf_215 : decode cX7_costOf 215 = .ok (.iload_n 2, 1) := by decide +kernel
theorem dX7_costOf_216 : decode cX7_costOf 216 = .ok (.imul, 1) := by decide +kernel
theorem dX7_costOf_217 : decode cX7_costOf 217 = .ok (.iload 4, 2) := by decide +kernel
theorem dX7_costOf_219 : decode cX7_costOf 219 = .ok (.iadd, 1) := by decide +kernel
theorem dX7_costOf_220 : decode cX7_costOf 220 = .ok (.iconst 1, 1) := by decide +kernel
theorem dX7_costOf_221 : decode cX7_costOf 221 = .ok (.iadd, 1) := by decide +kernel
theorem dX7_costOf_222 : decode cX7_costOf 222 = .ok (.iaload, 1) := by decide +kernel
theorem dX7_costOf_223 : decode cX7_costOf 223 = .ok (.iadd, 1) := by decide +kernel
theorem dX7_costOf_224 : decode cX7_costOf 224 = .ok (.ireturn, 1) := by decide +kernel
theorem dX7_fills_0 : decode cX7_fills 0 = .ok (.aload_n 0, 1) := by decide +kernel
theorem dX7_fills_1 : decode cX7_fills 1 = .ok (.getfield 7, 3) := by decide +kernel
theorem dX7_fills_4 : decode cX7_fills 4 = .ok (.bipush 10, 2) := by decide +kernel
theorem dX7_fills_6 : decode cX7_fills 6 = .ok (.iload_n 1, 1) := by decide +kernel
theorem dX7_fills_7 : decode cX7_fills 7 = .ok (.iadd, 1) := by decide +kernel
theorem dX7_fills_8 : decode cX7_fills 8 = .ok (.iaload, 1) := by decide +kernel
theorem dX7_fills_9 : decode cX7_fills 9 = .ok (.istore_n 3, 1) := by decide +kernel
theorem dX7_fills_10 : decode cX7_fills 10 = .ok (.iload_n 3, 1) := by decide +kernel
theorem dX7_fills_11 : decode cX7_fills 11 = .ok (.ifCond .lt 133, 3) := by decide +kernel
theorem dX7_fills_14 : decode cX7_fills 14 = .ok (.aload_n 0, 1) := by decide +kernel
theorem dX7_fills_15 : decode cX7_fills 15 = .ok (.getfield 7, 3) := by decide +kernel
theorem dX7_fills_18 : decode cX7_fills 18 = .ok (.bipush 10, 2) := by decide +kernel
theorem dX7_fills_20 : decode cX7_fills 20 = .ok (.iload_n 2, 1) := by decide +kernel
theorem dX7_fills_21 : decode cX7_fills 21 = .ok (.iadd, 1) := by decide +kernel
theorem dX7_fills_22 : decode cX7_fills 22 = .ok (.iaload, 1) := by decide +kernel
theorem dX7_fills_23 : decode cX7_fills 23 = .ok (.istore 4, 2) := by decide +kernel
theorem dX7_fills_25 : decode cX7_fills 25 = .ok (.iload 4, 2) := by decide +kernel
theorem dX7_fills_27 : decode cX7_fills 27 = .ok (.ifCond .lt 111, 3) := by decide +kernel
theorem dX7_fills_30 : decode cX7_fills 30 = .ok (.iload_n 3, 1) := by decide +kernel
theorem dX7_fills_31 : decode cX7_fills 31 = .ok (.aload_n 0, 1) := by decide +kernel
theorem dX7_fills_32 : decode cX7_fills 32 = .ok (.getfield 7, 3) := by decide +kernel
theorem dX7_fills_35 : decode cX7_fills 35 = .ok (.bipush 10, 2) := by decide +kernel
theorem dX7_fills_37 : decode cX7_fills 37 = .ok (.iload_n 1, 1) := by decide +kernel
theorem dX7_fills_38 : decode cX7_fills 38 = .ok (.iadd, 1) := by decide +kernel
theorem dX7_fills_39 : decode cX7_fills 39 = .ok (.iaload, 1) := by decide +kernel
theorem dX7_fills_40 : decode cX7_fills 40 = .ok (.if_icmp .ne 21, 3) := by decide +kernel
theorem dX7_fills_43 : decode cX7_fills 43 = .ok (.iload 4, 2) := by decide +kernel
theorem dX7_fills_45 : decode cX7_fills 45 = .ok (.aload_n 0, 1) := by decide +kernel
theorem dX7_fills_46 : decode cX7_fills 46 = .ok (.getfield 7, 3) := by decide +kernel
theorem dX7_fills_49 : decode cX7_fills 49 = .ok (.bipush 10, 2) := by decide +kernel
theorem dX7_fills_51 : decode cX7_fills 51 = .ok (.iload_n 2, 1) := by decide +kernel
theorem dX7_fills_52 : decode cX7_fills 52 = .ok (.iadd, 1) := by decide +kernel
theorem dX7_fills_53 : decode cX7_fills 53 = .ok (.iaload, 1) := by decide +kernel
theorem dX7_fills_54 : decode cX7_fills 54 = .ok (.if_icmp .ne 7, 3) := by decide +kernel
theorem dX7_fills_57 : decode cX7_fills 57 = .ok (.iconst 0, 1) := by decide +kernel
theorem dX7_fills_58 : decode cX7_fills 58 = .ok (.goto 4, 3) := by decide +kernel
theorem dX7_fills_61 : decode cX7_fills 61 = .ok (.iconst (-1), 1) := by decide +kernel
theorem dX7_fills_62 : decode cX7_fills 62 = .ok (.istore 5, 2) := by decide +kernel
theorem dX7_fills_64 : decode cX7_fills 64 = .ok (.iconst 1, 1) := by decide +kernel
theorem dX7_fills_65 : decode cX7_fills 65 = .ok (.istore 6, 2) := by decide +kernel
theorem dX7_fills_67 : decode cX7_fills 67 = .ok (.iload 6, 2) := by decide +kernel
theorem dX7_fills_69 : decode cX7_fills 69 = .ok (.iconst 5, 1) := by decide +kernel
theorem dX7_fills_70 : decode cX7_fills 70 = .ok (.if_icmp .ge 48, 3) := by decide +kernel
theorem dX7_fills_73 : decode cX7_fills 73 = .ok (.aload_n 0, 1) := by decide +kernel
theorem dX7_fills_74 : decode cX7_fills 74 = .ok (.iload_n 1, 1) := by decide +kernel
theorem dX7_fills_75 : decode cX7_fills 75 = .ok (.iload_n 3, 1) := by decide +kernel
theorem dX7_fills_76 : decode cX7_fills 76 = .ok (.iload_n 2, 1) := by decide +kernel
theorem dX7_fills_77 : decode cX7_fills 77 = .ok (.iload 4, 2) := by decide +kernel
theorem dX7_fills_79 : decode cX7_fills 79 = .ok (.iload 6, 2) := by decide +kernel
theorem dX7_fills_81 : decode cX7_fills 81 = .ok (.invokevirtual 159, 3) := by decide +kernel
theorem dX7_fills_84 : decode cX7_fills 84 = .ok (.istore 7, 2) := by decide +kernel
theorem dX7_fills_86 : decode cX7_fills 86 = .ok (.iload 7, 2) := by decide +kernel
theorem dX7_fills_88 : decode cX7_fills 88 = .ok (.ifCond .lt 20, 3) := by decide +kernel
theorem dX7_fills_91 : decode cX7_fills 91 = .ok (.iload 5, 2) := by decide +kernel
theorem dX7_fills_93 : decode cX7_fills 93 = .ok (.ifCond .lt 10, 3) := by decide +kernel
theorem dX7_fills_96 : decode cX7_fills 96 = .ok (.iload 7, 2) := by decide +kernel
theorem dX7_fills_98 : decode cX7_fills 98 = .ok (.iload 5, 2) := by decide +kernel
theorem dX7_fills_100 : decode cX7_fills 100 = .ok (.if_icmp .ge 8, 3) := by decide +kernel
theorem dX7_fills_103 : decode cX7_fills 103 = .ok (.iload 7, 2) := by decide +kernel
theorem dX7_fills_105 : decode cX7_fills 105 = .ok (.goto 5, 3) := by decide +kernel
theorem dX7_fills_108 : decode cX7_fills 108 = .ok (.iload 5, 2) := by decide +kernel
theorem dX7_fills_110 : decode cX7_fills 110 = .ok (.istore 5, 2) := by decide +kernel
theorem dX7_fills_112 : decode cX7_fills 112 = .ok (.iinc 6 1, 3) := by decide +kernel
theorem dX7_fills_115 : decode cX7_fills 115 = .ok (.goto (-48), 3) := by decide +kernel
theorem dX7_fills_118 : decode cX7_fills 118 = .ok (.aload_n 0, 1) := by decide +kernel
theorem dX7_fills_119 : decode cX7_fills 119 = .ok (.getfield 31, 3) := by decide +kernel
theorem dX7_fills_122 : decode cX7_fills 122 = .ok (.bipush 25, 2) := by decide +kernel
theorem dX7_fills_124 : decode cX7_fills 124 = .ok (.iload_n 3, 1) := by decide +kernel
theorem dX7_fills_125 : decode cX7_fills 125 = .ok (.imul, 1) := by decide +kernel
theorem dX7_fills_126 : decode cX7_fills 126 = .ok (.iload 4, 2) := by decide +kernel
theorem dX7_fills_128 : decode cX7_fills 128 = .ok (.iadd, 1) := by decide +kernel
theorem dX7_fills_129 : decode cX7_fills 129 = .ok (.iload 5, 2) := by decide +kernel
theorem dX7_fills_131 : decode cX7_fills 131 = .ok (.iastore, 1) := by decide +kernel
theorem dX7_fills_132 : decode cX7_fills 132 = .ok (.iinc 4 (-1), 3) := by decide +kernel
theorem dX7_fills_135 : decode cX7_fills 135 = .ok (.goto (-110), 3) := by decide +kernel
theorem dX7_fills_138 : decode cX7_fills 138 = .ok (.iinc 3 (-1), 3) := by decide +kernel
theorem dX7_fills_141 : decode cX7_fills 141 = .ok (.goto (-131), 3) := by decide +kernel
theorem dX7_fills_144 : decode cX7_fills 144 = .ok (.aload_n 0, 1) := by decide +kernel
theorem dX7_fills_145 : decode cX7_fills 145 = .ok (.getfield 31, 3) := by decide +kernel
theorem dX7_fills_148 : decode cX7_fills 148 = .ok (.iconst 0, 1) := by decide +kernel
theorem dX7_fills_149 : decode cX7_fills 149 = .ok (.iaload, 1) := by decide +kernel
theorem dX7_fills_150 : decode cX7_fills 150 = .ok (.ireturn, 1) := by decide +kernel
theorem dX7_thingAt_0 : decode cX7_thingAt 0 = .ok (.iconst 1, 1) := by decide +kernel
theorem dX7_thingAt_1 : decode cX7_thingAt 1 = .ok (.istore 5, 2) := by decide +kernel
theorem dX7_thingAt_3 : decode cX7_thingAt 3 = .ok (.aload_n 0, 1) := by decide +kernel
theorem dX7_thingAt_4 : decode cX7_thingAt 4 = .ok (.iload_n 1, 1) := by decide +kernel
theorem dX7_thingAt_5 : decode cX7_thingAt 5 = .ok (.iload_n 2, 1) := by decide +kernel
theorem dX7_thingAt_6 : decode cX7_thingAt 6 = .ok (.iload_n 3, 1) := by decide +kernel
theorem dX7_thingAt_7 : decode cX7_thingAt 7 = .ok (.iload 4, 2) := by decide +kernel
theorem dX7_thingAt_9 : decode cX7_thingAt 9 = .ok (.iload 5, 2) := by decide +kernel
theorem dX7_thingAt_11 : decode cX7_thingAt 11 = .ok (.invokevirtual 159, 3) := by decide +kernel
theorem dX7_thingAt_14 : decode cX7_thingAt 14 = .ok (.aload_n 0, 1) := by decide +kernel
theorem dX7_thingAt_15 : decode cX7_thingAt 15 = .ok (.getfield 31, 3) := by decide +kernel
theorem dX7_thingAt_18 : decode cX7_thingAt 18 = .ok (.bipush 25, 2) := by decide +kernel
theorem dX7_thingAt_20 : decode cX7_thingAt 20 = .ok (.iload_n 2, 1) := by decide +kernel
theorem dX7_thingAt_21 : decode cX7_thingAt 21 = .ok (.imul, 1) := by decide +kernel
theorem dX7_thingAt_22 : decode cX7_thingAt 22 = .ok (.iload 4, 2) := by decide +kernel
theorem dX7_thingAt_24 : decode cX7_thingAt 24 = .ok (.iadd, 1) := by decide +kernel
theorem dX7_thingAt_25 : decode cX7_thingAt 25 = .ok (.iaload, 1) := by decide +kernel
theorem dX7_thingAt_26 : decode cX7_thingAt 26 = .ok (.if_icmp .eq 9, 3) := by decide +kernel
theorem dX7_thingAt_29 : decode cX7_thingAt 29 = .ok (.iinc 5 1, 3) := by decide +kernel
theorem dX7_thingAt_32 : decode cX7_thingAt 32 = .ok (.goto (-29), 3) := by decide +kernel
theorem dX7_thingAt_35 : decode cX7_thingAt 35 = .ok (.iload 5, 2) := by decide +kernel
theorem dX7_thingAt_37 : decode cX7_thingAt 37 = .ok (.ireturn, 1) := by decide +kernel
theorem dX7_matches_0 : decode cX7_matches 0 = .ok (.aload_n 0, 1) := by decide +kernel
theorem dX7_matches_1 : decode cX7_matches 1 = .ok (.iload_n 1, 1) := by decide +kernel
theorem dX7_matches_2 : decode cX7_matches 2 = .ok (.iload_n 2, 1) := by decide +kernel
theorem dX7_matches_3 : decode cX7_matches 3 = .ok (.invokevirtual 163, 3) := by decide +kernel
theorem dX7_matches_6 : decode cX7_matches 6 = .ok (.istore_n 3, 1) := by decide +kernel
theorem dX7_matches_7 : decode cX7_matches 7 = .ok (.iconst 0, 1) := by decide +kernel
theorem dX7_matches_8 : decode cX7_matches 8 = .ok (.istore 4, 2) := by decide +kernel
theorem dX7_matches_10 : decode cX7_matches 10 = .ok (.iconst 0, 1) := by decide +kernel
theorem dX7_matches_11 : decode cX7_matches 11 = .ok (.istore 5, 2) := by decide +kernel
theorem dX7_matches_13 : decode cX7_matches 13 = .ok (.iconst (-1), 1) := by decide +kernel
theorem dX7_matches_14 : decode cX7_matches 14 = .ok (.istore 6, 2) := by decide +kernel
theorem dX7_matches_16 : decode cX7_matches 16 = .ok (.iconst (-1), 1) := by decide +kernel
theorem dX7_matches_17 : decode cX7_matches 17 = .ok (.istore 7, 2) := by decide +kernel
theorem dX7_matches_19 : decode cX7_matches 19 = .ok (.iconst 0, 1) := by decide +kernel
theorem dX7_matches_20 : decode cX7_matches 20 = .ok (.istore 8, 2) := by decide +kernel
theorem dX7_matches_22 : decode cX7_matches 22 = .ok (.aload_n 0, 1) := by decide +kernel
theorem dX7_matches_23 : decode cX7_matches 23 = .ok (.iconst 0, 1) := by decide +kernel
theorem dX7_matches_24 : decode cX7_matches 24 = .ok (.putfield 166, 3) := by decide +kernel
theorem dX7_matches_27 : decode cX7_matches 27 = .ok (.aload_n 0, 1) := by decide +kernel
theorem dX7_matches_28 : decode cX7_matches 28 = .ok (.iconst 0, 1) := by decide +kernel
theorem dX7_matches_29 : decode cX7_matches 29 = .ok (.putfield 169, 3) := by decide +kernel
theorem dX7_matches_32 : decode cX7_matches 32 = .ok (.iload_n 3, 1) := by decide +kernel
theorem dX7_matches_33 : decode cX7_matches 33 = .ok (.ifCond .lt 282, 3) := by decide +kernel
theorem dX7_matches_36 : decode cX7_matches 36 = .ok (.iload 4, 2) := by decide +kernel
theorem dX7_matches_38 : decode cX7_matches 38 = .ok (.aload_n 0, 1) := by decide +kernel
theorem dX7_matches_39 : decode cX7_matches 39 = .ok (.getfield 7, 3) := by decide +kernel
theorem dX7_matches_42 : decode cX7_matches 42 = .ok (.bipush 10, 2) := by decide +kernel
theorem dX7_matches_44 : decode cX7_matches 44 = .ok (.iload_n 1, 1) := by decide +kernel
theorem dX7_matches_45 : decode cX7_matches 45 = .ok (.iadd, 1) := by decide +kernel
theorem dX7_matches_46 : decode cX7_matches 46 = .ok (.iaload, 1) := by decide +kernel
theorem dX7_matches_47 : decode cX7_matches 47 = .ok (.if_icmp .lt 17, 3) := by decide +kernel
theorem dX7_matches_50 : decode cX7_matches 50 = .ok (.iload 5, 2) := by decide +kernel
theorem dX7_matches_52 : decode cX7_matches 52 = .ok (.aload_n 0, 1) := by decide +kernel
theorem dX7_matches_53 : decode cX7_matches 53 = .ok (.getfield 7, 3) := by decide +kernel
theorem dX7_matches_56 : decode cX7_matches 56 = .ok (.bipush 10, 2) := by decide +kernel
theorem dX7_matches_58 : decode cX7_matches 58 = .ok (.iload_n 2, 1) := by decide +kernel
theorem dX7_matches_59 : decode cX7_matches 59 = .ok (.iadd, 1) := by decide +kernel
theorem dX7_matches_60 : decode cX7_matches 60 = .ok (.iaload, 1) := by decide +kernel
theorem dX7_matches_61 : decode cX7_matches 61 = .ok (.if_icmp .ge 254, 3) := by decide +kernel
theorem dX7_matches_64 : decode cX7_matches 64 = .ok (.aload_n 0, 1) := by decide +kernel
theorem dX7_matches_65 : decode cX7_matches 65 = .ok (.iload_n 1, 1) := by decide +kernel
theorem dX7_matches_66 : decode cX7_matches 66 = .ok (.iload 4, 2) := by decide +kernel
theorem dX7_matches_68 : decode cX7_matches 68 = .ok (.iload_n 2, 1) := by decide +kernel
theorem dX7_matches_69 : decode cX7_matches 69 = .ok (.iload 5, 2) := by decide +kernel
theorem dX7_matches_71 : decode cX7_matches 71 = .ok (.invokevirtual 172, 3) := by decide +kernel
theorem dX7_matches_74 : decode cX7_matches 74 = .ok (.istore 9, 2) := by decide +kernel
theorem dX7_matches_76 : decode cX7_matches 76 = .ok (.iload 9, 2) := by decide +kernel
theorem dX7_matches_78 : decode cX7_matches 78 = .ok (.iconst 1, 1) := by decide +kernel
theorem dX7_matches_79 : decode cX7_matches 79 = .ok (.if_icmp .ne 116, 3) := by decide +kernel
theorem dX7_matches_82 : decode cX7_matches 82 = .ok (.aload_n 0, 1) := by decide +kernel
theorem dX7_matches_83 : decode cX7_matches 83 = .ok (.getfield 169, 3) := by decide +kernel
theorem dX7_matches_86 : decode cX7_matches 86 = .ok (.ifCond .le 85, 3) := by decide +kernel
theorem dX7_matches_89 : decode cX7_matches 89 = .ok (.aload_n 0, 1) := by decide +kernel
theorem dX7_matches_90 : decode cX7_matches 90 = .ok (.getfield 46, 3) := by decide +kernel
theorem dX7_matches_93 : decode cX7_matches 93 = .ok (.iconst 3, 1) := by decide +kernel
theorem dX7_matches_94 : decode cX7_matches 94 = .ok (.aload_n 0, 1) := by decide +kernel
theorem dX7_matches_95 : decode cX7_matches 95 = .ok (.getfield 166, 3) := by decide +kernel
theorem dX7_matches_98 : decode cX7_matches 98 = .ok (.imul, 1) := by decide +kernel
theorem dX7_matches_99 : decode cX7_matches 99 = .ok (.iload 6, 2) := by decide +kernel
theorem dX7_matches_101 : decode cX7_matches 101 = .ok (.iastore, 1) := by decide +kernel
theorem dX7_matches_102 : decode cX7_matches 102 = .ok (.aload_n 0, 1) := by decide +kernel
theorem dX7_matches_103 : decode cX7_matches 103 = .ok (.getfield 46, 3) := by decide +kernel
theorem dX7_matches_106 : decode cX7_matches 106 = .ok (.iconst 3, 1) := by decide +kernel
theorem dX7_matches_107 : decode cX7_matches 107 = .ok (.aload_n 0, 1) := by decide +kernel
theorem dX7_matches_108 : decode cX7_matches 108 = .ok (.getfield 166, 3) := by decide +kernel
theorem dX7_matches_111 : decode cX7_matches 111 = .ok (.imul, 1) := by decide +kernel
theorem dX7_matches_112 : decode cX7_matches 112 = .ok (.iconst 1, 1) := by decide +kernel
theorem dX7_matches_113 : decode cX7_matches 113 = .ok (.iadd, 1) := by decide +kernel
theorem dX7_matches_114 : decode cX7_matches 114 = .ok (.aload_n 0, 1) := by decide +kernel
theorem dX7_matches_115 : decode cX7_matches 115 = .ok (.iload_n 1, 1) := by decide +kernel
theorem dX7_matches_116 : decode cX7_matches 116 = .ok (.iload 4, 2) := by decide +kernel
theorem dX7_matches_118 : decode cX7_matches 118 = .ok (.invokevirtual 74, 3) := by decide +kernel
theorem dX7_matches_121 : decode cX7_matches 121 = .ok (.aload_n 0, 1) := by decide +kernel
theorem dX7_matches_122 : decode cX7_matches 122 = .ok (.iload_n 1, 1) := by decide +kernel
theorem dX7_matches_123 : decode cX7_matches 123 = .ok (.iload 6, 2) := by decide +kernel
theorem dX7_matches_125 : decode cX7_matches 125 = .ok (.invokevirtual 74, 3) := by decide +kernel
theorem dX7_matches_128 : decode cX7_matches 128 = .ok (.isub, 1) := by decide +kernel
theorem dX7_matches_129 : decode cX7_matches 129 = .ok (.aload_n 0, 1) := by decide +kernel
theorem dX7_matches_130 : decode cX7_matches 130 = .ok (.iload_n 2, 1) := by decide +kernel
theorem dX7_matches_131 : decode cX7_matches 131 = .ok (.iload 5, 2) := by decide +kernel
theorem dX7_matches_133 : decode cX7_matches 133 = .ok (.invokevirtual 74, 3) := by decide +kernel
theorem dX7_matches_136 : decode cX7_matches 136 = .ok (.aload_n 0, 1) := by decide +kernel
theorem dX7_matches_137 : decode cX7_matches 137 = .ok (.iload_n 2, 1) := by decide +kernel
theorem dX7_matches_138 : decode cX7_matches 138 = .ok (.iload 7, 2) := by decide +kernel
theorem dX7_matches_140 : decode cX7_matches 140 = .ok (.invokevirtual 74, 3) := by decide +kernel
theorem dX7_matches_143 : decode cX7_matches 143 = .ok (.isub, 1) := by decide +kernel
theorem dX7_matches_144 : decode cX7_matches 144 = .ok (.isub, 1) := by decide +kernel
theorem dX7_matches_145 : decode cX7_matches 145 = .ok (.iastore, 1) := by decide +kernel
theorem dX7_matches_146 : decode cX7_matches 146 = .ok (.aload_n 0, 1) := by decide +kernel
theorem dX7_matches_147 : decode cX7_matches 147 = .ok (.getfield 46, 3) := by decide +kernel
theorem dX7_matches_150 : decode cX7_matches 150 = .ok (.iconst 3, 1) := by decide +kernel
theorem dX7_matches_151 : decode cX7_matches 151 = .ok (.aload_n 0, 1) := by decide +kernel
theorem dX7_matches_152 : decode cX7_matches 152 = .ok (.getfield 166, 3) := by decide +kernel
theorem dX7_matches_155 : decode cX7_matches 155 = .ok (.imul, 1) := by decide +kernel
theorem dX7_matches_156 : decode cX7_matches 156 = .ok (.iconst 2, 1) := by decide +kernel
theorem dX7_matches_157 : decode cX7_matches 157 = .ok (.iadd, 1) := by decide +kernel
theorem dX7_matches_158 : decode cX7_matches 158 = .ok (.iload 8, 2) := by decide +kernel
theorem dX7_matches_160 : decode cX7_matches 160 = .ok (.iastore, 1) := by decide +kernel
theorem dX7_matches_161 : decode cX7_matches 161 = .ok (.aload_n 0, 1) := by decide +kernel
theorem dX7_matches_162 : decode cX7_matches 162 = .ok (.dup, 1) := by decide +kernel
theorem dX7_matches_163 : decode cX7_matches 163 = .ok (.getfield 166, 3) := by decide +kernel
theorem dX7_matches_166 : decode cX7_matches 166 = .ok (.iconst 1, 1) := by decide +kernel
theorem dX7_matches_167 : decode cX7_matches 167 = .ok (.iadd, 1) := by decide +kernel
theorem dX7_matches_168 : decode cX7_matches 168 = .ok (.putfield 166, 3) := by decide +kernel
theorem dX7_matches_171 : decode cX7_matches 171 = .ok (.aload_n 0, 1) := by decide +kernel
theorem dX7_matches_172 : decode cX7_matches 172 = .ok (.dup, 1) := by decide +kernel
theorem dX7_matches_173 : decode cX7_matches 173 = .ok (.getfield 169, 3) := by decide +kernel
theorem dX7_matches_176 : decode cX7_matches 176 = .ok (.iconst 1, 1) := by decide +kernel
theorem dX7_matches_177 : decode cX7_matches 177 = .ok (.iadd, 1) := by decide +kernel
theorem dX7_matches_178 : decode cX7_matches 178 = .ok (.putfield 169, 3) := by decide +kernel
theorem dX7_matches_181 : decode cX7_matches 181 = .ok (.iload 4, 2) := by decide +kernel
theorem dX7_matches_183 : decode cX7_matches 183 = .ok (.istore 6, 2) := by decide +kernel
theorem dX7_matches_185 : decode cX7_matches 185 = .ok (.iload 5, 2) := by decide +kernel
theorem dX7_matches_187 : decode cX7_matches 187 = .ok (.istore 7, 2) := by decide +kernel
theorem dX7_matches_189 : decode cX7_matches 189 = .ok (.iconst 0, 1) := by decide +kernel
theorem dX7_matches_190 : decode cX7_matches 190 = .ok (.istore 8, 2) := by decide +kernel
theorem dX7_matches_192 : decode cX7_matches 192 = .ok (.goto 14, 3) := by decide +kernel
theorem dX7_matches_195 : decode cX7_matches 195 = .ok (.iload 8, 2) := by decide +kernel
theorem dX7_matches_197 : decode cX7_matches 197 = .ok (.iconst 1, 1) := by decide +kernel
theorem dX7_matches_198 : decode cX7_matches 198 = .ok (.iload 9, 2) := by decide +kernel
theorem dX7_matches_200 : decode cX7_matches 200 = .ok (.iconst 2, 1) := by decide +kernel
theorem dX7_matches_201 : decode cX7_matches 201 = .ok (.isub, 1) := by decide +kernel
theorem dX7_matches_202 : decode cX7_matches 202 = .ok (.ishl, 1) := by decide +kernel
theorem dX7_matches_203 : decode cX7_matches 203 = .ok (.ior, 1) := by decide +kernel
theorem dX7_matches_204 : decode cX7_matches 204 = .ok (.istore 8, 2) := by decide +kernel
theorem dX7_matches_206 : decode cX7_matches 206 = .ok (.iload 9, 2) := by decide +kernel
theorem dX7_matches_208 : decode cX7_matches 208 = .ok (.iconst 3, 1) := by decide +kernel
theorem dX7_matches_209 : decode cX7_matches 209 = .ok (.if_icmp .ge 31, 3) := by decide +kernel
theorem dX7_matches_212 : decode cX7_matches 212 = .ok (.aload_n 0, 1) := by decide +kernel
theorem dX7_matches_213 : decode cX7_matches 213 = .ok (.getfield 34, 3) := by decide +kernel
theorem dX7_matches_216 : decode cX7_matches 216 = .ok (.iload 4, 2) := by decide +kernel
theorem dX7_matches_218 : decode cX7_matches 218 = .ok (.iload 9, 2) := by decide +kernel
theorem dX7_matches_220 : decode cX7_matches 220 = .ok (.iastore, 1) := by decide +kernel
theorem dX7_matches_221 : decode cX7_matches 221 = .ok (.aload_n 0, 1) := by decide +kernel
theorem dX7_matches_222 : decode cX7_matches 222 = .ok (.getfield 40, 3) := by decide +kernel
theorem dX7_matches_225 : decode cX7_matches 225 = .ok (.iload 4, 2) := by decide +kernel
theorem dX7_matches_227 : decode cX7_matches 227 = .ok (.iload 9, 2) := by decide +kernel
theorem dX7_matches_229 : decode cX7_matches 229 = .ok (.iconst 1, 1) := by decide +kernel
theorem dX7_matches_230 : decode cX7_matches 230 = .ok (.if_icmp .ne 8, 3) := by decide +kernel
theorem dX7_matches_233 : decode cX7_matches 233 = .ok (.iload 5, 2) := by decide +kernel
theorem dX7_matches_235 : decode cX7_matches 235 = .ok (.goto 4, 3) := by decide +kernel
theorem dX7_matches_238 : decode cX7_matches 238 = .ok (.iconst (-1), 1) := by decide +kernel
theorem dX7_matches_239 : decode cX7_matches 239 = .ok (.iastore, 1) := by decide +kernel
theorem dX7_matches_240 : decode cX7_matches 240 = .ok (.iload 9, 2) := by decide +kernel
theorem dX7_matches_242 : decode cX7_matches 242 = .ok (.iconst 2, 1) := by decide +kernel
theorem dX7_matches_243 : decode cX7_matches 243 = .ok (.if_icmp .eq 53, 3) := by decide +kernel
theorem dX7_matches_246 : decode cX7_matches 246 = .ok (.aload_n 0, 1) := by decide +kernel
theorem dX7_matches_247 : decode cX7_matches 247 = .ok (.getfield 37, 3) := by decide +kernel
theorem dX7_matches_250 : decode cX7_matches 250 = .ok (.iload 5, 2) := by decide +kernel
theorem dX7_matches_252 : decode cX7_matches 252 = .ok (.iload 9, 2) := by decide +kernel
theorem dX7_matches_254 : decode cX7_matches 254 = .ok (.iastore, 1) := by decide +kernel
theorem dX7_matches_255 : decode cX7_matches 255 = .ok (.aload_n 0, 1) := by decide +kernel
theorem dX7_matches_256 : decode cX7_matches 256 = .ok (.getfield 43, 3) := by decide +kernel
theorem dX7_matches_259 : decode cX7_matches 259 = .ok (.iload 5, 2) := by decide +kernel
theorem dX7_matches_261 : decode cX7_matches 261 = .ok (.iload 9, 2) := by decide +kernel
theorem dX7_matches_263 : decode cX7_matches 263 = .ok (.iconst 1, 1) := by decide +kernel
theorem dX7_matches_264 : decode cX7_matches 264 = .ok (.if_icmp .ne 8, 3) := by decide +kernel
theorem dX7_matches_267 : decode cX7_matches 267 = .ok (.iload 4, 2) := by decide +kernel
theorem dX7_matches_269 : decode cX7_matches 269 = .ok (.goto 23, 3) := by decide +kernel
theorem dX7_matches_272 : decode cX7_matches 272 = .ok (.iload 9, 2) := by decide +kernel
theorem dX7_matches_274 : decode cX7_matches 274 = .ok (.iconst 3, 1) := by decide +kernel
theorem dX7_matches_275 : decode cX7_matches 275 = .ok (.if_icmp .ne 16, 3) := by decide +kernel
theorem dX7_matches_278 : decode cX7_matches 278 = .ok (.aload_n 0, 1) := by decide +kernel
theorem dX7_matches_279 : decode cX7_matches 279 = .ok (.iload_n 1, 1) := by decide +kernel
theorem dX7_matches_280 : decode cX7_matches 280 = .ok (.iload 4, 2) := by decide +kernel
theorem dX7_matches_282 : decode cX7_matches 282 = .ok (.iload_n 2, 1) := by decide +kernel
theorem dX7_matches_283 : decode cX7_matches 283 = .ok (.iload 5, 2) := by decide +kernel
theorem dX7_matches_285 : decode cX7_matches 285 = .ok (.invokevirtual 156, 3) := by decide +kernel
theorem dX7_matches_288 : decode cX7_matches 288 = .ok (.goto 4, 3) := by decide +kernel
theorem dX7_matches_291 : decode cX7_matches 291 = .ok (.iconst (-1), 1) := by decide +kernel
theorem dX7_matches_292 : decode cX7_matches 292 = .ok (.iastore, 1) := by decide +kernel
theorem dX7_matches_293 : decode cX7_matches 293 = .ok (.iinc 5 1, 3) := by decide +kernel
theorem dX7_matches_296 : decode cX7_matches 296 = .ok (.iload 4, 2) := by decide +kernel
theorem dX7_matches_298 : decode cX7_matches 298 = .ok (.iload 9, 2) := by decide +kernel
theorem dX7_matches_300 : decode cX7_matches 300 = .ok (.iconst 3, 1) := by decide +kernel
theorem dX7_matches_301 : decode cX7_matches 301 = .ok (.if_icmp .ge 7, 3) := by decide +kernel
theorem dX7_matches_304 : decode cX7_matches 304 = .ok (.iconst 1, 1) := by decide +kernel
theorem dX7_matches_305 : decode cX7_matches 305 = .ok (.goto 4, 3) := by decide +kernel
theorem dX7_matches_308 : decode cX7_matches 308 = .ok (.iconst 0, 1) := by decide +kernel
theorem dX7_matches_309 : decode cX7_matches 309 = .ok (.iadd, 1) := by decide +kernel
theorem dX7_matches_310 : decode cX7_matches 310 = .ok (.istore 4, 2) := by decide +kernel
theorem dX7_matches_312 : decode cX7_matches 312 = .ok (.goto (-280), 3) := by decide +kernel
theorem dX7_matches_315 : decode cX7_matches 315 = .ok (.return_, 1) := by decide +kernel
theorem dX7_areTwo_0 : decode cX7_areTwo 0 = .ok (.iload_n 0, 1) := by decide +kernel
theorem dX7_areTwo_1 : decode cX7_areTwo 1 = .ok (.invokestatic 63, 3) := by decide +kernel
theorem dX7_areTwo_4 : decode cX7_areTwo 4 = .ok (.ifCond .eq 19, 3) := by decide +kernel
theorem dX7_areTwo_7 : decode cX7_areTwo 7 = .ok (.iload_n 1, 1) := by decide +kernel
theorem dX7_areTwo_8 : decode cX7_areTwo 8 = .ok (.invokestatic 63, 3) := by decide +kernel
theorem dX7_areTwo_11 : decode cX7_areTwo 11 = .ok (.ifCond .eq 12, 3) := by decide +kernel
theorem dX7_areTwo_14 : decode cX7_areTwo 14 = .ok (.iload_n 0, 1) := by decide +kernel
theorem dX7_areTwo_15 : decode cX7_areTwo 15 = .ok (.iload_n 1, 1) := by decide +kernel
theorem dX7_areTwo_16 : decode cX7_areTwo 16 = .ok (.if_icmp .eq 7, 3) := by decide +kernel
theorem dX7_areTwo_19 : decode cX7_areTwo 19 = .ok (.iconst 1, 1) := by decide +kernel
theorem dX7_areTwo_20 : decode cX7_areTwo 20 = .ok (.goto 4, 3) := by decide +kernel
theorem dX7_areTwo_23 : decode cX7_areTwo 23 = .ok (.iconst 0, 1) := by decide +kernel
theorem dX7_areTwo_24 : decode cX7_areTwo 24 = .ok (.ireturn, 1) := by decide +kernel
theorem dX7_cost_0 : decode cX7_cost 0 = .ok (.iload_n 1, 1) := by decide +kernel
theorem dX7_cost_1 : decode cX7_cost 1 = .ok (.iload_n 2, 1) := by decide +kernel
theorem dX7_cost_2 : decode cX7_cost 2 = .ok (.invokestatic 175, 3) := by decide +kernel
theorem dX7_cost_5 : decode cX7_cost 5 = .ok (.ifCond .eq 21, 3) := by decide +kernel
theorem dX7_cost_8 : decode cX7_cost 8 = .ok (.iload_n 3, 1) := by decide +kernel
theorem dX7_cost_9 : decode cX7_cost 9 = .ok (.iconst 0, 1) := by decide +kernel
theorem dX7_cost_10 : decode cX7_cost 10 = .ok (.iconst 1, 1) := by decide +kernel
theorem dX7_cost_11 : decode cX7_cost 11 = .ok (.invokestatic 59, 3) := by decide +kernel
theorem dX7_cost_14 : decode cX7_cost 14 = .ok (.ifCond .eq 12, 3) := by decide +kernel
theorem dX7_cost_17 : decode cX7_cost 17 = .ok (.aload_n 0, 1) := by decide +kernel
theorem dX7_cost_18 : decode cX7_cost 18 = .ok (.iload_n 1, 1) := by decide +kernel
theorem dX7_cost_19 : decode cX7_cost 19 = .ok (.iload_n 2, 1) := by decide +kernel
theorem dX7_cost_20 : decode cX7_cost 20 = .ok (.invokevirtual 163, 3) := by decide +kernel
theorem dX7_cost_23 : decode cX7_cost 23 = .ok (.goto 5, 3) := by decide +kernel
theorem dX7_cost_26 : decode cX7_cost 26 = .ok (.ldc 87, 2) := by decide +kernel
theorem dX7_cost_28 : decode cX7_cost 28 = .ok (.ireturn, 1) := by decide +kernel
theorem dX7_isOne_0 : decode cX7_isOne 0 = .ok (.iload_n 1, 1) := by decide +kernel
theorem dX7_isOne_1 : decode cX7_isOne 1 = .ok (.iload_n 2, 1) := by decide +kernel
theorem dX7_isOne_2 : decode cX7_isOne 2 = .ok (.invokestatic 175, 3) := by decide +kernel
theorem dX7_isOne_5 : decode cX7_isOne 5 = .ok (.ifCond .eq 34, 3) := by decide +kernel
theorem dX7_isOne_8 : decode cX7_isOne 8 = .ok (.iload_n 3, 1) := by decide +kernel
theorem dX7_isOne_9 : decode cX7_isOne 9 = .ok (.iconst 0, 1) := by decide +kernel
theorem dX7_isOne_10 : decode cX7_isOne 10 = .ok (.iconst 1, 1) := by decide +kernel
theorem dX7_isOne_11 : decode cX7_isOne 11 = .ok (.invokestatic 59, 3) := by decide +kernel
theorem dX7_isOne_14 : decode cX7_isOne 14 = .ok (.ifCond .eq 25, 3) := by decide +kernel
theorem dX7_isOne_17 : decode cX7_isOne 17 = .ok (.aload_n 0, 1) := by decide +kernel
theorem dX7_isOne_18 : decode cX7_isOne 18 = .ok (.iload_n 3, 1) := by decide +kernel
theorem dX7_isOne_19 : decode cX7_isOne 19 = .ok (.ifCond .ne 7, 3) := by decide +kernel
theorem dX7_isOne_22 : decode cX7_isOne 22 = .ok (.iload_n 1, 1) := by decide +kernel
theorem dX7_isOne_23 : decode cX7_isOne 23 = .ok (.goto 4, 3) := by decide +kernel
theorem dX7_isOne_26 : decode cX7_isOne 26 = .ok (.iload_n 2, 1) := by decide +kernel
theorem dX7_isOne_27 : decode cX7_isOne 27 = .ok (.iload 4, 2) := by decide +kernel
theorem dX7_isOne_29 : decode cX7_isOne 29 = .ok (.invokevirtual 100, 3) := by decide +kernel
theorem dX7_isOne_32 : decode cX7_isOne 32 = .ok (.ifCond .eq 7, 3) := by decide +kernel
theorem dX7_isOne_35 : decode cX7_isOne 35 = .ok (.iconst 1, 1) := by decide +kernel
theorem dX7_isOne_36 : decode cX7_isOne 36 = .ok (.goto 4, 3) := by decide +kernel
theorem dX7_isOne_39 : decode cX7_isOne 39 = .ok (.iconst 0, 1) := by decide +kernel
theorem dX7_isOne_40 : decode cX7_isOne 40 = .ok (.ireturn, 1) := by decide +kernel
theorem dX7_why_0 : decode cX7_why 0 = .ok (.aload_n 0, 1) := by decide +kernel
theorem dX7_why_1 : decode cX7_why 1 = .ok (.iload_n 1, 1) := by decide +kernel
theorem dX7_why_2 : decode cX7_why 2 = .ok (.iload_n 2, 1) := by decide +kernel
theorem dX7_why_3 : decode cX7_why 3 = .ok (.iload_n 3, 1) := by decide +kernel
theorem dX7_why_4 : decode cX7_why 4 = .ok (.iload 4, 2) := by decide +kernel
theorem dX7_why_6 : decode cX7_why 6 = .ok (.invokevirtual 178, 3) := by decide +kernel
theorem dX7_why_9 : decode cX7_why 9 = .ok (.ifCond .ne 6, 3) := by decide +kernel
theorem dX7_why_12 : decode cX7_why 12 = .ok (.ldc 87, 2) := by decide +kernel
theorem dX7_why_14 : decode cX7_why 14 = .ok (.ireturn, 1) := by decide +kernel
theorem dX7_why_15 : decode cX7_why 15 = .ok (.aload_n 0, 1) := by decide +kernel
theorem dX7_why_16 : decode cX7_why 16 = .ok (.iload_n 1, 1) := by decide +kernel
theorem dX7_why_17 : decode cX7_why 17 = .ok (.iload_n 2, 1) := by decide +kernel
theorem dX7_why_18 : decode cX7_why 18 = .ok (.invokevirtual 182, 3) := by decide +kernel
theorem dX7_why_21 : decode cX7_why 21 = .ok (.iload_n 3, 1) := by decide +kernel
theorem dX7_why_22 : decode cX7_why 22 = .ok (.ifCond .ne 13, 3) := by decide +kernel
theorem dX7_why_25 : decode cX7_why 25 = .ok (.aload_n 0, 1) := by decide +kernel
theorem dX7_why_26 : decode cX7_why 26 = .ok (.getfield 34, 3) := by decide +kernel
theorem dX7_why_29 : decode cX7_why 29 = .ok (.iload 4, 2) := by decide +kernel
theorem dX7_why_31 : decode cX7_why 31 = .ok (.iaload, 1) := by decide +kernel
theorem dX7_why_32 : decode cX7_why 32 = .ok (.goto 10, 3) := by decide +kernel
theorem dX7_why_35 : decode cX7_why 35 = .ok (.aload_n 0, 1) := by decide +kernel
theorem dX7_why_36 : decode cX7_why 36 = .ok (.getfield 37, 3) := by decide +kernel
theorem dX7_why_39 : decode cX7_why 39 = .ok (.iload 4, 2) := by decide +kernel
theorem dX7_why_41 : decode cX7_why 41 = .ok (.iaload, 1) := by decide +kernel
theorem dX7_why_42 : decode cX7_why 42 = .ok (.ireturn, 1) := by decide +kernel
theorem dX7_partner_0 : decode cX7_partner 0 = .ok (.aload_n 0, 1) := by decide +kernel
theorem dX7_partner_1 : decode cX7_partner 1 = .ok (.iload_n 1, 1) := by decide +kernel
theorem dX7_partner_2 : decode cX7_partner 2 = .ok (.iload_n 2, 1) := by decide +kernel
theorem dX7_partner_3 : decode cX7_partner 3 = .ok (.iload_n 3, 1) := by decide +kernel
theorem dX7_partner_4 : decode cX7_partner 4 = .ok (.iload 4, 2) := by decide +kernel
theorem dX7_partner_6 : decode cX7_partner 6 = .ok (.invokevirtual 178, 3) := by decide +kernel
theorem dX7_partner_9 : decode cX7_partner 9 = .ok (.ifCond .ne 6, 3) := by decide +kernel
theorem dX7_partner_12 : decode cX7_partner 12 = .ok (.ldc 87, 2) := by decide +kernel
theorem dX7_partner_14 : decode cX7_partner 14 = .ok (.ireturn, 1) := by decide +kernel
theorem dX7_partner_15 : decode cX7_partner 15 = .ok (.aload_n 0, 1) := by decide +kernel
theorem dX7_partner_16 : decode cX7_partner 16 = .ok (.iload_n 1, 1) := by decide +kernel
theorem dX7_partner_17 : decode cX7_partner 17 = .ok (.iload_n 2, 1) := by decide +kernel
theorem dX7_partner_18 : decode cX7_partner 18 = .ok (.invokevirtual 182, 3) := by decide +kernel
theorem dX7_partner_21 : decode cX7_partner 21 = .ok (.iload_n 3, 1) := by decide +kernel
theorem dX7_partner_22 : decode cX7_partner 22 = .ok (.ifCond .ne 13, 3) := by decide +kernel
theorem dX7_partner_25 : decode cX7_partner 25 = .ok (.aload_n 0, 1) := by decide +kernel
theorem dX7_partner_26 : decode cX7_partner 26 = .ok (.getfield 40, 3) := by decide +kernel
theorem dX7_partner_29 : decode cX7_partner 29 = .ok (.iload 4, 2) := by decide +kernel
theorem dX7_partner_31 : decode cX7_partner 31 = .ok (.iaload, 1) := by decide +kernel
theorem dX7_partner_32 : decode cX7_partner 32 = .ok (.goto 10, 3) := by decide +kernel
theorem dX7_partner_35 : decode cX7_partner 35 = .ok (.aload_n 0, 1) := by decide +kernel
theorem dX7_partner_36 : decode cX7_partner 36 = .ok (.getfield 43, 3) := by decide +kernel
theorem dX7_partner_39 : decode cX7_partner 39 = .ok (.iload 4, 2) := by decide +kernel
theorem dX7_partner_41 : decode cX7_partner 41 = .ok (.iaload, 1) := by decide +kernel
theorem dX7_partner_42 : decode cX7_partner 42 = .ok (.istore 5, 2) := by decide +kernel
theorem dX7_partner_44 : decode cX7_partner 44 = .ok (.iload 5, 2) := by decide +kernel
theorem dX7_partner_46 : decode cX7_partner 46 = .ok (.ifCond .ge 8, 3) := by decide +kernel
theorem dX7_partner_49 : decode cX7_partner 49 = .ok (.ldc 148, 2) := by decide +kernel
theorem dX7_partner_51 : decode cX7_partner 51 = .ok (.goto 5, 3) := by decide +kernel
theorem dX7_partner_54 : decode cX7_partner 54 = .ok (.iload 5, 2) := by decide +kernel
theorem dX7_partner_56 : decode cX7_partner 56 = .ok (.ireturn, 1) := by decide +kernel
theorem dX7_isFault_0 : decode cX7_isFault 0 = .ok (.aload_n 0, 1) := by decide +kernel
theorem dX7_isFault_1 : decode cX7_isFault 1 = .ok (.getfield 46, 3) := by decide +kernel
theorem dX7_isFault_4 : decode cX7_isFault 4 = .ok (.iconst 3, 1) := by decide +kernel
theorem dX7_isFault_5 : decode cX7_isFault 5 = .ok (.iload_n 1, 1) := by decide +kernel
theorem dX7_isFault_6 : decode cX7_isFault 6 = .ok (.imul, 1) := by decide +kernel
theorem dX7_isFault_7 : decode cX7_isFault 7 = .ok (.iconst 1, 1) := by decide +kernel
theorem dX7_isFault_8 : decode cX7_isFault 8 = .ok (.iadd, 1) := by decide +kernel
theorem dX7_isFault_9 : decode cX7_isFault 9 = .ok (.iaload, 1) := by decide +kernel
theorem dX7_isFault_10 : decode cX7_isFault 10 = .ok (.istore_n 2, 1) := by decide +kernel
theorem dX7_isFault_11 : decode cX7_isFault 11 = .ok (.iload_n 2, 1) := by decide +kernel
theorem dX7_isFault_12 : decode cX7_isFault 12 = .ok (.ifCond .ge 8, 3) := by decide +kernel
theorem dX7_isFault_15 : decode cX7_isFault 15 = .ok (.iload_n 2, 1) := by decide +kernel
theorem dX7_isFault_16 : decode cX7_isFault 16 = .ok (.ineg, 1) := by decide +kernel
theorem dX7_isFault_17 : decode cX7_isFault 17 = .ok (.goto 4, 3) := by decide +kernel
theorem dX7_isFault_20 : decode cX7_isFault 20 = .ok (.iload_n 2, 1) := by decide +kernel
theorem dX7_isFault_21 : decode cX7_isFault 21 = .ok (.aload_n 0, 1) := by decide +kernel
theorem dX7_isFault_22 : decode cX7_isFault 22 = .ok (.getfield 7, 3) := by decide +kernel
theorem dX7_isFault_25 : decode cX7_isFault 25 = .ok (.iconst 4, 1) := by decide +kernel
theorem dX7_isFault_26 : decode cX7_isFault 26 = .ok (.iaload, 1) := by decide +kernel
theorem dX7_isFault_27 : decode cX7_isFault 27 = .ok (.if_icmp .lt 7, 3) := by decide +kernel
theorem dX7_isFault_30 : decode cX7_isFault 30 = .ok (.iconst 1, 1) := by decide +kernel
theorem dX7_isFault_31 : decode cX7_isFault 31 = .ok (.goto 4, 3) := by decide +kernel
theorem dX7_isFault_34 : decode cX7_isFault 34 = .ok (.iconst 0, 1) := by decide +kernel
theorem dX7_isFault_35 : decode cX7_isFault 35 = .ok (.ireturn, 1) := by decide +kernel
theorem dX7_matched_0 : decode cX7_matched 0 = .ok (.iload_n 1, 1) := by decide +kernel
theorem dX7_matched_1 : decode cX7_matched 1 = .ok (.iload_n 2, 1) := by decide +kernel
theorem dX7_matched_2 : decode cX7_matched 2 = .ok (.invokestatic 175, 3) := by decide +kernel
theorem dX7_matched_5 : decode cX7_matched 5 = .ok (.ifCond .eq 12, 3) := by decide +kernel
theorem dX7_matched_8 : decode cX7_matched 8 = .ok (.iload_n 3, 1) := by decide +kernel
theorem dX7_matched_9 : decode cX7_matched 9 = .ok (.iconst 1, 1) := by decide +kernel
theorem dX7_matched_10 : decode cX7_matched 10 = .ok (.iconst 5, 1) := by decide +kernel
theorem dX7_matched_11 : decode cX7_matched 11 = .ok (.invokestatic 59, 3) := by decide +kernel
theorem dX7_matched_14 : decode cX7_matched 14 = .ok (.ifCond .ne 6, 3) := by decide +kernel
theorem dX7_matched_17 : decode cX7_matched 17 = .ok (.ldc 87, 2) := by decide +kernel
theorem dX7_matched_19 : decode cX7_matched 19 = .ok (.ireturn, 1) := by decide +kernel
theorem dX7_matched_20 : decode cX7_matched 20 = .ok (.aload_n 0, 1) := by decide +kernel
theorem dX7_matched_21 : decode cX7_matched 21 = .ok (.iload_n 1, 1) := by decide +kernel
theorem dX7_matched_22 : decode cX7_matched 22 = .ok (.iload_n 2, 1) := by decide +kernel
theorem dX7_matched_23 : decode cX7_matched 23 = .ok (.invokevirtual 182, 3) := by decide +kernel
theorem dX7_matched_26 : decode cX7_matched 26 = .ok (.iconst 0, 1) := by decide +kernel
theorem dX7_matched_27 : decode cX7_matched 27 = .ok (.istore 4, 2) := by decide +kernel
theorem dX7_matched_29 : decode cX7_matched 29 = .ok (.iconst 0, 1) := by decide +kernel
theorem dX7_matched_30 : decode cX7_matched 30 = .ok (.istore 5, 2) := by decide +kernel
theorem dX7_matched_32 : decode cX7_matched 32 = .ok (.iload 5, 2) := by decide +kernel
theorem dX7_matched_34 : decode cX7_matched 34 = .ok (.aload_n 0, 1) := by decide +kernel
theorem dX7_matched_35 : decode cX7_matched 35 = .ok (.getfield 166, 3) := by decide +kernel
theorem dX7_matched_38 : decode cX7_matched 38 = .ok (.if_icmp .ge 33, 3) := by decide +kernel
theorem dX7_matched_41 : decode cX7_matched 41 = .ok (.iload 4, 2) := by decide +kernel
theorem dX7_matched_43 : decode cX7_matched 43 = .ok (.iload_n 3, 1) := by decide +kernel
theorem dX7_matched_44 : decode cX7_matched 44 = .ok (.iconst 5, 1) := by decide +kernel
theorem dX7_matched_45 : decode cX7_matched 45 = .ok (.if_icmp .ne 16, 3) := by decide +kernel
theorem dX7_matched_48 : decode cX7_matched 48 = .ok (.aload_n 0, 1) := by decide +kernel
theorem dX7_matched_49 : decode cX7_matched 49 = .ok (.iload 5, 2) := by decide +kernel
theorem dX7_matched_51 : decode cX7_matched 51 = .ok (.invokevirtual 184, 3) := by decide +kernel
theorem dX7_matched_54 : decode cX7_matched 54 = .ok (.ifCond .eq 7, 3) := by decide +kernel
theorem dX7_matched_57 : decode cX7_matched 57 = .ok (.iconst 1, 1) := by decide +kernel
theorem dX7_matched_58 : decode cX7_matched 58 = .ok (.goto 4, 3) := by decide +kernel
theorem dX7_matched_61 : decode cX7_matched 61 = .ok (.iconst 0, 1) := by decide +kernel
theorem dX7_matched_62 : decode cX7_matched 62 = .ok (.iadd, 1) := by decide +kernel
theorem dX7_matched_63 : decode cX7_matched 63 = .ok (.istore 4, 2) := by decide +kernel
theorem dX7_matched_65 : decode cX7_matched 65 = .ok (.iinc 5 1, 3) := by decide +kernel
theorem dX7_matched_68 : decode cX7_matched 68 = .ok (.goto (-36), 3) := by decide +kernel
theorem dX7_matched_71 : decode cX7_matched 71 = .ok (.iconst 0, 1) := by decide +kernel
theorem dX7_matched_72 : decode cX7_matched 72 = .ok (.istore 5, 2) := by decide +kernel
theorem dX7_matched_74 : decode cX7_matched 74 = .ok (.iload 5, 2) := by decide +kernel
theorem dX7_matched_76 : decode cX7_matched 76 = .ok (.bipush 24, 2) := by decide +kernel
theorem dX7_matched_78 : decode cX7_matched 78 = .ok (.if_icmp .ge 89, 3) := by decide +kernel
theorem dX7_matched_81 : decode cX7_matched 81 = .ok (.iload 4, 2) := by decide +kernel
theorem dX7_matched_83 : decode cX7_matched 83 = .ok (.iload_n 3, 1) := by decide +kernel
theorem dX7_matched_84 : decode cX7_matched 84 = .ok (.iconst 2, 1) := by decide +kernel
theorem dX7_matched_85 : decode cX7_matched 85 = .ok (.if_icmp .ne 32, 3) := by decide +kernel
theorem dX7_matched_88 : decode cX7_matched 88 = .ok (.iload 5, 2) := by decide +kernel
theorem dX7_matched_90 : decode cX7_matched 90 = .ok (.aload_n 0, 1) := by decide +kernel
theorem dX7_matched_91 : decode cX7_matched 91 = .ok (.getfield 7, 3) := by decide +kernel
theorem dX7_matched_94 : decode cX7_matched 94 = .ok (.bipush 10, 2) := by decide +kernel
theorem dX7_matched_96 : decode cX7_matched 96 = .ok (.iload_n 1, 1) := by decide +kernel
theorem dX7_matched_97 : decode cX7_matched 97 = .ok (.iadd, 1) := by decide +kernel
theorem dX7_matched_98 : decode cX7_matched 98 = .ok (.iaload, 1) := by decide +kernel
theorem dX7_matched_99 : decode cX7_matched 99 = .ok (.if_icmp .ge 18, 3) := by decide +kernel
theorem dX7_matched_102 : decode cX7_matched 102 = .ok (.aload_n 0, 1) := by decide +kernel
theorem dX7_matched_103 : decode cX7_matched 103 = .ok (.getfield 34, 3) := by decide +kernel
theorem dX7_matched_106 : decode cX7_matched 106 = .ok (.iload 5, 2) := by decide +kernel
theorem dX7_matched_108 : decode cX7_matched 108 = .ok (.iaload, 1) := by decide +kernel
theorem dX7_matched_109 : decode cX7_matched 109 = .ok (.iconst 2, 1) := by decide +kernel
theorem dX7_matched_110 : decode cX7_matched 110 = .ok (.if_icmp .ne 7, 3) := by decide +kernel
theorem dX7_matched_113 : decode cX7_matched 113 = .ok (.iconst 1, 1) := by decide +kernel
theorem dX7_matched_114 : decode cX7_matched 114 = .ok (.goto 4, 3) := by decide +kernel
theorem dX7_matched_117 : decode cX7_matched 117 = .ok (.iconst 0, 1) := by decide +kernel
theorem dX7_matched_118 : decode cX7_matched 118 = .ok (.iadd, 1) := by decide +kernel
theorem dX7_matched_119 : decode cX7_matched 119 = .ok (.istore 4, 2) := by decide +kernel
theorem dX7_matched_121 : decode cX7_matched 121 = .ok (.iload 4, 2) := by decide +kernel
theorem dX7_matched_123 : decode cX7_matched 123 = .ok (.iload_n 3, 1) := by decide +kernel
theorem dX7_matched_124 : decode cX7_matched 124 = .ok (.iconst 2, 1) := by decide +kernel
theorem dX7_matched_125 : decode cX7_matched 125 = .ok (.if_icmp .eq 32, 3) := by decide +kernel
theorem dX7_matched_128 : decode cX7_matched 128 = .ok (.iload 5, 2) := by decide +kernel
theorem dX7_matched_130 : decode cX7_matched 130 = .ok (.aload_n 0, 1) := by decide +kernel
theorem dX7_matched_131 : decode cX7_matched 131 = .ok (.getfield 7, 3) := by decide +kernel
theorem dX7_matched_134 : decode cX7_matched 134 = .ok (.bipush 10, 2) := by decide +kernel
theorem dX7_matched_136 : decode cX7_matched 136 = .ok (.iload_n 2, 1) := by decide +kernel
theorem dX7_matched_137 : decode cX7_matched 137 = .ok (.iadd, 1) := by decide +kernel
theorem dX7_matched_138 : decode cX7_matched 138 = .ok (.iaload, 1) := by decide +kernel
theorem dX7_matched_139 : decode cX7_matched 139 = .ok (.if_icmp .ge 18, 3) := by decide +kernel
theorem dX7_matched_142 : decode cX7_matched 142 = .ok (.aload_n 0, 1) := by decide +kernel
theorem dX7_matched_143 : decode cX7_matched 143 = .ok (.getfield 37, 3) := by decide +kernel
theorem dX7_matched_146 : decode cX7_matched 146 = .ok (.iload 5, 2) := by decide +kernel
theorem dX7_matched_148 : decode cX7_matched 148 = .ok (.iaload, 1) := by decide +kernel
theorem dX7_matched_149 : decode cX7_matched 149 = .ok (.iload_n 3, 1) := by decide +kernel
theorem dX7_matched_150 : decode cX7_matched 150 = .ok (.if_icmp .ne 7, 3) := by decide +kernel
theorem dX7_matched_153 : decode cX7_matched 153 = .ok (.iconst 1, 1) := by decide +kernel
theorem dX7_matched_154 : decode cX7_matched 154 = .ok (.goto 4, 3) := by decide +kernel
theorem dX7_matched_157 : decode cX7_matched 157 = .ok (.iconst 0, 1) := by decide +kernel
theorem dX7_matched_158 : decode cX7_matched 158 = .ok (.iadd, 1) := by decide +kernel
theorem dX7_matched_159 : decode cX7_matched 159 = .ok (.istore 4, 2) := by decide +kernel
theorem dX7_matched_161 : decode cX7_matched 161 = .ok (.iinc 5 1, 3) := by decide +kernel
theorem dX7_matched_164 : decode cX7_matched 164 = .ok (.goto (-90), 3) := by decide +kernel
theorem dX7_matched_167 : decode cX7_matched 167 = .ok (.iload 4, 2) := by decide +kernel
theorem dX7_matched_169 : decode cX7_matched 169 = .ok (.ireturn, 1) := by decide +kernel
theorem dX7_fault_0 : decode cX7_fault 0 = .ok (.iload_n 1, 1) := by decide +kernel
theorem dX7_fault_1 : decode cX7_fault 1 = .ok (.iload_n 2, 1) := by decide +kernel
theorem dX7_fault_2 : decode cX7_fault 2 = .ok (.invokestatic 175, 3) := by decide +kernel
theorem dX7_fault_5 : decode cX7_fault 5 = .ok (.ifCond .eq 17, 3) := by decide +kernel
theorem dX7_fault_8 : decode cX7_fault 8 = .ok (.iload_n 3, 1) := by decide +kernel
theorem dX7_fault_9 : decode cX7_fault 9 = .ok (.ifCond .lt 13, 3) := by decide +kernel
theorem dX7_fault_12 : decode cX7_fault 12 = .ok (.iload 4, 2) := by decide +kernel
theorem dX7_fault_14 : decode cX7_fault 14 = .ok (.iconst 0, 1) := by decide +kernel
theorem dX7_fault_15 : decode cX7_fault 15 = .ok (.iconst 2, 1) := by decide +kernel
theorem dX7_fault_16 : decode cX7_fault 16 = .ok (.invokestatic 59, 3) := by decide +kernel
theorem dX7_fault_19 : decode cX7_fault 19 = .ok (.ifCond .ne 6, 3) := by decide +kernel
theorem dX7_fault_22 : decode cX7_fault 22 = .ok (.ldc 87, 2) := by decide +kernel
theorem dX7_fault_24 : decode cX7_fault 24 = .ok (.ireturn, 1) := by decide +kernel
theorem dX7_fault_25 : decode cX7_fault 25 = .ok (.aload_n 0, 1) := by decide +kernel
theorem dX7_fault_26 : decode cX7_fault 26 = .ok (.iload_n 1, 1) := by decide +kernel
theorem dX7_fault_27 : decode cX7_fault 27 = .ok (.iload_n 2, 1) := by decide +kernel
theorem dX7_fault_28 : decode cX7_fault 28 = .ok (.invokevirtual 182, 3) := by decide +kernel
theorem dX7_fault_31 : decode cX7_fault 31 = .ok (.iload_n 3, 1) := by decide +kernel
theorem dX7_fault_32 : decode cX7_fault 32 = .ok (.istore 5, 2) := by decide +kernel
theorem dX7_fault_34 : decode cX7_fault 34 = .ok (.iconst 0, 1) := by decide +kernel
theorem dX7_fault_35 : decode cX7_fault 35 = .ok (.istore 6, 2) := by decide +kernel
theorem dX7_fault_37 : decode cX7_fault 37 = .ok (.iload 6, 2) := by decide +kernel
theorem dX7_fault_39 : decode cX7_fault 39 = .ok (.aload_n 0, 1) := by decide +kernel
theorem dX7_fault_40 : decode cX7_fault 40 = .ok (.getfield 166, 3) := by decide +kernel
theorem dX7_fault_43 : decode cX7_fault 43 = .ok (.if_icmp .ge 39, 3) := by decide +kernel
theorem dX7_fault_46 : decode cX7_fault 46 = .ok (.aload_n 0, 1) := by decide +kernel
theorem dX7_fault_47 : decode cX7_fault 47 = .ok (.iload 6, 2) := by decide +kernel
theorem dX7_fault_49 : decode cX7_fault 49 = .ok (.invokevirtual 184, 3) := by decide +kernel
theorem dX7_fault_52 : decode cX7_fault 52 = .ok (.ifCond .eq 24, 3) := by decide +kernel
theorem dX7_fault_55 : decode cX7_fault 55 = .ok (.iload 5, 2) := by decide +kernel
theorem dX7_fault_57 : decode cX7_fault 57 = .ok (.ifCond .ne 16, 3) := by decide +kernel
theorem dX7_fault_60 : decode cX7_fault 60 = .ok (.aload_n 0, 1) := by decide +kernel
theorem dX7_fault_61 : decode cX7_fault 61 = .ok (.getfield 46, 3) := by decide +kernel
theorem dX7_fault_64 : decode cX7_fault 64 = .ok (.iconst 3, 1) := by decide +kernel
theorem dX7_fault_65 : decode cX7_fault 65 = .ok (.iload 6, 2) := by decide +kernel
theorem dX7_fault_67 : decode cX7_fault 67 = .ok (.imul, 1) := by decide +kernel
theorem dX7_fault_68 : decode cX7_fault 68 = .ok (.iload 4, 2) := by decide +kernel
theorem dX7_fault_70 : decode cX7_fault 70 = .ok (.iadd, 1) := by decide +kernel
theorem dX7_fault_71 : decode cX7_fault 71 = .ok (.iaload, 1) := by decide +kernel
theorem dX7_fault_72 : decode cX7_fault 72 = .ok (.ireturn, 1) := by decide +kernel
theorem dX7_fault_73 : decode cX7_fault 73 = .ok (.iinc 5 (-1), 3) := by decide +kernel
theorem dX7_fault_76 : decode cX7_fault 76 = .ok (.iinc 6 1, 3) := by decide +kernel
theorem dX7_fault_79 : decode cX7_fault 79 = .ok (.goto (-42), 3) := by decide +kernel
theorem dX7_fault_82 : decode cX7_fault 82 = .ok (.ldc 148, 2) := by decide +kernel
theorem dX7_fault_84 : decode cX7_fault 84 = .ok (.ireturn, 1) := by decide +kernel
theorem dX7_sumOfThrows_0 : decode cX7_sumOfThrows 0 = .ok (.iload_n 1, 1) := by decide +kernel
theorem dX7_sumOfThrows_1 : decode cX7_sumOfThrows 1 = .ok (.iload_n 2, 1) := by decide +kernel
theorem dX7_sumOfThrows_2 : decode cX7_sumOfThrows 2 = .ok (.invokestatic 175, 3) := by decide +kernel
theorem dX7_sumOfThrows_5 : decode cX7_sumOfThrows 5 = .ok (.ifCond .eq 12, 3) := by decide +kernel
theorem dX7_sumOfThrows_8 : decode cX7_sumOfThrows 8 = .ok (.iload_n 3, 1) := by decide +kernel
theorem dX7_sumOfThrows_9 : decode cX7_sumOfThrows 9 = .ok (.iconst 0, 1) := by decide +kernel
theorem dX7_sumOfThrows_10 : decode cX7_sumOfThrows 10 = .ok (.iconst 2, 1) := by decide +kernel
theorem dX7_sumOfThrows_11 : decode cX7_sumOfThrows 11 = .ok (.invokestatic 59, 3) := by decide +kernel
theorem dX7_sumOfThrows_14 : decode cX7_sumOfThrows 14 = .ok (.ifCond .ne 6, 3) := by decide +kernel
theorem dX7_sumOfThrows_17 : decode cX7_sumOfThrows 17 = .ok (.ldc 87, 2) := by decide +kernel
theorem dX7_sumOfThrows_19 : decode cX7_sumOfThrows 19 = .ok (.ireturn, 1) := by decide +kernel
theorem dX7_sumOfThrows_20 : decode cX7_sumOfThrows 20 = .ok (.aload_n 0, 1) := by decide +kernel
theorem dX7_sumOfThrows_21 : decode cX7_sumOfThrows 21 = .ok (.iload_n 1, 1) := by decide +kernel
theorem dX7_sumOfThrows_22 : decode cX7_sumOfThrows 22 = .ok (.iload_n 2, 1) := by decide +kernel
theorem dX7_sumOfThrows_23 : decode cX7_sumOfThrows 23 = .ok (.invokevirtual 182, 3) := by decide +kernel
theorem dX7_sumOfThrows_26 : decode cX7_sumOfThrows 26 = .ok (.iconst 0, 1) := by decide +kernel
theorem dX7_sumOfThrows_27 : decode cX7_sumOfThrows 27 = .ok (.istore 4, 2) := by decide +kernel
theorem dX7_sumOfThrows_29 : decode cX7_sumOfThrows 29 = .ok (.iconst 0, 1) := by decide +kernel
theorem dX7_sumOfThrows_30 : decode cX7_sumOfThrows 30 = .ok (.istore 5, 2) := by decide +kernel
theorem dX7_sumOfThrows_32 : decode cX7_sumOfThrows 32 = .ok (.iload 5, 2) := by decide +kernel
theorem dX7_sumOfThrows_34 : decode cX7_sumOfThrows 34 = .ok (.aload_n 0, 1) := by decide +kernel
theorem dX7_sumOfThrows_35 : decode cX7_sumOfThrows 35 = .ok (.getfield 166, 3) := by decide +kernel
theorem dX7_sumOfThrows_38 : decode cX7_sumOfThrows 38 = .ok (.if_icmp .ge 43, 3) := by decide +kernel
theorem dX7_sumOfThrows_41 : decode cX7_sumOfThrows 41 = .ok (.iload 4, 2) := by decide +kernel
theorem dX7_sumOfThrows_43 : decode cX7_sumOfThrows 43 = .ok (.iload_n 3, 1) := by decide +kernel
theorem dX7_sumOfThrows_44 : decode cX7_sumOfThrows 44 = .ok (.iconst 1, 1) := by decide +kernel
theorem dX7_sumOfThrows_45 : decode cX7_sumOfThrows 45 = .ok (.if_icmp .ne 12, 3) := by decide +kernel
theorem dX7_sumOfThrows_48 : decode cX7_sumOfThrows 48 = .ok (.aload_n 0, 1) := by decide +kernel
theorem dX7_sumOfThrows_49 : decode cX7_sumOfThrows 49 = .ok (.iload 5, 2) := by decide +kernel
theorem dX7_sumOfThrows_51 : decode cX7_sumOfThrows 51 = .ok (.invokevirtual 184, 3) := by decide +kernel
theorem dX7_sumOfThrows_54 : decode cX7_sumOfThrows 54 = .ok (.ifCond .eq 17, 3) := by decide +kernel
theorem dX7_sumOfThrows_57 : decode cX7_sumOfThrows 57 = .ok (.aload_n 0, 1) := by decide +kernel
theorem dX7_sumOfThrows_58 : decode cX7_sumOfThrows 58 = .ok (.getfield 46, 3) := by decide +kernel
theorem dX7_sumOfThrows_61 : decode cX7_sumOfThrows 61 = .ok (.iconst 3, 1) := by decide +kernel
theorem dX7_sumOfThrows_62 : decode cX7_sumOfThrows 62 = .ok (.iload 5, 2) := by decide +kernel
theorem dX7_sumOfThrows_64 : decode cX7_sumOfThrows 64 = .ok (.imul, 1) := by decide +kernel
theorem dX7_sumOfThrows_65 : decode cX7_sumOfThrows 65 = .ok (.iconst 1, 1) := by decide +kernel
theorem dX7_sumOfThrows_66 : decode cX7_sumOfThrows 66 = .ok (.iadd, 1) := by decide +kernel
theorem dX7_sumOfThrows_67 : decode cX7_sumOfThrows 67 = .ok (.iaload, 1) := by decide +kernel
theorem dX7_sumOfThrows_68 : decode cX7_sumOfThrows 68 = .ok (.goto 4, 3) := by decide +kernel
theorem dX7_sumOfThrows_71 : decode cX7_sumOfThrows 71 = .ok (.iconst 0, 1) := by decide +kernel
theorem dX7_sumOfThrows_72 : decode cX7_sumOfThrows 72 = .ok (.iadd, 1) := by decide +kernel
theorem dX7_sumOfThrows_73 : decode cX7_sumOfThrows 73 = .ok (.istore 4, 2) := by decide +kernel
theorem dX7_sumOfThrows_75 : decode cX7_sumOfThrows 75 = .ok (.iinc 5 1, 3) := by decide +kernel
theorem dX7_sumOfThrows_78 : decode cX7_sumOfThrows 78 = .ok (.goto (-46), 3) := by decide +kernel
theorem dX7_sumOfThrows_81 : decode cX7_sumOfThrows 81 = .ok (.aload_n 0, 1) := by decide +kernel
theorem dX7_sumOfThrows_82 : decode cX7_sumOfThrows 82 = .ok (.getfield 169, 3) := by decide +kernel
theorem dX7_sumOfThrows_85 : decode cX7_sumOfThrows 85 = .ok (.ifCond .ne 8, 3) := by decide +kernel
theorem dX7_sumOfThrows_88 : decode cX7_sumOfThrows 88 = .ok (.ldc 148, 2) := by decide +kernel
theorem dX7_sumOfThrows_90 : decode cX7_sumOfThrows 90 = .ok (.goto 5, 3) := by decide +kernel
theorem dX7_sumOfThrows_93 : decode cX7_sumOfThrows 93 = .ok (.iload 4, 2) := by decide +kernel
theorem dX7_sumOfThrows_95 : decode cX7_sumOfThrows 95 = .ok (.ireturn, 1) := by decide +kernel
theorem dX7_nearest_0 : decode cX7_nearest 0 = .ok (.iload_n 1, 1) := by decide +kernel
theorem dX7_nearest_1 : decode cX7_nearest 1 = .ok (.invokestatic 63, 3) := by decide +kernel
theorem dX7_nearest_4 : decode cX7_nearest 4 = .ok (.ifCond .eq 12, 3) := by decide +kernel
theorem dX7_nearest_7 : decode cX7_nearest 7 = .ok (.iload_n 2, 1) := by decide +kernel
theorem dX7_nearest_8 : decode cX7_nearest 8 = .ok (.iconst 0, 1) := by decide +kernel
theorem dX7_nearest_9 : decode cX7_nearest 9 = .ok (.iconst 1, 1) := by decide +kernel
theorem dX7_nearest_10 : decode cX7_nearest 10 = .ok (.invokestatic 59, 3) := by decide +kernel
theorem dX7_nearest_13 : decode cX7_nearest 13 = .ok (.ifCond .ne 6, 3) := by decide +kernel
theorem dX7_nearest_16 : decode cX7_nearest 16 = .ok (.ldc 87, 2) := by decide +kernel
theorem dX7_nearest_18 : decode cX7_nearest 18 = .ok (.ireturn, 1) := by decide +kernel
theorem dX7_nearest_19 : decode cX7_nearest 19 = .ok (.iconst (-1), 1) := by decide +kernel
theorem dX7_nearest_20 : decode cX7_nearest 20 = .ok (.istore_n 3, 1) := by decide +kernel
theorem dX7_nearest_21 : decode cX7_nearest 21 = .ok (.iconst 0, 1) := by decide +kernel
theorem dX7_nearest_22 : decode cX7_nearest 22 = .ok (.istore 4, 2) := by decide +kernel
theorem dX7_nearest_24 : decode cX7_nearest 24 = .ok (.iconst 0, 1) := by decide +kernel
theorem dX7_nearest_25 : decode cX7_nearest 25 = .ok (.istore 5, 2) := by decide +kernel
theorem dX7_nearest_27 : decode cX7_nearest 27 = .ok (.iload 5, 2) := by decide +kernel
theorem dX7_nearest_29 : decode cX7_nearest 29 = .ok (.iconst 4, 1) := by decide +kernel
theorem dX7_nearest_30 : decode cX7_nearest 30 = .ok (.if_icmp .ge 52, 3) := by decide +kernel
theorem dX7_nearest_33 : decode cX7_nearest 33 = .ok (.iload 5, 2) := by decide +kernel
theorem dX7_nearest_35 : decode cX7_nearest 35 = .ok (.iload_n 1, 1) := by decide +kernel
theorem dX7_nearest_36 : decode cX7_nearest 36 = .ok (.if_icmp .ne 7, 3) := by decide +kernel
theorem dX7_nearest_39 : decode cX7_nearest 39 = .ok (.iconst 0, 1) := by decide +kernel
theorem dX7_nearest_40 : decode cX7_nearest 40 = .ok (.goto 10, 3) := by decide +kernel
theorem dX7_nearest_43 : decode cX7_nearest 43 = .ok (.aload_n 0, 1) := by decide +kernel
theorem dX7_nearest_44 : decode cX7_nearest 44 = .ok (.iload_n 1, 1) := by decide +kernel
theorem dX7_nearest_45 : decode cX7_nearest 45 = .ok (.iload 5, 2) := by decide +kernel
theorem dX7_nearest_47 : decode cX7_nearest 47 = .ok (.invokevirtual 163, 3) := by decide +kernel
theorem dX7_nearest_50 : decode cX7_nearest 50 = .ok (.istore 6, 2) := by decide +kernel
theorem dX7_nearest_52 : decode cX7_nearest 52 = .ok (.iload 5, 2) := by decide +kernel
theorem dX7_nearest_54 : decode cX7_nearest 54 = .ok (.iload_n 1, 1) := by decide +kernel
theorem dX7_nearest_55 : decode cX7_nearest 55 = .ok (.if_icmp .eq 21, 3) := by decide +kernel
theorem dX7_nearest_58 : decode cX7_nearest 58 = .ok (.iload_n 3, 1) := by decide +kernel
theorem dX7_nearest_59 : decode cX7_nearest 59 = .ok (.ifCond .lt 10, 3) := by decide +kernel
theorem dX7_nearest_62 : decode cX7_nearest 62 = .ok (.iload 6, 2) := by decide +kernel
theorem dX7_nearest_64 : decode cX7_nearest 64 = .ok (.iload 4, 2) := by decide +kernel
theorem dX7_nearest_66 : decode cX7_nearest 66 = .ok (.if_icmp .ge 10, 3) := by decide +kernel
theorem dX7_nearest_69 : decode cX7_nearest 69 = .ok (.iload 5, 2) := by decide +kernel
theorem dX7_nearest_71 : decode cX7_nearest 71 = .ok (.istore_n 3, 1) := by decide +kernel
theorem dX7_nearest_72 : decode cX7_nearest 72 = .ok (.iload 6, 2) := by decide +kernel
theorem dX7_nearest_74 : decode cX7_nearest 74 = .ok (.istore 4, 2) := by decide +kernel
theorem dX7_nearest_76 : decode cX7_nearest 76 = .ok (.iinc 5 1, 3) := by decide +kernel
theorem dX7_nearest_79 : decode cX7_nearest 79 = .ok (.goto (-52), 3) := by decide +kernel
theorem dX7_nearest_82 : decode cX7_nearest 82 = .ok (.iload_n 2, 1) := by decide +kernel
theorem dX7_nearest_83 : decode cX7_nearest 83 = .ok (.ifCond .ne 7, 3) := by decide +kernel
theorem dX7_nearest_86 : decode cX7_nearest 86 = .ok (.iload_n 3, 1) := by decide +kernel
theorem dX7_nearest_87 : decode cX7_nearest 87 = .ok (.goto 5, 3) := by decide +kernel
theorem dX7_nearest_90 : decode cX7_nearest 90 = .ok (.iload 4, 2) := by decide +kernel
theorem dX7_nearest_92 : decode cX7_nearest 92 = .ok (.ireturn, 1) := by decide +kernel
theorem dX7_copiesTo_0 : decode cX7_copiesTo 0 = .ok (.iconst 0, 1) := by decide +kernel
theorem dX7_copiesTo_1 : decode cX7_copiesTo 1 = .ok (.istore_n 3, 1) := by decide +kernel
theorem dX7_copiesTo_2 : decode cX7_copiesTo 2 = .ok (.iload_n 3, 1) := by decide +kernel
theorem dX7_copiesTo_3 : decode cX7_copiesTo 3 = .ok (.iload_n 2, 1) := by decide +kernel
theorem dX7_copiesTo_4 : decode cX7_copiesTo 4 = .ok (.if_icmp .ge 18, 3) := by decide +kernel
theorem dX7_copiesTo_7 : decode cX7_copiesTo 7 = .ok (.aload_n 1, 1) := by decide +kernel
theorem dX7_copiesTo_8 : decode cX7_copiesTo 8 = .ok (.iload_n 3, 1) := by decide +kernel
theorem dX7_copiesTo_9 : decode cX7_copiesTo 9 = .ok (.aload_n 0, 1) := by decide +kernel
theorem dX7_copiesTo_10 : decode cX7_copiesTo 10 = .ok (.getfield 40, 3) := by decide +kernel
theorem dX7_copiesTo_13 : decode cX7_copiesTo 13 = .ok (.iload_n 3, 1) := by decide +kernel
theorem dX7_copiesTo_14 : decode cX7_copiesTo 14 = .ok (.iaload, 1) := by decide +kernel
theorem dX7_copiesTo_15 : decode cX7_copiesTo 15 = .ok (.iastore, 1) := by decide +kernel
theorem dX7_copiesTo_16 : decode cX7_copiesTo 16 = .ok (.iinc 3 1, 3) := by decide +kernel
theorem dX7_copiesTo_19 : decode cX7_copiesTo 19 = .ok (.goto (-17), 3) := by decide +kernel
theorem dX7_copiesTo_22 : decode cX7_copiesTo 22 = .ok (.return_, 1) := by decide +kernel
theorem dX7_closed_0 : decode cX7_closed 0 = .ok (.iload_n 1, 1) := by decide +kernel
theorem dX7_closed_1 : decode cX7_closed 1 = .ok (.iload_n 2, 1) := by decide +kernel
theorem dX7_closed_2 : decode cX7_closed 2 = .ok (.invokestatic 175, 3) := by decide +kernel
theorem dX7_closed_5 : decode cX7_closed 5 = .ok (.ifCond .eq 19, 3) := by decide +kernel
theorem dX7_closed_8 : decode cX7_closed 8 = .ok (.iload_n 2, 1) := by decide +kernel
theorem dX7_closed_9 : decode cX7_closed 9 = .ok (.iload_n 3, 1) := by decide +kernel
theorem dX7_closed_10 : decode cX7_closed 10 = .ok (.invokestatic 175, 3) := by decide +kernel
theorem dX7_closed_13 : decode cX7_closed 13 = .ok (.ifCond .eq 11, 3) := by decide +kernel
theorem dX7_closed_16 : decode cX7_closed 16 = .ok (.iload_n 1, 1) := by decide +kernel
theorem dX7_closed_17 : decode cX7_closed 17 = .ok (.iload_n 3, 1) := by decide +kernel
theorem dX7_closed_18 : decode cX7_closed 18 = .ok (.invokestatic 175, 3) := by decide +kernel
theorem dX7_closed_21 : decode cX7_closed 21 = .ok (.ifCond .ne 6, 3) := by decide +kernel
theorem dX7_closed_24 : decode cX7_closed 24 = .ok (.ldc 87, 2) := by decide +kernel
theorem dX7_closed_26 : decode cX7_closed 26 = .ok (.ireturn, 1) := by decide +kernel
theorem dX7_closed_27 : decode cX7_closed 27 = .ok (.aload_n 0, 1) := by decide +kernel
theorem dX7_closed_28 : decode cX7_closed 28 = .ok (.iload_n 1, 1) := by decide +kernel
theorem dX7_closed_29 : decode cX7_closed 29 = .ok (.iload_n 2, 1) := by decide +kernel
theorem dX7_closed_30 : decode cX7_closed 30 = .ok (.invokevirtual 182, 3) := by decide +kernel
theorem dX7_closed_33 : decode cX7_closed 33 = .ok (.aload_n 0, 1) := by decide +kernel
theorem dX7_closed_34 : decode cX7_closed 34 = .ok (.aload_n 0, 1) := by decide +kernel
theorem dX7_closed_35 : decode cX7_closed 35 = .ok (.getfield 49, 3) := by decide +kernel
theorem dX7_closed_38 : decode cX7_closed 38 = .ok (.aload_n 0, 1) := by decide +kernel
theorem dX7_closed_39 : decode cX7_closed 39 = .ok (.getfield 7, 3) := by decide +kernel
theorem dX7_closed_42 : decode cX7_closed 42 = .ok (.bipush 10, 2) := by decide +kernel
theorem dX7_closed_44 : decode cX7_closed 44 = .ok (.iload_n 1, 1) := by decide +kernel
theorem dX7_closed_45 : decode cX7_closed 45 = .ok (.iadd, 1) := by decide +kernel
theorem dX7_closed_46 : decode cX7_closed 46 = .ok (.iaload, 1) := by decide +kernel
theorem dX7_closed_47 : decode cX7_closed 47 = .ok (.invokevirtual 187, 3) := by decide +kernel
theorem dX7_closed_50 : decode cX7_closed 50 = .ok (.aload_n 0, 1) := by decide +kernel
theorem dX7_closed_51 : decode cX7_closed 51 = .ok (.iload_n 1, 1) := by decide +kernel
theorem dX7_closed_52 : decode cX7_closed 52 = .ok (.iload_n 3, 1) := by decide +kernel
theorem dX7_closed_53 : decode cX7_closed 53 = .ok (.invokevirtual 182, 3) := by decide +kernel
theorem dX7_closed_56 : decode cX7_closed 56 = .ok (.aload_n 0, 1) := by decide +kernel
theorem dX7_closed_57 : decode cX7_closed 57 = .ok (.aload_n 0, 1) := by decide +kernel
theorem dX7_closed_58 : decode cX7_closed 58 = .ok (.getfield 52, 3) := by decide +kernel
theorem dX7_closed_61 : decode cX7_closed 61 = .ok (.aload_n 0, 1) := by decide +kernel
theorem dX7_closed_62 : decode cX7_closed 62 = .ok (.getfield 7, 3) := by decide +kernel
theorem dX7_closed_65 : decode cX7_closed 65 = .ok (.bipush 10, 2) := by decide +kernel
theorem dX7_closed_67 : decode cX7_closed 67 = .ok (.iload_n 1, 1) := by decide +kernel
theorem dX7_closed_68 : decode cX7_closed 68 = .ok (.iadd, 1) := by decide +kernel
theorem dX7_closed_69 : decode cX7_closed 69 = .ok (.iaload, 1) := by decide +kernel
theorem dX7_closed_70 : decode cX7_closed 70 = .ok (.invokevirtual 187, 3) := by decide +kernel
theorem dX7_closed_73 : decode cX7_closed 73 = .ok (.aload_n 0, 1) := by decide +kernel
theorem dX7_closed_74 : decode cX7_closed 74 = .ok (.iload_n 2, 1) := by decide +kernel
theorem dX7_closed_75 : decode cX7_closed 75 = .ok (.iload_n 3, 1) := by decide +kernel
theorem dX7_closed_76 : decode cX7_closed 76 = .ok (.invokevirtual 182, 3) := by decide +kernel
theorem dX7_closed_79 : decode cX7_closed 79 = .ok (.iconst 0, 1) := by decide +kernel
theorem dX7_closed_80 : decode cX7_closed 80 = .ok (.istore 4, 2) := by decide +kernel
theorem dX7_closed_82 : decode cX7_closed 82 = .ok (.iconst 0, 1) := by decide +kernel
theorem dX7_closed_83 : decode cX7_closed 83 = .ok (.istore 5, 2) := by decide +kernel
theorem dX7_closed_85 : decode cX7_closed 85 = .ok (.iload 5, 2) := by decide +kernel
theorem dX7_closed_87 : decode cX7_closed 87 = .ok (.aload_n 0, 1) := by decide +kernel
theorem dX7_closed_88 : decode cX7_closed 88 = .ok (.getfield 7, 3) := by decide +kernel
theorem dX7_closed_91 : decode cX7_closed 91 = .ok (.bipush 10, 2) := by decide +kernel
theorem dX7_closed_93 : decode cX7_closed 93 = .ok (.iload_n 1, 1) := by decide +kernel
theorem dX7_closed_94 : decode cX7_closed 94 = .ok (.iadd, 1) := by decide +kernel
theorem dX7_closed_95 : decode cX7_closed 95 = .ok (.iaload, 1) := by decide +kernel
theorem dX7_closed_96 : decode cX7_closed 96 = .ok (.if_icmp .ge 61, 3) := by decide +kernel
theorem dX7_closed_99 : decode cX7_closed 99 = .ok (.iload 4, 2) := by decide +kernel
theorem dX7_closed_101 : decode cX7_closed 101 = .ok (.aload_n 0, 1) := by decide +kernel
theorem dX7_closed_102 : decode cX7_closed 102 = .ok (.getfield 49, 3) := by decide +kernel
theorem dX7_closed_105 : decode cX7_closed 105 = .ok (.iload 5, 2) := by decide +kernel
theorem dX7_closed_107 : decode cX7_closed 107 = .ok (.iaload, 1) := by decide +kernel
theorem dX7_closed_108 : decode cX7_closed 108 = .ok (.ifCond .lt 39, 3) := by decide +kernel
theorem dX7_closed_111 : decode cX7_closed 111 = .ok (.aload_n 0, 1) := by decide +kernel
theorem dX7_closed_112 : decode cX7_closed 112 = .ok (.getfield 52, 3) := by decide +kernel
theorem dX7_closed_115 : decode cX7_closed 115 = .ok (.iload 5, 2) := by decide +kernel
theorem dX7_closed_117 : decode cX7_closed 117 = .ok (.iaload, 1) := by decide +kernel
theorem dX7_closed_118 : decode cX7_closed 118 = .ok (.ifCond .lt 29, 3) := by decide +kernel
theorem dX7_closed_121 : decode cX7_closed 121 = .ok (.aload_n 0, 1) := by decide +kernel
theorem dX7_closed_122 : decode cX7_closed 122 = .ok (.getfield 40, 3) := by decide +kernel
theorem dX7_closed_125 : decode cX7_closed 125 = .ok (.aload_n 0, 1) := by decide +kernel
theorem dX7_closed_126 : decode cX7_closed 126 = .ok (.getfield 49, 3) := by decide +kernel
theorem dX7_closed_129 : decode cX7_closed 129 = .ok (.iload 5, 2) := by decide +kernel
theorem dX7_closed_131 : decode cX7_closed 131 = .ok (.iaload, 1) := by decide +kernel
theorem dX7_closed_132 : decode cX7_closed 132 = .ok (.iaload, 1) := by decide +kernel
theorem dX7_closed_133 : decode cX7_closed 133 = .ok (.aload_n 0, 1) := by decide +kernel
theorem dX7_closed_134 : decode cX7_closed 134 = .ok (.getfield 52, 3) := by decide +kernel
theorem dX7_closed_137 : decode cX7_closed 137 = .ok (.iload 5, 2) := by decide +kernel
theorem dX7_closed_139 : decode cX7_closed 139 = .ok (.iaload, 1) := by decide +kernel
theorem dX7_closed_140 : decode cX7_closed 140 = .ok (.if_icmp .ne 7, 3) := by decide +kernel
theorem dX7_closed_143 : decode cX7_closed 143 = .ok (.iconst 1, 1) := by decide +kernel
theorem dX7_closed_144 : decode cX7_closed 144 = .ok (.goto 4, 3) := by decide +kernel
theorem dX7_closed_147 : decode cX7_closed 147 = .ok (.iconst 0, 1) := by decide +kernel
theorem dX7_closed_148 : decode cX7_closed 148 = .ok (.iadd, 1) := by decide +kernel
theorem dX7_closed_149 : decode cX7_closed 149 = .ok (.istore 4, 2) := by decide +kernel
theorem dX7_closed_151 : decode cX7_closed 151 = .ok (.iinc 5 1, 3) := by decide +kernel
theorem dX7_closed_154 : decode cX7_closed 154 = .ok (.goto (-69), 3) := by decide +kernel
theorem dX7_closed_157 : decode cX7_closed 157 = .ok (.iload 4, 2) := by decide +kernel
theorem dX7_closed_159 : decode cX7_closed 159 = .ok (.ireturn, 1) := by decide +kernel
theorem dJ6_bitCount_0f7a4_0 : decode cJ6_bitCount_0f7a4 0 = .ok (.iload_n 0, 1) := by decide +kernel
theorem dJ6_bitCount_0f7a4_1 : decode cJ6_bitCount_0f7a4 1 = .ok (.iload_n 0, 1) := by decide +kernel
theorem dJ6_bitCount_0f7a4_2 : decode cJ6_bitCount_0f7a4 2 = .ok (.iconst 1, 1) := by decide +kernel
theorem dJ6_bitCount_0f7a4_3 : decode cJ6_bitCount_0f7a4 3 = .ok (.iushr, 1) := by decide +kernel
theorem dJ6_bitCount_0f7a4_4 : decode cJ6_bitCount_0f7a4 4 = .ok (.ldc_w 265, 3) := by decide +kernel
theorem dJ6_bitCount_0f7a4_7 : decode cJ6_bitCount_0f7a4 7 = .ok (.iand, 1) := by decide +kernel
theorem dJ6_bitCount_0f7a4_8 : decode cJ6_bitCount_0f7a4 8 = .ok (.isub, 1) := by decide +kernel
theorem dJ6_bitCount_0f7a4_9 : decode cJ6_bitCount_0f7a4 9 = .ok (.istore_n 0, 1) := by decide +kernel
theorem dJ6_bitCount_0f7a4_10 : decode cJ6_bitCount_0f7a4 10 = .ok (.iload_n 0, 1) := by decide +kernel
theorem dJ6_bitCount_0f7a4_11 : decode cJ6_bitCount_0f7a4 11 = .ok (.ldc_w 266, 3) := by decide +kernel
theorem dJ6_bitCount_0f7a4_14 : decode cJ6_bitCount_0f7a4 14 = .ok (.iand, 1) := by decide +kernel
theorem dJ6_bitCount_0f7a4_15 : decode cJ6_bitCount_0f7a4 15 = .ok (.iload_n 0, 1) := by decide +kernel
theorem dJ6_bitCount_0f7a4_16 : decode cJ6_bitCount_0f7a4 16 = .ok (.iconst 2, 1) := by decide +kernel
theorem dJ6_bitCount_0f7a4_17 : decode cJ6_bitCount_0f7a4 17 = .ok (.iushr, 1) := by decide +kernel
theorem dJ6_bitCount_0f7a4_18 : decode cJ6_bitCount_0f7a4 18 = .ok (.ldc_w 266, 3) := by decide +kernel
theorem dJ6_bitCount_0f7a4_21 : decode cJ6_bitCount_0f7a4 21 = .ok (.iand, 1) := by decide +kernel
theorem dJ6_bitCount_0f7a4_22 : decode cJ6_bitCount_0f7a4 22 = .ok (.iadd, 1) := by decide +kernel
theorem dJ6_bitCount_0f7a4_23 : decode cJ6_bitCount_0f7a4 23 = .ok (.istore_n 0, 1) := by decide +kernel
theorem dJ6_bitCount_0f7a4_24 : decode cJ6_bitCount_0f7a4 24 = .ok (.iload_n 0, 1) := by decide +kernel
theorem dJ6_bitCount_0f7a4_25 : decode cJ6_bitCount_0f7a4 25 = .ok (.iload_n 0, 1) := by decide +kernel
theorem dJ6_bitCount_0f7a4_26 : decode cJ6_bitCount_0f7a4 26 = .ok (.iconst 4, 1) := by decide +kernel
theorem dJ6_bitCount_0f7a4_27 : decode cJ6_bitCount_0f7a4 27 = .ok (.iushr, 1) := by decide +kernel
theorem dJ6_bitCount_0f7a4_28 : decode cJ6_bitCount_0f7a4 28 = .ok (.iadd, 1) := by decide +kernel
theorem dJ6_bitCount_0f7a4_29 : decode cJ6_bitCount_0f7a4 29 = .ok (.ldc_w 267, 3) := by decide +kernel
theorem dJ6_bitCount_0f7a4_32 : decode cJ6_bitCount_0f7a4 32 = .ok (.iand, 1) := by decide +kernel
theorem dJ6_bitCount_0f7a4_33 : decode cJ6_bitCount_0f7a4 33 = .ok (.istore_n 0, 1) := by decide +kernel
theorem dJ6_bitCount_0f7a4_34 : decode cJ6_bitCount_0f7a4 34 = .ok (.iload_n 0, 1) := by decide +kernel
theorem dJ6_bitCount_0f7a4_35 : decode cJ6_bitCount_0f7a4 35 = .ok (.iload_n 0, 1) := by decide +kernel
theorem dJ6_bitCount_0f7a4_36 : decode cJ6_bitCount_0f7a4 36 = .ok (.bipush 8, 2) := by decide +kernel
theorem dJ6_bitCount_0f7a4_38 : decode cJ6_bitCount_0f7a4 38 = .ok (.iushr, 1) := by decide +kernel
theorem dJ6_bitCount_0f7a4_39 : decode cJ6_bitCount_0f7a4 39 = .ok (.iadd, 1) := by decide +kernel
theorem dJ6_bitCount_0f7a4_40 : decode cJ6_bitCount_0f7a4 40 = .ok (.istore_n 0, 1) := by decide +kernel
theorem dJ6_bitCount_0f7a4_41 : decode cJ6_bitCount_0f7a4 41 = .ok (.iload_n 0, 1) := by decide +kernel
theorem dJ6_bitCount_0f7a4_42 : decode cJ6_bitCount_0f7a4 42 = .ok (.iload_n 0, 1) := by decide +kernel
theorem dJ6_bitCount_0f7a4_43 : decode cJ6_bitCount_0f7a4 43 = .ok (.bipush 16, 2) := by decide +kernel
theorem dJ6_bitCount_0f7a4_45 : decode cJ6_bitCount_0f7a4 45 = .ok (.iushr, 1) := by decide +kernel
theorem dJ6_bitCount_0f7a4_46 : decode cJ6_bitCount_0f7a4 46 = .ok (.iadd, 1) := by decide +kernel
theorem dJ6_bitCount_0f7a4_47 : decode cJ6_bitCount_0f7a4 47 = .ok (.istore_n 0, 1) := by decide +kernel
theorem dJ6_bitCount_0f7a4_48 : decode cJ6_bitCount_0f7a4 48 = .ok (.iload_n 0, 1) := by decide +kernel
theorem dJ6_bitCount_0f7a4_49 : decode cJ6_bitCount_0f7a4 49 = .ok (.bipush 63, 2) := by decide +kernel
theorem dJ6_bitCount_0f7a4_51 : decode cJ6_bitCount_0f7a4 51 = .ok (.iand, 1) := by decide +kernel
theorem dJ6_bitCount_0f7a4_52 : decode cJ6_bitCount_0f7a4 52 = .ok (.ireturn, 1) := by decide +kernel
theorem dJ9_abs_0f7a4_0 : decode cJ9_abs_0f7a4 0 = .ok (.iload_n 0, 1) := by decide +kernel
theorem dJ9_abs_0f7a4_1 : decode cJ9_abs_0f7a4 1 = .ok (.ifCond .ge 8, 3) := by decide +kernel
theorem dJ9_abs_0f7a4_4 : decode cJ9_abs_0f7a4 4 = .ok (.iload_n 0, 1) := by decide +kernel
theorem dJ9_abs_0f7a4_5 : decode cJ9_abs_0f7a4 5 = .ok (.ineg, 1) := by decide +kernel
theorem dJ9_abs_0f7a4_6 : decode cJ9_abs_0f7a4 6 = .ok (.goto 4, 3) := by decide +kernel
theorem dJ9_abs_0f7a4_9 : decode cJ9_abs_0f7a4 9 = .ok (.iload_n 0, 1) := by decide +kernel
theorem dJ9_abs_0f7a4_10 : decode cJ9_abs_0f7a4 10 = .ok (.ireturn, 1) := by decide +kernel
theorem dJ9_max_7cf53_0 : decode cJ9_max_7cf53 0 = .ok (.iload_n 0, 1) := by decide +kernel
theorem dJ9_max_7cf53_1 : decode cJ9_max_7cf53 1 = .ok (.iload_n 1, 1) := by decide +kernel
theorem dJ9_max_7cf53_2 : decode cJ9_max_7cf53 2 = .ok (.if_icmp .lt 7, 3) := by decide +kernel
theorem dJ9_max_7cf53_5 : decode cJ9_max_7cf53 5 = .ok (.iload_n 0, 1) := by decide +kernel
theorem dJ9_max_7cf53_6 : decode cJ9_max_7cf53 6 = .ok (.goto 4, 3) := by decide +kernel
theorem dJ9_max_7cf53_9 : decode cJ9_max_7cf53 9 = .ok (.iload_n 1, 1) := by decide +kernel
theorem dJ9_max_7cf53_10 : decode cJ9_max_7cf53 10 = .ok (.ireturn, 1) := by decide +kernel
theorem dJ9_min_7cf53_0 : decode cJ9_min_7cf53 0 = .ok (.iload_n 0, 1) := by decide +kernel
theorem dJ9_min_7cf53_1 : decode cJ9_min_7cf53 1 = .ok (.iload_n 1, 1) := by decide +kernel
theorem dJ9_min_7cf53_2 : decode cJ9_min_7cf53 2 = .ok (.if_icmp .gt 7, 3) := by decide +kernel
theorem dJ9_min_7cf53_5 : decode cJ9_min_7cf53 5 = .ok (.iload_n 0, 1) := by decide +kernel
theorem dJ9_min_7cf53_6 : decode cJ9_min_7cf53 6 = .ok (.goto 4, 3) := by decide +kernel
theorem dJ9_min_7cf53_9 : decode cJ9_min_7cf53 9 = .ok (.iload_n 1, 1) := by decide +kernel
theorem dJ9_min_7cf53_10 : decode cJ9_min_7cf53 10 = .ok (.ireturn, 1) := by decide +kernel
theorem dL_law_0 : decode cL_law 0 = .ok (.new 7, 3) := by decide +kernel
theorem dL_law_3 : decode cL_law 3 = .ok (.dup, 1) := by decide +kernel
theorem dL_law_4 : decode cL_law 4 = .ok (.invokespecial 9, 3) := by decide +kernel
theorem dL_law_7 : decode cL_law 7 = .ok (.astore_n 1, 1) := by decide +kernel
theorem dL_law_8 : decode cL_law 8 = .ok (.new 10, 3) := by decide +kernel
theorem dL_law_11 : decode cL_law 11 = .ok (.dup, 1) := by decide +kernel
theorem dL_law_12 : decode cL_law 12 = .ok (.invokespecial 12, 3) := by decide +kernel
theorem dL_law_15 : decode cL_law 15 = .ok (.astore_n 2, 1) := by decide +kernel
theorem dL_law_16 : decode cL_law 16 = .ok (.iconst 0, 1) := by decide +kernel
theorem dL_law_17 : decode cL_law 17 = .ok (.istore_n 3, 1) := by decide +kernel
theorem dL_law_18 : decode cL_law 18 = .ok (.iload_n 3, 1) := by decide +kernel
theorem dL_law_19 : decode cL_law 19 = .ok (.aload_n 0, 1) := by decide +kernel
theorem dL_law_20 : decode cL_law 20 = .ok (.arraylength, 1) := by decide +kernel
theorem dL_law_21 : decode cL_law 21 = .ok (.iconst 5, 1) := by decide +kernel
theorem dL_law_22 : decode cL_law 22 = .ok (.isub, 1) := by decide +kernel
theorem dL_law_23 : decode cL_law 23 = .ok (.if_icmp .gt 1043, 3) := by decide +kernel
theorem dL_law_26 : decode cL_law 26 = .ok (.aload_n 0, 1) := by decide +kernel
theorem dL_law_27 : decode cL_law 27 = .ok (.iload_n 3, 1) := by decide +kernel
theorem dL_law_28 : decode cL_law 28 = .ok (.iaload, 1) := by decide +kernel
theorem dL_law_29 : decode cL_law 29 = .ok (.bipush 31, 2) := by decide +kernel
theorem dL_law_31 : decode cL_law 31 = .ok (.iand, 1) := by decide +kernel
theorem dL_law_32 : decode cL_law 32 = .ok (.tableswitch 1028 0 25 #[120, 153, 186, 219, 272, 305, 348, 391, 414, 427, 440, 463, 486, 499, 522, 555, 598, 641, 664, 707, 760, 813, 856, 909, 952, 985], 120) := by decide +kernel
theorem dL_law_152 : decode cL_law 152 = .ok (.aload_n 1, 1) := by decide +kernel
theorem dL_law_153 : decode cL_law 153 = .ok (.aload_n 0, 1) := by decide +kernel
theorem dL_law_154 : decode cL_law 154 = .ok (.iload_n 3, 1) := by decide +kernel
theorem dL_law_155 : decode cL_law 155 = .ok (.iconst 1, 1) := by decide +kernel
theorem dL_law_156 : decode cL_law 156 = .ok (.iadd, 1) := by decide +kernel
theorem dL_law_157 : decode cL_law 157 = .ok (.iaload, 1) := by decide +kernel
theorem dL_law_158 : decode cL_law 158 = .ok (.aload_n 0, 1) := by decide +kernel
theorem dL_law_159 : decode cL_law 159 = .ok (.iload_n 3, 1) := by decide +kernel
theorem dL_law_160 : decode cL_law 160 = .ok (.iconst 2, 1) := by decide +kernel
theorem dL_law_161 : decode cL_law 161 = .ok (.iadd, 1) := by decide +kernel
theorem dL_law_162 : decode cL_law 162 = .ok (.iaload, 1) := by decide +kernel
theorem dL_law_163 : decode cL_law 163 = .ok (.invokevirtual 13, 3) := by decide +kernel
theorem dL_law_166 : decode cL_law 166 = .ok (.aload_n 2, 1) := by decide +kernel
theorem dL_law_167 : decode cL_law 167 = .ok (.aload_n 0, 1) := by decide +kernel
theorem dL_law_168 : decode cL_law 168 = .ok (.iload_n 3, 1) := by decide +kernel
theorem dL_law_169 : decode cL_law 169 = .ok (.iconst 1, 1) := by decide +kernel
theorem dL_law_170 : decode cL_law 170 = .ok (.iadd, 1) := by decide +kernel
theorem dL_law_171 : decode cL_law 171 = .ok (.iaload, 1) := by decide +kernel
theorem dL_law_172 : decode cL_law 172 = .ok (.aload_n 0, 1) := by decide +kernel
theorem dL_law_173 : decode cL_law 173 = .ok (.iload_n 3, 1) := by decide +kernel
theorem dL_law_174 : decode cL_law 174 = .ok (.iconst 2, 1) := by decide +kernel
theorem dL_law_175 : decode cL_law 175 = .ok (.iadd, 1) := by decide +kernel
theorem dL_law_176 : decode cL_law 176 = .ok (.iaload, 1) := by decide +kernel
theorem dL_law_177 : decode cL_law 177 = .ok (.invokevirtual 17, 3) := by decide +kernel
theorem dL_law_180 : decode cL_law 180 = .ok (.if_icmp .eq 880, 3) := by decide +kernel
theorem dL_law_183 : decode cL_law 183 = .ok (.iconst 0, 1) := by decide +kernel
theorem dL_law_184 : decode cL_law 184 = .ok (.ireturn, 1) := by decide +kernel
theorem dL_law_185 : decode cL_law 185 = .ok (.aload_n 1, 1) := by decide +kernel
theorem dL_law_186 : decode cL_law 186 = .ok (.aload_n 0, 1) := by decide +kernel
theorem dL_law_187 : decode cL_law 187 = .ok (.iload_n 3, 1) := by decide +kernel
theorem dL_law_188 : decode cL_law 188 = .ok (.iconst 1, 1) := by decide +kernel
theorem dL_law_189 : decode cL_law 189 = .ok (.iadd, 1) := by decide +kernel
theorem dL_law_190 : decode cL_law 190 = .ok (.iaload, 1) := by decide +kernel
theorem dL_law_191 : decode cL_law 191 = .ok (.aload_n 0, 1) := by decide +kernel
theorem dL_law_192 : decode cL_law 192 = .ok (.iload_n 3, 1) := by decide +kernel
theorem dL_law_193 : decode cL_law 193 = .ok (.iconst 2, 1) := by decide +kernel
theorem dL_law_194 : decode cL_law 194 = .ok (.iadd, 1) := by decide +kernel
theorem dL_law_195 : decode cL_law 195 = .ok (.iaload, 1) := by decide +kernel
theorem dL_law_196 : decode cL_law 196 = .ok (.invokevirtual 18, 3) := by decide +kernel
theorem dL_law_199 : decode cL_law 199 = .ok (.aload_n 2, 1) := by decide +kernel
theorem dL_law_200 : decode cL_law 200 = .ok (.aload_n 0, 1) := by decide +kernel
theorem dL_law_201 : decode cL_law 201 = .ok (.iload_n 3, 1) := by decide +kernel
theorem dL_law_202 : decode cL_law 202 = .ok (.iconst 1, 1) := by decide +kernel
theorem dL_law_203 : decode cL_law 203 = .ok (.iadd, 1) := by decide +kernel
theorem dL_law_204 : decode cL_law 204 = .ok (.iaload, 1) := by decide +kernel
theorem dL_law_205 : decode cL_law 205 = .ok (.aload_n 0, 1) := by decide +kernel
theorem dL_law_206 : decode cL_law 206 = .ok (.iload_n 3, 1) := by decide +kernel
theorem dL_law_207 : decode cL_law 207 = .ok (.iconst 2, 1) := by decide +kernel
theorem dL_law_208 : decode cL_law 208 = .ok (.iadd, 1) := by decide +kernel
theorem dL_law_209 : decode cL_law 209 = .ok (.iaload, 1) := by decide +kernel
theorem dL_law_210 : decode cL_law 210 = .ok (.invokevirtual 21, 3) := by decide +kernel
theorem dL_law_213 : decode cL_law 213 = .ok (.if_icmp .eq 847, 3) := by decide +kernel
theorem dL_law_216 : decode cL_law 216 = .ok (.iconst 0, 1) := by decide +kernel
theorem dL_law_217 : decode cL_law 217 = .ok (.ireturn, 1) := by decide +kernel
theorem dL_law_218 : decode cL_law 218 = .ok (.aload_n 1, 1) := by decide +kernel
theorem dL_law_219 : decode cL_law 219 = .ok (.aload_n 0, 1) := by decide +kernel
theorem dL_law_220 : decode cL_law 220 = .ok (.iload_n 3, 1) := by decide +kernel
theorem dL_law_221 : decode cL_law 221 = .ok (.iconst 1, 1) := by decide +kernel
theorem dL_law_222 : decode cL_law 222 = .ok (.iadd, 1) := by decide +kernel
theorem dL_law_223 : decode cL_law 223 = .ok (.iaload, 1) := by decide +kernel
theorem dL_law_224 : decode cL_law 224 = .ok (.aload_n 0, 1) := by decide +kernel
theorem dL_law_225 : decode cL_law 225 = .ok (.iload_n 3, 1) := by decide +kernel
theorem dL_law_226 : decode cL_law 226 = .ok (.iconst 2, 1) := by decide +kernel
theorem dL_law_227 : decode cL_law 227 = .ok (.iadd, 1) := by decide +kernel
theorem dL_law_228 : decode cL_law 228 = .ok (.iaload, 1) := by decide +kernel
theorem dL_law_229 : decode cL_law 229 = .ok (.invokevirtual 22, 3) := by decide +kernel
theorem dL_law_232 : decode cL_law 232 = .ok (.aload_n 2, 1) := by decide +kernel
theorem dL_law_233 : decode cL_law 233 = .ok (.aload_n 0, 1) := by decide +kernel
theorem dL_law_234 : decode cL_law 234 = .ok (.iload_n 3, 1) := by decide +kernel
theorem dL_law_235 : decode cL_law 235 = .ok (.iconst 1, 1) := by decide +kernel
theorem dL_law_236 : decode cL_law 236 = .ok (.iadd, 1) := by decide +kernel
theorem dL_law_237 : decode cL_law 237 = .ok (.iaload, 1) := by decide +kernel
theorem dL_law_238 : decode cL_law 238 = .ok (.aload_n 0, 1) := by decide +kernel
theorem dL_law_239 : decode cL_law 239 = .ok (.iload_n 3, 1) := by decide +kernel
theorem dL_law_240 : decode cL_law 240 = .ok (.iconst 2, 1) := by decide +kernel
theorem dL_law_241 : decode cL_law 241 = .ok (.iadd, 1) := by decide +kernel
theorem dL_law_242 : decode cL_law 242 = .ok (.iaload, 1) := by decide +kernel
theorem dL_law_243 : decode cL_law 243 = .ok (.invokevirtual 25, 3) := by decide +kernel
theorem dL_law_246 : decode cL_law 246 = .ok (.if_icmp .eq 814, 3) := by decide +kernel
theorem dL_law_249 : decode cL_law 249 = .ok (.iconst 0, 1) := by decide +kernel
theorem dL_law_250 : decode cL_law 250 = .ok (.ireturn, 1) := by decide +kernel
theorem dL_law_251 : decode cL_law 251 = .ok (.aload_n 1, 1) := by decide +kernel
theorem dL_law_252 : decode cL_law 252 = .ok (.aload_n 0, 1) := by decide +kernel
theorem dL_law_253 : decode cL_law 253 = .ok (.iload_n 3, 1) := by decide +kernel
theorem dL_law_254 : decode cL_law 254 = .ok (.iconst 1, 1) := by decide +kernel
theorem dL_law_255 : decode cL_law 255 = .ok (.iadd, 1) := by decide +kernel
theorem dL_law_256 : decode cL_law 256 = .ok (.iaload, 1) := by decide +kernel
theorem dL_law_257 : decode cL_law 257 = .ok (.aload_n 0, 1) := by decide +kernel
theorem dL_law_258 : decode cL_law 258 = .ok (.iload_n 3, 1) := by decide +kernel
theorem dL_law_259 : decode cL_law 259 = .ok (.iconst 2, 1) := by decide +kernel
theorem dL_law_260 : decode cL_law 260 = .ok (.iadd, 1) := by decide +kernel
theorem dL_law_261 : decode cL_law 261 = .ok (.iaload, 1) := by decide +kernel
theorem dL_law_262 : decode cL_law 262 = .ok (.aload_n 0, 1) := by decide +kernel
theorem dL_law_263 : decode cL_law 263 = .ok (.iload_n 3, 1) := by decide +kernel
theorem dL_law_264 : decode cL_law 264 = .ok (.iconst 3, 1) := by decide +kernel
theorem dL_law_265 : decode cL_law 265 = .ok (.iadd, 1) := by decide +kernel
theorem dL_law_266 : decode cL_law 266 = .ok (.iaload, 1) := by decide +kernel
theorem dL_law_267 : decode cL_law 267 = .ok (.aload_n 0, 1) := by decide +kernel
theorem dL_law_268 : decode cL_law 268 = .ok (.iload_n 3, 1) := by decide +kernel
theorem dL_law_269 : decode cL_law 269 = .ok (.iconst 4, 1) := by decide +kernel
theorem dL_law_270 : decode cL_law 270 = .ok (.iadd, 1) := by decide +kernel
theorem dL_law_271 : decode cL_law 271 = .ok (.iaload, 1) := by decide +kernel
theorem dL_law_272 : decode cL_law 272 = .ok (.invokevirtual 26, 3) := by decide +kernel
theorem dL_law_275 : decode cL_law 275 = .ok (.aload_n 2, 1) := by decide +kernel
theorem dL_law_276 : decode cL_law 276 = .ok (.aload_n 0, 1) := by decide +kernel
theorem dL_law_277 : decode cL_law 277 = .ok (.iload_n 3, 1) := by decide +kernel
theorem dL_law_278 : decode cL_law 278 = .ok (.iconst 1, 1) := by decide +kernel
theorem dL_law_279 : decode cL_law 279 = .ok (.iadd, 1) := by decide +kernel
theorem dL_law_280 : decode cL_law 280 = .ok (.iaload, 1) := by decide +kernel
theorem dL_law_281 : decode cL_law 281 = .ok (.aload_n 0, 1) := by decide +kernel
theorem dL_law_282 : decode cL_law 282 = .ok (.iload_n 3, 1) := by decide +kernel
theorem dL_law_283 : decode cL_law 283 = .ok (.iconst 2, 1) := by decide +kernel
theorem dL_law_284 : decode cL_law 284 = .ok (.iadd, 1) := by decide +kernel
theorem dL_law_285 : decode cL_law 285 = .ok (.iaload, 1) := by decide +kernel
theorem dL_law_286 : decode cL_law 286 = .ok (.aload_n 0, 1) := by decide +kernel
theorem dL_law_287 : decode cL_law 287 = .ok (.iload_n 3, 1) := by decide +kernel
theorem dL_law_288 : decode cL_law 288 = .ok (.iconst 3, 1) := by decide +kernel
theorem dL_law_289 : decode cL_law 289 = .ok (.iadd, 1) := by decide +kernel
theorem dL_law_290 : decode cL_law 290 = .ok (.iaload, 1) := by decide +kernel
theorem dL_law_291 : decode cL_law 291 = .ok (.aload_n 0, 1) := by decide +kernel
theorem dL_law_292 : decode cL_law 292 = .ok (.iload_n 3, 1) := by decide +kernel
theorem dL_law_293 : decode cL_law 293 = .ok (.iconst 4, 1) := by decide +kernel
theorem dL_law_294 : decode cL_law 294 = .ok (.iadd, 1) := by decide +kernel
theorem dL_law_295 : decode cL_law 295 = .ok (.iaload, 1) := by decide +kernel
theorem dL_law_296 : decode cL_law 296 = .ok (.invokevirtual 30, 3) := by decide +kernel
theorem dL_law_299 : decode cL_law 299 = .ok (.if_icmp .eq 761, 3) := by decide +kernel
theorem dL_law_302 : decode cL_law 302 = .ok (.iconst 0, 1) := by decide +kernel
theorem dL_law_303 : decode cL_law 303 = .ok (.ireturn, 1) := by decide +kernel
theorem dL_law_304 : decode cL_law 304 = .ok (.aload_n 1, 1) := by decide +kernel
theorem dL_law_305 : decode cL_law 305 = .ok (.aload_n 0, 1) := by decide +kernel
theorem dL_law_306 : decode cL_law 306 = .ok (.iload_n 3, 1) := by decide +kernel
theorem dL_law_307 : decode cL_law 307 = .ok (.iconst 1, 1) := by decide +kernel
theorem dL_law_308 : decode cL_law 308 = .ok (.iadd, 1) := by decide +kernel
theorem dL_law_309 : decode cL_law 309 = .ok (.iaload, 1) := by decide +kernel
theorem dL_law_310 : decode cL_law 310 = .ok (.aload_n 0, 1) := by decide +kernel
theorem dL_law_311 : decode cL_law 311 = .ok (.iload_n 3, 1) := by decide +kernel
theorem dL_law_312 : decode cL_law 312 = .ok (.iconst 2, 1) := by decide +kernel
theorem dL_law_313 : decode cL_law 313 = .ok (.iadd, 1) := by decide +kernel
theorem dL_law_314 : decode cL_law 314 = .ok (.iaload, 1) := by decide +kernel
theorem dL_law_315 : decode cL_law 315 = .ok (.invokevirtual 31, 3) := by decide +kernel
theorem dL_law_318 : decode cL_law 318 = .ok (.aload_n 2, 1) := by decide +kernel
theorem dL_law_319 : decode cL_law 319 = .ok (.aload_n 0, 1) := by decide +kernel
theorem dL_law_320 : decode cL_law 320 = .ok (.iload_n 3, 1) := by decide +kernel
theorem dL_law_321 : decode cL_law 321 = .ok (.iconst 1, 1) := by decide +kernel
theorem dL_law_322 : decode cL_law 322 = .ok (.iadd, 1) := by decide +kernel
theorem dL_law_323 : decode cL_law 323 = .ok (.iaload, 1) := by decide +kernel
theorem dL_law_324 : decode cL_law 324 = .ok (.aload_n 0, 1) := by decide +kernel
theorem dL_law_325 : decode cL_law 325 = .ok (.iload_n 3, 1) := by decide +kernel
theorem dL_law_326 : decode cL_law 326 = .ok (.iconst 2, 1) := by decide +kernel
theorem dL_law_327 : decode cL_law 327 = .ok (.iadd, 1) := by decide +kernel
theorem dL_law_328 : decode cL_law 328 = .ok (.iaload, 1) := by decide +kernel
theorem dL_law_329 : decode cL_law 329 = .ok (.invokevirtual 34, 3) := by decide +kernel
theorem dL_law_332 : decode cL_law 332 = .ok (.if_icmp .eq 728, 3) := by decide +kernel
theorem dL_law_335 : decode cL_law 335 = .ok (.iconst 0, 1) := by decide +kernel
theorem dL_law_336 : decode cL_law 336 = .ok (.ireturn, 1) := by decide +kernel
theorem dL_law_337 : decode cL_law 337 = .ok (.aload_n 1, 1) := by decide +kernel
theorem dL_law_338 : decode cL_law 338 = .ok (.aload_n 0, 1) := by decide +kernel
theorem dL_law_339 : decode cL_law 339 = .ok (.iload_n 3, 1) := by decide +kernel
theorem dL_law_340 : decode cL_law 340 = .ok (.iconst 1, 1) := by decide +kernel
theorem dL_law_341 : decode cL_law 341 = .ok (.iadd, 1) := by decide +kernel
theorem dL_law_342 : decode cL_law 342 = .ok (.iaload, 1) := by decide +kernel
theorem dL_law_343 : decode cL_law 343 = .ok (.aload_n 0, 1) := by decide +kernel
theorem dL_law_344 : decode cL_law 344 = .ok (.iload_n 3, 1) := by decide +kernel
theorem dL_law_345 : decode cL_law 345 = .ok (.iconst 2, 1) := by decide +kernel
theorem dL_law_346 : decode cL_law 346 = .ok (.iadd, 1) := by decide +kernel
theorem dL_law_347 : decode cL_law 347 = .ok (.iaload, 1) := by decide +kernel
theorem dL_law_348 : decode cL_law 348 = .ok (.aload_n 0, 1) := by decide +kernel
theorem dL_law_349 : decode cL_law 349 = .ok (.iload_n 3, 1) := by decide +kernel
theorem dL_law_350 : decode cL_law 350 = .ok (.iconst 3, 1) := by decide +kernel
theorem dL_law_351 : decode cL_law 351 = .ok (.iadd, 1) := by decide +kernel
theorem dL_law_352 : decode cL_law 352 = .ok (.iaload, 1) := by decide +kernel
theorem dL_law_353 : decode cL_law 353 = .ok (.invokevirtual 35, 3) := by decide +kernel
theorem dL_law_356 : decode cL_law 356 = .ok (.aload_n 2, 1) := by decide +kernel
theorem dL_law_357 : decode cL_law 357 = .ok (.aload_n 0, 1) := by decide +kernel
theorem dL_law_358 : decode cL_law 358 = .ok (.iload_n 3, 1) := by decide +kernel
theorem dL_law_359 : decode cL_law 359 = .ok (.iconst 1, 1) := by decide +kernel
theorem dL_law_360 : decode cL_law 360 = .ok (.iadd, 1) := by decide +kernel
theorem dL_law_361 : decode cL_law 361 = .ok (.iaload, 1) := by decide +kernel
theorem dL_law_362 : decode cL_law 362 = .ok (.aload_n 0, 1) := by decide +kernel
theorem dL_law_363 : decode cL_law 363 = .ok (.iload_n 3, 1) := by decide +kernel
theorem dL_law_364 : decode cL_law 364 = .ok (.iconst 2, 1) := by decide +kernel
theorem dL_law_365 : decode cL_law 365 = .ok (.iadd, 1) := by decide +kernel
theorem dL_law_366 : decode cL_law 366 = .ok (.iaload, 1) := by decide +kernel
theorem dL_law_367 : decode cL_law 367 = .ok (.aload_n 0, 1) := by decide +kernel
theorem dL_law_368 : decode cL_law 368 = .ok (.iload_n 3, 1) := by decide +kernel
theorem dL_law_369 : decode cL_law 369 = .ok (.iconst 3, 1) := by decide +kernel
theorem dL_law_370 : decode cL_law 370 = .ok (.iadd, 1) := by decide +kernel
theorem dL_law_371 : decode cL_law 371 = .ok (.iaload, 1) := by decide +kernel
theorem dL_law_372 : decode cL_law 372 = .ok (.invokevirtual 39, 3) := by decide +kernel
theorem dL_law_375 : decode cL_law 375 = .ok (.if_icmp .eq 685, 3) := by decide +kernel
theorem dL_law_378 : decode cL_law 378 = .ok (.iconst 0, 1) := by decide +kernel
theorem dL_law_379 : decode cL_law 379 = .ok (.ireturn, 1) := by decide +kernel
theorem dL_law_380 : decode cL_law 380 = .ok (.aload_n 1, 1) := by decide +kernel
theorem dL_law_381 : decode cL_law 381 = .ok (.aload_n 0, 1) := by decide +kernel
theorem dL_law_382 : decode cL_law 382 = .ok (.iload_n 3, 1) := by decide +kernel
theorem dL_law_383 : decode cL_law 383 = .ok (.iconst 1, 1) := by decide +kernel
theorem dL_law_384 : decode cL_law 384 = .ok (.iadd, 1) := by decide +kernel
theorem dL_law_385 : decode cL_law 385 = .ok (.iaload, 1) := by decide +kernel
theorem dL_law_386 : decode cL_law 386 = .ok (.aload_n 0, 1) := by decide +kernel
theorem dL_law_387 : decode cL_law 387 = .ok (.iload_n 3, 1) := by decide +kernel
theorem dL_law_388 : decode cL_law 388 = .ok (.iconst 2, 1) := by decide +kernel
theorem dL_law_389 : decode cL_law 389 = .ok (.iadd, 1) := by decide +kernel
theorem dL_law_390 : decode cL_law 390 = .ok (.iaload, 1) := by decide +kernel
theorem dL_law_391 : decode cL_law 391 = .ok (.aload_n 0, 1) := by decide +kernel
theorem dL_law_392 : decode cL_law 392 = .ok (.iload_n 3, 1) := by decide +kernel
theorem dL_law_393 : decode cL_law 393 = .ok (.iconst 3, 1) := by decide +kernel
theorem dL_law_394 : decode cL_law 394 = .ok (.iadd, 1) := by decide +kernel
theorem dL_law_395 : decode cL_law 395 = .ok (.iaload, 1) := by decide +kernel
theorem dL_law_396 : decode cL_law 396 = .ok (.invokevirtual 40, 3) := by decide +kernel
theorem dL_law_399 : decode cL_law 399 = .ok (.aload_n 2, 1) := by decide +kernel
theorem dL_law_400 : decode cL_law 400 = .ok (.aload_n 0, 1) := by decide +kernel
theorem dL_law_401 : decode cL_law 401 = .ok (.iload_n 3, 1) := by decide +kernel
theorem dL_law_402 : decode cL_law 402 = .ok (.iconst 1, 1) := by decide +kernel
theorem dL_law_403 : decode cL_law 403 = .ok (.iadd, 1) := by decide +kernel
theorem dL_law_404 : decode cL_law 404 = .ok (.iaload, 1) := by decide +kernel
theorem dL_law_405 : decode cL_law 405 = .ok (.aload_n 0, 1) := by decide +kernel
theorem dL_law_406 : decode cL_law 406 = .ok (.iload_n 3, 1) := by decide +kernel
theorem dL_law_407 : decode cL_law 407 = .ok (.iconst 2, 1) := by decide +kernel
theorem dL_law_408 : decode cL_law 408 = .ok (.iadd, 1) := by decide +kernel
theorem dL_law_409 : decode cL_law 409 = .ok (.iaload, 1) := by decide +kernel
theorem dL_law_410 : decode cL_law 410 = .ok (.aload_n 0, 1) := by decide +kernel
theorem dL_law_411 : decode cL_law 411 = .ok (.iload_n 3, 1) := by decide +kernel
theorem dL_law_412 : decode cL_law 412 = .ok (.iconst 3, 1) := by decide +kernel
theorem dL_law_413 : decode cL_law 413 = .ok (.iadd, 1) := by decide +kernel
theorem dL_law_414 : decode cL_law 414 = .ok (.iaload, 1) := by decide +kernel
theorem dL_law_415 : decode cL_law 415 = .ok (.invokevirtual 43, 3) := by decide +kernel
theorem dL_law_418 : decode cL_law 418 = .ok (.if_icmp .eq 642, 3) := by decide +kernel
theorem dL_law_421 : decode cL_law 421 = .ok (.iconst 0, 1) := by decide +kernel
theorem dL_law_422 : decode cL_law 422 = .ok (.ireturn, 1) := by decide +kernel
theorem dL_law_423 : decode cL_law 423 = .ok (.aload_n 1, 1) := by decide +kernel
theorem dL_law_424 : decode cL_law 424 = .ok (.aload_n 0, 1) := by decide +kernel
theorem dL_law_425 : decode cL_law 425 = .ok (.iload_n 3, 1) := by decide +kernel
theorem dL_law_426 : decode cL_law 426 = .ok (.iconst 1, 1) := by decide +kernel
theorem dL_law_427 : decode cL_law 427 = .ok (.iadd, 1) := by decide +kernel
theorem dL_law_428 : decode cL_law 428 = .ok (.iaload, 1) := by decide +kernel
theorem dL_law_429 : decode cL_law 429 = .ok (.invokevirtual 44, 3) := by decide +kernel
theorem dL_law_432 : decode cL_law 432 = .ok (.aload_n 2, 1) := by decide +kernel
theorem dL_law_433 : decode cL_law 433 = .ok (.aload_n 0, 1) := by decide +kernel
theorem dL_law_434 : decode cL_law 434 = .ok (.iload_n 3, 1) := by decide +kernel
theorem dL_law_435 : decode cL_law 435 = .ok (.iconst 1, 1) := by decide +kernel
theorem dL_law_436 : decode cL_law 436 = .ok (.iadd, 1) := by decide +kernel
theorem dL_law_437 : decode cL_law 437 = .ok (.iaload, 1) := by decide +kernel
theorem dL_law_438 : decode cL_law 438 = .ok (.invokevirtual 48, 3) := by decide +kernel
theorem dL_law_441 : decode cL_law 441 = .ok (.if_icmp .eq 619, 3) := by decide +kernel
theorem dL_law_444 : decode cL_law 444 = .ok (.iconst 0, 1) := by decide +kernel
theorem dL_law_445 : decode cL_law 445 = .ok (.ireturn, 1) := by decide +kernel
theorem dL_law_446 : decode cL_law 446 = .ok (.aload_n 1, 1) := by decide +kernel
theorem dL_law_447 : decode cL_law 447 = .ok (.invokevirtual 49, 3) := by decide +kernel
theorem dL_law_450 : decode cL_law 450 = .ok (.aload_n 2, 1) := by decide +kernel
theorem dL_law_451 : decode cL_law 451 = .ok (.invokevirtual 53, 3) := by decide +kernel
theorem dL_law_454 : decode cL_law 454 = .ok (.if_icmp .eq 606, 3) := by decide +kernel
theorem dL_law_457 : decode cL_law 457 = .ok (.iconst 0, 1) := by decide +kernel
theorem dL_law_458 : decode cL_law 458 = .ok (.ireturn, 1) := by decide +kernel
theorem dL_law_459 : decode cL_law 459 = .ok (.aload_n 1, 1) := by decide +kernel
theorem dL_law_460 : decode cL_law 460 = .ok (.invokevirtual 54, 3) := by decide +kernel
theorem dL_law_463 : decode cL_law 463 = .ok (.aload_n 2, 1) := by decide +kernel
theorem dL_law_464 : decode cL_law 464 = .ok (.invokevirtual 57, 3) := by decide +kernel
theorem dL_law_467 : decode cL_law 467 = .ok (.if_icmp .eq 593, 3) := by decide +kernel
theorem dL_law_470 : decode cL_law 470 = .ok (.iconst 0, 1) := by decide +kernel
theorem dL_law_471 : decode cL_law 471 = .ok (.ireturn, 1) := by decide +kernel
theorem dL_law_472 : decode cL_law 472 = .ok (.aload_n 1, 1) := by decide +kernel
theorem dL_law_473 : decode cL_law 473 = .ok (.aload_n 0, 1) := by decide +kernel
theorem dL_law_474 : decode cL_law 474 = .ok (.iload_n 3, 1) := by decide +kernel
theorem dL_law_475 : decode cL_law 475 = .ok (.iconst 1, 1) := by decide +kernel
theorem dL_law_476 : decode cL_law 476 = .ok (.iadd, 1) := by decide +kernel
theorem dL_law_477 : decode cL_law 477 = .ok (.iaload, 1) := by decide +kernel
theorem dL_law_478 : decode cL_law 478 = .ok (.invokevirtual 58, 3) := by decide +kernel
theorem dL_law_481 : decode cL_law 481 = .ok (.aload_n 2, 1) := by decide +kernel
theorem dL_law_482 : decode cL_law 482 = .ok (.aload_n 0, 1) := by decide +kernel
theorem dL_law_483 : decode cL_law 483 = .ok (.iload_n 3, 1) := by decide +kernel
theorem dL_law_484 : decode cL_law 484 = .ok (.iconst 1, 1) := by decide +kernel
theorem dL_law_485 : decode cL_law 485 = .ok (.iadd, 1) := by decide +kernel
theorem dL_law_486 : decode cL_law 486 = .ok (.iaload, 1) := by decide +kernel
theorem dL_law_487 : decode cL_law 487 = .ok (.invokevirtual 61, 3) := by decide +kernel
theorem dL_law_490 : decode cL_law 490 = .ok (.if_icmp .eq 570, 3) := by decide +kernel
theorem dL_law_493 : decode cL_law 493 = .ok (.iconst 0, 1) := by decide +kernel
theorem dL_law_494 : decode cL_law 494 = .ok (.ireturn, 1) := by decide +kernel
theorem dL_law_495 : decode cL_law 495 = .ok (.aload_n 1, 1) := by decide +kernel
theorem dL_law_496 : decode cL_law 496 = .ok (.aload_n 0, 1) := by decide +kernel
theorem dL_law_497 : decode cL_law 497 = .ok (.iload_n 3, 1) := by decide +kernel
theorem dL_law_498 : decode cL_law 498 = .ok (.iconst 1, 1) := by decide +kernel
theorem dL_law_499 : decode cL_law 499 = .ok (.iadd, 1) := by decide +kernel
theorem dL_law_500 : decode cL_law 500 = .ok (.iaload, 1) := by decide +kernel
theorem dL_law_501 : decode cL_law 501 = .ok (.invokevirtual 62, 3) := by decide +kernel
theorem dL_law_504 : decode cL_law 504 = .ok (.aload_n 2, 1) := by decide +kernel
theorem dL_law_505 : decode cL_law 505 = .ok (.aload_n 0, 1) := by decide +kernel
theorem dL_law_506 : decode cL_law 506 = .ok (.iload_n 3, 1) := by decide +kernel
theorem dL_law_507 : decode cL_law 507 = .ok (.iconst 1, 1) := by decide +kernel
theorem dL_law_508 : decode cL_law 508 = .ok (.iadd, 1) := by decide +kernel
theorem dL_law_509 : decode cL_law 509 = .ok (.iaload, 1) := by decide +kernel
theorem dL_law_510 : decode cL_law 510 = .ok (.invokevirtual 65, 3) := by decide +kernel
theorem dL_law_513 : decode cL_law 513 = .ok (.if_icmp .eq 547, 3) := by decide +kernel
theorem dL_law_516 : decode cL_law 516 = .ok (.iconst 0, 1) := by decide +kernel
theorem dL_law_517 : decode cL_law 517 = .ok (.ireturn, 1) := by decide +kernel
theorem dL_law_518 : decode cL_law 518 = .ok (.aload_n 1, 1) := by decide +kernel
theorem dL_law_519 : decode cL_law 519 = .ok (.invokevirtual 66, 3) := by decide +kernel
theorem dL_law_522 : decode cL_law 522 = .ok (.aload_n 2, 1) := by decide +kernel
theorem dL_law_523 : decode cL_law 523 = .ok (.invokevirtual 69, 3) := by decide +kernel
theorem dL_law_526 : decode cL_law 526 = .ok (.if_icmp .eq 534, 3) := by decide +kernel
theorem dL_law_529 : decode cL_law 529 = .ok (.iconst 0, 1) := by decide +kernel
theorem dL_law_530 : decode cL_law 530 = .ok (.ireturn, 1) := by decide +kernel
theorem dL_law_531 : decode cL_law 531 = .ok (.aload_n 1, 1) := by decide +kernel
theorem dL_law_532 : decode cL_law 532 = .ok (.aload_n 0, 1) := by decide +kernel
theorem dL_law_533 : decode cL_law 533 = .ok (.iload_n 3, 1) := by decide +kernel
theorem dL_law_534 : decode cL_law 534 = .ok (.iconst 1, 1) := by decide +kernel
theorem dL_law_535 : decode cL_law 535 = .ok (.iadd, 1) := by decide +kernel
theorem dL_law_536 : decode cL_law 536 = .ok (.iaload, 1) := by decide +kernel
theorem dL_law_537 : decode cL_law 537 = .ok (.invokevirtual 70, 3) := by decide +kernel
theorem dL_law_540 : decode cL_law 540 = .ok (.aload_n 2, 1) := by decide +kernel
theorem dL_law_541 : decode cL_law 541 = .ok (.aload_n 0, 1) := by decide +kernel
theorem dL_law_542 : decode cL_law 542 = .ok (.iload_n 3, 1) := by decide +kernel
theorem dL_law_543 : decode cL_law 543 = .ok (.iconst 1, 1) := by decide +kernel
theorem dL_law_544 : decode cL_law 544 = .ok (.iadd, 1) := by decide +kernel
theorem dL_law_545 : decode cL_law 545 = .ok (.iaload, 1) := by decide +kernel
theorem dL_law_546 : decode cL_law 546 = .ok (.invokevirtual 73, 3) := by decide +kernel
theorem dL_law_549 : decode cL_law 549 = .ok (.if_icmp .eq 511, 3) := by decide +kernel
theorem dL_law_552 : decode cL_law 552 = .ok (.iconst 0, 1) := by decide +kernel
theorem dL_law_553 : decode cL_law 553 = .ok (.ireturn, 1) := by decide +kernel
theorem dL_law_554 : decode cL_law 554 = .ok (.aload_n 1, 1) := by decide +kernel
theorem dL_law_555 : decode cL_law 555 = .ok (.aload_n 0, 1) := by decide +kernel
theorem dL_law_556 : decode cL_law 556 = .ok (.iload_n 3, 1) := by decide +kernel
theorem dL_law_557 : decode cL_law 557 = .ok (.iconst 1, 1) := by decide +kernel
theorem dL_law_558 : decode cL_law 558 = .ok (.iadd, 1) := by decide +kernel
theorem dL_law_559 : decode cL_law 559 = .ok (.iaload, 1) := by decide +kernel
theorem dL_law_560 : decode cL_law 560 = .ok (.aload_n 0, 1) := by decide +kernel
theorem dL_law_561 : decode cL_law 561 = .ok (.iload_n 3, 1) := by decide +kernel
theorem dL_law_562 : decode cL_law 562 = .ok (.iconst 2, 1) := by decide +kernel
theorem dL_law_563 : decode cL_law 563 = .ok (.iadd, 1) := by decide +kernel
theorem dL_law_564 : decode cL_law 564 = .ok (.iaload, 1) := by decide +kernel
theorem dL_law_565 : decode cL_law 565 = .ok (.invokevirtual 74, 3) := by decide +kernel
theorem dL_law_568 : decode cL_law 568 = .ok (.aload_n 2, 1) := by decide +kernel
theorem dL_law_569 : decode cL_law 569 = .ok (.aload_n 0, 1) := by decide +kernel
theorem dL_law_570 : decode cL_law 570 = .ok (.iload_n 3, 1) := by decide +kernel
theorem dL_law_571 : decode cL_law 571 = .ok (.iconst 1, 1) := by decide +kernel
theorem dL_law_572 : decode cL_law 572 = .ok (.iadd, 1) := by decide +kernel
theorem dL_law_573 : decode cL_law 573 = .ok (.iaload, 1) := by decide +kernel
theorem dL_law_574 : decode cL_law 574 = .ok (.aload_n 0, 1) := by decide +kernel
theorem dL_law_575 : decode cL_law 575 = .ok (.iload_n 3, 1) := by decide +kernel
theorem dL_law_576 : decode cL_law 576 = .ok (.iconst 2, 1) := by decide +kernel
theorem dL_law_577 : decode cL_law 577 = .ok (.iadd, 1) := by decide +kernel
theorem dL_law_578 : decode cL_law 578 = .ok (.iaload, 1) := by decide +kernel
theorem dL_law_579 : decode cL_law 579 = .ok (.invokevirtual 77, 3) := by decide +kernel
theorem dL_law_582 : decode cL_law 582 = .ok (.if_icmp .eq 478, 3) := by decide +kernel
theorem dL_law_585 : decode cL_law 585 = .ok (.iconst 0, 1) := by decide +kernel
theorem dL_law_586 : decode cL_law 586 = .ok (.ireturn, 1) := by decide +kernel
theorem dL_law_587 : decode cL_law 587 = .ok (.aload_n 1, 1) := by decide +kernel
theorem dL_law_588 : decode cL_law 588 = .ok (.aload_n 0, 1) := by decide +kernel
theorem dL_law_589 : decode cL_law 589 = .ok (.iload_n 3, 1) := by decide +kernel
theorem dL_law_590 : decode cL_law 590 = .ok (.iconst 1, 1) := by decide +kernel
theorem dL_law_591 : decode cL_law 591 = .ok (.iadd, 1) := by decide +kernel
theorem dL_law_592 : decode cL_law 592 = .ok (.iaload, 1) := by decide +kernel
theorem dL_law_593 : decode cL_law 593 = .ok (.aload_n 0, 1) := by decide +kernel
theorem dL_law_594 : decode cL_law 594 = .ok (.iload_n 3, 1) := by decide +kernel
theorem dL_law_595 : decode cL_law 595 = .ok (.iconst 2, 1) := by decide +kernel
theorem dL_law_596 : decode cL_law 596 = .ok (.iadd, 1) := by decide +kernel
theorem dL_law_597 : decode cL_law 597 = .ok (.iaload, 1) := by decide +kernel
theorem dL_law_598 : decode cL_law 598 = .ok (.aload_n 0, 1) := by decide +kernel
theorem dL_law_599 : decode cL_law 599 = .ok (.iload_n 3, 1) := by decide +kernel
theorem dL_law_600 : decode cL_law 600 = .ok (.iconst 3, 1) := by decide +kernel
theorem dL_law_601 : decode cL_law 601 = .ok (.iadd, 1) := by decide +kernel
theorem dL_law_602 : decode cL_law 602 = .ok (.iaload, 1) := by decide +kernel
theorem dL_law_603 : decode cL_law 603 = .ok (.invokevirtual 78, 3) := by decide +kernel
theorem dL_law_606 : decode cL_law 606 = .ok (.aload_n 2, 1) := by decide +kernel
theorem dL_law_607 : decode cL_law 607 = .ok (.aload_n 0, 1) := by decide +kernel
theorem dL_law_608 : decode cL_law 608 = .ok (.iload_n 3, 1) := by decide +kernel
theorem dL_law_609 : decode cL_law 609 = .ok (.iconst 1, 1) := by decide +kernel
theorem dL_law_610 : decode cL_law 610 = .ok (.iadd, 1) := by decide +kernel
theorem dL_law_611 : decode cL_law 611 = .ok (.iaload, 1) := by decide +kernel
theorem dL_law_612 : decode cL_law 612 = .ok (.aload_n 0, 1) := by decide +kernel
theorem dL_law_613 : decode cL_law 613 = .ok (.iload_n 3, 1) := by decide +kernel
theorem dL_law_614 : decode cL_law 614 = .ok (.iconst 2, 1) := by decide +kernel
theorem dL_law_615 : decode cL_law 615 = .ok (.iadd, 1) := by decide +kernel
theorem dL_law_616 : decode cL_law 616 = .ok (.iaload, 1) := by decide +kernel
theorem dL_law_617 : decode cL_law 617 = .ok (.aload_n 0, 1) := by decide +kernel
theorem dL_law_618 : decode cL_law 618 = .ok (.iload_n 3, 1) := by decide +kernel
theorem dL_law_619 : decode cL_law 619 = .ok (.iconst 3, 1) := by decide +kernel
theorem dL_law_620 : decode cL_law 620 = .ok (.iadd, 1) := by decide +kernel
theorem dL_law_621 : decode cL_law 621 = .ok (.iaload, 1) := by decide +kernel
theorem dL_law_622 : decode cL_law 622 = .ok (.invokevirtual 81, 3) := by decide +kernel
theorem dL_law_625 : decode cL_law 625 = .ok (.if_icmp .eq 435, 3) := by decide +kernel
theorem dL_law_628 : decode cL_law 628 = .ok (.iconst 0, 1) := by decide +kernel
theorem dL_law_629 : decode cL_law 629 = .ok (.ireturn, 1) := by decide +kernel
theorem dL_law_630 : decode cL_law 630 = .ok (.aload_n 1, 1) := by decide +kernel
theorem dL_law_631 : decode cL_law 631 = .ok (.aload_n 0, 1) := by decide +kernel
theorem dL_law_632 : decode cL_law 632 = .ok (.iload_n 3, 1) := by decide +kernel
theorem dL_law_633 : decode cL_law 633 = .ok (.iconst 1, 1) := by decide +kernel
theorem dL_law_634 : decode cL_law 634 = .ok (.iadd, 1) := by decide +kernel
theorem dL_law_635 : decode cL_law 635 = .ok (.iaload, 1) := by decide +kernel
theorem dL_law_636 : decode cL_law 636 = .ok (.aload_n 0, 1) := by decide +kernel
theorem dL_law_637 : decode cL_law 637 = .ok (.iload_n 3, 1) := by decide +kernel
theorem dL_law_638 : decode cL_law 638 = .ok (.iconst 2, 1) := by decide +kernel
theorem dL_law_639 : decode cL_law 639 = .ok (.iadd, 1) := by decide +kernel
theorem dL_law_640 : decode cL_law 640 = .ok (.iaload, 1) := by decide +kernel
theorem dL_law_641 : decode cL_law 641 = .ok (.aload_n 0, 1) := by decide +kernel
theorem dL_law_642 : decode cL_law 642 = .ok (.iload_n 3, 1) := by decide +kernel
theorem dL_law_643 : decode cL_law 643 = .ok (.iconst 3, 1) := by decide +kernel
theorem dL_law_644 : decode cL_law 644 = .ok (.iadd, 1) := by decide +kernel
theorem dL_law_645 : decode cL_law 645 = .ok (.iaload, 1) := by decide +kernel
theorem dL_law_646 : decode cL_law 646 = .ok (.invokevirtual 82, 3) := by decide +kernel
theorem dL_law_649 : decode cL_law 649 = .ok (.aload_n 2, 1) := by decide +kernel
theorem dL_law_650 : decode cL_law 650 = .ok (.aload_n 0, 1) := by decide +kernel
theorem dL_law_651 : decode cL_law 651 = .ok (.iload_n 3, 1) := by decide +kernel
theorem dL_law_652 : decode cL_law 652 = .ok (.iconst 1, 1) := by decide +kernel
theorem dL_law_653 : decode cL_law 653 = .ok (.iadd, 1) := by decide +kernel
theorem dL_law_654 : decode cL_law 654 = .ok (.iaload, 1) := by decide +kernel
theorem dL_law_655 : decode cL_law 655 = .ok (.aload_n 0, 1) := by decide +kernel
theorem dL_law_656 : decode cL_law 656 = .ok (.iload_n 3, 1) := by decide +kernel
theorem dL_law_657 : decode cL_law 657 = .ok (.iconst 2, 1) := by decide +kernel
theorem dL_law_658 : decode cL_law 658 = .ok (.iadd, 1) := by decide +kernel
theorem dL_law_659 : decode cL_law 659 = .ok (.iaload, 1) := by decide +kernel
theorem dL_law_660 : decode cL_law 660 = .ok (.aload_n 0, 1) := by decide +kernel
theorem dL_law_661 : decode cL_law 661 = .ok (.iload_n 3, 1) := by decide +kernel
theorem dL_law_662 : decode cL_law 662 = .ok (.iconst 3, 1) := by decide +kernel
theorem dL_law_663 : decode cL_law 663 = .ok (.iadd, 1) := by decide +kernel
theorem dL_law_664 : decode cL_law 664 = .ok (.iaload, 1) := by decide +kernel
theorem dL_law_665 : decode cL_law 665 = .ok (.invokevirtual 85, 3) := by decide +kernel
theorem dL_law_668 : decode cL_law 668 = .ok (.if_icmp .eq 392, 3) := by decide +kernel
theorem dL_law_671 : decode cL_law 671 = .ok (.iconst 0, 1) := by decide +kernel
theorem dL_law_672 : decode cL_law 672 = .ok (.ireturn, 1) := by decide +kernel
theorem dL_law_673 : decode cL_law 673 = .ok (.aload_n 1, 1) := by decide +kernel
theorem dL_law_674 : decode cL_law 674 = .ok (.aload_n 0, 1) := by decide +kernel
theorem dL_law_675 : decode cL_law 675 = .ok (.iload_n 3, 1) := by decide +kernel
theorem dL_law_676 : decode cL_law 676 = .ok (.iconst 1, 1) := by decide +kernel
theorem dL_law_677 : decode cL_law 677 = .ok (.iadd, 1) := by decide +kernel
theorem dL_law_678 : decode cL_law 678 = .ok (.iaload, 1) := by decide +kernel
theorem dL_law_679 : decode cL_law 679 = .ok (.invokevirtual 86, 3) := by decide +kernel
theorem dL_law_682 : decode cL_law 682 = .ok (.aload_n 2, 1) := by decide +kernel
theorem dL_law_683 : decode cL_law 683 = .ok (.aload_n 0, 1) := by decide +kernel
theorem dL_law_684 : decode cL_law 684 = .ok (.iload_n 3, 1) := by decide +kernel
theorem dL_law_685 : decode cL_law 685 = .ok (.iconst 1, 1) := by decide +kernel
theorem dL_law_686 : decode cL_law 686 = .ok (.iadd, 1) := by decide +kernel
theorem dL_law_687 : decode cL_law 687 = .ok (.iaload, 1) := by decide +kernel
theorem dL_law_688 : decode cL_law 688 = .ok (.invokevirtual 89, 3) := by decide +kernel
theorem dL_law_691 : decode cL_law 691 = .ok (.if_icmp .eq 369, 3) := by decide +kernel
theorem dL_law_694 : decode cL_law 694 = .ok (.iconst 0, 1) := by decide +kernel
theorem dL_law_695 : decode cL_law 695 = .ok (.ireturn, 1) := by decide +kernel
theorem dL_law_696 : decode cL_law 696 = .ok (.aload_n 1, 1) := by decide +kernel
theorem dL_law_697 : decode cL_law 697 = .ok (.aload_n 0, 1) := by decide +kernel
theorem dL_law_698 : decode cL_law 698 = .ok (.iload_n 3, 1) := by decide +kernel
theorem dL_law_699 : decode cL_law 699 = .ok (.iconst 1, 1) := by decide +kernel
theorem dL_law_700 : decode cL_law 700 = .ok (.iadd, 1) := by decide +kernel
theorem dL_law_701 : decode cL_law 701 = .ok (.iaload, 1) := by decide +kernel
theorem dL_law_702 : decode cL_law 702 = .ok (.aload_n 0, 1) := by decide +kernel
theorem dL_law_703 : decode cL_law 703 = .ok (.iload_n 3, 1) := by decide +kernel
theorem dL_law_704 : decode cL_law 704 = .ok (.iconst 2, 1) := by decide +kernel
theorem dL_law_705 : decode cL_law 705 = .ok (.iadd, 1) := by decide +kernel
theorem dL_law_706 : decode cL_law 706 = .ok (.iaload, 1) := by decide +kernel
theorem dL_law_707 : decode cL_law 707 = .ok (.aload_n 0, 1) := by decide +kernel
theorem dL_law_708 : decode cL_law 708 = .ok (.iload_n 3, 1) := by decide +kernel
theorem dL_law_709 : decode cL_law 709 = .ok (.iconst 3, 1) := by decide +kernel
theorem dL_law_710 : decode cL_law 710 = .ok (.iadd, 1) := by decide +kernel
theorem dL_law_711 : decode cL_law 711 = .ok (.iaload, 1) := by decide +kernel
theorem dL_law_712 : decode cL_law 712 = .ok (.invokevirtual 90, 3) := by decide +kernel
theorem dL_law_715 : decode cL_law 715 = .ok (.aload_n 2, 1) := by decide +kernel
theorem dL_law_716 : decode cL_law 716 = .ok (.aload_n 0, 1) := by decide +kernel
theorem dL_law_717 : decode cL_law 717 = .ok (.iload_n 3, 1) := by decide +kernel
theorem dL_law_718 : decode cL_law 718 = .ok (.iconst 1, 1) := by decide +kernel
theorem dL_law_719 : decode cL_law 719 = .ok (.iadd, 1) := by decide +kernel
theorem dL_law_720 : decode cL_law 720 = .ok (.iaload, 1) := by decide +kernel
theorem dL_law_721 : decode cL_law 721 = .ok (.aload_n 0, 1) := by decide +kernel
theorem dL_law_722 : decode cL_law 722 = .ok (.iload_n 3, 1) := by decide +kernel
theorem dL_law_723 : decode cL_law 723 = .ok (.iconst 2, 1) := by decide +kernel
theorem dL_law_724 : decode cL_law 724 = .ok (.iadd, 1) := by decide +kernel
theorem dL_law_725 : decode cL_law 725 = .ok (.iaload, 1) := by decide +kernel
theorem dL_law_726 : decode cL_law 726 = .ok (.aload_n 0, 1) := by decide +kernel
theorem dL_law_727 : decode cL_law 727 = .ok (.iload_n 3, 1) := by decide +kernel
theorem dL_law_728 : decode cL_law 728 = .ok (.iconst 3, 1) := by decide +kernel
theorem dL_law_729 : decode cL_law 729 = .ok (.iadd, 1) := by decide +kernel
theorem dL_law_730 : decode cL_law 730 = .ok (.iaload, 1) := by decide +kernel
theorem dL_law_731 : decode cL_law 731 = .ok (.invokevirtual 93, 3) := by decide +kernel
theorem dL_law_734 : decode cL_law 734 = .ok (.if_icmp .eq 326, 3) := by decide +kernel
theorem dL_law_737 : decode cL_law 737 = .ok (.iconst 0, 1) := by decide +kernel
theorem dL_law_738 : decode cL_law 738 = .ok (.ireturn, 1) := by decide +kernel
theorem dL_law_739 : decode cL_law 739 = .ok (.aload_n 1, 1) := by decide +kernel
theorem dL_law_740 : decode cL_law 740 = .ok (.aload_n 0, 1) := by decide +kernel
theorem dL_law_741 : decode cL_law 741 = .ok (.iload_n 3, 1) := by decide +kernel
theorem dL_law_742 : decode cL_law 742 = .ok (.iconst 1, 1) := by decide +kernel
theorem dL_law_743 : decode cL_law 743 = .ok (.iadd, 1) := by decide +kernel
theorem dL_law_744 : decode cL_law 744 = .ok (.iaload, 1) := by decide +kernel
theorem dL_law_745 : decode cL_law 745 = .ok (.aload_n 0, 1) := by decide +kernel
theorem dL_law_746 : decode cL_law 746 = .ok (.iload_n 3, 1) := by decide +kernel
theorem dL_law_747 : decode cL_law 747 = .ok (.iconst 2, 1) := by decide +kernel
theorem dL_law_748 : decode cL_law 748 = .ok (.iadd, 1) := by decide +kernel
theorem dL_law_749 : decode cL_law 749 = .ok (.iaload, 1) := by decide +kernel
theorem dL_law_750 : decode cL_law 750 = .ok (.aload_n 0, 1) := by decide +kernel
theorem dL_law_751 : decode cL_law 751 = .ok (.iload_n 3, 1) := by decide +kernel
theorem dL_law_752 : decode cL_law 752 = .ok (.iconst 3, 1) := by decide +kernel
theorem dL_law_753 : decode cL_law 753 = .ok (.iadd, 1) := by decide +kernel
theorem dL_law_754 : decode cL_law 754 = .ok (.iaload, 1) := by decide +kernel
theorem dL_law_755 : decode cL_law 755 = .ok (.aload_n 0, 1) := by decide +kernel
theorem dL_law_756 : decode cL_law 756 = .ok (.iload_n 3, 1) := by decide +kernel
theorem dL_law_757 : decode cL_law 757 = .ok (.iconst 4, 1) := by decide +kernel
theorem dL_law_758 : decode cL_law 758 = .ok (.iadd, 1) := by decide +kernel
theorem dL_law_759 : decode cL_law 759 = .ok (.iaload, 1) := by decide +kernel
theorem dL_law_760 : decode cL_law 760 = .ok (.invokevirtual 94, 3) := by decide +kernel
theorem dL_law_763 : decode cL_law 763 = .ok (.aload_n 2, 1) := by decide +kernel
theorem dL_law_764 : decode cL_law 764 = .ok (.aload_n 0, 1) := by decide +kernel
theorem dL_law_765 : decode cL_law 765 = .ok (.iload_n 3, 1) := by decide +kernel
theorem dL_law_766 : decode cL_law 766 = .ok (.iconst 1, 1) := by decide +kernel
theorem dL_law_767 : decode cL_law 767 = .ok (.iadd, 1) := by decide +kernel
theorem dL_law_768 : decode cL_law 768 = .ok (.iaload, 1) := by decide +kernel
theorem dL_law_769 : decode cL_law 769 = .ok (.aload_n 0, 1) := by decide +kernel
theorem dL_law_770 : decode cL_law 770 = .ok (.iload_n 3, 1) := by decide +kernel
theorem dL_law_771 : decode cL_law 771 = .ok (.iconst 2, 1) := by decide +kernel
theorem dL_law_772 : decode cL_law 772 = .ok (.iadd, 1) := by decide +kernel
theorem dL_law_773 : decode cL_law 773 = .ok (.iaload, 1) := by decide +kernel
theorem dL_law_774 : decode cL_law 774 = .ok (.aload_n 0, 1) := by decide +kernel
theorem dL_law_775 : decode cL_law 775 = .ok (.iload_n 3, 1) := by decide +kernel
theorem dL_law_776 : decode cL_law 776 = .ok (.iconst 3, 1) := by decide +kernel
theorem dL_law_777 : decode cL_law 777 = .ok (.iadd, 1) := by decide +kernel
theorem dL_law_778 : decode cL_law 778 = .ok (.iaload, 1) := by decide +kernel
theorem dL_law_779 : decode cL_law 779 = .ok (.aload_n 0, 1) := by decide +kernel
theorem dL_law_780 : decode cL_law 780 = .ok (.iload_n 3, 1) := by decide +kernel
theorem dL_law_781 : decode cL_law 781 = .ok (.iconst 4, 1) := by decide +kernel
theorem dL_law_782 : decode cL_law 782 = .ok (.iadd, 1) := by decide +kernel
theorem dL_law_783 : decode cL_law 783 = .ok (.iaload, 1) := by decide +kernel
theorem dL_law_784 : decode cL_law 784 = .ok (.invokevirtual 97, 3) := by decide +kernel
theorem dL_law_787 : decode cL_law 787 = .ok (.if_icmp .eq 273, 3) := by decide +kernel
theorem dL_law_790 : decode cL_law 790 = .ok (.iconst 0, 1) := by decide +kernel
theorem dL_law_791 : decode cL_law 791 = .ok (.ireturn, 1) := by decide +kernel
theorem dL_law_792 : decode cL_law 792 = .ok (.aload_n 1, 1) := by decide +kernel
theorem dL_law_793 : decode cL_law 793 = .ok (.aload_n 0, 1) := by decide +kernel
theorem dL_law_794 : decode cL_law 794 = .ok (.iload_n 3, 1) := by decide +kernel
theorem dL_law_795 : decode cL_law 795 = .ok (.iconst 1, 1) := by decide +kernel
theorem dL_law_796 : decode cL_law 796 = .ok (.iadd, 1) := by decide +kernel
theorem dL_law_797 : decode cL_law 797 = .ok (.iaload, 1) := by decide +kernel
theorem dL_law_798 : decode cL_law 798 = .ok (.aload_n 0, 1) := by decide +kernel
theorem dL_law_799 : decode cL_law 799 = .ok (.iload_n 3, 1) := by decide +kernel
theorem dL_law_800 : decode cL_law 800 = .ok (.iconst 2, 1) := by decide +kernel
theorem dL_law_801 : decode cL_law 801 = .ok (.iadd, 1) := by decide +kernel
theorem dL_law_802 : decode cL_law 802 = .ok (.iaload, 1) := by decide +kernel
theorem dL_law_803 : decode cL_law 803 = .ok (.aload_n 0, 1) := by decide +kernel
theorem dL_law_804 : decode cL_law 804 = .ok (.iload_n 3, 1) := by decide +kernel
theorem dL_law_805 : decode cL_law 805 = .ok (.iconst 3, 1) := by decide +kernel
theorem dL_law_806 : decode cL_law 806 = .ok (.iadd, 1) := by decide +kernel
theorem dL_law_807 : decode cL_law 807 = .ok (.iaload, 1) := by decide +kernel
theorem dL_law_808 : decode cL_law 808 = .ok (.aload_n 0, 1) := by decide +kernel
theorem dL_law_809 : decode cL_law 809 = .ok (.iload_n 3, 1) := by decide +kernel
theorem dL_law_810 : decode cL_law 810 = .ok (.iconst 4, 1) := by decide +kernel
theorem dL_law_811 : decode cL_law 811 = .ok (.iadd, 1) := by decide +kernel
theorem dL_law_812 : decode cL_law 812 = .ok (.iaload, 1) := by decide +kernel
theorem dL_law_813 : decode cL_law 813 = .ok (.invokevirtual 98, 3) := by decide +kernel
theorem dL_law_816 : decode cL_law 816 = .ok (.aload_n 2, 1) := by decide +kernel
theorem dL_law_817 : decode cL_law 817 = .ok (.aload_n 0, 1) := by decide +kernel
theorem dL_law_818 : decode cL_law 818 = .ok (.iload_n 3, 1) := by decide +kernel
theorem dL_law_819 : decode cL_law 819 = .ok (.iconst 1, 1) := by decide +kernel
theorem dL_law_820 : decode cL_law 820 = .ok (.iadd, 1) := by decide +kernel
theorem dL_law_821 : decode cL_law 821 = .ok (.iaload, 1) := by decide +kernel
theorem dL_law_822 : decode cL_law 822 = .ok (.aload_n 0, 1) := by decide +kernel
theorem dL_law_823 : decode cL_law 823 = .ok (.iload_n 3, 1) := by decide +kernel
theorem dL_law_824 : decode cL_law 824 = .ok (.iconst 2, 1) := by decide +kernel
theorem dL_law_825 : decode cL_law 825 = .ok (.iadd, 1) := by decide +kernel
theorem dL_law_826 : decode cL_law 826 = .ok (.iaload, 1) := by decide +kernel
theorem dL_law_827 : decode cL_law 827 = .ok (.aload_n 0, 1) := by decide +kernel
theorem dL_law_828 : decode cL_law 828 = .ok (.iload_n 3, 1) := by decide +kernel
theorem dL_law_829 : decode cL_law 829 = .ok (.iconst 3, 1) := by decide +kernel
theorem dL_law_830 : decode cL_law 830 = .ok (.iadd, 1) := by decide +kernel
theorem dL_law_831 : decode cL_law 831 = .ok (.iaload, 1) := by decide +kernel
theorem dL_law_832 : decode cL_law 832 = .ok (.aload_n 0, 1) := by decide +kernel
theorem dL_law_833 : decode cL_law 833 = .ok (.iload_n 3, 1) := by decide +kernel
theorem dL_law_834 : decode cL_law 834 = .ok (.iconst 4, 1) := by decide +kernel
theorem dL_law_835 : decode cL_law 835 = .ok (.iadd, 1) := by decide +kernel
theorem dL_law_836 : decode cL_law 836 = .ok (.iaload, 1) := by decide +kernel
theorem dL_law_837 : decode cL_law 837 = .ok (.invokevirtual 101, 3) := by decide +kernel
theorem dL_law_840 : decode cL_law 840 = .ok (.if_icmp .eq 220, 3) := by decide +kernel
theorem dL_law_843 : decode cL_law 843 = .ok (.iconst 0, 1) := by decide +kernel
theorem dL_law_844 : decode cL_law 844 = .ok (.ireturn, 1) := by decide +kernel
theorem dL_law_845 : decode cL_law 845 = .ok (.aload_n 1, 1) := by decide +kernel
theorem dL_law_846 : decode cL_law 846 = .ok (.aload_n 0, 1) := by decide +kernel
theorem dL_law_847 : decode cL_law 847 = .ok (.iload_n 3, 1) := by decide +kernel
theorem dL_law_848 : decode cL_law 848 = .ok (.iconst 1, 1) := by decide +kernel
theorem dL_law_849 : decode cL_law 849 = .ok (.iadd, 1) := by decide +kernel
theorem dL_law_850 : decode cL_law 850 = .ok (.iaload, 1) := by decide +kernel
theorem dL_law_851 : decode cL_law 851 = .ok (.aload_n 0, 1) := by decide +kernel
theorem dL_law_852 : decode cL_law 852 = .ok (.iload_n 3, 1) := by decide +kernel
theorem dL_law_853 : decode cL_law 853 = .ok (.iconst 2, 1) := by decide +kernel
theorem dL_law_854 : decode cL_law 854 = .ok (.iadd, 1) := by decide +kernel
theorem dL_law_855 : decode cL_law 855 = .ok (.iaload, 1) := by decide +kernel
theorem dL_law_856 : decode cL_law 856 = .ok (.aload_n 0, 1) := by decide +kernel
theorem dL_law_857 : decode cL_law 857 = .ok (.iload_n 3, 1) := by decide +kernel
theorem dL_law_858 : decode cL_law 858 = .ok (.iconst 3, 1) := by decide +kernel
theorem dL_law_859 : decode cL_law 859 = .ok (.iadd, 1) := by decide +kernel
theorem dL_law_860 : decode cL_law 860 = .ok (.iaload, 1) := by decide +kernel
theorem dL_law_861 : decode cL_law 861 = .ok (.invokevirtual 102, 3) := by decide +kernel
theorem dL_law_864 : decode cL_law 864 = .ok (.aload_n 2, 1) := by decide +kernel
theorem dL_law_865 : decode cL_law 865 = .ok (.aload_n 0, 1) := by decide +kernel
theorem dL_law_866 : decode cL_law 866 = .ok (.iload_n 3, 1) := by decide +kernel
theorem dL_law_867 : decode cL_law 867 = .ok (.iconst 1, 1) := by decide +kernel
theorem dL_law_868 : decode cL_law 868 = .ok (.iadd, 1) := by decide +kernel
theorem dL_law_869 : decode cL_law 869 = .ok (.iaload, 1) := by decide +kernel
theorem dL_law_870 : decode cL_law 870 = .ok (.aload_n 0, 1) := by decide +kernel
theorem dL_law_871 : decode cL_law 871 = .ok (.iload_n 3, 1) := by decide +kernel
theorem dL_law_872 : decode cL_law 872 = .ok (.iconst 2, 1) := by decide +kernel
theorem dL_law_873 : decode cL_law 873 = .ok (.iadd, 1) := by decide +kernel
theorem dL_law_874 : decode cL_law 874 = .ok (.iaload, 1) := by decide +kernel
theorem dL_law_875 : decode cL_law 875 = .ok (.aload_n 0, 1) := by decide +kernel
theorem dL_law_876 : decode cL_law 876 = .ok (.iload_n 3, 1) := by decide +kernel
theorem dL_law_877 : decode cL_law 877 = .ok (.iconst 3, 1) := by decide +kernel
theorem dL_law_878 : decode cL_law 878 = .ok (.iadd, 1) := by decide +kernel
theorem dL_law_879 : decode cL_law 879 = .ok (.iaload, 1) := by decide +kernel
theorem dL_law_880 : decode cL_law 880 = .ok (.invokevirtual 105, 3) := by decide +kernel
theorem dL_law_883 : decode cL_law 883 = .ok (.if_icmp .eq 177, 3) := by decide +kernel
theorem dL_law_886 : decode cL_law 886 = .ok (.iconst 0, 1) := by decide +kernel
theorem dL_law_887 : decode cL_law 887 = .ok (.ireturn, 1) := by decide +kernel
theorem dL_law_888 : decode cL_law 888 = .ok (.aload_n 1, 1) := by decide +kernel
theorem dL_law_889 : decode cL_law 889 = .ok (.aload_n 0, 1) := by decide +kernel
theorem dL_law_890 : decode cL_law 890 = .ok (.iload_n 3, 1) := by decide +kernel
theorem dL_law_891 : decode cL_law 891 = .ok (.iconst 1, 1) := by decide +kernel
theorem dL_law_892 : decode cL_law 892 = .ok (.iadd, 1) := by decide +kernel
theorem dL_law_893 : decode cL_law 893 = .ok (.iaload, 1) := by decide +kernel
theorem dL_law_894 : decode cL_law 894 = .ok (.aload_n 0, 1) := by decide +kernel
theorem dL_law_895 : decode cL_law 895 = .ok (.iload_n 3, 1) := by decide +kernel
theorem dL_law_896 : decode cL_law 896 = .ok (.iconst 2, 1) := by decide +kernel
theorem dL_law_897 : decode cL_law 897 = .ok (.iadd, 1) := by decide +kernel
theorem dL_law_898 : decode cL_law 898 = .ok (.iaload, 1) := by decide +kernel
theorem dL_law_899 : decode cL_law 899 = .ok (.aload_n 0, 1) := by decide +kernel
theorem dL_law_900 : decode cL_law 900 = .ok (.iload_n 3, 1) := by decide +kernel
theorem dL_law_901 : decode cL_law 901 = .ok (.iconst 3, 1) := by decide +kernel
theorem dL_law_902 : decode cL_law 902 = .ok (.iadd, 1) := by decide +kernel
theorem dL_law_903 : decode cL_law 903 = .ok (.iaload, 1) := by decide +kernel
theorem dL_law_904 : decode cL_law 904 = .ok (.aload_n 0, 1) := by decide +kernel
theorem dL_law_905 : decode cL_law 905 = .ok (.iload_n 3, 1) := by decide +kernel
theorem dL_law_906 : decode cL_law 906 = .ok (.iconst 4, 1) := by decide +kernel
theorem dL_law_907 : decode cL_law 907 = .ok (.iadd, 1) := by decide +kernel
theorem dL_law_908 : decode cL_law 908 = .ok (.iaload, 1) := by decide +kernel
theorem dL_law_909 : decode cL_law 909 = .ok (.invokevirtual 106, 3) := by decide +kernel
theorem dL_law_912 : decode cL_law 912 = .ok (.aload_n 2, 1) := by decide +kernel
theorem dL_law_913 : decode cL_law 913 = .ok (.aload_n 0, 1) := by decide +kernel
theorem dL_law_914 : decode cL_law 914 = .ok (.iload_n 3, 1) := by decide +kernel
theorem dL_law_915 : decode cL_law 915 = .ok (.iconst 1, 1) := by decide +kernel
theorem dL_law_916 : decode cL_law 916 = .ok (.iadd, 1) := by decide +kernel
theorem dL_law_917 : decode cL_law 917 = .ok (.iaload, 1) := by decide +kernel
theorem dL_law_918 : decode cL_law 918 = .ok (.aload_n 0, 1) := by decide +kernel
theorem dL_law_919 : decode cL_law 919 = .ok (.iload_n 3, 1) := by decide +kernel
theorem dL_law_920 : decode cL_law 920 = .ok (.iconst 2, 1) := by decide +kernel
theorem dL_law_921 : decode cL_law 921 = .ok (.iadd, 1) := by decide +kernel
theorem dL_law_922 : decode cL_law 922 = .ok (.iaload, 1) := by decide +kernel
theorem dL_law_923 : decode cL_law 923 = .ok (.aload_n 0, 1) := by decide +kernel
theorem dL_law_924 : decode cL_law 924 = .ok (.iload_n 3, 1) := by decide +kernel
theorem dL_law_925 : decode cL_law 925 = .ok (.iconst 3, 1) := by decide +kernel
theorem dL_law_926 : decode cL_law 926 = .ok (.iadd, 1) := by decide +kernel
theorem dL_law_927 : decode cL_law 927 = .ok (.iaload, 1) := by decide +kernel
theorem dL_law_928 : decode cL_law 928 = .ok (.aload_n 0, 1) := by decide +kernel
theorem dL_law_929 : decode cL_law 929 = .ok (.iload_n 3, 1) := by decide +kernel
theorem dL_law_930 : decode cL_law 930 = .ok (.iconst 4, 1) := by decide +kernel
theorem dL_law_931 : decode cL_law 931 = .ok (.iadd, 1) := by decide +kernel
theorem dL_law_932 : decode cL_law 932 = .ok (.iaload, 1) := by decide +kernel
theorem dL_law_933 : decode cL_law 933 = .ok (.invokevirtual 109, 3) := by decide +kernel
theorem dL_law_936 : decode cL_law 936 = .ok (.if_icmp .eq 124, 3) := by decide +kernel
theorem dL_law_939 : decode cL_law 939 = .ok (.iconst 0, 1) := by decide +kernel
theorem dL_law_940 : decode cL_law 940 = .ok (.ireturn, 1) := by decide +kernel
theorem dL_law_941 : decode cL_law 941 = .ok (.aload_n 1, 1) := by decide +kernel
theorem dL_law_942 : decode cL_law 942 = .ok (.aload_n 0, 1) := by decide +kernel
theorem dL_law_943 : decode cL_law 943 = .ok (.iload_n 3, 1) := by decide +kernel
theorem dL_law_944 : decode cL_law 944 = .ok (.iconst 1, 1) := by decide +kernel
theorem dL_law_945 : decode cL_law 945 = .ok (.iadd, 1) := by decide +kernel
theorem dL_law_946 : decode cL_law 946 = .ok (.iaload, 1) := by decide +kernel
theorem dL_law_947 : decode cL_law 947 = .ok (.aload_n 0, 1) := by decide +kernel
theorem dL_law_948 : decode cL_law 948 = .ok (.iload_n 3, 1) := by decide +kernel
theorem dL_law_949 : decode cL_law 949 = .ok (.iconst 2, 1) := by decide +kernel
theorem dL_law_950 : decode cL_law 950 = .ok (.iadd, 1) := by decide +kernel
theorem dL_law_951 : decode cL_law 951 = .ok (.iaload, 1) := by decide +kernel
theorem dL_law_952 : decode cL_law 952 = .ok (.aload_n 0, 1) := by decide +kernel
theorem dL_law_953 : decode cL_law 953 = .ok (.iload_n 3, 1) := by decide +kernel
theorem dL_law_954 : decode cL_law 954 = .ok (.iconst 3, 1) := by decide +kernel
theorem dL_law_955 : decode cL_law 955 = .ok (.iadd, 1) := by decide +kernel
theorem dL_law_956 : decode cL_law 956 = .ok (.iaload, 1) := by decide +kernel
theorem dL_law_957 : decode cL_law 957 = .ok (.invokevirtual 110, 3) := by decide +kernel
theorem dL_law_960 : decode cL_law 960 = .ok (.aload_n 2, 1) := by decide +kernel
theorem dL_law_961 : decode cL_law 961 = .ok (.aload_n 0, 1) := by decide +kernel
theorem dL_law_962 : decode cL_law 962 = .ok (.iload_n 3, 1) := by decide +kernel
theorem dL_law_963 : decode cL_law 963 = .ok (.iconst 1, 1) := by decide +kernel
theorem dL_law_964 : decode cL_law 964 = .ok (.iadd, 1) := by decide +kernel
theorem dL_law_965 : decode cL_law 965 = .ok (.iaload, 1) := by decide +kernel
theorem dL_law_966 : decode cL_law 966 = .ok (.aload_n 0, 1) := by decide +kernel
theorem dL_law_967 : decode cL_law 967 = .ok (.iload_n 3, 1) := by decide +kernel
theorem dL_law_968 : decode cL_law 968 = .ok (.iconst 2, 1) := by decide +kernel
theorem dL_law_969 : decode cL_law 969 = .ok (.iadd, 1) := by decide +kernel
theorem dL_law_970 : decode cL_law 970 = .ok (.iaload, 1) := by decide +kernel
theorem dL_law_971 : decode cL_law 971 = .ok (.aload_n 0, 1) := by decide +kernel
theorem dL_law_972 : decode cL_law 972 = .ok (.iload_n 3, 1) := by decide +kernel
theorem dL_law_973 : decode cL_law 973 = .ok (.iconst 3, 1) := by decide +kernel
theorem dL_law_974 : decode cL_law 974 = .ok (.iadd, 1) := by decide +kernel
theorem dL_law_975 : decode cL_law 975 = .ok (.iaload, 1) := by decide +kernel
theorem dL_law_976 : decode cL_law 976 = .ok (.invokevirtual 113, 3) := by decide +kernel
theorem dL_law_979 : decode cL_law 979 = .ok (.if_icmp .eq 81, 3) := by decide +kernel
theorem dL_law_982 : decode cL_law 982 = .ok (.iconst 0, 1) := by decide +kernel
theorem dL_law_983 : decode cL_law 983 = .ok (.ireturn, 1) := by decide +kernel
theorem dL_law_984 : decode cL_law 984 = .ok (.aload_n 1, 1) := by decide +kernel
theorem dL_law_985 : decode cL_law 985 = .ok (.aload_n 0, 1) := by decide +kernel
theorem dL_law_986 : decode cL_law 986 = .ok (.iload_n 3, 1) := by decide +kernel
theorem dL_law_987 : decode cL_law 987 = .ok (.iconst 1, 1) := by decide +kernel
theorem dL_law_988 : decode cL_law 988 = .ok (.iadd, 1) := by decide +kernel
theorem dL_law_989 : decode cL_law 989 = .ok (.iaload, 1) := by decide +kernel
theorem dL_law_990 : decode cL_law 990 = .ok (.aload_n 0, 1) := by decide +kernel
theorem dL_law_991 : decode cL_law 991 = .ok (.iload_n 3, 1) := by decide +kernel
theorem dL_law_992 : decode cL_law 992 = .ok (.iconst 2, 1) := by decide +kernel
theorem dL_law_993 : decode cL_law 993 = .ok (.iadd, 1) := by decide +kernel
theorem dL_law_994 : decode cL_law 994 = .ok (.iaload, 1) := by decide +kernel
theorem dL_law_995 : decode cL_law 995 = .ok (.invokevirtual 114, 3) := by decide +kernel
theorem dL_law_998 : decode cL_law 998 = .ok (.aload_n 2, 1) := by decide +kernel
theorem dL_law_999 : decode cL_law 999 = .ok (.aload_n 0, 1) := by decide +kernel
theorem dL_law_1000 : decode cL_law 1000 = .ok (.iload_n 3, 1) := by decide +kernel
theorem dL_law_1001 : decode cL_law 1001 = .ok (.iconst 1, 1) := by decide +kernel
theorem dL_law_1002 : decode cL_law 1002 = .ok (.iadd, 1) := by decide +kernel
theorem dL_law_1003 : decode cL_law 1003 = .ok (.iaload, 1) := by decide +kernel
theorem dL_law_1004 : decode cL_law 1004 = .ok (.aload_n 0, 1) := by decide +kernel
theorem dL_law_1005 : decode cL_law 1005 = .ok (.iload_n 3, 1) := by decide +kernel
theorem dL_law_1006 : decode cL_law 1006 = .ok (.iconst 2, 1) := by decide +kernel
theorem dL_law_1007 : decode cL_law 1007 = .ok (.iadd, 1) := by decide +kernel
theorem dL_law_1008 : decode cL_law 1008 = .ok (.iaload, 1) := by decide +kernel
theorem dL_law_1009 : decode cL_law 1009 = .ok (.invokevirtual 117, 3) := by decide +kernel
theorem dL_law_1012 : decode cL_law 1012 = .ok (.if_icmp .eq 48, 3) := by decide +kernel
theorem dL_law_1015 : decode cL_law 1015 = .ok (.iconst 0, 1) := by decide +kernel
theorem dL_law_1016 : decode cL_law 1016 = .ok (.ireturn, 1) := by decide +kernel
theorem dL_law_1017 : decode cL_law 1017 = .ok (.aload_n 1, 1) := by decide +kernel
theorem dL_law_1018 : decode cL_law 1018 = .ok (.aload_n 0, 1) := by decide +kernel
theorem dL_law_1019 : decode cL_law 1019 = .ok (.iload_n 3, 1) := by decide +kernel
theorem dL_law_1020 : decode cL_law 1020 = .ok (.iconst 1, 1) := by decide +kernel
theorem dL_law_1021 : decode cL_law 1021 = .ok (.iadd, 1) := by decide +kernel
theorem dL_law_1022 : decode cL_law 1022 = .ok (.iaload, 1) := by decide +kernel
theorem dL_law_1023 : decode cL_law 1023 = .ok (.aload_n 0, 1) := by decide +kernel
theorem dL_law_1024 : decode cL_law 1024 = .ok (.iload_n 3, 1) := by decide +kernel
theorem dL_law_1025 : decode cL_law 1025 = .ok (.iconst 2, 1) := by decide +kernel
theorem dL_law_1026 : decode cL_law 1026 = .ok (.iadd, 1) := by decide +kernel
theorem dL_law_1027 : decode cL_law 1027 = .ok (.iaload, 1) := by decide +kernel
theorem dL_law_1028 : decode cL_law 1028 = .ok (.aload_n 0, 1) := by decide +kernel
theorem dL_law_1029 : decode cL_law 1029 = .ok (.iload_n 3, 1) := by decide +kernel
theorem dL_law_1030 : decode cL_law 1030 = .ok (.iconst 3, 1) := by decide +kernel
theorem dL_law_1031 : decode cL_law 1031 = .ok (.iadd, 1) := by decide +kernel
theorem dL_law_1032 : decode cL_law 1032 = .ok (.iaload, 1) := by decide +kernel
theorem dL_law_1033 : decode cL_law 1033 = .ok (.invokevirtual 118, 3) := by decide +kernel
theorem dL_law_1036 : decode cL_law 1036 = .ok (.aload_n 2, 1) := by decide +kernel
theorem dL_law_1037 : decode cL_law 1037 = .ok (.aload_n 0, 1) := by decide +kernel
theorem dL_law_1038 : decode cL_law 1038 = .ok (.iload_n 3, 1) := by decide +kernel
theorem dL_law_1039 : decode cL_law 1039 = .ok (.iconst 1, 1) := by decide +kernel
theorem dL_law_1040 : decode cL_law 1040 = .ok (.iadd, 1) := by decide +kernel
theorem dL_law_1041 : decode cL_law 1041 = .ok (.iaload, 1) := by decide +kernel
theorem dL_law_1042 : decode cL_law 1042 = .ok (.aload_n 0, 1) := by decide +kernel
theorem dL_law_1043 : decode cL_law 1043 = .ok (.iload_n 3, 1) := by decide +kernel
theorem dL_law_1044 : decode cL_law 1044 = .ok (.iconst 2, 1) := by decide +kernel
theorem dL_law_1045 : decode cL_law 1045 = .ok (.iadd, 1) := by decide +kernel
theorem dL_law_1046 : decode cL_law 1046 = .ok (.iaload, 1) := by decide +kernel
theorem dL_law_1047 : decode cL_law 1047 = .ok (.aload_n 0, 1) := by decide +kernel
theorem dL_law_1048 : decode cL_law 1048 = .ok (.iload_n 3, 1) := by decide +kernel
theorem dL_law_1049 : decode cL_law 1049 = .ok (.iconst 3, 1) := by decide +kernel
theorem dL_law_1050 : decode cL_law 1050 = .ok (.iadd, 1) := by decide +kernel
theorem dL_law_1051 : decode cL_law 1051 = .ok (.iaload, 1) := by decide +kernel
theorem dL_law_1052 : decode cL_law 1052 = .ok (.invokevirtual 121, 3) := by decide +kernel
theorem dL_law_1055 : decode cL_law 1055 = .ok (.if_icmp .eq 5, 3) := by decide +kernel
theorem dL_law_1058 : decode cL_law 1058 = .ok (.iconst 0, 1) := by decide +kernel
theorem dL_law_1059 : decode cL_law 1059 = .ok (.ireturn, 1) := by decide +kernel
theorem dL_law_1060 : decode cL_law 1060 = .ok (.iinc 3 5, 3) := by decide +kernel
theorem dL_law_1063 : decode cL_law 1063 = .ok (.goto (-1045), 3) := by decide +kernel
theorem dL_law_1066 : decode cL_law 1066 = .ok (.iconst 1, 1) := by decide +kernel
theorem dL_law_1067 : decode cL_law 1067 = .ok (.ireturn, 1) := by decide +kernel
abbrev vwCl : List vw_C := [(RX0, TX0, 4), (RX1, TX1, 3), (RX2, TX2, 6), (RX3, TX3, 7), (RX4, TX4, 4), (RX5, TX5, 5), (RX6, TX6, 9), (RX7, TX7, 23)]
end
section
abbrev bg_V : Type := Int ⊕ Nat
abbrev bg_M : Type := Nat × (Nat → Nat → Option Nat) × (Nat → Nat → Int)
abbrev bg_Y : Type := Nat × va_G × ClassId × ClassId × ClassId
abbrev bg_K : Type := Program × Launch × Env × Room × State × MethodId × Array Value × List Frame × Method × Code × (State → Prop)
abbrev bg_P : Type := MethodName × ByteArray × Nat × Option FieldType
def bg_A (y : bg_Y) : Nat → Prop := fun q => y.1 ≤ q
abbrev R32 (i : Int) : Prop := -2147483648 ≤ i ∧ i ≤ 2147483647
def bg_R : bg_V → Prop
  | .inl i => R32 i
  | .inr _ => True
def bg_RS : List bg_V → Prop
  | [] => True
  | v :: t => bg_R v ∧ bg_RS t
def bg_v (y : bg_Y) : bg_V → Value
  | .inl i => .int (Int32.ofInt i)
  | .inr a => .ref (y.1 + a)
theorem bg_v_cat (y : bg_Y) (v : bg_V) : (bg_v y v).category = 1 := by cases v <;> rfl
/-- the kinds of the cells in the order in which they are made: code below 8: an object of that class with so many fields; 8: ints; 9: states; 10: columns -/
def bg_kC : List (Nat × Nat) := [(0, 4), (8, 24), (8, 24)]
def bg_kS : List (Nat × Nat) := [(4, 4), (8, 5), (10, 4)] ++ bg_kC ++ bg_kC ++ bg_kC ++ bg_kC ++ [(8, 5)]
def bg_kM : List (Nat × Nat) := [(2, 6), (3, 7)] ++ bg_kC ++ bg_kC ++ [(8, 26), (8, 625), (8, 24), (8, 24), (8, 24), (8, 24)]
def bg_KD : List (Nat × Nat) := [(6, 9)] ++ bg_kS ++ [(1, 3), (9, 6)] ++ bg_kS ++ bg_kS ++ bg_kS ++ bg_kS ++ bg_kS ++ bg_kS ++ [(9, 2)] ++ bg_kS ++ bg_kS ++ [(5, 5), (8, 100)] ++ bg_kC ++ bg_kC ++ bg_kM ++ bg_kM ++ bg_kM ++ [(7, 23), (8, 210), (8, 1260), (8, 420), (8, 210), (8, 100), (8, 196), (8, 48), (8, 625), (8, 24), (8, 24), (8, 24), (8, 24), (8, 72), (8, 24), (8, 24)]
def bg_kd (id : Nat) : Option (Nat × Nat) := bg_KD[id]?
def bg_fi : Nat → Nat → Bool
  | 0, 0 => true
  | 0, 1 => true
  | 1, 1 => true
  | 1, 2 => true
  | 2, 5 => true
  | 3, 3 => true
  | 3, 4 => true
  | 3, 5 => true
  | 4, 1 => true
  | 5, 1 => true
  | 5, 2 => true
  | 5, 3 => true
  | 6, 3 => true
  | 7, 4 => true
  | 7, 5 => true
  | 7, 7 => true
  | 7, 9 => true
  | 7, 10 => true
  | 7, 11 => true
  | 7, 19 => true
  | 7, 20 => true
  | _, _ => false
def bg_rv (y : bg_Y) (r : Option Nat) : Value := va_rf (r.map fun a => y.1 + a)
def bg_fv (y : bg_Y) (r : Nat → Nat → Option Nat) (g : Nat → Nat → Int) (ci id k : Nat) : Value := if bg_fi ci k = true then .int (Int32.ofInt (g id k)) else bg_rv y (r id k)
def bg_cA (y : bg_Y) (code : Nat) : ClassId := if code = 8 then y.2.2.1 else if code = 9 then y.2.2.2.1 else y.2.2.2.2
def bg_ae (y : bg_Y) (r : Nat → Nat → Option Nat) (g : Nat → Nat → Int) (code id : Nat) : Nat → Value := fun j => if code = 8 then .int (Int32.ofInt (g id j)) else bg_rv y (r id j)
def bg_at (y : bg_Y) (r : Nat → Nat → Option Nat) (g : Nat → Nat → Int) (id : Nat) (H : Heap) : Prop := ∀ ci N, bg_kd id = some (ci, N) → (ci < 8 → t_OB (y.1 + id) (y.2.1.1 ci) N (y.2.1.2 ci) H (bg_fv y r g ci id)) ∧ (8 ≤ ci → H[y.1 + id]? = some (arrV (bg_cA y ci) N (bg_ae y r g ci id)))
def bg_D (y : bg_Y) (M : bg_M) (H : Heap) : Prop := H.size = y.1 + M.1 ∧ (∀ id, id < M.1 → bg_at y M.2.1 M.2.2 id H) ∧ ∀ a k, R32 (M.2.2 a k)
theorem bg_at.kept {y : bg_Y} {r r' : Nat → Nat → Option Nat} {g g' : Nat → Nat → Int} {id : Nat} {H H1 : Heap} (h : bg_at y r g id H) (hq : H1[y.1 + id]? = H[y.1 + id]?) (hr : r' id = r id) (hg : g' id = g id) : bg_at y r' g' id H1 := by
  intro ci N hk
  obtain ⟨h1, h2⟩ := h ci N hk
  refine ⟨fun hc => ?_, fun hc => ?_⟩
  · refine ((h1 hc).kept hq).to (fun k _ => ?_)
    unfold bg_fv
    rw [hr, hg]
  · rw [hq, h2 hc]
    unfold bg_ae
    rw [hr, hg]
theorem bg_D.set {y : bg_Y} {n : Nat} {r r' : Nat → Nat → Option Nat} {g g' : Nat → Nat → Int} {id : Nat} {H H1 : Heap} (h : bg_D y (n, r, g) H) (hs : H1.size = H.size) (oq : ∀ q : Nat, q ≠ y.1 + id → H1[q]? = H[q]?) (ha : bg_at y r' g' id H1) (hr : ∀ i, i ≠ id → r' i = r i) (hg : ∀ i, i ≠ id → g' i = g i) (hR : ∀ a k, R32 (g' a k)) : bg_D y (n, r', g') H1 := by
  obtain ⟨h1, h2, h3⟩ := h
  refine ⟨by rw [hs]; exact h1, fun i hi => ?_, hR⟩
  by_cases hid : i = id
  · subst hid; exact ha
  · exact (h2 i hi).kept (oq _ (by omega)) (hr i hid) (hg i hid)
def bg_NW : List Cond := tables_1.filter (fun w => match w with
  | .methodLinkNest .. => true
  | .fieldLinkNest .. => true
  | _ => false)
theorem bg_NW_onTables : ∀ w ∈ bg_NW, w.onTables = true := by decide +kernel
theorem bg_NW_warm {w : Cond} (h : w ∈ bg_NW) {s U : State} (hW : s.WarmedH U.vm) (hZ : va_Nw w s) : va_Nw w U := by
  have h2 := (List.mem_filter.mp h).2
  cases w <;> first | (simp at h2; done) | exact va_Nw.warmM hW hZ | exact va_Nw.warmF hW hZ
def bg_first : Nat → Int
  | 0 => 10
  | 1 => 6
  | 2 => 1
  | 3 => 3
  | _ => 5
def bg_least : Nat → Int
  | 0 => 1
  | 1 => 1
  | 2 => 0
  | 3 => 1
  | _ => 1
def bg_most : Nat → Int
  | 0 => 99
  | 1 => 99
  | 2 => 9
  | 3 => 8
  | _ => 999
def bg_ST (y : bg_Y) (n : String) (f : Nat → Int) (U : State) (H : Heap) : Prop := ∃ t : Nat, va_Z "BoreholeColumns" n "[I" (.ref t) (bg_A y) U H ∧ va_T .int t 5 (fun j => .int (Int32.ofInt (f j))) (bg_A y) U H
def bg_tys (y : bg_Y) : List (ClassId × FieldType) := [(y.2.2.1, .int), (y.2.2.2.1, .object "BoreholeColumns$State"), (y.2.2.2.2, .object "BoreholeColumns$Column")]
def bg_KK (y : bg_Y) (U : State) : Prop := va_K y.2.1 vwCl (bg_tys y) U ∧ (∀ w ∈ bg_NW, va_Nw w U) ∧ (va_AO "BoreholeColumns$State" U ∧ va_AO "BoreholeColumns$Column" U) ∧ bg_ST y "FIRST_NUMBERS" bg_first U U.heap ∧ bg_ST y "LEAST_NUMBERS" bg_least U U.heap ∧ bg_ST y "GREATEST_NUMBERS" bg_most U U.heap
theorem bg_ST.moved {y : bg_Y} {n : String} {f : Nat → Int} {s U : State} {H H1 : Heap} (h : bg_ST y n f s H) (hvm : s.vm.Alike U.vm) (hq : ∀ a : Nat, a < H.size → ¬ bg_A y a → H1[a]? = H[a]?) : bg_ST y n f U H1 := by
  obtain ⟨t, h1, h2⟩ := h
  exact ⟨t, (h1.kept hq).moved hvm, (h2.kept hq).moved hvm⟩
theorem bg_KK.moved {y : bg_Y} {s U : State} (h : bg_KK y s) (hW : s.WarmedH U.vm) (hq : ∀ a : Nat, a < s.heap.size → ¬ bg_A y a → U.heap[a]? = s.heap[a]?) : bg_KK y U := by
  obtain ⟨h1, h2, ⟨h3, h4⟩, h5, h6, h7⟩ := h
  exact ⟨va_K.moved hW.alike h1, fun w hw => bg_NW_warm hw hW (h2 w hw), ⟨va_AO.moved hW.alike h3, va_AO.moved hW.alike h4⟩, h5.moved hW.alike hq, h6.moved hW.alike hq, h7.moved hW.alike hq⟩
theorem bg_KK.blind {y : bg_Y} {a : Array Value} {U : State} {g : JFrame} {mk : MethodId} (h : bg_KK y U) : bg_KK y (U.calling g mk a) := by
  obtain ⟨h1, h2, ⟨h3, h4⟩, h5, h6, h7⟩ := h
  have hvm : U.vm.Alike (U.calling g mk a).vm := Vm.Alike.refl U.vm
  exact ⟨va_K.moved hvm h1, fun w hw => va_Nw.same (bg_NW_onTables w hw) (rfl : U.vm = (U.calling g mk a).vm) (h2 w hw), ⟨va_AO.moved hvm h3, va_AO.moved hvm h4⟩, h5.moved hvm (fun _ _ _ => rfl), h6.moved hvm (fun _ _ _ => rfl), h7.moved hvm (fun _ _ _ => rfl)⟩
abbrev bg_W (κ : bg_K) (cs : Nat × Nat) (H : Heap) (locs : List Loc) (g : JFrame) : Prop := W κ.1 κ.2.1 κ.2.2.1 κ.2.2.2.1 κ.2.2.2.2.1 κ.2.2.2.2.2.1 κ.2.2.2.2.2.2.1 κ.2.2.2.2.2.2.2.1 κ.2.2.2.2.2.2.2.2.1 κ.2.2.2.2.2.2.2.2.2.1 H locs cs.1 cs.2 κ.2.2.2.2.2.2.2.2.2.2 g
abbrev bg_s (κ : bg_K) : State := κ.2.2.2.2.1
abbrev bg_m (κ : bg_K) : MethodId := κ.2.2.2.2.2.1
abbrev bg_c (κ : bg_K) : Code := κ.2.2.2.2.2.2.2.2.2.1
abbrev bg_Rm (κ : bg_K) : Room := κ.2.2.2.1
def bg_X (κ : bg_K) (y : bg_Y) (cc : ByteArray) (own : String) (dd mcc mss : Nat) : Prop :=
  κ.1.tables.exec = Jvm.exec ∧ (bg_c κ).code = cc ∧ (bg_s κ).vm.findClass own = some (bg_m κ).cls ∧ (∀ w ∈ bg_T, w.before κ.2.2.2.2.2.2.1 (bg_s κ) = true) ∧ bg_KK y (bg_s κ) ∧ y.1 ≤ (bg_s κ).heap.size ∧ κ.2.2.2.2.2.2.2.2.1.locks = false ∧
  dd ≤ (bg_Rm κ).frames ∧ 44 * dd ≤ (bg_Rm κ).locals ∧ mcc ≤ (bg_Rm κ).cells ∧ mss ≤ (bg_Rm κ).slots
/-- the locals -/
def bg_L (y : bg_Y) (c : Code) (ls : List (Option bg_V)) (a : Array Slot) : Prop := a.size = ls.length ∧ a.size = c.maxLocals ∧ lv_wf a ∧ ∀ (k : Nat) (v : bg_V), ls[k]? = some (some v) → a[k]? = some (Slot.val (bg_v y v)) ∧ bg_R v
def bg_G (κ : bg_K) (y : bg_Y) (cs : Nat × Nat) (pc : Nat) (ls : List (Option bg_V)) (st : List bg_V) (M : bg_M) : Prop :=
  ∀ (H : Heap) (locs : List Loc) (a : Array Slot), bg_D y M H → va_S (bg_A y) (bg_s κ).heap H locs → bg_L y (bg_c κ) ls a → bg_RS st → bg_W κ cs H locs (F0 (bg_m κ) pc a (st.map (bg_v y)))
def bg_al (y : bg_Y) : Nat → List (Option bg_V) → List (Nat × Value)
  | _, [] => []
  | i, none :: t => bg_al y (i + 1) t
  | i, some v :: t => (i, bg_v y v) :: bg_al y (i + 1) t
theorem bg_al_mem (y : bg_Y) : ∀ (ls : List (Option bg_V)) (i : Nat) (q : Nat × Value), q ∈ bg_al y i ls ↔ ∃ j v, q = (i + j, bg_v y v) ∧ ls[j]? = some (some v)
  | [], i, q => by simp [bg_al]
  | none :: t, i, q => by
    rw [bg_al, bg_al_mem y t]
    constructor
    · rintro ⟨j, v, rfl, h⟩
      exact ⟨j + 1, v, by rw [show i + 1 + j = i + (j + 1) by omega], by simpa using h⟩
    · rintro ⟨j, v, rfl, h⟩
      cases j with
      | zero => simp at h
      | succ j => exact ⟨j, v, by rw [show i + 1 + j = i + (j + 1) by omega], by simpa using h⟩
  | some w :: t, i, q => by
    rw [bg_al, List.mem_cons, bg_al_mem y t]
    constructor
    · rintro (rfl | ⟨j, v, rfl, h⟩)
      · exact ⟨0, w, rfl, by simp⟩
      · exact ⟨j + 1, v, by rw [show i + 1 + j = i + (j + 1) by omega], by simpa using h⟩
    · rintro ⟨j, v, rfl, h⟩
      cases j with
      | zero => simp at h; subst h; exact Or.inl rfl
      | succ j => exact Or.inr ⟨j, v, by rw [show i + 1 + j = i + (j + 1) by omega], by simpa using h⟩
theorem bg_L.has {y : bg_Y} {c : Code} {ls : List (Option bg_V)} {a : Array Slot} (h : bg_L y c ls a) : lv_has a ls.length (bg_al y 0 ls) := by
  obtain ⟨h1, h2, h3, h4⟩ := h
  refine ⟨h1, h3, fun q hq => ?_⟩
  obtain ⟨j, v, rfl, hj⟩ := (bg_al_mem y ls 0 q).mp hq
  simp only [Nat.zero_add]
  exact (h4 j v hj).1
theorem bg_L.set {y : bg_Y} {c : Code} {ls : List (Option bg_V)} {a a' : Array Slot} {i : Nat} {v : bg_V} (h : bg_L y c ls a) (hi : i < ls.length) (hv : bg_R v)
    (h' : lv_has a' ls.length ((i, bg_v y v) :: (bg_al y 0 ls).filter (fun q => !(q.1 == i) && !(q.1 + 1 == i && q.2.category == 2)))) : bg_L y c (ls.set i (some v)) a' := by
  obtain ⟨h1, h2, h3, h4⟩ := h
  obtain ⟨g1, g2, g3⟩ := h'
  refine ⟨by rw [g1, List.length_set], by rw [g1, ← h1, h2], g2, fun k w hk => ?_⟩
  by_cases hki : k = i
  · subst hki
    rw [List.getElem?_set_self hi] at hk
    cases hk
    exact ⟨g3 _ List.mem_cons_self, hv⟩
  · rw [List.getElem?_set_ne (Ne.symm hki)] at hk
    refine ⟨g3 (k, bg_v y w) (List.mem_cons_of_mem _ (List.mem_filter.mpr ⟨(bg_al_mem y ls 0 _).mpr ⟨k, w, by simp, hk⟩, ?_⟩)), (h4 k w hk).2⟩
    simp [hki, bg_v_cat]
theorem bg_L.sub {y : bg_Y} {c : Code} {ls ls' : List (Option bg_V)} {a : Array Slot} (h : bg_L y c ls a) (hl : ls'.length = ls.length) (hs : ∀ (k : Nat) (v : bg_V), ls'[k]? = some (some v) → ls[k]? = some (some v)) : bg_L y c ls' a :=
  ⟨by rw [hl]; exact h.1, h.2.1, h.2.2.1, fun k v hk => h.2.2.2 k v (hs k v hk)⟩
/-- int arithmetic with the machine's wrap-around -/
def bg_wr (i : Int) : Int := (Int32.ofInt i).toInt
theorem bg_wr_id {i : Int} (h : R32 i) : bg_wr i = i := Int32.toInt_ofInt_of_le (by omega) (by omega)
theorem bg_toInt {i : Int} (h : R32 i) : (Int32.ofInt i).toInt = i := bg_wr_id h
theorem bg_R_toInt (x : Int32) : R32 x.toInt := ⟨by have := x.le_toInt; omega, by have := x.toInt_lt; omega⟩
theorem bg_wr_R (i : Int) : R32 (bg_wr i) := bg_R_toInt _
theorem bg_wr_of (i : Int) : Int32.ofInt (bg_wr i) = Int32.ofInt i := Int32.ofInt_toInt _
theorem bg_lt {a b : Int} (ha : R32 a) (hb : R32 b) : Int32.ofInt a < Int32.ofInt b ↔ a < b := by rw [Int32.lt_iff_toInt_lt, bg_toInt ha, bg_toInt hb]
theorem bg_le {a b : Int} (ha : R32 a) (hb : R32 b) : Int32.ofInt a ≤ Int32.ofInt b ↔ a ≤ b := by rw [Int32.le_iff_toInt_le, bg_toInt ha, bg_toInt hb]
theorem bg_eq {a b : Int} (ha : R32 a) (hb : R32 b) : Int32.ofInt a = Int32.ofInt b ↔ a = b := by rw [← Int32.toInt_inj, bg_toInt ha, bg_toInt hb]
theorem bg_idx {a : Int} (ha : R32 a) : (Int32.ofInt a).toNatClampNeg = a.toNat := by
  rw [← Int32.toNat_toInt, bg_toInt ha]
theorem bg_vpin {a : Int} {n : Nat} (ha : R32 a) (h0 : 0 ≤ a) (hn : a < n) : vp_in (Int32.ofInt a) n := by
  unfold vp_in
  rw [bg_idx ha]
  rintro (h | h)
  · have := (bg_lt (b := 0) ha (by decide)).mp h; omega
  · omega
def bg_band (a b : Int) : Int := (Int32.ofInt a &&& Int32.ofInt b).toInt
def bg_bor (a b : Int) : Int := (Int32.ofInt a ||| Int32.ofInt b).toInt
def bg_bxor (a b : Int) : Int := (Int32.ofInt a ^^^ Int32.ofInt b).toInt
def bg_shl (a b : Int) : Int := (Int32.ofInt a <<< (Int32.ofInt b &&& 31)).toInt
def bg_shr (a b : Int) : Int := (Int32.ofInt a >>> (Int32.ofInt b &&& 31)).toInt
def bg_ushr (a b : Int) : Int := ((Int32.ofInt a).toUInt32 >>> ((Int32.ofInt b).toUInt32 &&& Int32.toUInt32 31)).toInt32.toInt
end
section
section STEPS
variable {κ : bg_K} {y : bg_Y} {cs : Nat × Nat} {cc : ByteArray} {own : String} {dd mcc mss pc : Nat} {ls : List (Option bg_V)} {st : List bg_V} {M : bg_M}

theorem bg_iconst (X : bg_X κ y cc own dd mcc mss) {n : Int} (hd : decode cc pc = .ok (.iconst n, 1)) (hn : R32 n) (kk : bg_G κ y cs (pc + 1) ls (.inl n :: st) M) : bg_G κ y cs pc ls st M := by
  intro H locs a hD hS hL hR
  obtain ⟨hx, hb, hown, hts, hK, hbs, hlk, -⟩ := X
  exact lv_iconst hx hb hd rfl (kk H locs a hD hS hL ⟨hn, hR⟩)

theorem bg_bipush (X : bg_X κ y cc own dd mcc mss) {n : Int} (hd : decode cc pc = .ok (.bipush n, 2)) (hn : (Int8.ofInt n).toInt32 = Int32.ofInt n) (hr : R32 n) (kk : bg_G κ y cs (pc + 2) ls (.inl n :: st) M) : bg_G κ y cs pc ls st M := by
  intro H locs a hD hS hL hR
  obtain ⟨hx, hb, hown, hts, hK, hbs, hlk, -⟩ := X
  exact lv_bipush hx hb hd hn (kk H locs a hD hS hL ⟨hr, hR⟩)

theorem bg_sipush (X : bg_X κ y cc own dd mcc mss) {n : Int} (hd : decode cc pc = .ok (.sipush n, 3)) (hn : (Int16.ofInt n).toInt32 = Int32.ofInt n) (hr : R32 n) (kk : bg_G κ y cs (pc + 3) ls (.inl n :: st) M) : bg_G κ y cs pc ls st M := by
  intro H locs a hD hS hL hR
  obtain ⟨hx, hb, hown, hts, hK, hbs, hlk, -⟩ := X
  exact lv_sipush hx hb hd hn (kk H locs a hD hS hL ⟨hr, hR⟩)

theorem bg_ldc (X : bg_X κ y cc own dd mcc mss) {idx : Nat} {n : Int} (hd : decode cc pc = .ok (.ldc idx, 2)) (hw : Cond.constant own idx (Int32.ofInt n) ∈ bg_T) (hr : R32 n) (kk : bg_G κ y cs (pc + 2) ls (.inl n :: st) M) : bg_G κ y cs pc ls st M := by
  intro H locs a hD hS hL hR
  obtain ⟨hx, hb, hown, hts, hK, hbs, hlk, -⟩ := X
  exact lv_ldc hx hb hown (hts _ hw) hd (kk H locs a hD hS hL ⟨hr, hR⟩)

theorem bg_ldcw (X : bg_X κ y cc own dd mcc mss) {idx : Nat} {n : Int} (hd : decode cc pc = .ok (.ldc_w idx, 3)) (hw : Cond.constant own idx (Int32.ofInt n) ∈ bg_T) (hr : R32 n) (kk : bg_G κ y cs (pc + 3) ls (.inl n :: st) M) : bg_G κ y cs pc ls st M := by
  intro H locs a hD hS hL hR
  obtain ⟨hx, hb, hown, hts, hK, hbs, hlk, -⟩ := X
  exact lv_ldcw hx hb hown (hts _ hw) hd (kk H locs a hD hS hL ⟨hr, hR⟩)

theorem bg_iload_n (X : bg_X κ y cc own dd mcc mss) {k : Fin 4} {i : Nat} {x : Int} (hd : decode cc pc = .ok (.iload_n k, 1)) (hi : (k : Nat) = i) (hl : ls[i]? = some (some (.inl x))) (kk : bg_G κ y cs (pc + 1) ls (.inl x :: st) M) : bg_G κ y cs pc ls st M := by
  intro H locs a hD hS hL hR
  obtain ⟨hx, hb, hown, hts, hK, hbs, hlk, -⟩ := X
  obtain ⟨h1, h2⟩ := hL.2.2.2 i _ hl
  exact lv_iload_n hx hb hd hi h1 (kk H locs a hD hS hL ⟨h2, hR⟩)

theorem bg_iload (X : bg_X κ y cc own dd mcc mss) {i : Nat} {x : Int} (hd : decode cc pc = .ok (.iload i, 2)) (hl : ls[i]? = some (some (.inl x))) (kk : bg_G κ y cs (pc + 2) ls (.inl x :: st) M) : bg_G κ y cs pc ls st M := by
  intro H locs a hD hS hL hR
  obtain ⟨hx, hb, hown, hts, hK, hbs, hlk, -⟩ := X
  obtain ⟨h1, h2⟩ := hL.2.2.2 i _ hl
  exact lv_iload hx hb hd h1 (kk H locs a hD hS hL ⟨h2, hR⟩)

theorem bg_aload_n (X : bg_X κ y cc own dd mcc mss) {k : Fin 4} {i : Nat} {x : Nat} (hd : decode cc pc = .ok (.aload_n k, 1)) (hi : (k : Nat) = i) (hl : ls[i]? = some (some (.inr x))) (kk : bg_G κ y cs (pc + 1) ls (.inr x :: st) M) : bg_G κ y cs pc ls st M := by
  intro H locs a hD hS hL hR
  obtain ⟨hx, hb, hown, hts, hK, hbs, hlk, -⟩ := X
  obtain ⟨h1, h2⟩ := hL.2.2.2 i _ hl
  exact lv_aload_n hx hb hd hi h1 (kk H locs a hD hS hL ⟨h2, hR⟩)

theorem bg_aload (X : bg_X κ y cc own dd mcc mss) {i : Nat} {x : Nat} (hd : decode cc pc = .ok (.aload i, 2)) (hl : ls[i]? = some (some (.inr x))) (kk : bg_G κ y cs (pc + 2) ls (.inr x :: st) M) : bg_G κ y cs pc ls st M := by
  intro H locs a hD hS hL hR
  obtain ⟨hx, hb, hown, hts, hK, hbs, hlk, -⟩ := X
  obtain ⟨h1, h2⟩ := hL.2.2.2 i _ hl
  exact lv_aload hx hb hd h1 (kk H locs a hD hS hL ⟨h2, hR⟩)

theorem bg_istore_n (X : bg_X κ y cc own dd mcc mss) {k : Fin 4} {i : Nat} {x : Int} (hd : decode cc pc = .ok (.istore_n k, 1)) (hi : (k : Nat) = i) (hl : i < ls.length) (kk : bg_G κ y cs (pc + 1) (ls.set i (some (.inl x))) st M) : bg_G κ y cs pc ls (.inl x :: st) M := by
  intro H locs a hD hS hL hR
  obtain ⟨hx, hb, hown, hts, hK, hbs, hlk, -⟩ := X
  exact lv_istore_n hx hb hd hi hL.has hl rfl (fun a' ha' => kk H locs a' hD hS (hL.set (v := .inl x) hl hR.1 ha') hR.2)

theorem bg_istore (X : bg_X κ y cc own dd mcc mss) {i : Nat} {x : Int} (hd : decode cc pc = .ok (.istore i, 2)) (hl : i < ls.length) (kk : bg_G κ y cs (pc + 2) (ls.set i (some (.inl x))) st M) : bg_G κ y cs pc ls (.inl x :: st) M := by
  intro H locs a hD hS hL hR
  obtain ⟨hx, hb, hown, hts, hK, hbs, hlk, -⟩ := X
  exact lv_istore hx hb hd hL.has hl rfl (fun a' ha' => kk H locs a' hD hS (hL.set (v := .inl x) hl hR.1 ha') hR.2)

theorem bg_astore_n (X : bg_X κ y cc own dd mcc mss) {k : Fin 4} {i : Nat} {x : Nat} (hd : decode cc pc = .ok (.astore_n k, 1)) (hi : (k : Nat) = i) (hl : i < ls.length) (kk : bg_G κ y cs (pc + 1) (ls.set i (some (.inr x))) st M) : bg_G κ y cs pc ls (.inr x :: st) M := by
  intro H locs a hD hS hL hR
  obtain ⟨hx, hb, hown, hts, hK, hbs, hlk, -⟩ := X
  exact lv_astore_n hx hb hd hi hL.has hl rfl (fun a' ha' => kk H locs a' hD hS (hL.set (v := .inr x) hl hR.1 ha') hR.2)

theorem bg_astore (X : bg_X κ y cc own dd mcc mss) {i : Nat} {x : Nat} (hd : decode cc pc = .ok (.astore i, 2)) (hl : i < ls.length) (kk : bg_G κ y cs (pc + 2) (ls.set i (some (.inr x))) st M) : bg_G κ y cs pc ls (.inr x :: st) M := by
  intro H locs a hD hS hL hR
  obtain ⟨hx, hb, hown, hts, hK, hbs, hlk, -⟩ := X
  exact lv_astore hx hb hd hL.has hl rfl (fun a' ha' => kk H locs a' hD hS (hL.set (v := .inr x) hl hR.1 ha') hR.2)

theorem bg_iinc (X : bg_X κ y cc own dd mcc mss) {i : Nat} {n x : Int} (hd : decode cc pc = .ok (.iinc i n, 3)) (hl : ls[i]? = some (some (.inl x))) (hr : R32 (x + n)) (kk : bg_G κ y cs (pc + 3) (ls.set i (some (.inl (x + n)))) st M) : bg_G κ y cs pc ls st M := by
  intro H locs a hD hS hL hR
  obtain ⟨hx, hb, hown, hts, hK, hbs, hlk, -⟩ := X
  have hi : i < ls.length := (List.getElem?_eq_some_iff.mp hl).1
  obtain ⟨k, hk⟩ := List.getElem?_of_mem ((bg_al_mem y ls 0 (i, bg_v y (.inl x))).mpr ⟨i, _, by simp, hl⟩)
  exact lv_iinc hx hb hd hL.has hk (by rw [← Int32.ofInt_add]) hi rfl (fun a' ha' => kk H locs a' hD hS (hL.set (v := .inl (x + n)) hi hr ha') hR)

theorem bg_iadd (X : bg_X κ y cc own dd mcc mss) {p q : Int} (hd : decode cc pc = .ok (.iadd, 1)) (hr : R32 (p + q)) (kk : bg_G κ y cs (pc + 1) ls (.inl (p + q) :: st) M) : bg_G κ y cs pc ls (.inl q :: .inl p :: st) M := by
  intro H locs a hD hS hL hR
  obtain ⟨hx, hb, hown, hts, hK, hbs, hlk, -⟩ := X
  refine lv_iadd hx hb hd ?_
  rw [← Int32.ofInt_add]
  exact kk H locs a hD hS hL ⟨hr, hR.2.2⟩

theorem bg_iaddW (X : bg_X κ y cc own dd mcc mss) {p q : Int} (hd : decode cc pc = .ok (.iadd, 1)) (kk : bg_G κ y cs (pc + 1) ls (.inl (bg_wr (p + q)) :: st) M) : bg_G κ y cs pc ls (.inl q :: .inl p :: st) M := by
  intro H locs a hD hS hL hR
  obtain ⟨hx, hb, hown, hts, hK, hbs, hlk, -⟩ := X
  refine lv_iadd hx hb hd ?_
  rw [← Int32.ofInt_add, ← bg_wr_of]
  exact kk H locs a hD hS hL ⟨bg_wr_R _, hR.2.2⟩

theorem bg_isub (X : bg_X κ y cc own dd mcc mss) {p q : Int} (hd : decode cc pc = .ok (.isub, 1)) (hr : R32 (p - q)) (kk : bg_G κ y cs (pc + 1) ls (.inl (p - q) :: st) M) : bg_G κ y cs pc ls (.inl q :: .inl p :: st) M := by
  intro H locs a hD hS hL hR
  obtain ⟨hx, hb, hown, hts, hK, hbs, hlk, -⟩ := X
  refine lv_isub hx hb hd ?_
  rw [← Int32.ofInt_sub]
  exact kk H locs a hD hS hL ⟨hr, hR.2.2⟩

theorem bg_isubW (X : bg_X κ y cc own dd mcc mss) {p q : Int} (hd : decode cc pc = .ok (.isub, 1)) (kk : bg_G κ y cs (pc + 1) ls (.inl (bg_wr (p - q)) :: st) M) : bg_G κ y cs pc ls (.inl q :: .inl p :: st) M := by
  intro H locs a hD hS hL hR
  obtain ⟨hx, hb, hown, hts, hK, hbs, hlk, -⟩ := X
  refine lv_isub hx hb hd ?_
  rw [← Int32.ofInt_sub, ← bg_wr_of]
  exact kk H locs a hD hS hL ⟨bg_wr_R _, hR.2.2⟩

theorem bg_imul (X : bg_X κ y cc own dd mcc mss) {p q : Int} (hd : decode cc pc = .ok (.imul, 1)) (hr : R32 (p * q)) (kk : bg_G κ y cs (pc + 1) ls (.inl (p * q) :: st) M) : bg_G κ y cs pc ls (.inl q :: .inl p :: st) M := by
  intro H locs a hD hS hL hR
  obtain ⟨hx, hb, hown, hts, hK, hbs, hlk, -⟩ := X
  refine lv_imul hx hb hd ?_
  rw [← Int32.ofInt_mul]
  exact kk H locs a hD hS hL ⟨hr, hR.2.2⟩

theorem bg_imulW (X : bg_X κ y cc own dd mcc mss) {p q : Int} (hd : decode cc pc = .ok (.imul, 1)) (kk : bg_G κ y cs (pc + 1) ls (.inl (bg_wr (p * q)) :: st) M) : bg_G κ y cs pc ls (.inl q :: .inl p :: st) M := by
  intro H locs a hD hS hL hR
  obtain ⟨hx, hb, hown, hts, hK, hbs, hlk, -⟩ := X
  refine lv_imul hx hb hd ?_
  rw [← Int32.ofInt_mul, ← bg_wr_of]
  exact kk H locs a hD hS hL ⟨bg_wr_R _, hR.2.2⟩

theorem bg_ineg (X : bg_X κ y cc own dd mcc mss) {p : Int} (hd : decode cc pc = .ok (.ineg, 1)) (hr : R32 (-p)) (kk : bg_G κ y cs (pc + 1) ls (.inl (-p) :: st) M) : bg_G κ y cs pc ls (.inl p :: st) M := by
  intro H locs a hD hS hL hR
  obtain ⟨hx, hb, hown, hts, hK, hbs, hlk, -⟩ := X
  refine lv_ineg hx hb hd ?_
  rw [← Int32.ofInt_neg]
  exact kk H locs a hD hS hL ⟨hr, hR.2⟩

theorem bg_iand (X : bg_X κ y cc own dd mcc mss) {p q : Int} (hd : decode cc pc = .ok (.iand, 1)) (kk : bg_G κ y cs (pc + 1) ls (.inl (bg_band p q) :: st) M) : bg_G κ y cs pc ls (.inl q :: .inl p :: st) M := by
  intro H locs a hD hS hL hR
  obtain ⟨hx, hb, hown, hts, hK, hbs, hlk, -⟩ := X
  refine lv_iand hx hb hd ?_
  have h1 := kk H locs a hD hS hL ⟨bg_R_toInt _, hR.2.2⟩
  simp only [List.map_cons, bg_v, bg_band, Int32.ofInt_toInt] at h1
  exact h1

theorem bg_ior (X : bg_X κ y cc own dd mcc mss) {p q : Int} (hd : decode cc pc = .ok (.ior, 1)) (kk : bg_G κ y cs (pc + 1) ls (.inl (bg_bor p q) :: st) M) : bg_G κ y cs pc ls (.inl q :: .inl p :: st) M := by
  intro H locs a hD hS hL hR
  obtain ⟨hx, hb, hown, hts, hK, hbs, hlk, -⟩ := X
  refine lv_ior hx hb hd ?_
  have h1 := kk H locs a hD hS hL ⟨bg_R_toInt _, hR.2.2⟩
  simp only [List.map_cons, bg_v, bg_bor, Int32.ofInt_toInt] at h1
  exact h1

theorem bg_ixor (X : bg_X κ y cc own dd mcc mss) {p q : Int} (hd : decode cc pc = .ok (.ixor, 1)) (kk : bg_G κ y cs (pc + 1) ls (.inl (bg_bxor p q) :: st) M) : bg_G κ y cs pc ls (.inl q :: .inl p :: st) M := by
  intro H locs a hD hS hL hR
  obtain ⟨hx, hb, hown, hts, hK, hbs, hlk, -⟩ := X
  refine lv_ixor hx hb hd ?_
  have h1 := kk H locs a hD hS hL ⟨bg_R_toInt _, hR.2.2⟩
  simp only [List.map_cons, bg_v, bg_bxor, Int32.ofInt_toInt] at h1
  exact h1

theorem bg_ishl (X : bg_X κ y cc own dd mcc mss) {p q : Int} (hd : decode cc pc = .ok (.ishl, 1)) (kk : bg_G κ y cs (pc + 1) ls (.inl (bg_shl p q) :: st) M) : bg_G κ y cs pc ls (.inl q :: .inl p :: st) M := by
  intro H locs a hD hS hL hR
  obtain ⟨hx, hb, hown, hts, hK, hbs, hlk, -⟩ := X
  refine lv_ishl hx hb hd ?_
  have h1 := kk H locs a hD hS hL ⟨bg_R_toInt _, hR.2.2⟩
  simp only [List.map_cons, bg_v, bg_shl, Int32.ofInt_toInt] at h1
  exact h1

theorem bg_ishr (X : bg_X κ y cc own dd mcc mss) {p q : Int} (hd : decode cc pc = .ok (.ishr, 1)) (kk : bg_G κ y cs (pc + 1) ls (.inl (bg_shr p q) :: st) M) : bg_G κ y cs pc ls (.inl q :: .inl p :: st) M := by
  intro H locs a hD hS hL hR
  obtain ⟨hx, hb, hown, hts, hK, hbs, hlk, -⟩ := X
  refine lv_ishr hx hb hd ?_
  have h1 := kk H locs a hD hS hL ⟨bg_R_toInt _, hR.2.2⟩
  simp only [List.map_cons, bg_v, bg_shr, Int32.ofInt_toInt] at h1
  exact h1

theorem bg_iushr (X : bg_X κ y cc own dd mcc mss) {p q : Int} (hd : decode cc pc = .ok (.iushr, 1)) (kk : bg_G κ y cs (pc + 1) ls (.inl (bg_ushr p q) :: st) M) : bg_G κ y cs pc ls (.inl q :: .inl p :: st) M := by
  intro H locs a hD hS hL hR
  obtain ⟨hx, hb, hown, hts, hK, hbs, hlk, -⟩ := X
  refine lv_iushr hx hb hd (Int32.ofInt_toInt _).symm ?_
  exact kk H locs a hD hS hL ⟨bg_R_toInt _, hR.2.2⟩

theorem bg_icmp_lt (X : bg_X κ y cc own dd mcc mss) {p q off : Int} {tgt : Nat} (hd : decode cc pc = .ok (.if_icmp .lt off, 3)) (ht : (pc : Int) + off = (tgt : Int)) (k1 : p < q → bg_G κ y cs tgt ls st M) (k2 : q ≤ p → bg_G κ y cs (pc + 3) ls st M) : bg_G κ y cs pc ls (.inl q :: .inl p :: st) M := by
  intro H locs a hD hS hL hR
  obtain ⟨hx, hb, hown, hts, hK, hbs, hlk, -⟩ := X
  have hq : R32 q := hR.1
  have hp : R32 p := hR.2.1
  exact lv_icmp_lt hx hb hd ht (fun h => k1 ((bg_lt hp hq).mp h) H locs a hD hS hL hR.2.2) (fun h => k2 (by have h9 : ¬ (p < q) := fun e => h ((bg_lt hp hq).mpr e); omega) H locs a hD hS hL hR.2.2)

theorem bg_if_lt (X : bg_X κ y cc own dd mcc mss) {p off : Int} {tgt : Nat} (hd : decode cc pc = .ok (.ifCond .lt off, 3)) (ht : (pc : Int) + off = (tgt : Int)) (k1 : p < 0 → bg_G κ y cs tgt ls st M) (k2 : 0 ≤ p → bg_G κ y cs (pc + 3) ls st M) : bg_G κ y cs pc ls (.inl p :: st) M := by
  intro H locs a hD hS hL hR
  obtain ⟨hx, hb, hown, hts, hK, hbs, hlk, -⟩ := X
  have hq : R32 0 := by decide
  have hp : R32 p := hR.1
  exact lv_if_lt hx hb hd ht (fun h => k1 ((bg_lt hp hq).mp h) H locs a hD hS hL hR.2) (fun h => k2 (by have h9 : ¬ (p < 0) := fun e => h ((bg_lt hp hq).mpr e); omega) H locs a hD hS hL hR.2)

theorem bg_icmp_ge (X : bg_X κ y cc own dd mcc mss) {p q off : Int} {tgt : Nat} (hd : decode cc pc = .ok (.if_icmp .ge off, 3)) (ht : (pc : Int) + off = (tgt : Int)) (k1 : q ≤ p → bg_G κ y cs tgt ls st M) (k2 : p < q → bg_G κ y cs (pc + 3) ls st M) : bg_G κ y cs pc ls (.inl q :: .inl p :: st) M := by
  intro H locs a hD hS hL hR
  obtain ⟨hx, hb, hown, hts, hK, hbs, hlk, -⟩ := X
  have hq : R32 q := hR.1
  have hp : R32 p := hR.2.1
  exact lv_icmp_ge hx hb hd ht (fun h => k1 ((bg_le hq hp).mp h) H locs a hD hS hL hR.2.2) (fun h => k2 (by have h9 : ¬ (q ≤ p) := fun e => h ((bg_le hq hp).mpr e); omega) H locs a hD hS hL hR.2.2)

theorem bg_if_ge (X : bg_X κ y cc own dd mcc mss) {p off : Int} {tgt : Nat} (hd : decode cc pc = .ok (.ifCond .ge off, 3)) (ht : (pc : Int) + off = (tgt : Int)) (k1 : 0 ≤ p → bg_G κ y cs tgt ls st M) (k2 : p < 0 → bg_G κ y cs (pc + 3) ls st M) : bg_G κ y cs pc ls (.inl p :: st) M := by
  intro H locs a hD hS hL hR
  obtain ⟨hx, hb, hown, hts, hK, hbs, hlk, -⟩ := X
  have hq : R32 0 := by decide
  have hp : R32 p := hR.1
  exact lv_if_ge hx hb hd ht (fun h => k1 ((bg_le hq hp).mp h) H locs a hD hS hL hR.2) (fun h => k2 (by have h9 : ¬ (0 ≤ p) := fun e => h ((bg_le hq hp).mpr e); omega) H locs a hD hS hL hR.2)

theorem bg_icmp_gt (X : bg_X κ y cc own dd mcc mss) {p q off : Int} {tgt : Nat} (hd : decode cc pc = .ok (.if_icmp .gt off, 3)) (ht : (pc : Int) + off = (tgt : Int)) (k1 : q < p → bg_G κ y cs tgt ls st M) (k2 : p ≤ q → bg_G κ y cs (pc + 3) ls st M) : bg_G κ y cs pc ls (.inl q :: .inl p :: st) M := by
  intro H locs a hD hS hL hR
  obtain ⟨hx, hb, hown, hts, hK, hbs, hlk, -⟩ := X
  have hq : R32 q := hR.1
  have hp : R32 p := hR.2.1
  exact lv_icmp_gt hx hb hd ht (fun h => k1 ((bg_lt hq hp).mp h) H locs a hD hS hL hR.2.2) (fun h => k2 (by have h9 : ¬ (q < p) := fun e => h ((bg_lt hq hp).mpr e); omega) H locs a hD hS hL hR.2.2)

theorem bg_if_gt (X : bg_X κ y cc own dd mcc mss) {p off : Int} {tgt : Nat} (hd : decode cc pc = .ok (.ifCond .gt off, 3)) (ht : (pc : Int) + off = (tgt : Int)) (k1 : 0 < p → bg_G κ y cs tgt ls st M) (k2 : p ≤ 0 → bg_G κ y cs (pc + 3) ls st M) : bg_G κ y cs pc ls (.inl p :: st) M := by
  intro H locs a hD hS hL hR
  obtain ⟨hx, hb, hown, hts, hK, hbs, hlk, -⟩ := X
  have hq : R32 0 := by decide
  have hp : R32 p := hR.1
  exact lv_if_gt hx hb hd ht (fun h => k1 ((bg_lt hq hp).mp h) H locs a hD hS hL hR.2) (fun h => k2 (by have h9 : ¬ (0 < p) := fun e => h ((bg_lt hq hp).mpr e); omega) H locs a hD hS hL hR.2)

theorem bg_icmp_le (X : bg_X κ y cc own dd mcc mss) {p q off : Int} {tgt : Nat} (hd : decode cc pc = .ok (.if_icmp .le off, 3)) (ht : (pc : Int) + off = (tgt : Int)) (k1 : p ≤ q → bg_G κ y cs tgt ls st M) (k2 : q < p → bg_G κ y cs (pc + 3) ls st M) : bg_G κ y cs pc ls (.inl q :: .inl p :: st) M := by
  intro H locs a hD hS hL hR
  obtain ⟨hx, hb, hown, hts, hK, hbs, hlk, -⟩ := X
  have hq : R32 q := hR.1
  have hp : R32 p := hR.2.1
  exact lv_icmp_le hx hb hd ht (fun h => k1 ((bg_le hp hq).mp h) H locs a hD hS hL hR.2.2) (fun h => k2 (by have h9 : ¬ (p ≤ q) := fun e => h ((bg_le hp hq).mpr e); omega) H locs a hD hS hL hR.2.2)

theorem bg_if_le (X : bg_X κ y cc own dd mcc mss) {p off : Int} {tgt : Nat} (hd : decode cc pc = .ok (.ifCond .le off, 3)) (ht : (pc : Int) + off = (tgt : Int)) (k1 : p ≤ 0 → bg_G κ y cs tgt ls st M) (k2 : 0 < p → bg_G κ y cs (pc + 3) ls st M) : bg_G κ y cs pc ls (.inl p :: st) M := by
  intro H locs a hD hS hL hR
  obtain ⟨hx, hb, hown, hts, hK, hbs, hlk, -⟩ := X
  have hq : R32 0 := by decide
  have hp : R32 p := hR.1
  exact lv_if_le hx hb hd ht (fun h => k1 ((bg_le hp hq).mp h) H locs a hD hS hL hR.2) (fun h => k2 (by have h9 : ¬ (p ≤ 0) := fun e => h ((bg_le hp hq).mpr e); omega) H locs a hD hS hL hR.2)

theorem bg_icmp_eq (X : bg_X κ y cc own dd mcc mss) {p q off : Int} {tgt : Nat} (hd : decode cc pc = .ok (.if_icmp .eq off, 3)) (ht : (pc : Int) + off = (tgt : Int)) (k1 : p = q → bg_G κ y cs tgt ls st M) (k2 : ¬ p = q → bg_G κ y cs (pc + 3) ls st M) : bg_G κ y cs pc ls (.inl q :: .inl p :: st) M := by
  intro H locs a hD hS hL hR
  obtain ⟨hx, hb, hown, hts, hK, hbs, hlk, -⟩ := X
  have hq : R32 q := hR.1
  have hp : R32 p := hR.2.1
  exact lv_icmp_eq hx hb hd ht (fun h => k1 ((bg_eq hp hq).mp h) H locs a hD hS hL hR.2.2) (fun h => k2 (fun e => h ((bg_eq hp hq).mpr e)) H locs a hD hS hL hR.2.2)

theorem bg_if_eq (X : bg_X κ y cc own dd mcc mss) {p off : Int} {tgt : Nat} (hd : decode cc pc = .ok (.ifCond .eq off, 3)) (ht : (pc : Int) + off = (tgt : Int)) (k1 : p = 0 → bg_G κ y cs tgt ls st M) (k2 : ¬ p = 0 → bg_G κ y cs (pc + 3) ls st M) : bg_G κ y cs pc ls (.inl p :: st) M := by
  intro H locs a hD hS hL hR
  obtain ⟨hx, hb, hown, hts, hK, hbs, hlk, -⟩ := X
  have hq : R32 0 := by decide
  have hp : R32 p := hR.1
  exact lv_if_eq hx hb hd ht (fun h => k1 ((bg_eq hp hq).mp h) H locs a hD hS hL hR.2) (fun h => k2 (fun e => h ((bg_eq hp hq).mpr e)) H locs a hD hS hL hR.2)

theorem bg_icmp_ne (X : bg_X κ y cc own dd mcc mss) {p q off : Int} {tgt : Nat} (hd : decode cc pc = .ok (.if_icmp .ne off, 3)) (ht : (pc : Int) + off = (tgt : Int)) (k1 : ¬ p = q → bg_G κ y cs tgt ls st M) (k2 : p = q → bg_G κ y cs (pc + 3) ls st M) : bg_G κ y cs pc ls (.inl q :: .inl p :: st) M := by
  intro H locs a hD hS hL hR
  obtain ⟨hx, hb, hown, hts, hK, hbs, hlk, -⟩ := X
  have hq : R32 q := hR.1
  have hp : R32 p := hR.2.1
  exact lv_icmp_ne hx hb hd ht (fun h => k1 (fun e => h ((bg_eq hp hq).mpr e)) H locs a hD hS hL hR.2.2) (fun h => k2 ((bg_eq hp hq).mp h) H locs a hD hS hL hR.2.2)

theorem bg_if_ne (X : bg_X κ y cc own dd mcc mss) {p off : Int} {tgt : Nat} (hd : decode cc pc = .ok (.ifCond .ne off, 3)) (ht : (pc : Int) + off = (tgt : Int)) (k1 : ¬ p = 0 → bg_G κ y cs tgt ls st M) (k2 : p = 0 → bg_G κ y cs (pc + 3) ls st M) : bg_G κ y cs pc ls (.inl p :: st) M := by
  intro H locs a hD hS hL hR
  obtain ⟨hx, hb, hown, hts, hK, hbs, hlk, -⟩ := X
  have hq : R32 0 := by decide
  have hp : R32 p := hR.1
  exact lv_if_ne hx hb hd ht (fun h => k1 (fun e => h ((bg_eq hp hq).mpr e)) H locs a hD hS hL hR.2) (fun h => k2 ((bg_eq hp hq).mp h) H locs a hD hS hL hR.2)

theorem bg_goto (X : bg_X κ y cc own dd mcc mss) {off : Int} {tgt : Nat} (hd : decode cc pc = .ok (.goto off, 3)) (ht : (pc : Int) + off = (tgt : Int)) (kk : bg_G κ y cs tgt ls st M) : bg_G κ y cs pc ls st M := by
  intro H locs a hD hS hL hR
  obtain ⟨hx, hb, hown, hts, hK, hbs, hlk, -⟩ := X
  exact lv_goto hx hb hd ht (kk H locs a hD hS hL hR)

theorem bg_tableIn (X : bg_X κ y cc own dd mcc mss) {dflt lo hi p off : Int} {offs : Array Int} {len tgt : Nat} (hd : decode cc pc = .ok (.tableswitch dflt lo hi offs, len)) (h1 : lo ≤ p) (h2 : p ≤ hi) (ho : offs[(p - lo).toNat]? = some off) (ht : (pc : Int) + off = (tgt : Int)) (kk : bg_G κ y cs tgt ls st M) : bg_G κ y cs pc ls (.inl p :: st) M := by
  intro H locs a hD hS hL hR
  obtain ⟨hx, hb, hown, hts, hK, hbs, hlk, -⟩ := X
  have e := bg_toInt hR.1
  exact lv_tableIn hx hb hd (by rw [e]; omega) (by rw [e]; omega) (by rw [e]; exact ho) ht (kk H locs a hD hS hL hR.2)

theorem bg_tableOut (X : bg_X κ y cc own dd mcc mss) {dflt lo hi p : Int} {offs : Array Int} {len tgt : Nat} (hd : decode cc pc = .ok (.tableswitch dflt lo hi offs, len)) (h : p < lo ∨ hi < p) (ht : (pc : Int) + dflt = (tgt : Int)) (kk : bg_G κ y cs tgt ls st M) : bg_G κ y cs pc ls (.inl p :: st) M := by
  intro H locs a hD hS hL hR
  obtain ⟨hx, hb, hown, hts, hK, hbs, hlk, -⟩ := X
  have e := bg_toInt hR.1
  exact lv_tableOut hx hb hd (by rw [e]; exact h) ht (kk H locs a hD hS hL hR.2)

theorem bg_lookup (X : bg_X κ y cc own dd mcc mss) {dflt p off : Int} {ps : Array (Int × Int)} {len tgt : Nat} (hd : decode cc pc = .ok (.lookupswitch dflt ps, len)) (hp : (ps.toList.zip (ps.toList.drop 1)).all (fun (a, next) => a.1 < next.1) = true) (ho : Op.lookupswitch.offset ps.toList dflt p = off) (ht : (pc : Int) + off = (tgt : Int)) (kk : bg_G κ y cs tgt ls st M) : bg_G κ y cs pc ls (.inl p :: st) M := by
  intro H locs a hD hS hL hR
  obtain ⟨hx, hb, hown, hts, hK, hbs, hlk, -⟩ := X
  have e := bg_toInt hR.1
  exact lv_lookup hx hb hd hp (by rw [e]; exact ho) ht (kk H locs a hD hS hL hR.2)

theorem bg_dup (X : bg_X κ y cc own dd mcc mss) {v : bg_V} (hd : decode cc pc = .ok (.dup, 1)) (kk : bg_G κ y cs (pc + 1) ls (v :: v :: st) M) : bg_G κ y cs pc ls (v :: st) M := by
  intro H locs a hD hS hL hR
  obtain ⟨hx, hb, hown, hts, hK, hbs, hlk, -⟩ := X
  exact lv_dup hx hb hd (bg_v_cat y v) (kk H locs a hD hS hL ⟨hR.1, hR⟩)

theorem bg_pop (X : bg_X κ y cc own dd mcc mss) {v : bg_V} (hd : decode cc pc = .ok (.pop, 1)) (kk : bg_G κ y cs (pc + 1) ls st M) : bg_G κ y cs pc ls (v :: st) M := by
  intro H locs a hD hS hL hR
  obtain ⟨hx, hb, hown, hts, hK, hbs, hlk, -⟩ := X
  exact lv_pop hx hb hd (bg_v_cat y v) (kk H locs a hD hS hL hR.2)

theorem bg_dup2 (X : bg_X κ y cc own dd mcc mss) {v w : bg_V} (hd : decode cc pc = .ok (.dup2, 1)) (kk : bg_G κ y cs (pc + 1) ls (v :: w :: v :: w :: st) M) : bg_G κ y cs pc ls (v :: w :: st) M := by
  intro H locs a hD hS hL hR
  obtain ⟨hx, hb, hown, hts, hK, hbs, hlk, -⟩ := X
  exact lv_dup2_11 hx hb hd (bg_v_cat y v) (bg_v_cat y w) (kk H locs a hD hS hL ⟨hR.1, hR.2.1, hR⟩)

theorem bg_mem (kk : (∀ a k, R32 (M.2.2 a k)) → bg_G κ y cs pc ls st M) : bg_G κ y cs pc ls st M := fun H locs a hD hS hL hR => kk hD.2.2 H locs a hD hS hL hR
theorem bg_top {v : bg_V} (kk : bg_R v → bg_G κ y cs pc ls (v :: st) M) : bg_G κ y cs pc ls (v :: st) M := fun H locs a hD hS hL hR => kk hR.1 H locs a hD hS hL hR
theorem bg_loc {ls' : List (Option bg_V)} (hl : ls'.length = ls.length) (hs : ∀ (k : Nat) (v : bg_V), ls'[k]? = some (some v) → ls[k]? = some (some v)) (kk : bg_G κ y cs pc ls' st M) : bg_G κ y cs pc ls st M := fun H locs a hD hS hL hR => kk H locs a hD hS (hL.sub hl hs) hR
theorem bg_widen {k n : Nat} (h1 : cs.1 ≤ k) (h2 : cs.2 ≤ n) (kk : bg_G κ y (k, n) pc ls st M) : bg_G κ y cs pc ls st M := fun H locs a hD hS hL hR => W.widen h1 h2 (kk H locs a hD hS hL hR)

theorem bg_iload0 (X : bg_X κ y cc own dd mcc mss) {x : Int} {t : List (Option bg_V)} (hd : decode cc pc = .ok (.iload_n 0, 1)) (kk : bg_G κ y cs (pc + 1) (some (.inl x) :: t) (.inl x :: st) M) : bg_G κ y cs pc (some (.inl x) :: t) st M := bg_iload_n X hd rfl rfl kk

theorem bg_aload0 (X : bg_X κ y cc own dd mcc mss) {x : Nat} {t : List (Option bg_V)} (hd : decode cc pc = .ok (.aload_n 0, 1)) (kk : bg_G κ y cs (pc + 1) (some (.inr x) :: t) (.inr x :: st) M) : bg_G κ y cs pc (some (.inr x) :: t) st M := bg_aload_n X hd rfl rfl kk

theorem bg_istore0 (X : bg_X κ y cc own dd mcc mss) {o : Option bg_V} {x : Int} {t : List (Option bg_V)} (hd : decode cc pc = .ok (.istore_n 0, 1)) (kk : bg_G κ y cs (pc + 1) (some (.inl x) :: t) st M) : bg_G κ y cs pc (o :: t) (.inl x :: st) M := bg_istore_n (i := 0) X hd rfl (by simp only [List.length_cons]; omega) kk

theorem bg_astore0 (X : bg_X κ y cc own dd mcc mss) {o : Option bg_V} {x : Nat} {t : List (Option bg_V)} (hd : decode cc pc = .ok (.astore_n 0, 1)) (kk : bg_G κ y cs (pc + 1) (some (.inr x) :: t) st M) : bg_G κ y cs pc (o :: t) (.inr x :: st) M := bg_astore_n (i := 0) X hd rfl (by simp only [List.length_cons]; omega) kk

theorem bg_iinc0 (X : bg_X κ y cc own dd mcc mss) {n x : Int} {t : List (Option bg_V)} (hd : decode cc pc = .ok (.iinc 0 n, 3)) (hr : R32 (x + n)) (kk : bg_G κ y cs (pc + 3) (some (.inl (x + n)) :: t) st M) : bg_G κ y cs pc (some (.inl x) :: t) st M := bg_iinc X hd rfl hr kk

theorem bg_iload1 (X : bg_X κ y cc own dd mcc mss) {a0 : Option bg_V} {x : Int} {t : List (Option bg_V)} (hd : decode cc pc = .ok (.iload_n 1, 1)) (kk : bg_G κ y cs (pc + 1) (a0 :: some (.inl x) :: t) (.inl x :: st) M) : bg_G κ y cs pc (a0 :: some (.inl x) :: t) st M := bg_iload_n X hd rfl rfl kk

theorem bg_aload1 (X : bg_X κ y cc own dd mcc mss) {a0 : Option bg_V} {x : Nat} {t : List (Option bg_V)} (hd : decode cc pc = .ok (.aload_n 1, 1)) (kk : bg_G κ y cs (pc + 1) (a0 :: some (.inr x) :: t) (.inr x :: st) M) : bg_G κ y cs pc (a0 :: some (.inr x) :: t) st M := bg_aload_n X hd rfl rfl kk

theorem bg_istore1 (X : bg_X κ y cc own dd mcc mss) {a0 : Option bg_V} {o : Option bg_V} {x : Int} {t : List (Option bg_V)} (hd : decode cc pc = .ok (.istore_n 1, 1)) (kk : bg_G κ y cs (pc + 1) (a0 :: some (.inl x) :: t) st M) : bg_G κ y cs pc (a0 :: o :: t) (.inl x :: st) M := bg_istore_n (i := 1) X hd rfl (by simp only [List.length_cons]; omega) kk

theorem bg_astore1 (X : bg_X κ y cc own dd mcc mss) {a0 : Option bg_V} {o : Option bg_V} {x : Nat} {t : List (Option bg_V)} (hd : decode cc pc = .ok (.astore_n 1, 1)) (kk : bg_G κ y cs (pc + 1) (a0 :: some (.inr x) :: t) st M) : bg_G κ y cs pc (a0 :: o :: t) (.inr x :: st) M := bg_astore_n (i := 1) X hd rfl (by simp only [List.length_cons]; omega) kk

theorem bg_iinc1 (X : bg_X κ y cc own dd mcc mss) {a0 : Option bg_V} {n x : Int} {t : List (Option bg_V)} (hd : decode cc pc = .ok (.iinc 1 n, 3)) (hr : R32 (x + n)) (kk : bg_G κ y cs (pc + 3) (a0 :: some (.inl (x + n)) :: t) st M) : bg_G κ y cs pc (a0 :: some (.inl x) :: t) st M := bg_iinc X hd rfl hr kk

theorem bg_iload2 (X : bg_X κ y cc own dd mcc mss) {a0 a1 : Option bg_V} {x : Int} {t : List (Option bg_V)} (hd : decode cc pc = .ok (.iload_n 2, 1)) (kk : bg_G κ y cs (pc + 1) (a0 :: a1 :: some (.inl x) :: t) (.inl x :: st) M) : bg_G κ y cs pc (a0 :: a1 :: some (.inl x) :: t) st M := bg_iload_n X hd rfl rfl kk

theorem bg_aload2 (X : bg_X κ y cc own dd mcc mss) {a0 a1 : Option bg_V} {x : Nat} {t : List (Option bg_V)} (hd : decode cc pc = .ok (.aload_n 2, 1)) (kk : bg_G κ y cs (pc + 1) (a0 :: a1 :: some (.inr x) :: t) (.inr x :: st) M) : bg_G κ y cs pc (a0 :: a1 :: some (.inr x) :: t) st M := bg_aload_n X hd rfl rfl kk

theorem bg_istore2 (X : bg_X κ y cc own dd mcc mss) {a0 a1 : Option bg_V} {o : Option bg_V} {x : Int} {t : List (Option bg_V)} (hd : decode cc pc = .ok (.istore_n 2, 1)) (kk : bg_G κ y cs (pc + 1) (a0 :: a1 :: some (.inl x) :: t) st M) : bg_G κ y cs pc (a0 :: a1 :: o :: t) (.inl x :: st) M := bg_istore_n (i := 2) X hd rfl (by simp only [List.length_cons]; omega) kk

theorem bg_astore2 (X : bg_X κ y cc own dd mcc mss) {a0 a1 : Option bg_V} {o : Option bg_V} {x : Nat} {t : List (Option bg_V)} (hd : decode cc pc = .ok (.astore_n 2, 1)) (kk : bg_G κ y cs (pc + 1) (a0 :: a1 :: some (.inr x) :: t) st M) : bg_G κ y cs pc (a0 :: a1 :: o :: t) (.inr x :: st) M := bg_astore_n (i := 2) X hd rfl (by simp only [List.length_cons]; omega) kk

theorem bg_iinc2 (X : bg_X κ y cc own dd mcc mss) {a0 a1 : Option bg_V} {n x : Int} {t : List (Option bg_V)} (hd : decode cc pc = .ok (.iinc 2 n, 3)) (hr : R32 (x + n)) (kk : bg_G κ y cs (pc + 3) (a0 :: a1 :: some (.inl (x + n)) :: t) st M) : bg_G κ y cs pc (a0 :: a1 :: some (.inl x) :: t) st M := bg_iinc X hd rfl hr kk

theorem bg_iload3 (X : bg_X κ y cc own dd mcc mss) {a0 a1 a2 : Option bg_V} {x : Int} {t : List (Option bg_V)} (hd : decode cc pc = .ok (.iload_n 3, 1)) (kk : bg_G κ y cs (pc + 1) (a0 :: a1 :: a2 :: some (.inl x) :: t) (.inl x :: st) M) : bg_G κ y cs pc (a0 :: a1 :: a2 :: some (.inl x) :: t) st M := bg_iload_n X hd rfl rfl kk

theorem bg_aload3 (X : bg_X κ y cc own dd mcc mss) {a0 a1 a2 : Option bg_V} {x : Nat} {t : List (Option bg_V)} (hd : decode cc pc = .ok (.aload_n 3, 1)) (kk : bg_G κ y cs (pc + 1) (a0 :: a1 :: a2 :: some (.inr x) :: t) (.inr x :: st) M) : bg_G κ y cs pc (a0 :: a1 :: a2 :: some (.inr x) :: t) st M := bg_aload_n X hd rfl rfl kk

theorem bg_istore3 (X : bg_X κ y cc own dd mcc mss) {a0 a1 a2 : Option bg_V} {o : Option bg_V} {x : Int} {t : List (Option bg_V)} (hd : decode cc pc = .ok (.istore_n 3, 1)) (kk : bg_G κ y cs (pc + 1) (a0 :: a1 :: a2 :: some (.inl x) :: t) st M) : bg_G κ y cs pc (a0 :: a1 :: a2 :: o :: t) (.inl x :: st) M := bg_istore_n (i := 3) X hd rfl (by simp only [List.length_cons]; omega) kk

theorem bg_astore3 (X : bg_X κ y cc own dd mcc mss) {a0 a1 a2 : Option bg_V} {o : Option bg_V} {x : Nat} {t : List (Option bg_V)} (hd : decode cc pc = .ok (.astore_n 3, 1)) (kk : bg_G κ y cs (pc + 1) (a0 :: a1 :: a2 :: some (.inr x) :: t) st M) : bg_G κ y cs pc (a0 :: a1 :: a2 :: o :: t) (.inr x :: st) M := bg_astore_n (i := 3) X hd rfl (by simp only [List.length_cons]; omega) kk

theorem bg_iinc3 (X : bg_X κ y cc own dd mcc mss) {a0 a1 a2 : Option bg_V} {n x : Int} {t : List (Option bg_V)} (hd : decode cc pc = .ok (.iinc 3 n, 3)) (hr : R32 (x + n)) (kk : bg_G κ y cs (pc + 3) (a0 :: a1 :: a2 :: some (.inl (x + n)) :: t) st M) : bg_G κ y cs pc (a0 :: a1 :: a2 :: some (.inl x) :: t) st M := bg_iinc X hd rfl hr kk

theorem bg_iload4 (X : bg_X κ y cc own dd mcc mss) {a0 a1 a2 a3 : Option bg_V} {x : Int} {t : List (Option bg_V)} (hd : decode cc pc = .ok (.iload 4, 2)) (kk : bg_G κ y cs (pc + 2) (a0 :: a1 :: a2 :: a3 :: some (.inl x) :: t) (.inl x :: st) M) : bg_G κ y cs pc (a0 :: a1 :: a2 :: a3 :: some (.inl x) :: t) st M := bg_iload X hd rfl kk

theorem bg_aload4 (X : bg_X κ y cc own dd mcc mss) {a0 a1 a2 a3 : Option bg_V} {x : Nat} {t : List (Option bg_V)} (hd : decode cc pc = .ok (.aload 4, 2)) (kk : bg_G κ y cs (pc + 2) (a0 :: a1 :: a2 :: a3 :: some (.inr x) :: t) (.inr x :: st) M) : bg_G κ y cs pc (a0 :: a1 :: a2 :: a3 :: some (.inr x) :: t) st M := bg_aload X hd rfl kk

theorem bg_istore4 (X : bg_X κ y cc own dd mcc mss) {a0 a1 a2 a3 : Option bg_V} {o : Option bg_V} {x : Int} {t : List (Option bg_V)} (hd : decode cc pc = .ok (.istore 4, 2)) (kk : bg_G κ y cs (pc + 2) (a0 :: a1 :: a2 :: a3 :: some (.inl x) :: t) st M) : bg_G κ y cs pc (a0 :: a1 :: a2 :: a3 :: o :: t) (.inl x :: st) M := bg_istore (i := 4) X hd (by simp only [List.length_cons]; omega) kk

theorem bg_astore4 (X : bg_X κ y cc own dd mcc mss) {a0 a1 a2 a3 : Option bg_V} {o : Option bg_V} {x : Nat} {t : List (Option bg_V)} (hd : decode cc pc = .ok (.astore 4, 2)) (kk : bg_G κ y cs (pc + 2) (a0 :: a1 :: a2 :: a3 :: some (.inr x) :: t) st M) : bg_G κ y cs pc (a0 :: a1 :: a2 :: a3 :: o :: t) (.inr x :: st) M := bg_astore (i := 4) X hd (by simp only [List.length_cons]; omega) kk

theorem bg_iinc4 (X : bg_X κ y cc own dd mcc mss) {a0 a1 a2 a3 : Option bg_V} {n x : Int} {t : List (Option bg_V)} (hd : decode cc pc = .ok (.iinc 4 n, 3)) (hr : R32 (x + n)) (kk : bg_G κ y cs (pc + 3) (a0 :: a1 :: a2 :: a3 :: some (.inl (x + n)) :: t) st M) : bg_G κ y cs pc (a0 :: a1 :: a2 :: a3 :: some (.inl x) :: t) st M := bg_iinc X hd rfl hr kk

theorem bg_iload5 (X : bg_X κ y cc own dd mcc mss) {a0 a1 a2 a3 a4 : Option bg_V} {x : Int} {t : List (Option bg_V)} (hd : decode cc pc = .ok (.iload 5, 2)) (kk : bg_G κ y cs (pc + 2) (a0 :: a1 :: a2 :: a3 :: a4 :: some (.inl x) :: t) (.inl x :: st) M) : bg_G κ y cs pc (a0 :: a1 :: a2 :: a3 :: a4 :: some (.inl x) :: t) st M := bg_iload X hd rfl kk

theorem bg_aload5 (X : bg_X κ y cc own dd mcc mss) {a0 a1 a2 a3 a4 : Option bg_V} {x : Nat} {t : List (Option bg_V)} (hd : decode cc pc = .ok (.aload 5, 2)) (kk : bg_G κ y cs (pc + 2) (a0 :: a1 :: a2 :: a3 :: a4 :: some (.inr x) :: t) (.inr x :: st) M) : bg_G κ y cs pc (a0 :: a1 :: a2 :: a3 :: a4 :: some (.inr x) :: t) st M := bg_aload X hd rfl kk

theorem bg_istore5 (X : bg_X κ y cc own dd mcc mss) {a0 a1 a2 a3 a4 : Option bg_V} {o : Option bg_V} {x : Int} {t : List (Option bg_V)} (hd : decode cc pc = .ok (.istore 5, 2)) (kk : bg_G κ y cs (pc + 2) (a0 :: a1 :: a2 :: a3 :: a4 :: some (.inl x) :: t) st M) : bg_G κ y cs pc (a0 :: a1 :: a2 :: a3 :: a4 :: o :: t) (.inl x :: st) M := bg_istore (i := 5) X hd (by simp only [List.length_cons]; omega) kk

theorem bg_astore5 (X : bg_X κ y cc own dd mcc mss) {a0 a1 a2 a3 a4 : Option bg_V} {o : Option bg_V} {x : Nat} {t : List (Option bg_V)} (hd : decode cc pc = .ok (.astore 5, 2)) (kk : bg_G κ y cs (pc + 2) (a0 :: a1 :: a2 :: a3 :: a4 :: some (.inr x) :: t) st M) : bg_G κ y cs pc (a0 :: a1 :: a2 :: a3 :: a4 :: o :: t) (.inr x :: st) M := bg_astore (i := 5) X hd (by simp only [List.length_cons]; omega) kk

theorem bg_iinc5 (X : bg_X κ y cc own dd mcc mss) {a0 a1 a2 a3 a4 : Option bg_V} {n x : Int} {t : List (Option bg_V)} (hd : decode cc pc = .ok (.iinc 5 n, 3)) (hr : R32 (x + n)) (kk : bg_G κ y cs (pc + 3) (a0 :: a1 :: a2 :: a3 :: a4 :: some (.inl (x + n)) :: t) st M) : bg_G κ y cs pc (a0 :: a1 :: a2 :: a3 :: a4 :: some (.inl x) :: t) st M := bg_iinc X hd rfl hr kk

theorem bg_iload6 (X : bg_X κ y cc own dd mcc mss) {a0 a1 a2 a3 a4 a5 : Option bg_V} {x : Int} {t : List (Option bg_V)} (hd : decode cc pc = .ok (.iload 6, 2)) (kk : bg_G κ y cs (pc + 2) (a0 :: a1 :: a2 :: a3 :: a4 :: a5 :: some (.inl x) :: t) (.inl x :: st) M) : bg_G κ y cs pc (a0 :: a1 :: a2 :: a3 :: a4 :: a5 :: some (.inl x) :: t) st M := bg_iload X hd rfl kk

theorem bg_aload6 (X : bg_X κ y cc own dd mcc mss) {a0 a1 a2 a3 a4 a5 : Option bg_V} {x : Nat} {t : List (Option bg_V)} (hd : decode cc pc = .ok (.aload 6, 2)) (kk : bg_G κ y cs (pc + 2) (a0 :: a1 :: a2 :: a3 :: a4 :: a5 :: some (.inr x) :: t) (.inr x :: st) M) : bg_G κ y cs pc (a0 :: a1 :: a2 :: a3 :: a4 :: a5 :: some (.inr x) :: t) st M := bg_aload X hd rfl kk

theorem bg_istore6 (X : bg_X κ y cc own dd mcc mss) {a0 a1 a2 a3 a4 a5 : Option bg_V} {o : Option bg_V} {x : Int} {t : List (Option bg_V)} (hd : decode cc pc = .ok (.istore 6, 2)) (kk : bg_G κ y cs (pc + 2) (a0 :: a1 :: a2 :: a3 :: a4 :: a5 :: some (.inl x) :: t) st M) : bg_G κ y cs pc (a0 :: a1 :: a2 :: a3 :: a4 :: a5 :: o :: t) (.inl x :: st) M := bg_istore (i := 6) X hd (by simp only [List.length_cons]; omega) kk

theorem bg_astore6 (X : bg_X κ y cc own dd mcc mss) {a0 a1 a2 a3 a4 a5 : Option bg_V} {o : Option bg_V} {x : Nat} {t : List (Option bg_V)} (hd : decode cc pc = .ok (.astore 6, 2)) (kk : bg_G κ y cs (pc + 2) (a0 :: a1 :: a2 :: a3 :: a4 :: a5 :: some (.inr x) :: t) st M) : bg_G κ y cs pc (a0 :: a1 :: a2 :: a3 :: a4 :: a5 :: o :: t) (.inr x :: st) M := bg_astore (i := 6) X hd (by simp only [List.length_cons]; omega) kk

theorem bg_iinc6 (X : bg_X κ y cc own dd mcc mss) {a0 a1 a2 a3 a4 a5 : Option bg_V} {n x : Int} {t : List (Option bg_V)} (hd : decode cc pc = .ok (.iinc 6 n, 3)) (hr : R32 (x + n)) (kk : bg_G κ y cs (pc + 3) (a0 :: a1 :: a2 :: a3 :: a4 :: a5 :: some (.inl (x + n)) :: t) st M) : bg_G κ y cs pc (a0 :: a1 :: a2 :: a3 :: a4 :: a5 :: some (.inl x) :: t) st M := bg_iinc X hd rfl hr kk

theorem bg_iload7 (X : bg_X κ y cc own dd mcc mss) {a0 a1 a2 a3 a4 a5 a6 : Option bg_V} {x : Int} {t : List (Option bg_V)} (hd : decode cc pc = .ok (.iload 7, 2)) (kk : bg_G κ y cs (pc + 2) (a0 :: a1 :: a2 :: a3 :: a4 :: a5 :: a6 :: some (.inl x) :: t) (.inl x :: st) M) : bg_G κ y cs pc (a0 :: a1 :: a2 :: a3 :: a4 :: a5 :: a6 :: some (.inl x) :: t) st M := bg_iload X hd rfl kk

theorem bg_aload7 (X : bg_X κ y cc own dd mcc mss) {a0 a1 a2 a3 a4 a5 a6 : Option bg_V} {x : Nat} {t : List (Option bg_V)} (hd : decode cc pc = .ok (.aload 7, 2)) (kk : bg_G κ y cs (pc + 2) (a0 :: a1 :: a2 :: a3 :: a4 :: a5 :: a6 :: some (.inr x) :: t) (.inr x :: st) M) : bg_G κ y cs pc (a0 :: a1 :: a2 :: a3 :: a4 :: a5 :: a6 :: some (.inr x) :: t) st M := bg_aload X hd rfl kk

theorem bg_istore7 (X : bg_X κ y cc own dd mcc mss) {a0 a1 a2 a3 a4 a5 a6 : Option bg_V} {o : Option bg_V} {x : Int} {t : List (Option bg_V)} (hd : decode cc pc = .ok (.istore 7, 2)) (kk : bg_G κ y cs (pc + 2) (a0 :: a1 :: a2 :: a3 :: a4 :: a5 :: a6 :: some (.inl x) :: t) st M) : bg_G κ y cs pc (a0 :: a1 :: a2 :: a3 :: a4 :: a5 :: a6 :: o :: t) (.inl x :: st) M := bg_istore (i := 7) X hd (by simp only [List.length_cons]; omega) kk

theorem bg_astore7 (X : bg_X κ y cc own dd mcc mss) {a0 a1 a2 a3 a4 a5 a6 : Option bg_V} {o : Option bg_V} {x : Nat} {t : List (Option bg_V)} (hd : decode cc pc = .ok (.astore 7, 2)) (kk : bg_G κ y cs (pc + 2) (a0 :: a1 :: a2 :: a3 :: a4 :: a5 :: a6 :: some (.inr x) :: t) st M) : bg_G κ y cs pc (a0 :: a1 :: a2 :: a3 :: a4 :: a5 :: a6 :: o :: t) (.inr x :: st) M := bg_astore (i := 7) X hd (by simp only [List.length_cons]; omega) kk

theorem bg_iinc7 (X : bg_X κ y cc own dd mcc mss) {a0 a1 a2 a3 a4 a5 a6 : Option bg_V} {n x : Int} {t : List (Option bg_V)} (hd : decode cc pc = .ok (.iinc 7 n, 3)) (hr : R32 (x + n)) (kk : bg_G κ y cs (pc + 3) (a0 :: a1 :: a2 :: a3 :: a4 :: a5 :: a6 :: some (.inl (x + n)) :: t) st M) : bg_G κ y cs pc (a0 :: a1 :: a2 :: a3 :: a4 :: a5 :: a6 :: some (.inl x) :: t) st M := bg_iinc X hd rfl hr kk

theorem bg_iload8 (X : bg_X κ y cc own dd mcc mss) {a0 a1 a2 a3 a4 a5 a6 a7 : Option bg_V} {x : Int} {t : List (Option bg_V)} (hd : decode cc pc = .ok (.iload 8, 2)) (kk : bg_G κ y cs (pc + 2) (a0 :: a1 :: a2 :: a3 :: a4 :: a5 :: a6 :: a7 :: some (.inl x) :: t) (.inl x :: st) M) : bg_G κ y cs pc (a0 :: a1 :: a2 :: a3 :: a4 :: a5 :: a6 :: a7 :: some (.inl x) :: t) st M := bg_iload X hd rfl kk

theorem bg_aload8 (X : bg_X κ y cc own dd mcc mss) {a0 a1 a2 a3 a4 a5 a6 a7 : Option bg_V} {x : Nat} {t : List (Option bg_V)} (hd : decode cc pc = .ok (.aload 8, 2)) (kk : bg_G κ y cs (pc + 2) (a0 :: a1 :: a2 :: a3 :: a4 :: a5 :: a6 :: a7 :: some (.inr x) :: t) (.inr x :: st) M) : bg_G κ y cs pc (a0 :: a1 :: a2 :: a3 :: a4 :: a5 :: a6 :: a7 :: some (.inr x) :: t) st M := bg_aload X hd rfl kk

theorem bg_istore8 (X : bg_X κ y cc own dd mcc mss) {a0 a1 a2 a3 a4 a5 a6 a7 : Option bg_V} {o : Option bg_V} {x : Int} {t : List (Option bg_V)} (hd : decode cc pc = .ok (.istore 8, 2)) (kk : bg_G κ y cs (pc + 2) (a0 :: a1 :: a2 :: a3 :: a4 :: a5 :: a6 :: a7 :: some (.inl x) :: t) st M) : bg_G κ y cs pc (a0 :: a1 :: a2 :: a3 :: a4 :: a5 :: a6 :: a7 :: o :: t) (.inl x :: st) M := bg_istore (i := 8) X hd (by simp only [List.length_cons]; omega) kk

theorem bg_astore8 (X : bg_X κ y cc own dd mcc mss) {a0 a1 a2 a3 a4 a5 a6 a7 : Option bg_V} {o : Option bg_V} {x : Nat} {t : List (Option bg_V)} (hd : decode cc pc = .ok (.astore 8, 2)) (kk : bg_G κ y cs (pc + 2) (a0 :: a1 :: a2 :: a3 :: a4 :: a5 :: a6 :: a7 :: some (.inr x) :: t) st M) : bg_G κ y cs pc (a0 :: a1 :: a2 :: a3 :: a4 :: a5 :: a6 :: a7 :: o :: t) (.inr x :: st) M := bg_astore (i := 8) X hd (by simp only [List.length_cons]; omega) kk

theorem bg_iinc8 (X : bg_X κ y cc own dd mcc mss) {a0 a1 a2 a3 a4 a5 a6 a7 : Option bg_V} {n x : Int} {t : List (Option bg_V)} (hd : decode cc pc = .ok (.iinc 8 n, 3)) (hr : R32 (x + n)) (kk : bg_G κ y cs (pc + 3) (a0 :: a1 :: a2 :: a3 :: a4 :: a5 :: a6 :: a7 :: some (.inl (x + n)) :: t) st M) : bg_G κ y cs pc (a0 :: a1 :: a2 :: a3 :: a4 :: a5 :: a6 :: a7 :: some (.inl x) :: t) st M := bg_iinc X hd rfl hr kk

theorem bg_iload9 (X : bg_X κ y cc own dd mcc mss) {a0 a1 a2 a3 a4 a5 a6 a7 a8 : Option bg_V} {x : Int} {t : List (Option bg_V)} (hd : decode cc pc = .ok (.iload 9, 2)) (kk : bg_G κ y cs (pc + 2) (a0 :: a1 :: a2 :: a3 :: a4 :: a5 :: a6 :: a7 :: a8 :: some (.inl x) :: t) (.inl x :: st) M) : bg_G κ y cs pc (a0 :: a1 :: a2 :: a3 :: a4 :: a5 :: a6 :: a7 :: a8 :: some (.inl x) :: t) st M := bg_iload X hd rfl kk

theorem bg_aload9 (X : bg_X κ y cc own dd mcc mss) {a0 a1 a2 a3 a4 a5 a6 a7 a8 : Option bg_V} {x : Nat} {t : List (Option bg_V)} (hd : decode cc pc = .ok (.aload 9, 2)) (kk : bg_G κ y cs (pc + 2) (a0 :: a1 :: a2 :: a3 :: a4 :: a5 :: a6 :: a7 :: a8 :: some (.inr x) :: t) (.inr x :: st) M) : bg_G κ y cs pc (a0 :: a1 :: a2 :: a3 :: a4 :: a5 :: a6 :: a7 :: a8 :: some (.inr x) :: t) st M := bg_aload X hd rfl kk

theorem bg_istore9 (X : bg_X κ y cc own dd mcc mss) {a0 a1 a2 a3 a4 a5 a6 a7 a8 : Option bg_V} {o : Option bg_V} {x : Int} {t : List (Option bg_V)} (hd : decode cc pc = .ok (.istore 9, 2)) (kk : bg_G κ y cs (pc + 2) (a0 :: a1 :: a2 :: a3 :: a4 :: a5 :: a6 :: a7 :: a8 :: some (.inl x) :: t) st M) : bg_G κ y cs pc (a0 :: a1 :: a2 :: a3 :: a4 :: a5 :: a6 :: a7 :: a8 :: o :: t) (.inl x :: st) M := bg_istore (i := 9) X hd (by simp only [List.length_cons]; omega) kk

theorem bg_astore9 (X : bg_X κ y cc own dd mcc mss) {a0 a1 a2 a3 a4 a5 a6 a7 a8 : Option bg_V} {o : Option bg_V} {x : Nat} {t : List (Option bg_V)} (hd : decode cc pc = .ok (.astore 9, 2)) (kk : bg_G κ y cs (pc + 2) (a0 :: a1 :: a2 :: a3 :: a4 :: a5 :: a6 :: a7 :: a8 :: some (.inr x) :: t) st M) : bg_G κ y cs pc (a0 :: a1 :: a2 :: a3 :: a4 :: a5 :: a6 :: a7 :: a8 :: o :: t) (.inr x :: st) M := bg_astore (i := 9) X hd (by simp only [List.length_cons]; omega) kk

theorem bg_iinc9 (X : bg_X κ y cc own dd mcc mss) {a0 a1 a2 a3 a4 a5 a6 a7 a8 : Option bg_V} {n x : Int} {t : List (Option bg_V)} (hd : decode cc pc = .ok (.iinc 9 n, 3)) (hr : R32 (x + n)) (kk : bg_G κ y cs (pc + 3) (a0 :: a1 :: a2 :: a3 :: a4 :: a5 :: a6 :: a7 :: a8 :: some (.inl (x + n)) :: t) st M) : bg_G κ y cs pc (a0 :: a1 :: a2 :: a3 :: a4 :: a5 :: a6 :: a7 :: a8 :: some (.inl x) :: t) st M := bg_iinc X hd rfl hr kk

theorem bg_iload10 (X : bg_X κ y cc own dd mcc mss) {a0 a1 a2 a3 a4 a5 a6 a7 a8 a9 : Option bg_V} {x : Int} {t : List (Option bg_V)} (hd : decode cc pc = .ok (.iload 10, 2)) (kk : bg_G κ y cs (pc + 2) (a0 :: a1 :: a2 :: a3 :: a4 :: a5 :: a6 :: a7 :: a8 :: a9 :: some (.inl x) :: t) (.inl x :: st) M) : bg_G κ y cs pc (a0 :: a1 :: a2 :: a3 :: a4 :: a5 :: a6 :: a7 :: a8 :: a9 :: some (.inl x) :: t) st M := bg_iload X hd rfl kk

theorem bg_aload10 (X : bg_X κ y cc own dd mcc mss) {a0 a1 a2 a3 a4 a5 a6 a7 a8 a9 : Option bg_V} {x : Nat} {t : List (Option bg_V)} (hd : decode cc pc = .ok (.aload 10, 2)) (kk : bg_G κ y cs (pc + 2) (a0 :: a1 :: a2 :: a3 :: a4 :: a5 :: a6 :: a7 :: a8 :: a9 :: some (.inr x) :: t) (.inr x :: st) M) : bg_G κ y cs pc (a0 :: a1 :: a2 :: a3 :: a4 :: a5 :: a6 :: a7 :: a8 :: a9 :: some (.inr x) :: t) st M := bg_aload X hd rfl kk

theorem bg_istore10 (X : bg_X κ y cc own dd mcc mss) {a0 a1 a2 a3 a4 a5 a6 a7 a8 a9 : Option bg_V} {o : Option bg_V} {x : Int} {t : List (Option bg_V)} (hd : decode cc pc = .ok (.istore 10, 2)) (kk : bg_G κ y cs (pc + 2) (a0 :: a1 :: a2 :: a3 :: a4 :: a5 :: a6 :: a7 :: a8 :: a9 :: some (.inl x) :: t) st M) : bg_G κ y cs pc (a0 :: a1 :: a2 :: a3 :: a4 :: a5 :: a6 :: a7 :: a8 :: a9 :: o :: t) (.inl x :: st) M := bg_istore (i := 10) X hd (by simp only [List.length_cons]; omega) kk

theorem bg_astore10 (X : bg_X κ y cc own dd mcc mss) {a0 a1 a2 a3 a4 a5 a6 a7 a8 a9 : Option bg_V} {o : Option bg_V} {x : Nat} {t : List (Option bg_V)} (hd : decode cc pc = .ok (.astore 10, 2)) (kk : bg_G κ y cs (pc + 2) (a0 :: a1 :: a2 :: a3 :: a4 :: a5 :: a6 :: a7 :: a8 :: a9 :: some (.inr x) :: t) st M) : bg_G κ y cs pc (a0 :: a1 :: a2 :: a3 :: a4 :: a5 :: a6 :: a7 :: a8 :: a9 :: o :: t) (.inr x :: st) M := bg_astore (i := 10) X hd (by simp only [List.length_cons]; omega) kk

theorem bg_iinc10 (X : bg_X κ y cc own dd mcc mss) {a0 a1 a2 a3 a4 a5 a6 a7 a8 a9 : Option bg_V} {n x : Int} {t : List (Option bg_V)} (hd : decode cc pc = .ok (.iinc 10 n, 3)) (hr : R32 (x + n)) (kk : bg_G κ y cs (pc + 3) (a0 :: a1 :: a2 :: a3 :: a4 :: a5 :: a6 :: a7 :: a8 :: a9 :: some (.inl (x + n)) :: t) st M) : bg_G κ y cs pc (a0 :: a1 :: a2 :: a3 :: a4 :: a5 :: a6 :: a7 :: a8 :: a9 :: some (.inl x) :: t) st M := bg_iinc X hd rfl hr kk

theorem bg_iload11 (X : bg_X κ y cc own dd mcc mss) {a0 a1 a2 a3 a4 a5 a6 a7 a8 a9 a10 : Option bg_V} {x : Int} {t : List (Option bg_V)} (hd : decode cc pc = .ok (.iload 11, 2)) (kk : bg_G κ y cs (pc + 2) (a0 :: a1 :: a2 :: a3 :: a4 :: a5 :: a6 :: a7 :: a8 :: a9 :: a10 :: some (.inl x) :: t) (.inl x :: st) M) : bg_G κ y cs pc (a0 :: a1 :: a2 :: a3 :: a4 :: a5 :: a6 :: a7 :: a8 :: a9 :: a10 :: some (.inl x) :: t) st M := bg_iload X hd rfl kk

theorem bg_aload11 (X : bg_X κ y cc own dd mcc mss) {a0 a1 a2 a3 a4 a5 a6 a7 a8 a9 a10 : Option bg_V} {x : Nat} {t : List (Option bg_V)} (hd : decode cc pc = .ok (.aload 11, 2)) (kk : bg_G κ y cs (pc + 2) (a0 :: a1 :: a2 :: a3 :: a4 :: a5 :: a6 :: a7 :: a8 :: a9 :: a10 :: some (.inr x) :: t) (.inr x :: st) M) : bg_G κ y cs pc (a0 :: a1 :: a2 :: a3 :: a4 :: a5 :: a6 :: a7 :: a8 :: a9 :: a10 :: some (.inr x) :: t) st M := bg_aload X hd rfl kk

theorem bg_istore11 (X : bg_X κ y cc own dd mcc mss) {a0 a1 a2 a3 a4 a5 a6 a7 a8 a9 a10 : Option bg_V} {o : Option bg_V} {x : Int} {t : List (Option bg_V)} (hd : decode cc pc = .ok (.istore 11, 2)) (kk : bg_G κ y cs (pc + 2) (a0 :: a1 :: a2 :: a3 :: a4 :: a5 :: a6 :: a7 :: a8 :: a9 :: a10 :: some (.inl x) :: t) st M) : bg_G κ y cs pc (a0 :: a1 :: a2 :: a3 :: a4 :: a5 :: a6 :: a7 :: a8 :: a9 :: a10 :: o :: t) (.inl x :: st) M := bg_istore (i := 11) X hd (by simp only [List.length_cons]; omega) kk

theorem bg_astore11 (X : bg_X κ y cc own dd mcc mss) {a0 a1 a2 a3 a4 a5 a6 a7 a8 a9 a10 : Option bg_V} {o : Option bg_V} {x : Nat} {t : List (Option bg_V)} (hd : decode cc pc = .ok (.astore 11, 2)) (kk : bg_G κ y cs (pc + 2) (a0 :: a1 :: a2 :: a3 :: a4 :: a5 :: a6 :: a7 :: a8 :: a9 :: a10 :: some (.inr x) :: t) st M) : bg_G κ y cs pc (a0 :: a1 :: a2 :: a3 :: a4 :: a5 :: a6 :: a7 :: a8 :: a9 :: a10 :: o :: t) (.inr x :: st) M := bg_astore (i := 11) X hd (by simp only [List.length_cons]; omega) kk

theorem bg_iinc11 (X : bg_X κ y cc own dd mcc mss) {a0 a1 a2 a3 a4 a5 a6 a7 a8 a9 a10 : Option bg_V} {n x : Int} {t : List (Option bg_V)} (hd : decode cc pc = .ok (.iinc 11 n, 3)) (hr : R32 (x + n)) (kk : bg_G κ y cs (pc + 3) (a0 :: a1 :: a2 :: a3 :: a4 :: a5 :: a6 :: a7 :: a8 :: a9 :: a10 :: some (.inl (x + n)) :: t) st M) : bg_G κ y cs pc (a0 :: a1 :: a2 :: a3 :: a4 :: a5 :: a6 :: a7 :: a8 :: a9 :: a10 :: some (.inl x) :: t) st M := bg_iinc X hd rfl hr kk

end STEPS
end
section
def bg_up (g : Nat → Nat → Int) (a k : Nat) (v : Int) : Nat → Nat → Int := fun x j => if x = a ∧ j = k then v else g x j
def bg_upR (r : Nat → Nat → Option Nat) (a k : Nat) (v : Option Nat) : Nat → Nat → Option Nat := fun x j => if x = a ∧ j = k then v else r x j
theorem bg_up_R {g : Nat → Nat → Int} {a k : Nat} {v : Int} (h : ∀ a k, R32 (g a k)) (hv : R32 v) : ∀ x j, R32 (bg_up g a k v x j) := by
  intro x j
  unfold bg_up
  split
  · exact hv
  · exact h x j
theorem bg_up_ne {g : Nat → Nat → Int} {a k x : Nat} {v : Int} (h : x ≠ a) : bg_up g a k v x = g x := by
  funext j
  unfold bg_up
  rw [if_neg (fun e => h e.1)]
theorem bg_upR_ne {g : Nat → Nat → Option Nat} {a k x : Nat} {v : Option Nat} (h : x ≠ a) : bg_upR g a k v x = g x := by
  funext j
  unfold bg_upR
  rw [if_neg (fun e => h e.1)]
def bg_FL (own : String) (idx ci N k : Nat) : Prop := ∃ (C : String) (T : u_T), vwCl[ci]? = some (C, T, N) ∧ k < N ∧ Cond.fieldLink own idx (T k).1 (T k).2.1 (T k).2.2.1 ∈ bg_T
def bg_CL (C : String) (T : u_T) (N : Nat) (ty0 : Nat → FieldType) : Prop := (∀ w ∈ u_ws C T N, w ∈ bg_T) ∧ (∀ k, k < N → parseFieldDescriptor (T k).2.2.1 = some (ty0 k)) ∧ (∀ a, a < N → ∀ b, b < N → a ≠ b → (T a).2.1 ≠ (T b).2.1) ∧ (∀ k, k < N → (T k).1 = C)
def bg_ok (ci : Nat) (ty0 : Nat → FieldType) (T : u_T) (N : Nat) : Bool := (List.range N).all (fun k => (bg_fi ci k == decide (ty0 k = .int)) && (bg_fi ci k == !(T k).2.2.2) && (bg_fi ci k || (ty0 k).isReference))
theorem bg_in0 : ∀ w ∈ u_ws RX0 TX0 4, w ∈ bg_T := by decide +kernel
theorem bg_in1 : ∀ w ∈ u_ws RX1 TX1 3, w ∈ bg_T := by decide +kernel
theorem bg_in2 : ∀ w ∈ u_ws RX2 TX2 6, w ∈ bg_T := by decide +kernel
theorem bg_in3 : ∀ w ∈ u_ws RX3 TX3 7, w ∈ bg_T := by decide +kernel
theorem bg_in4 : ∀ w ∈ u_ws RX4 TX4 4, w ∈ bg_T := by decide +kernel
theorem bg_in5 : ∀ w ∈ u_ws RX5 TX5 5, w ∈ bg_T := by decide +kernel
theorem bg_in6 : ∀ w ∈ u_ws RX6 TX6 9, w ∈ bg_T := by decide +kernel
theorem bg_in7 : ∀ w ∈ u_ws RX7 TX7 23, w ∈ bg_T := by decide +kernel
theorem bg_cls {ci N : Nat} {C : String} {T : u_T} (h : vwCl[ci]? = some (C, T, N)) : ∃ ty0, bg_CL C T N ty0 ∧ bg_ok ci ty0 T N = true := by
  match ci, h with
  | 0, h => cases h; exact ⟨tyX0, ⟨bg_in0, tyX0_ok, nmX0, by decide +kernel⟩, by decide +kernel⟩
  | 1, h => cases h; exact ⟨tyX1, ⟨bg_in1, tyX1_ok, nmX1, by decide +kernel⟩, by decide +kernel⟩
  | 2, h => cases h; exact ⟨tyX2, ⟨bg_in2, tyX2_ok, nmX2, by decide +kernel⟩, by decide +kernel⟩
  | 3, h => cases h; exact ⟨tyX3, ⟨bg_in3, tyX3_ok, nmX3, by decide +kernel⟩, by decide +kernel⟩
  | 4, h => cases h; exact ⟨tyX4, ⟨bg_in4, tyX4_ok, nmX4, by decide +kernel⟩, by decide +kernel⟩
  | 5, h => cases h; exact ⟨tyX5, ⟨bg_in5, tyX5_ok, nmX5, by decide +kernel⟩, by decide +kernel⟩
  | 6, h => cases h; exact ⟨tyX6, ⟨bg_in6, tyX6_ok, nmX6, by decide +kernel⟩, by decide +kernel⟩
  | 7, h => cases h; exact ⟨tyX7, ⟨bg_in7, tyX7_ok, nmX7, by decide +kernel⟩, by decide +kernel⟩
  | n + 8, h => simp at h
theorem bg_ci_lt {ci N : Nat} {C : String} {T : u_T} (h : vwCl[ci]? = some (C, T, N)) : ci < 8 := (List.getElem?_eq_some_iff.mp h).1
theorem bg_kd_lt {a : Nat} {q : Nat × Nat} (h : bg_kd a = some q) : a < 214 := (List.getElem?_eq_some_iff.mp h).1
theorem bg_fi_int {ci N k : Nat} {T : u_T} {ty0 : Nat → FieldType} (h : bg_ok ci ty0 T N = true) (hk : k < N) (hi : bg_fi ci k = true) : ty0 k = .int ∧ (T k).2.2.2 = false := by
  have h1 := List.all_eq_true.mp h k (List.mem_range.mpr hk)
  rw [hi] at h1
  simpa using h1
theorem bg_fi_ref {ci N k : Nat} {T : u_T} {ty0 : Nat → FieldType} (h : bg_ok ci ty0 T N = true) (hk : k < N) (hi : bg_fi ci k = false) : (T k).2.2.2 = true ∧ (ty0 k).isReference = true := by
  have h1 := List.all_eq_true.mp h k (List.mem_range.mpr hk)
  rw [hi] at h1
  simp at h1
  exact ⟨h1.1.2, h1.2⟩
section MEM
variable {κ : bg_K} {y : bg_Y} {cs : Nat × Nat} {cc : ByteArray} {own : String} {dd mcc mss pc : Nat} {ls : List (Option bg_V)} {st : List bg_V} {n : Nat} {r : Nat → Nat → Option Nat} {g : Nat → Nat → Int}
theorem bg_get (X : bg_X κ y cc own dd mcc mss) {a ci N k idx : Nat} {v : bg_V} (hd : decode cc pc = .ok (.getfield idx, 3)) (hf : bg_FL own idx ci N k) (hk : bg_kd a = some (ci, N)) (ha : a < n) (hv : bg_fv y r g ci a k = bg_v y v) (hvR : (∀ a k, R32 (g a k)) → bg_R v) (kk : bg_G κ y cs (pc + 3) ls (v :: st) (n, r, g)) : bg_G κ y cs pc ls (.inr a :: st) (n, r, g) := by
  intro H locs ar hD hS hL hR
  obtain ⟨hx, hb, hown, hts, hK, hbs, hlk, -⟩ := X
  obtain ⟨C, T, hc, hkN, hlink⟩ := hf
  obtain ⟨ty0, ⟨hin, hty, hnm, -⟩, -⟩ := bg_cls hc
  obtain ⟨cell, q1, q2, q3, q4⟩ := (hD.2.1 a ha ci N hk).1 (bg_ci_lt hc)
  obtain ⟨hSl, hfc, kC, hkC, hkind⟩ := hK.1.1 ci _ hc
  obtain ⟨cf, kf, fi, f, hi, hsl⟩ := hSl k hkN
  refine W.getf hx hb hown (hts _ hlink) hi (u_facts hfc hkC (u_lays hts hin hkN) hi).1 q1 (by rw [q3]; exact fun h => by cases h) (v := bg_v y v) ?_ rfl rfl hd (kk H locs ar hD hS hL ⟨hvR hD.2.2, hR.2⟩)
  rw [hsl, q4 k hkN, hv]
theorem bg_getI (X : bg_X κ y cc own dd mcc mss) {a ci N k idx : Nat} (hd : decode cc pc = .ok (.getfield idx, 3)) (hf : bg_FL own idx ci N k) (hk : bg_kd a = some (ci, N)) (hi : bg_fi ci k = true) (ha : a < n) (kk : bg_G κ y cs (pc + 3) ls (.inl (g a k) :: st) (n, r, g)) : bg_G κ y cs pc ls (.inr a :: st) (n, r, g) :=
  bg_get X hd hf hk ha (v := .inl (g a k)) (by unfold bg_fv; rw [if_pos hi]; rfl) (fun h => h a k) kk
theorem bg_getR (X : bg_X κ y cc own dd mcc mss) {a ci N k idx b : Nat} (hd : decode cc pc = .ok (.getfield idx, 3)) (hf : bg_FL own idx ci N k) (hk : bg_kd a = some (ci, N)) (hi : bg_fi ci k = false) (ha : a < n) (hr : r a k = some b) (kk : bg_G κ y cs (pc + 3) ls (.inr b :: st) (n, r, g)) : bg_G κ y cs pc ls (.inr a :: st) (n, r, g) :=
  bg_get X hd hf hk ha (v := .inr b) (by unfold bg_fv; rw [if_neg (by rw [hi]; decide), hr]; rfl) (fun _ => trivial) kk
theorem bg_putI (X : bg_X κ y cc own dd mcc mss) {a ci N k idx : Nat} {v : Int} (hd : decode cc pc = .ok (.putfield idx, 3)) (hf : bg_FL own idx ci N k) (hk : bg_kd a = some (ci, N)) (hi : bg_fi ci k = true) (ha : a < n) (kk : bg_G κ y cs (pc + 3) ls st (n, r, bg_up g a k v)) : bg_G κ y cs pc ls (.inl v :: .inr a :: st) (n, r, g) := by
  intro H locs ar hD hS hL hR
  obtain ⟨hx, hb, hown, hts, hK, hbs, hlk, -⟩ := X
  obtain ⟨C, T, hc, hkN, hlink⟩ := hf
  obtain ⟨ty0, ⟨hin, hty, hnm, -⟩, hok⟩ := bg_cls hc
  obtain ⟨hti, hfin⟩ := bg_fi_int hok hkN hi
  have hap := va_apart (own := own) hts hin ty0 hty hnm hK.1 hc
  obtain ⟨cell, q1, q2, q3, q4⟩ := (hD.2.1 a ha ci N hk).1 (bg_ci_lt hc)
  obtain ⟨hSl, hfc, kC, hkC, hkind⟩ := hK.1.1 ci _ hc
  obtain ⟨cf, kf, fi, f, hif, hsl⟩ := hSl k hkN
  have hlay := hts _ (hin _ (u_in_lay hkN))
  unfold u_lay at hlay
  rw [if_neg (by rw [hfin]; decide)] at hlay
  have hst := (u_facts hfc hkC (u_lays hts hin hkN) hif).1
  have h6 := u_store hfc hkC hkind hlay hif (ty := .int) (v := .int (Int32.ofInt v)) (by rw [hty k hkN, hti]) rfl rfl
  have hvR : R32 v := hR.1
  refine W.putK hx hb (f := f) ⟨hown, hts _ hlink, ⟨_, _, _, hif⟩, hst⟩ (by rw [q2]; exact h6) q1 q3 (by rw [hsl]; exact k2_hasslot (q4 k hkN)) rfl rfl hd fun H' e1 e2 e3 => ?_
  rw [hsl] at e1 ⊢
  refine kk H' _ ar (hD.set (id := a) e2 e3 ?_ (fun _ _ => rfl) (fun i hne => bg_up_ne hne) (bg_up_R hD.2.2 hvR)) (hS.put e2 e3 (Nat.le_add_right _ _)) hL hR.2.2
  intro ci' N' hk'
  cases hk.symm.trans hk'
  refine ⟨fun _ => ?_, fun h8 => absurd (bg_ci_lt hc) (by omega)⟩
  refine t_OB.to (V := updV (bg_fv y r g ci a) k (.int (Int32.ofInt v))) ⟨_, e1, q2, q3, t_set q4 hap hkN _⟩ (fun j hj => ?_)
  unfold updV bg_fv bg_up
  by_cases hjk : j = k
  · subst hjk; simp [hi]
  · simp [hjk]
theorem bg_iaload (X : bg_X κ y cc own dd mcc mss) {a N : Nat} {i : Int} (hd : decode cc pc = .ok (.iaload, 1)) (hk : bg_kd a = some (8, N)) (ha : a < n) (h0 : 0 ≤ i ∧ i < N) (kk : bg_G κ y cs (pc + 1) ls (.inl (g a i.toNat) :: st) (n, r, g)) : bg_G κ y cs pc ls (.inl i :: .inr a :: st) (n, r, g) := by
  intro H locs ar hD hS hL hR
  obtain ⟨hx, hb, hown, hts, hK, hbs, hlk, -⟩ := X
  have h1 := (hD.2.1 a ha 8 N hk).2 (Nat.le_refl 8)
  have hi : R32 i := hR.1
  have hlt : i.toNat < N := by omega
  have hix := bg_idx hi
  have hin := bg_vpin hi h0.1 h0.2
  refine W.iald (v := .int (Int32.ofInt (g a i.toNat))) hx hb h1 ((hK.1.2 0 _ rfl).1 N (bg_ae y r g 8 a)) (fun q => by cases q) (by show ¬ (Int32.ofInt i < 0 ∨ (arrV _ _ _).slots.size ≤ _); rw [arrV_size]; exact hin) ?_ rfl rfl hd (kk H locs ar hD hS hL ⟨hD.2.2 _ _, hR.2.2⟩)
  rw [hix, arrV_read _ _ hlt]
  rfl
theorem bg_iastore (X : bg_X κ y cc own dd mcc mss) {a N : Nat} {i v : Int} (hd : decode cc pc = .ok (.iastore, 1)) (hk : bg_kd a = some (8, N)) (ha : a < n) (h0 : 0 ≤ i ∧ i < N) (kk : bg_G κ y cs (pc + 1) ls st (n, r, bg_up g a i.toNat v)) : bg_G κ y cs pc ls (.inl v :: .inl i :: .inr a :: st) (n, r, g) := by
  intro H locs ar hD hS hL hR
  obtain ⟨hx, hb, hown, hts, hK, hbs, hlk, -⟩ := X
  have h1 := (hD.2.1 a ha 8 N hk).2 (Nat.le_refl 8)
  have hv : R32 v := hR.1
  have hi : R32 i := hR.2.1
  have hix := bg_idx hi
  have hin := bg_vpin hi h0.1 h0.2
  refine W.iast hx hb h1 ((hK.1.2 0 _ rfl).1 N (bg_ae y r g 8 a)) (fun q => by cases q) (by show ¬ (Int32.ofInt i < 0 ∨ (arrV _ _ _).slots.size ≤ _); rw [arrV_size]; exact hin) rfl rfl hd fun H1 e z oq => ?_
  refine kk H1 _ ar (hD.set (id := a) z oq ?_ (fun _ _ => rfl) (fun i hne => bg_up_ne hne) (bg_up_R hD.2.2 hv)) (hS.put z oq (Nat.le_add_right _ _)) hL hR.2.2.2
  intro ci' N' hk'
  cases hk.symm.trans hk'
  refine ⟨fun h8 => absurd h8 (by omega), fun _ => ?_⟩
  rw [e, arrV_store]
  congr 2
  funext j
  unfold updV bg_ae bg_up
  rw [hix]
  by_cases hj : j = i.toNat
  · subst hj; simp
  · simp [hj]
theorem bg_aaload (X : bg_X κ y cc own dd mcc mss) {a ci N b : Nat} {i : Int} (hd : decode cc pc = .ok (.aaload, 1)) (hk : bg_kd a = some (ci, N)) (hc : ci = 9 ∨ ci = 10) (ha : a < n) (h0 : 0 ≤ i ∧ i < N) (hr : r a i.toNat = some b) (kk : bg_G κ y cs (pc + 1) ls (.inr b :: st) (n, r, g)) : bg_G κ y cs pc ls (.inl i :: .inr a :: st) (n, r, g) := by
  intro H locs ar hD hS hL hR
  obtain ⟨hx, hb, hown, hts, hK, hbs, hlk, -⟩ := X
  have h1 := (hD.2.1 a ha ci N hk).2 (by omega)
  have hi : R32 i := hR.1
  have hlt : i.toNat < N := by omega
  have hix := bg_idx hi
  have hin := bg_vpin hi h0.1 h0.2
  have harr : ∃ ty : FieldType, ArrOfT (bg_s κ) (bg_cA y ci) ty ∧ ty.isReference = true := by
    rcases hc with rfl | rfl
    · exact ⟨_, (hK.1.2 1 _ rfl).1, rfl⟩
    · exact ⟨_, (hK.1.2 2 _ rfl).1, rfl⟩
  obtain ⟨ty, har, href⟩ := harr
  refine W.aald (v := .ref (y.1 + b)) hx hb h1 (har N (bg_ae y r g ci a)) href (fun q => by cases q) (by show ¬ (Int32.ofInt i < 0 ∨ (arrV _ _ _).slots.size ≤ _); rw [arrV_size]; exact hin) ?_ rfl rfl hd (kk H locs ar hD hS hL ⟨trivial, hR.2.2⟩)
  rw [hix, arrV_read _ _ hlt]
  unfold bg_ae
  rw [if_neg (by omega)]
  show some (bg_rv y (r a i.toNat)) = _
  rw [hr]
  rfl
/-- a number out of one of the class's three tables: getstatic, iload_1, iaload -/
theorem bg_stat (X : bg_X κ y cc own dd mcc mss) {idx : Nat} {nm : String} {f : Nat → Int} {i : Int} {o : Option bg_V} {t : List (Option bg_V)} (hd : decode cc pc = .ok (.getstatic idx, 3)) (hd2 : decode cc (pc + 3) = .ok (.iload_n 1, 1)) (hd3 : decode cc (pc + 4) = .ok (.iaload, 1)) (hl : Cond.fieldLink own idx "BoreholeColumns" nm "[I" ∈ bg_T) (hst : bg_KK y (bg_s κ) → bg_ST y nm f (bg_s κ) (bg_s κ).heap) (h0 : 0 ≤ i ∧ i < 5) (hf : R32 (f i.toNat)) (kk : bg_G κ y cs (pc + 5) (o :: some (.inl i) :: t) (.inl (f i.toNat) :: st) (n, r, g)) : bg_G κ y cs pc (o :: some (.inl i) :: t) st (n, r, g) := by
  intro H locs ar hD hS hL hR
  obtain ⟨hx, hb, hown, hts, hK, hbs, hlk, -⟩ := X
  obtain ⟨t1, hZ, hT⟩ := hst hK
  obtain ⟨hl1, hi⟩ := hL.2.2.2 1 (.inl i) rfl
  have hi : R32 i := hi
  have hix := bg_idx hi
  refine va_gets (A := bg_A y) hx hb hZ hS hown (hts _ hl) (fun _ h => h) hd ?_
  refine lv_iload_n hx hb hd2 rfl hl1 ?_
  obtain ⟨cell, c1, c2, c3, c4, c5, c6, c7⟩ := hT
  have hlt : i.toNat < 5 := by omega
  refine W.iald (v := .int (Int32.ofInt (f i.toNat))) hx hb (by rw [hS.2.1 t1 (Array.getElem?_eq_some_iff.mp c1).1 c7]; exact c1) c2 c3 ?_ ?_ rfl rfl hd3 (kk H locs ar hD hS hL ⟨hf, hR⟩)
  · rw [hix]
    rintro (h | h)
    · have := (bg_lt (b := 0) hi (by decide)).mp h; omega
    · omega
  · rw [hix]; exact c6 _ hlt
end MEM
end
section
/-! contracts over the world, calls, returns -/
def bg_rm (d mc ms : Nat) : Room := { frames := d, cells := mc, slots := ms, locals := 44 * d }
def bg_ws (μ : bg_P) : List Cond := .code μ.1 μ.2.1 μ.2.2.1 μ.2.2.2 :: bg_T
def bg_pre (y : bg_Y) (args : List bg_V) (M : bg_M) : Array Value → State → Prop := va_Pc (args.map (bg_v y)) (fun U => bg_D y M U.heap ∧ bg_KK y U ∧ bg_RS args)
def bg_post (y : bg_Y) (Post : Option bg_V → bg_M → Prop) : Array Value → State → Outcome → State → Prop := fun _ st oc t => (∃ (r : Option bg_V) (M' : bg_M), oc = .returned (r.map (bg_v y)) ∧ Post r M' ∧ bg_D y M' t.heap ∧ ∀ v, r = some v → bg_R v) ∧ va_F (bg_A y) st t
def bg_S (y : bg_Y) (d mc ms : Nat) (μ : bg_P) (args : List bg_V) (M : bg_M) (Post : Option bg_V → bg_M → Prop) : Prop := ∀ l : Launch, Met l μ.1 (bg_ws μ) (bg_rm d mc ms) (bg_pre y args M) (bg_post y Post) mc ms (bg_A y)
def bg_Xm (κ : bg_K) (y : bg_Y) (μ : bg_P) (d mc ms : Nat) (Post : Option bg_V → bg_M → Prop) : Prop :=
  bg_X κ y μ.2.1 μ.1.cls d mc ms ∧ κ.2.2.2.2.2.2.2.2.1.sig.returnType = μ.2.2.2 ∧ κ.2.2.2.2.2.2.2.2.2.2 = MQ κ.2.2.2.2.2.2.2.1 (bg_post y Post) κ.2.2.2.2.2.2.1 (bg_s κ) mc ms (bg_A y) ∧ ((bg_s κ).methodNamed? μ.1 = some (bg_m κ) → True)
theorem bg_goodT : ∀ w ∈ bg_T, goodWord w = true := fun _ h => (List.mem_filter.mp h).2
theorem bg_GoodIn {μ : bg_P} (h : Cond.code μ.1 μ.2.1 μ.2.2.1 μ.2.2.2 ∈ bg_T) : GoodIn bg_T (bg_ws μ) := by
  intro w hw
  rcases List.mem_cons.mp hw with rfl | hw
  · exact ⟨h, good_of_word (bg_goodT _ h)⟩
  · exact ⟨hw, good_of_word (bg_goodT _ hw)⟩
theorem bg_RS_R {y : bg_Y} {st : List bg_V} : (((st.map (bg_v y)).map fun v => v.category).sum) = st.length := by
  induction st with
  | nil => rfl
  | cons v t ih => simp only [List.map_cons, List.sum_cons, bg_v_cat, List.length_cons, ih]; omega
/-- from a walk of the body to the contract -/
theorem bg_enter {y : bg_Y} {d mc ms : Nat} {μ : bg_P} {args : List bg_V} {M : bg_M} {Post : Option bg_V → bg_M → Prop} (hy : plainName μ.1.cls = true) (hlen : args.length ≤ μ.2.2.1)
    (body : ∀ κ : bg_K, bg_Xm κ y μ d mc ms Post → bg_RS args → (∀ a k, R32 (M.2.2 a k)) → bg_G κ y (0, 0) 0 (args.map some ++ List.replicate (μ.2.2.1 - args.length) none) [] M) : bg_S y d mc ms μ args M Post := by
  intro l
  refine Met.ofW (cc := μ.2.1) (maxL := μ.2.2.1) (ret := μ.2.2.2) hy rfl ?_
  intro p e s m args' below meth c s₁ B hml hv
  obtain ⟨rfl, hD, hK, hRS⟩ := hv
  have hts := atoms_spec (ws := bg_ws μ) B.pre
  have hsl : ∀ vs : List bg_V, lg_sl (vs.map (bg_v y)) = vs.map (fun v => Slot.val (bg_v y v)) := by
    intro vs
    induction vs with
    | nil => rfl
    | cons v t ih =>
      show (if (bg_v y v).category = 2 then _ else _) ++ lg_sl (t.map (bg_v y)) = _
      rw [ih, bg_v_cat]
      rfl
  have hlenS : (lg_sl (args.map (bg_v y))).length = args.length := by rw [hsl, List.length_map]
  have hl := lv_entry (args.map (bg_v y)) (n := μ.2.2.1) (by rw [hlenS]; exact hlen)
  have hX : bg_Xm (p, l, e, (headSpec (bg_ws μ) (bg_rm d mc ms)).room, s, m, (args.map (bg_v y)).toArray, below, meth, c, MQ below (bg_post y Post) (args.map (bg_v y)).toArray s mc ms (bg_A y)) y μ d mc ms Post := by
    refine ⟨⟨B.exec, B.bytes, findClass_of_methodNamed B.named, fun w hw => hts w (List.mem_cons_of_mem _ hw), hK, by rw [hD.1]; exact Nat.le_add_right _ _, B.notSynchronized, Nat.le_refl _, Nat.le_refl _, Nat.le_refl _, Nat.le_refl _⟩, B.returns, rfl, fun _ => trivial⟩
  have h0 := body _ hX hRS hD.2.2
  have ha : bg_L y c (args.map some ++ List.replicate (μ.2.2.1 - args.length) none) ((lg_sl (args.map (bg_v y)) ++ List.replicate (μ.2.2.1 - (lg_sl (args.map (bg_v y))).length) Slot.unset).toArray) := by
    refine ⟨by simp [hlenS], by rw [hml]; simp [hlenS]; omega, hl.2.1, ?_⟩
    intro k v hk
    have hk1 : k < args.length := by
      rcases Nat.lt_or_ge k args.length with h | h
      · exact h
      · rw [List.getElem?_append_right (by simpa using h)] at hk
        have := List.mem_of_getElem? hk
        simp at this
    rw [List.getElem?_append_left (by simpa using hk1), List.getElem?_map] at hk
    have hk2 : args[k]? = some v := by
      cases h : args[k]? with
      | none => rw [h] at hk; simp at hk
      | some w => rw [h] at hk; simp at hk; rw [hk]
    refine ⟨?_, ?_⟩
    · rw [List.getElem?_toArray, List.getElem?_append_left (by rw [hlenS]; exact hk1), hsl, List.getElem?_map, hk2]
      rfl
    · have : ∀ (l : List bg_V) (k : Nat), bg_RS l → l[k]? = some v → bg_R v := by
        intro l
        induction l with
        | nil => intro k _ h; simp at h
        | cons w t ih =>
          intro k hr h
          cases k with
          | zero => simp at h; rw [← h]; exact hr.1
          | succ k => exact ih k hr.2 (by simpa using h)
      exact this args k hRS hk2
  rw [lg_entry_eq]
  exact h0 s.heap [] _ hD va_S.rf ha trivial
def bg_mB (μ : bg_P) (n : Nat) : Prop := Cond.code μ.1 μ.2.1 μ.2.2.1 μ.2.2.2 ∈ bg_T ∧ Cond.initialized μ.1.cls ∈ bg_T ∧ (μ.1.cls ≠ "java/lang/invoke/MethodHandle" ∧ μ.1.cls ≠ "java/lang/invoke/VarHandle" ∧ (parseMethodDescriptor μ.1.desc).map (fun d => d.parameters.length) = some n) ∧ μ.2.2.1 ≤ 25
def bg_mV (μ : bg_P) (ci n : Nat) : Prop := bg_mB μ n ∧ Cond.instanceMethod μ.1 ∈ bg_T ∧ Cond.selects μ.1.cls μ.1 μ.1 ∈ bg_T ∧ (vwCl[ci]?).map (fun q => q.1) = some μ.1.cls
def bg_mS (μ : bg_P) (n : Nat) : Prop := bg_mB μ n ∧ Cond.static μ.1 ∈ bg_T
section CALLS
variable {κ : bg_K} {y : bg_Y} {cs : Nat × Nat} {cc : ByteArray} {own : String} {dd mcc mss pc : Nat} {ls : List (Option bg_V)} {st : List bg_V} {M : bg_M}
theorem bg_pre_blind {args : List bg_V} : FrameBlind (bg_pre y args M) := by
  intro a U g mk h
  obtain ⟨h1, h2, h3, h4⟩ := h
  exact ⟨h1, h2, h3.blind, h4⟩
/-- behind any call -/
theorem bg_after {d mc ms : Nat} {μ : bg_P} {args : List bg_V} {Post : Option bg_V → bg_M → Prop} {H : Heap} {locs : List Loc} {a : Array Slot} {a0 : Array Value} {stk rest : List Value}
    (hS : va_S (bg_A y) (bg_s κ).heap H locs) (hst : rest = st.map (bg_v y)) (hL : bg_L y (bg_c κ) ls a) (hR : bg_RS st)
    (hrun : va_Run κ.1 κ.2.1 κ.2.2.1 κ.2.2.2.1 κ.2.2.2.2.1 κ.2.2.2.2.2.1 κ.2.2.2.2.2.2.1 κ.2.2.2.2.2.2.2.1 κ.2.2.2.2.2.2.2.2.1 κ.2.2.2.2.2.2.2.2.2.1 H locs cs.1 cs.2 mc ms (F0 (bg_m κ) pc a stk) rest (bg_post y Post a0) (bg_A y))
    (kk : ∀ r M', Post r M' → bg_G κ y (cs.1 + mc, cs.2 + ms) (pc + 3) ls (r.toList ++ st) M') : bg_W κ cs H locs (F0 (bg_m κ) pc a stk) := by
  intro T hT X
  obtain ⟨v, st₀, t, T', L, h1, X', hL', h3, h4, ⟨⟨r, M', h5, h6, h7, h8⟩, h9⟩, hg⟩ := hrun T hT X
  have hv : v = r.map (bg_v y) := by injection h5
  have hS' : va_S (bg_A y) (bg_s κ).heap T'.heap (locs ++ L) := by
    refine ⟨?_, fun q hq1 hq2 => ?_, fun q hq => ?_⟩
    · have := h9.1; rw [h1] at this; rw [h3]; exact Nat.le_trans hS.1 this
    · rw [h3, h9.2 q (by rw [h1]; exact Nat.lt_of_lt_of_le hq1 hS.1) hq2, h1]; exact hS.2.1 q hq1 hq2
    · rcases List.mem_append.mp hq with h | h
      · exact hS.2.2 q h
      · exact hL' q h
  have hRS : bg_RS (r.toList ++ st) := by
    cases r with
    | none => exact hR
    | some w => exact ⟨h8 w rfl, hR⟩
  obtain ⟨t', k1, k2⟩ := kk r M' h6 T'.heap (locs ++ L) a (by rw [h3]; exact h7) hS' hL hRS T' rfl X'
  refine ⟨t', hg t' ?_, k2⟩
  have e : v.toList ++ rest = (r.toList ++ st).map (bg_v y) := by
    rw [hv, hst]
    cases r <;> rfl
  rw [e]
  exact k1
theorem bg_prePre {args : List bg_V} {H : Heap} {locs : List Loc} (hK : bg_KK y (bg_s κ)) (hD : bg_D y M H) (hS : va_S (bg_A y) (bg_s κ).heap H locs) (hR : bg_RS args) : PreS (bg_s κ) H (bg_pre y args M) (args.map (bg_v y)) := by
  refine ⟨bg_pre_blind, fun U hU hW => ⟨rfl, by rw [hU]; exact hD, hK.moved hW (fun q hq1 hq2 => ?_), hR⟩⟩
  rw [hU]
  exact hS.2.1 q hq1 hq2
theorem bg_callB (X : bg_X κ y cc own dd mcc mss) {d mc ms idx n : Nat} {μ : bg_P} (hm : bg_mB μ n) (hl : Cond.methodLink own idx μ.1 ∈ bg_T) (hd : d + 1 ≤ dd) : CallB (bg_Rm κ) (bg_s κ) κ.2.2.2.2.2.2.1 own idx μ.1 μ.2.1 μ.2.2.1 μ.2.2.2 (bg_ws μ) (bg_rm d mc ms) mc ms n := by
  obtain ⟨hx, hb, hown, hts, hK, hbs, hlk, r1, r2, r3, r4⟩ := X
  obtain ⟨m1, m2, m3, m4⟩ := hm
  refine callB_of n hts (bg_GoodIn m1) rfl rfl rfl (hts _ m2) (hts _ hl) m3 ⟨Nat.le_trans hd r1, ?_⟩
  show 8 + (μ.2.2.1 + 11) + 44 * d ≤ _
  omega
theorem bg_callV (X : bg_X κ y cc own dd mcc mss) {d mc ms idx n ci N a : Nat} {μ : bg_P} {As : List bg_V} {Post : Option bg_V → bg_M → Prop} (hc : bg_S y d mc ms μ (.inr a :: As) M Post) (hm : bg_mV μ ci n) (hl : Cond.methodLink own idx μ.1 ∈ bg_T) (hn : As.length = n) (hk : bg_kd a = some (ci, N)) (ha : a < M.1) (hd : d + 1 ≤ dd) (hcm : cs.1 + mc ≤ mcc ∧ cs.2 + ms ≤ mss) (hdc : decode cc pc = .ok (.invokevirtual idx, 3)) (hst : st.length ≤ 8)
    (kk : ∀ r M', Post r M' → bg_G κ y (cs.1 + mc, cs.2 + ms) (pc + 3) ls (r.toList ++ st) M') : bg_G κ y cs pc ls (As.reverse ++ .inr a :: st) M := by
  intro H locs ar hD hS hL hR
  have hB := bg_callB X (d := d) (mc := mc) (ms := ms) hm.1 hl hd
  obtain ⟨hx, hb, hown, hts, hK, hbs, hlk, r1, r2, r3, r4⟩ := X
  obtain ⟨⟨m1, m2, m3, m4⟩, m5, m6, m7⟩ := hm
  have hRS : ∀ l : List bg_V, bg_RS (l ++ .inr a :: st) → bg_RS l ∧ bg_RS st := by
    intro l
    induction l with
    | nil => exact fun h => ⟨trivial, h.2⟩
    | cons v t ih => exact fun h => ⟨⟨h.1, (ih h.2).1⟩, (ih h.2).2⟩
  obtain ⟨hR1, hR2⟩ := hRS _ hR
  have hRA : bg_RS As := by
    have key : ∀ l : List bg_V, bg_RS l ↔ ∀ v ∈ l, bg_R v := by
      intro l
      induction l with
      | nil => simp [bg_RS]
      | cons v t ih => simp [bg_RS, ih]
    rw [key] at hR1 ⊢
    exact fun v hv => hR1 v (List.mem_reverse.mpr hv)
  have hPre := bg_prePre (κ := κ) (args := .inr a :: As) hK hD hS ⟨trivial, hRA⟩
  obtain ⟨q, hq⟩ : ∃ q, vwCl[ci]? = some q := by
    cases h : vwCl[ci]? with
    | none => rw [h] at m7; cases m7
    | some q => exact ⟨q, rfl⟩
  have hqc : q.1 = μ.1.cls := by rw [hq] at m7; exact Option.some.inj m7
  obtain ⟨cell, q1, q2, q3, -⟩ := (hD.2.1 a ha ci N hk).1 (bg_ci_lt (C := q.1) (T := q.2.1) (N := q.2.2) hq)
  have hcl := (hK.1.1 ci q hq).2.1
  refine bg_after (d := d) (μ := μ) (args := .inr a :: As) (Post := Post) hS rfl hL hR2 (va_runV (As := As.map (bg_v y)) (rest := st.map (bg_v y)) ⟨hx, hb, rfl, hown, hts⟩ (hc _) ⟨hB, hts _ m5, hts _ m6⟩ ⟨hPre.1, ⟨cell, q1, by rw [q3]; rfl, by rw [q2, ← hqc]; exact hcl⟩, hPre.2⟩ rfl (by rw [List.length_map]; exact hn) hL.2.1 ?_ ?_ hdc ⟨Nat.le_trans hcm.1 r3, Nat.le_trans hcm.2 r4⟩) kk
  · simp [List.map_reverse, bg_v]
  · exact lv_room (by rw [bg_RS_R]; exact hst)
theorem bg_callS (X : bg_X κ y cc own dd mcc mss) {d mc ms idx n : Nat} {μ : bg_P} {As : List bg_V} {Post : Option bg_V → bg_M → Prop} (hc : bg_S y d mc ms μ As M Post) (hm : bg_mS μ n) (hl : Cond.methodLink own idx μ.1 ∈ bg_T) (hn : As.length = n) (hd : d + 1 ≤ dd) (hcm : cs.1 + mc ≤ mcc ∧ cs.2 + ms ≤ mss) (hdc : decode cc pc = .ok (.invokestatic idx, 3)) (hst : st.length ≤ 8)
    (kk : ∀ r M', Post r M' → bg_G κ y (cs.1 + mc, cs.2 + ms) (pc + 3) ls (r.toList ++ st) M') : bg_G κ y cs pc ls (As.reverse ++ st) M := by
  intro H locs ar hD hS hL hR
  have hB := bg_callB X (d := d) (mc := mc) (ms := ms) hm.1 hl hd
  obtain ⟨hx, hb, hown, hts, hK, hbs, hlk, r1, r2, r3, r4⟩ := X
  obtain ⟨⟨m1, m2, m3, m4⟩, m5⟩ := hm
  have hRS : ∀ l : List bg_V, bg_RS (l ++ st) → bg_RS l ∧ bg_RS st := by
    intro l
    induction l with
    | nil => exact fun h => ⟨trivial, h⟩
    | cons v t ih => exact fun h => ⟨⟨h.1, (ih h.2).1⟩, (ih h.2).2⟩
  obtain ⟨hR1, hR2⟩ := hRS _ hR
  have hRA : bg_RS As := by
    have key : ∀ l : List bg_V, bg_RS l ↔ ∀ v ∈ l, bg_R v := by
      intro l
      induction l with
      | nil => simp [bg_RS]
      | cons v t ih => simp [bg_RS, ih]
    rw [key] at hR1 ⊢
    exact fun v hv => hR1 v (List.mem_reverse.mpr hv)
  have hPre := bg_prePre (κ := κ) (args := As) hK hD hS hRA
  refine bg_after (d := d) (μ := μ) (args := As) (Post := Post) hS rfl hL hR2 (va_runS (As := As.map (bg_v y)) (rest := st.map (bg_v y)) ⟨hx, hb, rfl, hown, hts⟩ (hc _) ⟨hB, hts _ m5⟩ hPre rfl (by rw [List.length_map]; exact hn) hL.2.1 ?_ ?_ hdc ⟨Nat.le_trans hcm.1 r3, Nat.le_trans hcm.2 r4⟩) kk
  · simp [List.map_reverse]
  · exact lv_room (by rw [bg_RS_R]; exact hst)
/-- a static method of the host class, called by a nest mate -/
theorem bg_callSN (X : bg_X κ y cc own dd mcc mss) {d mc ms idx n : Nat} {host : String} {μ : bg_P} {As : List bg_V} {Post : Option bg_V → bg_M → Prop} (hc : bg_S y d mc ms μ As M Post) (hm : bg_mS μ n) (hl : Cond.methodLinkNest own idx μ.1 host ∈ bg_NW) (hn : As.length = n) (hd : d + 1 ≤ dd) (hcm : cs.1 + mc ≤ mcc ∧ cs.2 + ms ≤ mss) (hdc : decode cc pc = .ok (.invokestatic idx, 3)) (hst : st.length ≤ 8)
    (kk : ∀ r M', Post r M' → bg_G κ y (cs.1 + mc, cs.2 + ms) (pc + 3) ls (r.toList ++ st) M') : bg_G κ y cs pc ls (As.reverse ++ st) M := by
  intro H locs ar hD hS hL hR
  obtain ⟨hx, hb, hown, hts, hK, hbs, hlk, r1, r2, r3, r4⟩ := X
  obtain ⟨⟨m1, m2, m3, m4⟩, m5⟩ := hm
  have hRS : ∀ l : List bg_V, bg_RS (l ++ st) → bg_RS l ∧ bg_RS st := by
    intro l
    induction l with
    | nil => exact fun h => ⟨trivial, h⟩
    | cons v t ih => exact fun h => ⟨⟨h.1, (ih h.2).1⟩, (ih h.2).2⟩
  obtain ⟨hR1, hR2⟩ := hRS _ hR
  have hRA : bg_RS As := by
    have key : ∀ l : List bg_V, bg_RS l ↔ ∀ v ∈ l, bg_R v := by
      intro l
      induction l with
      | nil => simp [bg_RS]
      | cons v t ih => simp [bg_RS, ih]
    rw [key] at hR1 ⊢
    exact fun v hv => hR1 v (List.mem_reverse.mpr hv)
  have hPre := bg_prePre (κ := κ) (args := As) hK hD hS hRA
  have hB : va_CN (bg_Rm κ) (bg_s κ) κ.2.2.2.2.2.2.1 own idx μ.1 host μ.2.1 μ.2.2.1 μ.2.2.2 (bg_ws μ) (bg_rm d mc ms) mc ms n := by
    refine va_cnB n hts (bg_GoodIn m1) rfl rfl rfl (hK.2.1 _ hl) (hts _ m2) m3 ⟨Nat.le_trans hd r1, ?_⟩
    show 8 + (μ.2.2.1 + 11) + 44 * d ≤ _
    omega
  refine bg_after (d := d) (μ := μ) (args := As) (Post := Post) hS rfl hL hR2 (va_runSN (As := As.map (bg_v y)) (rest := st.map (bg_v y)) ⟨hx, hb, rfl, hown, hts⟩ (hc _) ⟨hB, hts _ m5, trivial⟩ hPre rfl (by rw [List.length_map]; exact hn) hL.2.1 ?_ ?_ hdc ⟨Nat.le_trans hcm.1 r3, Nat.le_trans hcm.2 r4⟩) kk
  · simp [List.map_reverse]
  · exact lv_room (by rw [bg_RS_R]; exact hst)
end CALLS
section RETS
variable {κ : bg_K} {y : bg_Y} {d mc ms pc : Nat} {μ : bg_P} {ls : List (Option bg_V)} {st : List bg_V} {M : bg_M} {Post : Option bg_V → bg_M → Prop}
theorem bg_iret (X : bg_Xm κ y μ d mc ms Post) (hr : μ.2.2.2 = some .int) {i : Int} (hd : decode μ.2.1 pc = .ok (.ireturn, 1)) (hp : R32 i → Post (some (.inl i)) M) : bg_G κ y (mc, ms) pc ls [.inl i] M := by
  intro H locs ar hD hS hL hR
  obtain ⟨⟨hx, hb, hown, hts, hK, hbs, hlk, -⟩, hret, hQ, -⟩ := X
  show W _ _ _ _ _ _ _ _ _ _ _ _ _ _ κ.2.2.2.2.2.2.2.2.2.2 _
  rw [hQ]
  exact W.iret (v := Int32.ofInt i) hx hb (hret.trans hr) (fun t ht hW => ⟨⟨some (.inl i), M, rfl, hp hR.1, by rw [ht]; exact hD, fun v hv => by cases hv; exact hR.1⟩, hS.F ht⟩) hS.2.2 hd hlk
theorem bg_zret (X : bg_Xm κ y μ d mc ms Post) (hr : μ.2.2.2 = some .boolean) {i : Int} (h01 : i = 0 ∨ i = 1) (hd : decode μ.2.1 pc = .ok (.ireturn, 1)) (hp : Post (some (.inl i)) M) : bg_G κ y (mc, ms) pc ls [.inl i] M := by
  intro H locs ar hD hS hL hR
  obtain ⟨⟨hx, hb, hown, hts, hK, hbs, hlk, -⟩, hret, hQ, -⟩ := X
  show W _ _ _ _ _ _ _ _ _ _ _ _ _ _ κ.2.2.2.2.2.2.2.2.2.2 _
  rw [hQ]
  exact W.zret (v := Int32.ofInt i) hx hb (hret.trans hr) (by rcases h01 with rfl | rfl <;> rfl) (fun t ht hW => ⟨⟨some (.inl i), M, rfl, hp, by rw [ht]; exact hD, fun v hv => by cases hv; exact hR.1⟩, hS.F ht⟩) hS.2.2 hd hlk
theorem bg_aret (X : bg_Xm κ y μ d mc ms Post) {C : String} (hr : μ.2.2.2 = some (.object C)) {i : Nat} (hd : decode μ.2.1 pc = .ok (.areturn, 1)) (hp : Post (some (.inr i)) M) : bg_G κ y (mc, ms) pc ls [.inr i] M := by
  intro H locs ar hD hS hL hR
  obtain ⟨⟨hx, hb, hown, hts, hK, hbs, hlk, -⟩, hret, hQ, -⟩ := X
  show W _ _ _ _ _ _ _ _ _ _ _ _ _ _ κ.2.2.2.2.2.2.2.2.2.2 _
  rw [hQ]
  exact W.aret (v := .ref (y.1 + i)) hx hb (hret.trans hr) (Or.inl ⟨_, rfl⟩) (Or.inr ⟨_, rfl⟩) (fun t ht hW => ⟨⟨some (.inr i), M, rfl, hp, by rw [ht]; exact hD, fun v hv => by cases hv; trivial⟩, hS.F ht⟩) hS.2.2 hd hlk
theorem bg_vret (X : bg_Xm κ y μ d mc ms Post) (hr : μ.2.2.2 = none) (hd : decode μ.2.1 pc = .ok (.return_, 1)) (hp : (∀ a k, R32 (M.2.2 a k)) → Post none M) : bg_G κ y (mc, ms) pc ls [] M := by
  intro H locs ar hD hS hL hR
  obtain ⟨⟨hx, hb, hown, hts, hK, hbs, hlk, -⟩, hret, hQ, -⟩ := X
  show W _ _ _ _ _ _ _ _ _ _ _ _ _ _ κ.2.2.2.2.2.2.2.2.2.2 _
  rw [hQ]
  exact W.vret hx hb (hret.trans hr) (fun t ht hW => ⟨⟨none, M, rfl, hp hD.2.2, by rw [ht]; exact hD, fun v hv => by cases hv⟩, hS.F ht⟩) hS.2.2 hd hlk
end RETS
end
section
theorem bg_mT {w : Cond} (i : Nat) (h : lw_tbl[i]? = some w) (hg : goodWord w = true) : w ∈ bg_T := List.mem_filter.mpr ⟨List.mem_of_getElem? h, hg⟩
theorem iC_RX6 : Cond.initialized RX6 ∈ bg_T := bg_mT 45 (by decide +kernel) (by decide +kernel)
theorem iC_RX0 : Cond.initialized RX0 ∈ bg_T := bg_mT 47 (by decide +kernel) (by decide +kernel)
theorem iC_RX1 : Cond.initialized RX1 ∈ bg_T := bg_mT 48 (by decide +kernel) (by decide +kernel)
theorem iC_RX2 : Cond.initialized RX2 ∈ bg_T := bg_mT 50 (by decide +kernel) (by decide +kernel)
theorem iC_RX3 : Cond.initialized RX3 ∈ bg_T := bg_mT 51 (by decide +kernel) (by decide +kernel)
theorem iC_RX4 : Cond.initialized RX4 ∈ bg_T := bg_mT 46 (by decide +kernel) (by decide +kernel)
theorem iC_RX5 : Cond.initialized RX5 ∈ bg_T := bg_mT 49 (by decide +kernel) (by decide +kernel)
theorem iC_RX7 : Cond.initialized RX7 ∈ bg_T := bg_mT 52 (by decide +kernel) (by decide +kernel)
def mX6_init : bg_P := (yX6_init, cX6_init, 2, (Option.none : Option FieldType))
theorem bX6_init : bg_mB mX6_init 0 := ⟨bg_mT 60 (by decide +kernel) (by decide +kernel), iC_RX6, ⟨by decide +kernel, by decide +kernel, by decide +kernel⟩, by decide⟩
theorem nX6_init : Cond.instanceMethod yX6_init ∈ bg_T := bg_mT 59 (by decide +kernel) (by decide +kernel)
def mX4_init : bg_P := (yX4_init, cX4_init, 2, (Option.none : Option FieldType))
theorem bX4_init : bg_mB mX4_init 0 := ⟨bg_mT 68 (by decide +kernel) (by decide +kernel), iC_RX4, ⟨by decide +kernel, by decide +kernel, by decide +kernel⟩, by decide⟩
theorem nX4_init : Cond.instanceMethod yX4_init ∈ bg_T := bg_mT 67 (by decide +kernel) (by decide +kernel)
def mX0_init : bg_P := (yX0_init, cX0_init, 1, (Option.none : Option FieldType))
theorem bX0_init : bg_mB mX0_init 0 := ⟨bg_mT 77 (by decide +kernel) (by decide +kernel), iC_RX0, ⟨by decide +kernel, by decide +kernel, by decide +kernel⟩, by decide⟩
theorem nX0_init : Cond.instanceMethod yX0_init ∈ bg_T := bg_mT 76 (by decide +kernel) (by decide +kernel)
def mX1_init : bg_P := (yX1_init, cX1_init, 2, (Option.none : Option FieldType))
theorem bX1_init : bg_mB mX1_init 0 := ⟨bg_mT 110 (by decide +kernel) (by decide +kernel), iC_RX1, ⟨by decide +kernel, by decide +kernel, by decide +kernel⟩, by decide⟩
theorem nX1_init : Cond.instanceMethod yX1_init ∈ bg_T := bg_mT 109 (by decide +kernel) (by decide +kernel)
def mX5_init : bg_P := (yX5_init, cX5_init, 1, (Option.none : Option FieldType))
theorem bX5_init : bg_mB mX5_init 0 := ⟨bg_mT 129 (by decide +kernel) (by decide +kernel), iC_RX5, ⟨by decide +kernel, by decide +kernel, by decide +kernel⟩, by decide⟩
theorem nX5_init : Cond.instanceMethod yX5_init ∈ bg_T := bg_mT 128 (by decide +kernel) (by decide +kernel)
def mX2_init : bg_P := (yX2_init, cX2_init, 1, (Option.none : Option FieldType))
theorem bX2_init : bg_mB mX2_init 0 := ⟨bg_mT 155 (by decide +kernel) (by decide +kernel), iC_RX2, ⟨by decide +kernel, by decide +kernel, by decide +kernel⟩, by decide⟩
theorem nX2_init : Cond.instanceMethod yX2_init ∈ bg_T := bg_mT 154 (by decide +kernel) (by decide +kernel)
def mX3_init : bg_P := (yX3_init, cX3_init, 1, (Option.none : Option FieldType))
theorem bX3_init : bg_mB mX3_init 0 := ⟨bg_mT 161 (by decide +kernel) (by decide +kernel), iC_RX3, ⟨by decide +kernel, by decide +kernel, by decide +kernel⟩, by decide⟩
theorem nX3_init : Cond.instanceMethod yX3_init ∈ bg_T := bg_mT 160 (by decide +kernel) (by decide +kernel)
def mX6_setNumber : bg_P := (yX6_setNumber, cX6_setNumber, 4, (Option.some Jvm.ClassFile.FieldType.int : Option FieldType))
theorem vX6_setNumber : bg_mV mX6_setNumber 6 2 := ⟨⟨bg_mT 237 (by decide +kernel) (by decide +kernel), iC_RX6, ⟨by decide +kernel, by decide +kernel, by decide +kernel⟩, by decide⟩, bg_mT 235 (by decide +kernel) (by decide +kernel), bg_mT 236 (by decide +kernel) (by decide +kernel), rfl⟩
def mX1_save : bg_P := (yX1_save, cX1_save, 2, (Option.none : Option FieldType))
theorem vX1_save : bg_mV mX1_save 1 1 := ⟨⟨bg_mT 246 (by decide +kernel) (by decide +kernel), iC_RX1, ⟨by decide +kernel, by decide +kernel, by decide +kernel⟩, by decide⟩, bg_mT 244 (by decide +kernel) (by decide +kernel), bg_mT 245 (by decide +kernel) (by decide +kernel), rfl⟩
def mX4_copyFrom : bg_P := (yX4_copyFrom, cX4_copyFrom, 3, (Option.none : Option FieldType))
theorem vX4_copyFrom : bg_mV mX4_copyFrom 4 1 := ⟨⟨bg_mT 250 (by decide +kernel) (by decide +kernel), iC_RX4, ⟨by decide +kernel, by decide +kernel, by decide +kernel⟩, by decide⟩, bg_mT 248 (by decide +kernel) (by decide +kernel), bg_mT 249 (by decide +kernel) (by decide +kernel), rfl⟩
def mX0_copyFrom : bg_P := (yX0_copyFrom, cX0_copyFrom, 2, (Option.none : Option FieldType))
theorem vX0_copyFrom : bg_mV mX0_copyFrom 0 1 := ⟨⟨bg_mT 257 (by decide +kernel) (by decide +kernel), iC_RX0, ⟨by decide +kernel, by decide +kernel, by decide +kernel⟩, by decide⟩, bg_mT 255 (by decide +kernel) (by decide +kernel), bg_mT 256 (by decide +kernel) (by decide +kernel), rfl⟩
def mX0_takeBedsOf : bg_P := (yX0_takeBedsOf, cX0_takeBedsOf, 2, (Option.none : Option FieldType))
theorem vX0_takeBedsOf : bg_mV mX0_takeBedsOf 0 1 := ⟨⟨bg_mT 261 (by decide +kernel) (by decide +kernel), iC_RX0, ⟨by decide +kernel, by decide +kernel, by decide +kernel⟩, by decide⟩, bg_mT 259 (by decide +kernel) (by decide +kernel), bg_mT 260 (by decide +kernel) (by decide +kernel), rfl⟩
def mX4_numberOf : bg_P := (yX4_numberOf, cX4_numberOf, 2, (Option.some Jvm.ClassFile.FieldType.int : Option FieldType))
theorem vX4_numberOf : bg_mV mX4_numberOf 4 1 := ⟨⟨bg_mT 269 (by decide +kernel) (by decide +kernel), iC_RX4, ⟨by decide +kernel, by decide +kernel, by decide +kernel⟩, by decide⟩, bg_mT 267 (by decide +kernel) (by decide +kernel), bg_mT 268 (by decide +kernel) (by decide +kernel), rfl⟩
def mX4_putNumber : bg_P := (yX4_putNumber, cX4_putNumber, 3, (Option.none : Option FieldType))
theorem vX4_putNumber : bg_mV mX4_putNumber 4 2 := ⟨⟨bg_mT 273 (by decide +kernel) (by decide +kernel), iC_RX4, ⟨by decide +kernel, by decide +kernel, by decide +kernel⟩, by decide⟩, bg_mT 271 (by decide +kernel) (by decide +kernel), bg_mT 272 (by decide +kernel) (by decide +kernel), rfl⟩
def mX6_setKey : bg_P := (yX6_setKey, cX6_setKey, 4, (Option.some Jvm.ClassFile.FieldType.int : Option FieldType))
theorem vX6_setKey : bg_mV mX6_setKey 6 2 := ⟨⟨bg_mT 277 (by decide +kernel) (by decide +kernel), iC_RX6, ⟨by decide +kernel, by decide +kernel, by decide +kernel⟩, by decide⟩, bg_mT 275 (by decide +kernel) (by decide +kernel), bg_mT 276 (by decide +kernel) (by decide +kernel), rfl⟩
def mX6_isMark : bg_P := (yX6_isMark, cX6_isMark, 1, (Option.some Jvm.ClassFile.FieldType.boolean : Option FieldType))
theorem sX6_isMark : bg_mS mX6_isMark 1 := ⟨⟨bg_mT 280 (by decide +kernel) (by decide +kernel), iC_RX6, ⟨by decide +kernel, by decide +kernel, by decide +kernel⟩, by decide⟩, bg_mT 279 (by decide +kernel) (by decide +kernel)⟩
def mX4_isKey : bg_P := (yX4_isKey, cX4_isKey, 2, (Option.some Jvm.ClassFile.FieldType.boolean : Option FieldType))
theorem vX4_isKey : bg_mV mX4_isKey 4 1 := ⟨⟨bg_mT 284 (by decide +kernel) (by decide +kernel), iC_RX4, ⟨by decide +kernel, by decide +kernel, by decide +kernel⟩, by decide⟩, bg_mT 282 (by decide +kernel) (by decide +kernel), bg_mT 283 (by decide +kernel) (by decide +kernel), rfl⟩
def mX4_putKey : bg_P := (yX4_putKey, cX4_putKey, 3, (Option.none : Option FieldType))
theorem vX4_putKey : bg_mV mX4_putKey 4 2 := ⟨⟨bg_mT 289 (by decide +kernel) (by decide +kernel), iC_RX4, ⟨by decide +kernel, by decide +kernel, by decide +kernel⟩, by decide⟩, bg_mT 287 (by decide +kernel) (by decide +kernel), bg_mT 288 (by decide +kernel) (by decide +kernel), rfl⟩
def mX6_setCollar : bg_P := (yX6_setCollar, cX6_setCollar, 5, (Option.some Jvm.ClassFile.FieldType.int : Option FieldType))
theorem vX6_setCollar : bg_mV mX6_setCollar 6 2 := ⟨⟨bg_mT 293 (by decide +kernel) (by decide +kernel), iC_RX6, ⟨by decide +kernel, by decide +kernel, by decide +kernel⟩, by decide⟩, bg_mT 291 (by decide +kernel) (by decide +kernel), bg_mT 292 (by decide +kernel) (by decide +kernel), rfl⟩
def mX6_isHole : bg_P := (yX6_isHole, cX6_isHole, 1, (Option.some Jvm.ClassFile.FieldType.boolean : Option FieldType))
theorem sX6_isHole : bg_mS mX6_isHole 1 := ⟨⟨bg_mT 296 (by decide +kernel) (by decide +kernel), iC_RX6, ⟨by decide +kernel, by decide +kernel, by decide +kernel⟩, by decide⟩, bg_mT 295 (by decide +kernel) (by decide +kernel)⟩
def mX4_columnOf : bg_P := (yX4_columnOf, cX4_columnOf, 2, (Option.some (Jvm.ClassFile.FieldType.object "BoreholeColumns$Column") : Option FieldType))
theorem vX4_columnOf : bg_mV mX4_columnOf 4 1 := ⟨⟨bg_mT 300 (by decide +kernel) (by decide +kernel), iC_RX4, ⟨by decide +kernel, by decide +kernel, by decide +kernel⟩, by decide⟩, bg_mT 298 (by decide +kernel) (by decide +kernel), bg_mT 299 (by decide +kernel) (by decide +kernel), rfl⟩
def mX0_collarElevation : bg_P := (yX0_collarElevation, cX0_collarElevation, 1, (Option.some Jvm.ClassFile.FieldType.int : Option FieldType))
theorem vX0_collarElevation : bg_mV mX0_collarElevation 0 0 := ⟨⟨bg_mT 305 (by decide +kernel) (by decide +kernel), iC_RX0, ⟨by decide +kernel, by decide +kernel, by decide +kernel⟩, by decide⟩, bg_mT 303 (by decide +kernel) (by decide +kernel), bg_mT 304 (by decide +kernel) (by decide +kernel), rfl⟩
def mX0_putCollar : bg_P := (yX0_putCollar, cX0_putCollar, 2, (Option.none : Option FieldType))
theorem vX0_putCollar : bg_mV mX0_putCollar 0 1 := ⟨⟨bg_mT 309 (by decide +kernel) (by decide +kernel), iC_RX0, ⟨by decide +kernel, by decide +kernel, by decide +kernel⟩, by decide⟩, bg_mT 307 (by decide +kernel) (by decide +kernel), bg_mT 308 (by decide +kernel) (by decide +kernel), rfl⟩
def mX6_addBed : bg_P := (yX6_addBed, cX6_addBed, 6, (Option.some Jvm.ClassFile.FieldType.int : Option FieldType))
theorem vX6_addBed : bg_mV mX6_addBed 6 4 := ⟨⟨bg_mT 313 (by decide +kernel) (by decide +kernel), iC_RX6, ⟨by decide +kernel, by decide +kernel, by decide +kernel⟩, by decide⟩, bg_mT 311 (by decide +kernel) (by decide +kernel), bg_mT 312 (by decide +kernel) (by decide +kernel), rfl⟩
def mX6_isThickness : bg_P := (yX6_isThickness, cX6_isThickness, 1, (Option.some Jvm.ClassFile.FieldType.boolean : Option FieldType))
theorem sX6_isThickness : bg_mS mX6_isThickness 1 := ⟨⟨bg_mT 316 (by decide +kernel) (by decide +kernel), iC_RX6, ⟨by decide +kernel, by decide +kernel, by decide +kernel⟩, by decide⟩, bg_mT 315 (by decide +kernel) (by decide +kernel)⟩
def mX0_size : bg_P := (yX0_size, cX0_size, 1, (Option.some Jvm.ClassFile.FieldType.int : Option FieldType))
theorem vX0_size : bg_mV mX0_size 0 0 := ⟨⟨bg_mT 320 (by decide +kernel) (by decide +kernel), iC_RX0, ⟨by decide +kernel, by decide +kernel, by decide +kernel⟩, by decide⟩, bg_mT 318 (by decide +kernel) (by decide +kernel), bg_mT 319 (by decide +kernel) (by decide +kernel), rfl⟩
def mX0_insert : bg_P := (yX0_insert, cX0_insert, 5, (Option.some Jvm.ClassFile.FieldType.boolean : Option FieldType))
theorem vX0_insert : bg_mV mX0_insert 0 3 := ⟨⟨bg_mT 325 (by decide +kernel) (by decide +kernel), iC_RX0, ⟨by decide +kernel, by decide +kernel, by decide +kernel⟩, by decide⟩, bg_mT 323 (by decide +kernel) (by decide +kernel), bg_mT 324 (by decide +kernel) (by decide +kernel), rfl⟩
def mX4_book : bg_P := (yX4_book, cX4_book, 3, (Option.none : Option FieldType))
theorem vX4_book : bg_mV mX4_book 4 2 := ⟨⟨bg_mT 329 (by decide +kernel) (by decide +kernel), iC_RX4, ⟨by decide +kernel, by decide +kernel, by decide +kernel⟩, by decide⟩, bg_mT 327 (by decide +kernel) (by decide +kernel), bg_mT 328 (by decide +kernel) (by decide +kernel), rfl⟩
def mX6_removeBed : bg_P := (yX6_removeBed, cX6_removeBed, 5, (Option.some Jvm.ClassFile.FieldType.int : Option FieldType))
theorem vX6_removeBed : bg_mV mX6_removeBed 6 2 := ⟨⟨bg_mT 333 (by decide +kernel) (by decide +kernel), iC_RX6, ⟨by decide +kernel, by decide +kernel, by decide +kernel⟩, by decide⟩, bg_mT 331 (by decide +kernel) (by decide +kernel), bg_mT 332 (by decide +kernel) (by decide +kernel), rfl⟩
def mX0_has : bg_P := (yX0_has, cX0_has, 2, (Option.some Jvm.ClassFile.FieldType.boolean : Option FieldType))
theorem vX0_has : bg_mV mX0_has 0 1 := ⟨⟨bg_mT 337 (by decide +kernel) (by decide +kernel), iC_RX0, ⟨by decide +kernel, by decide +kernel, by decide +kernel⟩, by decide⟩, bg_mT 335 (by decide +kernel) (by decide +kernel), bg_mT 336 (by decide +kernel) (by decide +kernel), rfl⟩
def mX0_thicknessOf : bg_P := (yX0_thicknessOf, cX0_thicknessOf, 2, (Option.some Jvm.ClassFile.FieldType.int : Option FieldType))
theorem vX0_thicknessOf : bg_mV mX0_thicknessOf 0 1 := ⟨⟨bg_mT 341 (by decide +kernel) (by decide +kernel), iC_RX0, ⟨by decide +kernel, by decide +kernel, by decide +kernel⟩, by decide⟩, bg_mT 339 (by decide +kernel) (by decide +kernel), bg_mT 340 (by decide +kernel) (by decide +kernel), rfl⟩
def mX0_takeOut : bg_P := (yX0_takeOut, cX0_takeOut, 3, (Option.none : Option FieldType))
theorem vX0_takeOut : bg_mV mX0_takeOut 0 1 := ⟨⟨bg_mT 346 (by decide +kernel) (by decide +kernel), iC_RX0, ⟨by decide +kernel, by decide +kernel, by decide +kernel⟩, by decide⟩, bg_mT 344 (by decide +kernel) (by decide +kernel), bg_mT 345 (by decide +kernel) (by decide +kernel), rfl⟩
def mX6_setThickness : bg_P := (yX6_setThickness, cX6_setThickness, 6, (Option.some Jvm.ClassFile.FieldType.int : Option FieldType))
theorem vX6_setThickness : bg_mV mX6_setThickness 6 3 := ⟨⟨bg_mT 350 (by decide +kernel) (by decide +kernel), iC_RX6, ⟨by decide +kernel, by decide +kernel, by decide +kernel⟩, by decide⟩, bg_mT 348 (by decide +kernel) (by decide +kernel), bg_mT 349 (by decide +kernel) (by decide +kernel), rfl⟩
def mX0_putThickness : bg_P := (yX0_putThickness, cX0_putThickness, 3, (Option.none : Option FieldType))
theorem vX0_putThickness : bg_mV mX0_putThickness 0 2 := ⟨⟨bg_mT 354 (by decide +kernel) (by decide +kernel), iC_RX0, ⟨by decide +kernel, by decide +kernel, by decide +kernel⟩, by decide⟩, bg_mT 352 (by decide +kernel) (by decide +kernel), bg_mT 353 (by decide +kernel) (by decide +kernel), rfl⟩
def mX6_cut : bg_P := (yX6_cut, cX6_cut, 9, (Option.some Jvm.ClassFile.FieldType.int : Option FieldType))
theorem vX6_cut : bg_mV mX6_cut 6 3 := ⟨⟨bg_mT 361 (by decide +kernel) (by decide +kernel), iC_RX6, ⟨by decide +kernel, by decide +kernel, by decide +kernel⟩, by decide⟩, bg_mT 359 (by decide +kernel) (by decide +kernel), bg_mT 360 (by decide +kernel) (by decide +kernel), rfl⟩
def mX0_totalThickness : bg_P := (yX0_totalThickness, cX0_totalThickness, 1, (Option.some Jvm.ClassFile.FieldType.int : Option FieldType))
theorem vX0_totalThickness : bg_mV mX0_totalThickness 0 0 := ⟨⟨bg_mT 365 (by decide +kernel) (by decide +kernel), iC_RX0, ⟨by decide +kernel, by decide +kernel, by decide +kernel⟩, by decide⟩, bg_mT 363 (by decide +kernel) (by decide +kernel), bg_mT 364 (by decide +kernel) (by decide +kernel), rfl⟩
def mX0_depthOf : bg_P := (yX0_depthOf, cX0_depthOf, 4, (Option.some Jvm.ClassFile.FieldType.int : Option FieldType))
theorem vX0_depthOf : bg_mV mX0_depthOf 0 1 := ⟨⟨bg_mT 369 (by decide +kernel) (by decide +kernel), iC_RX0, ⟨by decide +kernel, by decide +kernel, by decide +kernel⟩, by decide⟩, bg_mT 367 (by decide +kernel) (by decide +kernel), bg_mT 368 (by decide +kernel) (by decide +kernel), rfl⟩
def mX0_clear : bg_P := (yX0_clear, cX0_clear, 1, (Option.none : Option FieldType))
theorem vX0_clear : bg_mV mX0_clear 0 0 := ⟨⟨bg_mT 374 (by decide +kernel) (by decide +kernel), iC_RX0, ⟨by decide +kernel, by decide +kernel, by decide +kernel⟩, by decide⟩, bg_mT 372 (by decide +kernel) (by decide +kernel), bg_mT 373 (by decide +kernel) (by decide +kernel), rfl⟩
def mX0_appendPart : bg_P := (yX0_appendPart, cX0_appendPart, 8, (Option.some Jvm.ClassFile.FieldType.boolean : Option FieldType))
theorem vX0_appendPart : bg_mV mX0_appendPart 0 3 := ⟨⟨bg_mT 378 (by decide +kernel) (by decide +kernel), iC_RX0, ⟨by decide +kernel, by decide +kernel, by decide +kernel⟩, by decide⟩, bg_mT 376 (by decide +kernel) (by decide +kernel), bg_mT 377 (by decide +kernel) (by decide +kernel), rfl⟩
def mX0_markOf : bg_P := (yX0_markOf, cX0_markOf, 2, (Option.some Jvm.ClassFile.FieldType.int : Option FieldType))
theorem vX0_markOf : bg_mV mX0_markOf 0 1 := ⟨⟨bg_mT 385 (by decide +kernel) (by decide +kernel), iC_RX0, ⟨by decide +kernel, by decide +kernel, by decide +kernel⟩, by decide⟩, bg_mT 383 (by decide +kernel) (by decide +kernel), bg_mT 384 (by decide +kernel) (by decide +kernel), rfl⟩
def mX6_appendCharacter : bg_P := (yX6_appendCharacter, cX6_appendCharacter, 2, (Option.some Jvm.ClassFile.FieldType.int : Option FieldType))
theorem vX6_appendCharacter : bg_mV mX6_appendCharacter 6 1 := ⟨⟨bg_mT 392 (by decide +kernel) (by decide +kernel), iC_RX6, ⟨by decide +kernel, by decide +kernel, by decide +kernel⟩, by decide⟩, bg_mT 390 (by decide +kernel) (by decide +kernel), bg_mT 391 (by decide +kernel) (by decide +kernel), rfl⟩
def mX5_append : bg_P := (yX5_append, cX5_append, 2, (Option.some Jvm.ClassFile.FieldType.boolean : Option FieldType))
theorem vX5_append : bg_mV mX5_append 5 1 := ⟨⟨bg_mT 396 (by decide +kernel) (by decide +kernel), iC_RX5, ⟨by decide +kernel, by decide +kernel, by decide +kernel⟩, by decide⟩, bg_mT 394 (by decide +kernel) (by decide +kernel), bg_mT 395 (by decide +kernel) (by decide +kernel), rfl⟩
def mX5_size : bg_P := (yX5_size, cX5_size, 1, (Option.some Jvm.ClassFile.FieldType.int : Option FieldType))
theorem vX5_size : bg_mV mX5_size 5 0 := ⟨⟨bg_mT 400 (by decide +kernel) (by decide +kernel), iC_RX5, ⟨by decide +kernel, by decide +kernel, by decide +kernel⟩, by decide⟩, bg_mT 398 (by decide +kernel) (by decide +kernel), bg_mT 399 (by decide +kernel) (by decide +kernel), rfl⟩
def mX6_clearText : bg_P := (yX6_clearText, cX6_clearText, 2, (Option.some Jvm.ClassFile.FieldType.int : Option FieldType))
theorem vX6_clearText : bg_mV mX6_clearText 6 0 := ⟨⟨bg_mT 404 (by decide +kernel) (by decide +kernel), iC_RX6, ⟨by decide +kernel, by decide +kernel, by decide +kernel⟩, by decide⟩, bg_mT 402 (by decide +kernel) (by decide +kernel), bg_mT 403 (by decide +kernel) (by decide +kernel), rfl⟩
def mX5_clear : bg_P := (yX5_clear, cX5_clear, 1, (Option.none : Option FieldType))
theorem vX5_clear : bg_mV mX5_clear 5 0 := ⟨⟨bg_mT 408 (by decide +kernel) (by decide +kernel), iC_RX5, ⟨by decide +kernel, by decide +kernel, by decide +kernel⟩, by decide⟩, bg_mT 406 (by decide +kernel) (by decide +kernel), bg_mT 407 (by decide +kernel) (by decide +kernel), rfl⟩
def mX6_load : bg_P := (yX6_load, cX6_load, 2, (Option.some Jvm.ClassFile.FieldType.int : Option FieldType))
theorem vX6_load : bg_mV mX6_load 6 0 := ⟨⟨bg_mT 412 (by decide +kernel) (by decide +kernel), iC_RX6, ⟨by decide +kernel, by decide +kernel, by decide +kernel⟩, by decide⟩, bg_mT 410 (by decide +kernel) (by decide +kernel), bg_mT 411 (by decide +kernel) (by decide +kernel), rfl⟩
def mX5_parse : bg_P := (yX5_parse, cX5_parse, 1, (Option.some Jvm.ClassFile.FieldType.boolean : Option FieldType))
theorem vX5_parse : bg_mV mX5_parse 5 0 := ⟨⟨bg_mT 416 (by decide +kernel) (by decide +kernel), iC_RX5, ⟨by decide +kernel, by decide +kernel, by decide +kernel⟩, by decide⟩, bg_mT 414 (by decide +kernel) (by decide +kernel), bg_mT 415 (by decide +kernel) (by decide +kernel), rfl⟩
def mX5_parseHole : bg_P := (yX5_parseHole, cX5_parseHole, 2, (Option.some Jvm.ClassFile.FieldType.boolean : Option FieldType))
theorem vX5_parseHole : bg_mV mX5_parseHole 5 0 := ⟨⟨bg_mT 421 (by decide +kernel) (by decide +kernel), iC_RX5, ⟨by decide +kernel, by decide +kernel, by decide +kernel⟩, by decide⟩, bg_mT 420 (by decide +kernel) (by decide +kernel), bg_mT 0 (by decide +kernel) (by decide +kernel), rfl⟩
def mX5_skipSpaces : bg_P := (yX5_skipSpaces, cX5_skipSpaces, 1, (Option.none : Option FieldType))
theorem vX5_skipSpaces : bg_mV mX5_skipSpaces 5 0 := ⟨⟨bg_mT 425 (by decide +kernel) (by decide +kernel), iC_RX5, ⟨by decide +kernel, by decide +kernel, by decide +kernel⟩, by decide⟩, bg_mT 424 (by decide +kernel) (by decide +kernel), bg_mT 1 (by decide +kernel) (by decide +kernel), rfl⟩
def mX5_current : bg_P := (yX5_current, cX5_current, 1, (Option.some Jvm.ClassFile.FieldType.int : Option FieldType))
theorem vX5_current : bg_mV mX5_current 5 0 := ⟨⟨bg_mT 429 (by decide +kernel) (by decide +kernel), iC_RX5, ⟨by decide +kernel, by decide +kernel, by decide +kernel⟩, by decide⟩, bg_mT 428 (by decide +kernel) (by decide +kernel), bg_mT 2 (by decide +kernel) (by decide +kernel), rfl⟩
def mX5_parseSign : bg_P := (yX5_parseSign, cX5_parseSign, 2, (Option.some Jvm.ClassFile.FieldType.boolean : Option FieldType))
theorem vX5_parseSign : bg_mV mX5_parseSign 5 1 := ⟨⟨bg_mT 434 (by decide +kernel) (by decide +kernel), iC_RX5, ⟨by decide +kernel, by decide +kernel, by decide +kernel⟩, by decide⟩, bg_mT 433 (by decide +kernel) (by decide +kernel), bg_mT 3 (by decide +kernel) (by decide +kernel), rfl⟩
def mX5_parseBeds : bg_P := (yX5_parseBeds, cX5_parseBeds, 4, (Option.some Jvm.ClassFile.FieldType.boolean : Option FieldType))
theorem vX5_parseBeds : bg_mV mX5_parseBeds 5 0 := ⟨⟨bg_mT 438 (by decide +kernel) (by decide +kernel), iC_RX5, ⟨by decide +kernel, by decide +kernel, by decide +kernel⟩, by decide⟩, bg_mT 437 (by decide +kernel) (by decide +kernel), bg_mT 4 (by decide +kernel) (by decide +kernel), rfl⟩
def mX5_parseThickness : bg_P := (yX5_parseThickness, cX5_parseThickness, 3, (Option.some Jvm.ClassFile.FieldType.int : Option FieldType))
theorem vX5_parseThickness : bg_mV mX5_parseThickness 5 0 := ⟨⟨bg_mT 443 (by decide +kernel) (by decide +kernel), iC_RX5, ⟨by decide +kernel, by decide +kernel, by decide +kernel⟩, by decide⟩, bg_mT 442 (by decide +kernel) (by decide +kernel), bg_mT 5 (by decide +kernel) (by decide +kernel), rfl⟩
def mX5_parsedTo : bg_P := (yX5_parsedTo, cX5_parsedTo, 1, (Option.some Jvm.ClassFile.FieldType.int : Option FieldType))
theorem vX5_parsedTo : bg_mV mX5_parsedTo 5 0 := ⟨⟨bg_mT 449 (by decide +kernel) (by decide +kernel), iC_RX5, ⟨by decide +kernel, by decide +kernel, by decide +kernel⟩, by decide⟩, bg_mT 447 (by decide +kernel) (by decide +kernel), bg_mT 448 (by decide +kernel) (by decide +kernel), rfl⟩
def mX5_parsedHole : bg_P := (yX5_parsedHole, cX5_parsedHole, 1, (Option.some Jvm.ClassFile.FieldType.int : Option FieldType))
theorem vX5_parsedHole : bg_mV mX5_parsedHole 5 0 := ⟨⟨bg_mT 453 (by decide +kernel) (by decide +kernel), iC_RX5, ⟨by decide +kernel, by decide +kernel, by decide +kernel⟩, by decide⟩, bg_mT 451 (by decide +kernel) (by decide +kernel), bg_mT 452 (by decide +kernel) (by decide +kernel), rfl⟩
def mX5_parsedBeds : bg_P := (yX5_parsedBeds, cX5_parsedBeds, 1, (Option.some (Jvm.ClassFile.FieldType.object "BoreholeColumns$Column") : Option FieldType))
theorem vX5_parsedBeds : bg_mV mX5_parsedBeds 5 0 := ⟨⟨bg_mT 457 (by decide +kernel) (by decide +kernel), iC_RX5, ⟨by decide +kernel, by decide +kernel, by decide +kernel⟩, by decide⟩, bg_mT 455 (by decide +kernel) (by decide +kernel), bg_mT 456 (by decide +kernel) (by decide +kernel), rfl⟩
def mX6_keep : bg_P := (yX6_keep, cX6_keep, 2, (Option.some Jvm.ClassFile.FieldType.int : Option FieldType))
theorem vX6_keep : bg_mV mX6_keep 6 1 := ⟨⟨bg_mT 461 (by decide +kernel) (by decide +kernel), iC_RX6, ⟨by decide +kernel, by decide +kernel, by decide +kernel⟩, by decide⟩, bg_mT 459 (by decide +kernel) (by decide +kernel), bg_mT 460 (by decide +kernel) (by decide +kernel), rfl⟩
def mX6_isImage : bg_P := (yX6_isImage, cX6_isImage, 1, (Option.some Jvm.ClassFile.FieldType.boolean : Option FieldType))
theorem sX6_isImage : bg_mS mX6_isImage 1 := ⟨⟨bg_mT 464 (by decide +kernel) (by decide +kernel), iC_RX6, ⟨by decide +kernel, by decide +kernel, by decide +kernel⟩, by decide⟩, bg_mT 463 (by decide +kernel) (by decide +kernel)⟩
def mX4_sumOfSizes : bg_P := (yX4_sumOfSizes, cX4_sumOfSizes, 3, (Option.some Jvm.ClassFile.FieldType.int : Option FieldType))
theorem vX4_sumOfSizes : bg_mV mX4_sumOfSizes 4 0 := ⟨⟨bg_mT 469 (by decide +kernel) (by decide +kernel), iC_RX4, ⟨by decide +kernel, by decide +kernel, by decide +kernel⟩, by decide⟩, bg_mT 467 (by decide +kernel) (by decide +kernel), bg_mT 468 (by decide +kernel) (by decide +kernel), rfl⟩
def mX6_back : bg_P := (yX6_back, cX6_back, 2, (Option.some Jvm.ClassFile.FieldType.int : Option FieldType))
theorem vX6_back : bg_mV mX6_back 6 1 := ⟨⟨bg_mT 474 (by decide +kernel) (by decide +kernel), iC_RX6, ⟨by decide +kernel, by decide +kernel, by decide +kernel⟩, by decide⟩, bg_mT 472 (by decide +kernel) (by decide +kernel), bg_mT 473 (by decide +kernel) (by decide +kernel), rfl⟩
def mX6_undo : bg_P := (yX6_undo, cX6_undo, 1, (Option.some Jvm.ClassFile.FieldType.int : Option FieldType))
theorem vX6_undo : bg_mV mX6_undo 6 0 := ⟨⟨bg_mT 479 (by decide +kernel) (by decide +kernel), iC_RX6, ⟨by decide +kernel, by decide +kernel, by decide +kernel⟩, by decide⟩, bg_mT 477 (by decide +kernel) (by decide +kernel), bg_mT 478 (by decide +kernel) (by decide +kernel), rfl⟩
def mX1_restore : bg_P := (yX1_restore, cX1_restore, 3, (Option.some Jvm.ClassFile.FieldType.boolean : Option FieldType))
theorem vX1_restore : bg_mV mX1_restore 1 1 := ⟨⟨bg_mT 483 (by decide +kernel) (by decide +kernel), iC_RX1, ⟨by decide +kernel, by decide +kernel, by decide +kernel⟩, by decide⟩, bg_mT 481 (by decide +kernel) (by decide +kernel), bg_mT 482 (by decide +kernel) (by decide +kernel), rfl⟩
def mX1_size : bg_P := (yX1_size, cX1_size, 1, (Option.some Jvm.ClassFile.FieldType.int : Option FieldType))
theorem vX1_size : bg_mV mX1_size 1 0 := ⟨⟨bg_mT 487 (by decide +kernel) (by decide +kernel), iC_RX1, ⟨by decide +kernel, by decide +kernel, by decide +kernel⟩, by decide⟩, bg_mT 485 (by decide +kernel) (by decide +kernel), bg_mT 486 (by decide +kernel) (by decide +kernel), rfl⟩
def mX6_count : bg_P := (yX6_count, cX6_count, 2, (Option.some Jvm.ClassFile.FieldType.int : Option FieldType))
theorem vX6_count : bg_mV mX6_count 6 1 := ⟨⟨bg_mT 491 (by decide +kernel) (by decide +kernel), iC_RX6, ⟨by decide +kernel, by decide +kernel, by decide +kernel⟩, by decide⟩, bg_mT 489 (by decide +kernel) (by decide +kernel), bg_mT 490 (by decide +kernel) (by decide +kernel), rfl⟩
def mX4_keyMarkCount : bg_P := (yX4_keyMarkCount, cX4_keyMarkCount, 1, (Option.some Jvm.ClassFile.FieldType.int : Option FieldType))
theorem vX4_keyMarkCount : bg_mV mX4_keyMarkCount 4 0 := ⟨⟨bg_mT 495 (by decide +kernel) (by decide +kernel), iC_RX4, ⟨by decide +kernel, by decide +kernel, by decide +kernel⟩, by decide⟩, bg_mT 493 (by decide +kernel) (by decide +kernel), bg_mT 494 (by decide +kernel) (by decide +kernel), rfl⟩
def mX6_hole : bg_P := (yX6_hole, cX6_hole, 4, (Option.some Jvm.ClassFile.FieldType.int : Option FieldType))
theorem vX6_hole : bg_mV mX6_hole 6 2 := ⟨⟨bg_mT 505 (by decide +kernel) (by decide +kernel), iC_RX6, ⟨by decide +kernel, by decide +kernel, by decide +kernel⟩, by decide⟩, bg_mT 503 (by decide +kernel) (by decide +kernel), bg_mT 504 (by decide +kernel) (by decide +kernel), rfl⟩
def mX6_bed : bg_P := (yX6_bed, cX6_bed, 5, (Option.some Jvm.ClassFile.FieldType.int : Option FieldType))
theorem vX6_bed : bg_mV mX6_bed 6 3 := ⟨⟨bg_mT 509 (by decide +kernel) (by decide +kernel), iC_RX6, ⟨by decide +kernel, by decide +kernel, by decide +kernel⟩, by decide⟩, bg_mT 507 (by decide +kernel) (by decide +kernel), bg_mT 508 (by decide +kernel) (by decide +kernel), rfl⟩
def mX0_elevationOf : bg_P := (yX0_elevationOf, cX0_elevationOf, 2, (Option.some Jvm.ClassFile.FieldType.int : Option FieldType))
theorem vX0_elevationOf : bg_mV mX0_elevationOf 0 1 := ⟨⟨bg_mT 516 (by decide +kernel) (by decide +kernel), iC_RX0, ⟨by decide +kernel, by decide +kernel, by decide +kernel⟩, by decide⟩, bg_mT 514 (by decide +kernel) (by decide +kernel), bg_mT 515 (by decide +kernel) (by decide +kernel), rfl⟩
def mX6_find : bg_P := (yX6_find, cX6_find, 4, (Option.some Jvm.ClassFile.FieldType.int : Option FieldType))
theorem vX6_find : bg_mV mX6_find 6 3 := ⟨⟨bg_mT 520 (by decide +kernel) (by decide +kernel), iC_RX6, ⟨by decide +kernel, by decide +kernel, by decide +kernel⟩, by decide⟩, bg_mT 518 (by decide +kernel) (by decide +kernel), bg_mT 519 (by decide +kernel) (by decide +kernel), rfl⟩
def mX0_bedWithMark : bg_P := (yX0_bedWithMark, cX0_bedWithMark, 5, (Option.some Jvm.ClassFile.FieldType.int : Option FieldType))
theorem vX0_bedWithMark : bg_mV mX0_bedWithMark 0 2 := ⟨⟨bg_mT 524 (by decide +kernel) (by decide +kernel), iC_RX0, ⟨by decide +kernel, by decide +kernel, by decide +kernel⟩, by decide⟩, bg_mT 522 (by decide +kernel) (by decide +kernel), bg_mT 523 (by decide +kernel) (by decide +kernel), rfl⟩
def mX6_account : bg_P := (yX6_account, cX6_account, 2, (Option.some Jvm.ClassFile.FieldType.int : Option FieldType))
theorem vX6_account : bg_mV mX6_account 6 1 := ⟨⟨bg_mT 528 (by decide +kernel) (by decide +kernel), iC_RX6, ⟨by decide +kernel, by decide +kernel, by decide +kernel⟩, by decide⟩, bg_mT 526 (by decide +kernel) (by decide +kernel), bg_mT 527 (by decide +kernel) (by decide +kernel), rfl⟩
def mX4_sumOfLengths : bg_P := (yX4_sumOfLengths, cX4_sumOfLengths, 3, (Option.some Jvm.ClassFile.FieldType.int : Option FieldType))
theorem vX4_sumOfLengths : bg_mV mX4_sumOfLengths 4 0 := ⟨⟨bg_mT 532 (by decide +kernel) (by decide +kernel), iC_RX4, ⟨by decide +kernel, by decide +kernel, by decide +kernel⟩, by decide⟩, bg_mT 530 (by decide +kernel) (by decide +kernel), bg_mT 531 (by decide +kernel) (by decide +kernel), rfl⟩
def mX4_bookedIn : bg_P := (yX4_bookedIn, cX4_bookedIn, 2, (Option.some Jvm.ClassFile.FieldType.int : Option FieldType))
theorem vX4_bookedIn : bg_mV mX4_bookedIn 4 1 := ⟨⟨bg_mT 537 (by decide +kernel) (by decide +kernel), iC_RX4, ⟨by decide +kernel, by decide +kernel, by decide +kernel⟩, by decide⟩, bg_mT 535 (by decide +kernel) (by decide +kernel), bg_mT 536 (by decide +kernel) (by decide +kernel), rfl⟩
def mX6_cost : bg_P := (yX6_cost, cX6_cost, 4, (Option.some Jvm.ClassFile.FieldType.int : Option FieldType))
theorem vX6_cost : bg_mV mX6_cost 6 3 := ⟨⟨bg_mT 541 (by decide +kernel) (by decide +kernel), iC_RX6, ⟨by decide +kernel, by decide +kernel, by decide +kernel⟩, by decide⟩, bg_mT 539 (by decide +kernel) (by decide +kernel), bg_mT 540 (by decide +kernel) (by decide +kernel), rfl⟩
def mX6_arePair : bg_P := (yX6_arePair, cX6_arePair, 2, (Option.some Jvm.ClassFile.FieldType.boolean : Option FieldType))
theorem sX6_arePair : bg_mS mX6_arePair 2 := ⟨⟨bg_mT 544 (by decide +kernel) (by decide +kernel), iC_RX6, ⟨by decide +kernel, by decide +kernel, by decide +kernel⟩, by decide⟩, bg_mT 543 (by decide +kernel) (by decide +kernel)⟩
def mX2_leastCost : bg_P := (yX2_leastCost, cX2_leastCost, 5, (Option.some Jvm.ClassFile.FieldType.int : Option FieldType))
theorem vX2_leastCost : bg_mV mX2_leastCost 2 4 := ⟨⟨bg_mT 548 (by decide +kernel) (by decide +kernel), iC_RX2, ⟨by decide +kernel, by decide +kernel, by decide +kernel⟩, by decide⟩, bg_mT 546 (by decide +kernel) (by decide +kernel), bg_mT 547 (by decide +kernel) (by decide +kernel), rfl⟩
def mX3_take : bg_P := (yX3_take, cX3_take, 6, (Option.none : Option FieldType))
theorem vX3_take : bg_mV mX3_take 3 3 := ⟨⟨bg_mT 552 (by decide +kernel) (by decide +kernel), iC_RX3, ⟨by decide +kernel, by decide +kernel, by decide +kernel⟩, by decide⟩, bg_mT 550 (by decide +kernel) (by decide +kernel), bg_mT 551 (by decide +kernel) (by decide +kernel), rfl⟩
def mX3_costFromTop : bg_P := (yX3_costFromTop, cX3_costFromTop, 5, (Option.some Jvm.ClassFile.FieldType.int : Option FieldType))
theorem vX3_costFromTop : bg_mV mX3_costFromTop 3 0 := ⟨⟨bg_mT 560 (by decide +kernel) (by decide +kernel), iC_RX3, ⟨by decide +kernel, by decide +kernel, by decide +kernel⟩, by decide⟩, bg_mT 558 (by decide +kernel) (by decide +kernel), bg_mT 559 (by decide +kernel) (by decide +kernel), rfl⟩
def mX3_putLeast : bg_P := (yX3_putLeast, cX3_putLeast, 4, (Option.none : Option FieldType))
theorem vX3_putLeast : bg_mV mX3_putLeast 3 3 := ⟨⟨bg_mT 565 (by decide +kernel) (by decide +kernel), iC_RX3, ⟨by decide +kernel, by decide +kernel, by decide +kernel⟩, by decide⟩, bg_mT 564 (by decide +kernel) (by decide +kernel), bg_mT 6 (by decide +kernel) (by decide +kernel), rfl⟩
def mX3_leastAt : bg_P := (yX3_leastAt, cX3_leastAt, 3, (Option.some Jvm.ClassFile.FieldType.int : Option FieldType))
theorem vX3_leastAt : bg_mV mX3_leastAt 3 2 := ⟨⟨bg_mT 570 (by decide +kernel) (by decide +kernel), iC_RX3, ⟨by decide +kernel, by decide +kernel, by decide +kernel⟩, by decide⟩, bg_mT 569 (by decide +kernel) (by decide +kernel), bg_mT 7 (by decide +kernel) (by decide +kernel), rfl⟩
def mX3_stepCost : bg_P := (yX3_stepCost, cX3_stepCost, 5, (Option.some Jvm.ClassFile.FieldType.int : Option FieldType))
theorem vX3_stepCost : bg_mV mX3_stepCost 3 3 := ⟨⟨bg_mT 574 (by decide +kernel) (by decide +kernel), iC_RX3, ⟨by decide +kernel, by decide +kernel, by decide +kernel⟩, by decide⟩, bg_mT 573 (by decide +kernel) (by decide +kernel), bg_mT 8 (by decide +kernel) (by decide +kernel), rfl⟩
def mX3_costOfDifference : bg_P := (yX3_costOfDifference, cX3_costOfDifference, 3, (Option.some Jvm.ClassFile.FieldType.int : Option FieldType))
theorem vX3_costOfDifference : bg_mV mX3_costOfDifference 3 2 := ⟨⟨bg_mT 580 (by decide +kernel) (by decide +kernel), iC_RX3, ⟨by decide +kernel, by decide +kernel, by decide +kernel⟩, by decide⟩, bg_mT 579 (by decide +kernel) (by decide +kernel), bg_mT 9 (by decide +kernel) (by decide +kernel), rfl⟩
def mX3_missingCostOf : bg_P := (yX3_missingCostOf, cX3_missingCostOf, 2, (Option.some Jvm.ClassFile.FieldType.int : Option FieldType))
theorem vX3_missingCostOf : bg_mV mX3_missingCostOf 3 1 := ⟨⟨bg_mT 588 (by decide +kernel) (by decide +kernel), iC_RX3, ⟨by decide +kernel, by decide +kernel, by decide +kernel⟩, by decide⟩, bg_mT 587 (by decide +kernel) (by decide +kernel), bg_mT 10 (by decide +kernel) (by decide +kernel), rfl⟩
def mX3_repeatedBed : bg_P := (yX3_repeatedBed, cX3_repeatedBed, 5, (Option.some Jvm.ClassFile.FieldType.int : Option FieldType))
theorem vX3_repeatedBed : bg_mV mX3_repeatedBed 3 2 := ⟨⟨bg_mT 593 (by decide +kernel) (by decide +kernel), iC_RX3, ⟨by decide +kernel, by decide +kernel, by decide +kernel⟩, by decide⟩, bg_mT 591 (by decide +kernel) (by decide +kernel), bg_mT 592 (by decide +kernel) (by decide +kernel), rfl⟩
def mX3_leastAfter : bg_P := (yX3_leastAfter, cX3_leastAfter, 4, (Option.some Jvm.ClassFile.FieldType.int : Option FieldType))
theorem vX3_leastAfter : bg_mV mX3_leastAfter 3 3 := ⟨⟨bg_mT 598 (by decide +kernel) (by decide +kernel), iC_RX3, ⟨by decide +kernel, by decide +kernel, by decide +kernel⟩, by decide⟩, bg_mT 597 (by decide +kernel) (by decide +kernel), bg_mT 11 (by decide +kernel) (by decide +kernel), rfl⟩
def mX3_nextOfA : bg_P := (yX3_nextOfA, cX3_nextOfA, 2, (Option.some Jvm.ClassFile.FieldType.int : Option FieldType))
theorem sX3_nextOfA : bg_mS mX3_nextOfA 2 := ⟨⟨bg_mT 601 (by decide +kernel) (by decide +kernel), iC_RX3, ⟨by decide +kernel, by decide +kernel, by decide +kernel⟩, by decide⟩, bg_mT 600 (by decide +kernel) (by decide +kernel)⟩
def mX3_nextOfB : bg_P := (yX3_nextOfB, cX3_nextOfB, 2, (Option.some Jvm.ClassFile.FieldType.int : Option FieldType))
theorem sX3_nextOfB : bg_mS mX3_nextOfB 2 := ⟨⟨bg_mT 604 (by decide +kernel) (by decide +kernel), iC_RX3, ⟨by decide +kernel, by decide +kernel, by decide +kernel⟩, by decide⟩, bg_mT 603 (by decide +kernel) (by decide +kernel)⟩
def mX3_costFromBottom : bg_P := (yX3_costFromBottom, cX3_costFromBottom, 5, (Option.some Jvm.ClassFile.FieldType.int : Option FieldType))
theorem vX3_costFromBottom : bg_mV mX3_costFromBottom 3 0 := ⟨⟨bg_mT 608 (by decide +kernel) (by decide +kernel), iC_RX3, ⟨by decide +kernel, by decide +kernel, by decide +kernel⟩, by decide⟩, bg_mT 606 (by decide +kernel) (by decide +kernel), bg_mT 607 (by decide +kernel) (by decide +kernel), rfl⟩
def mX6_why : bg_P := (yX6_why, cX6_why, 5, (Option.some Jvm.ClassFile.FieldType.int : Option FieldType))
theorem vX6_why : bg_mV mX6_why 6 4 := ⟨⟨bg_mT 613 (by decide +kernel) (by decide +kernel), iC_RX6, ⟨by decide +kernel, by decide +kernel, by decide +kernel⟩, by decide⟩, bg_mT 611 (by decide +kernel) (by decide +kernel), bg_mT 612 (by decide +kernel) (by decide +kernel), rfl⟩
def mX6_isBedOfPair : bg_P := (yX6_isBedOfPair, cX6_isBedOfPair, 5, (Option.some Jvm.ClassFile.FieldType.boolean : Option FieldType))
theorem vX6_isBedOfPair : bg_mV mX6_isBedOfPair 6 4 := ⟨⟨bg_mT 617 (by decide +kernel) (by decide +kernel), iC_RX6, ⟨by decide +kernel, by decide +kernel, by decide +kernel⟩, by decide⟩, bg_mT 616 (by decide +kernel) (by decide +kernel), bg_mT 12 (by decide +kernel) (by decide +kernel), rfl⟩
def mX2_solve : bg_P := (yX2_solve, cX2_solve, 8, (Option.none : Option FieldType))
theorem vX2_solve : bg_mV mX2_solve 2 3 := ⟨⟨bg_mT 621 (by decide +kernel) (by decide +kernel), iC_RX2, ⟨by decide +kernel, by decide +kernel, by decide +kernel⟩, by decide⟩, bg_mT 619 (by decide +kernel) (by decide +kernel), bg_mT 620 (by decide +kernel) (by decide +kernel), rfl⟩
def mX2_settleA : bg_P := (yX2_settleA, cX2_settleA, 4, (Option.none : Option FieldType))
theorem vX2_settleA : bg_mV mX2_settleA 2 3 := ⟨⟨bg_mT 627 (by decide +kernel) (by decide +kernel), iC_RX2, ⟨by decide +kernel, by decide +kernel, by decide +kernel⟩, by decide⟩, bg_mT 626 (by decide +kernel) (by decide +kernel), bg_mT 13 (by decide +kernel) (by decide +kernel), rfl⟩
def mX2_settleB : bg_P := (yX2_settleB, cX2_settleB, 4, (Option.none : Option FieldType))
theorem vX2_settleB : bg_mV mX2_settleB 2 3 := ⟨⟨bg_mT 631 (by decide +kernel) (by decide +kernel), iC_RX2, ⟨by decide +kernel, by decide +kernel, by decide +kernel⟩, by decide⟩, bg_mT 630 (by decide +kernel) (by decide +kernel), bg_mT 14 (by decide +kernel) (by decide +kernel), rfl⟩
def mX3_firstBestStep : bg_P := (yX3_firstBestStep, cX3_firstBestStep, 4, (Option.some Jvm.ClassFile.FieldType.int : Option FieldType))
theorem vX3_firstBestStep : bg_mV mX3_firstBestStep 3 2 := ⟨⟨bg_mT 635 (by decide +kernel) (by decide +kernel), iC_RX3, ⟨by decide +kernel, by decide +kernel, by decide +kernel⟩, by decide⟩, bg_mT 633 (by decide +kernel) (by decide +kernel), bg_mT 634 (by decide +kernel) (by decide +kernel), rfl⟩
def mX2_settle : bg_P := (yX2_settle, cX2_settle, 4, (Option.none : Option FieldType))
theorem vX2_settle : bg_mV mX2_settle 2 3 := ⟨⟨bg_mT 639 (by decide +kernel) (by decide +kernel), iC_RX2, ⟨by decide +kernel, by decide +kernel, by decide +kernel⟩, by decide⟩, bg_mT 638 (by decide +kernel) (by decide +kernel), bg_mT 15 (by decide +kernel) (by decide +kernel), rfl⟩
def mX2_fateOf : bg_P := (yX2_fateOf, cX2_fateOf, 3, (Option.some Jvm.ClassFile.FieldType.int : Option FieldType))
theorem vX2_fateOf : bg_mV mX2_fateOf 2 2 := ⟨⟨bg_mT 646 (by decide +kernel) (by decide +kernel), iC_RX2, ⟨by decide +kernel, by decide +kernel, by decide +kernel⟩, by decide⟩, bg_mT 644 (by decide +kernel) (by decide +kernel), bg_mT 645 (by decide +kernel) (by decide +kernel), rfl⟩
def mX6_partner : bg_P := (yX6_partner, cX6_partner, 5, (Option.some Jvm.ClassFile.FieldType.int : Option FieldType))
theorem vX6_partner : bg_mV mX6_partner 6 4 := ⟨⟨bg_mT 650 (by decide +kernel) (by decide +kernel), iC_RX6, ⟨by decide +kernel, by decide +kernel, by decide +kernel⟩, by decide⟩, bg_mT 648 (by decide +kernel) (by decide +kernel), bg_mT 649 (by decide +kernel) (by decide +kernel), rfl⟩
def mX2_partnerOf : bg_P := (yX2_partnerOf, cX2_partnerOf, 3, (Option.some Jvm.ClassFile.FieldType.int : Option FieldType))
theorem vX2_partnerOf : bg_mV mX2_partnerOf 2 2 := ⟨⟨bg_mT 654 (by decide +kernel) (by decide +kernel), iC_RX2, ⟨by decide +kernel, by decide +kernel, by decide +kernel⟩, by decide⟩, bg_mT 652 (by decide +kernel) (by decide +kernel), bg_mT 653 (by decide +kernel) (by decide +kernel), rfl⟩
def mX6_matched : bg_P := (yX6_matched, cX6_matched, 4, (Option.some Jvm.ClassFile.FieldType.int : Option FieldType))
theorem vX6_matched : bg_mV mX6_matched 6 3 := ⟨⟨bg_mT 658 (by decide +kernel) (by decide +kernel), iC_RX6, ⟨by decide +kernel, by decide +kernel, by decide +kernel⟩, by decide⟩, bg_mT 656 (by decide +kernel) (by decide +kernel), bg_mT 657 (by decide +kernel) (by decide +kernel), rfl⟩
def mX2_countFates : bg_P := (yX2_countFates, cX2_countFates, 5, (Option.some Jvm.ClassFile.FieldType.int : Option FieldType))
theorem vX2_countFates : bg_mV mX2_countFates 2 2 := ⟨⟨bg_mT 662 (by decide +kernel) (by decide +kernel), iC_RX2, ⟨by decide +kernel, by decide +kernel, by decide +kernel⟩, by decide⟩, bg_mT 660 (by decide +kernel) (by decide +kernel), bg_mT 661 (by decide +kernel) (by decide +kernel), rfl⟩
def mX2_faultCount : bg_P := (yX2_faultCount, cX2_faultCount, 3, (Option.some Jvm.ClassFile.FieldType.int : Option FieldType))
theorem vX2_faultCount : bg_mV mX2_faultCount 2 0 := ⟨⟨bg_mT 667 (by decide +kernel) (by decide +kernel), iC_RX2, ⟨by decide +kernel, by decide +kernel, by decide +kernel⟩, by decide⟩, bg_mT 665 (by decide +kernel) (by decide +kernel), bg_mT 666 (by decide +kernel) (by decide +kernel), rfl⟩
def mX2_hasFault : bg_P := (yX2_hasFault, cX2_hasFault, 2, (Option.some Jvm.ClassFile.FieldType.boolean : Option FieldType))
theorem vX2_hasFault : bg_mV mX2_hasFault 2 1 := ⟨⟨bg_mT 671 (by decide +kernel) (by decide +kernel), iC_RX2, ⟨by decide +kernel, by decide +kernel, by decide +kernel⟩, by decide⟩, bg_mT 670 (by decide +kernel) (by decide +kernel), bg_mT 16 (by decide +kernel) (by decide +kernel), rfl⟩
def mX2_hasThrow : bg_P := (yX2_hasThrow, cX2_hasThrow, 2, (Option.some Jvm.ClassFile.FieldType.boolean : Option FieldType))
theorem vX2_hasThrow : bg_mV mX2_hasThrow 2 1 := ⟨⟨bg_mT 675 (by decide +kernel) (by decide +kernel), iC_RX2, ⟨by decide +kernel, by decide +kernel, by decide +kernel⟩, by decide⟩, bg_mT 674 (by decide +kernel) (by decide +kernel), bg_mT 17 (by decide +kernel) (by decide +kernel), rfl⟩
def mX2_nextMatch : bg_P := (yX2_nextMatch, cX2_nextMatch, 3, (Option.some Jvm.ClassFile.FieldType.int : Option FieldType))
theorem vX2_nextMatch : bg_mV mX2_nextMatch 2 1 := ⟨⟨bg_mT 679 (by decide +kernel) (by decide +kernel), iC_RX2, ⟨by decide +kernel, by decide +kernel, by decide +kernel⟩, by decide⟩, bg_mT 677 (by decide +kernel) (by decide +kernel), bg_mT 678 (by decide +kernel) (by decide +kernel), rfl⟩
def mX2_throwBelow : bg_P := (yX2_throwBelow, cX2_throwBelow, 5, (Option.some Jvm.ClassFile.FieldType.int : Option FieldType))
theorem vX2_throwBelow : bg_mV mX2_throwBelow 2 1 := ⟨⟨bg_mT 683 (by decide +kernel) (by decide +kernel), iC_RX2, ⟨by decide +kernel, by decide +kernel, by decide +kernel⟩, by decide⟩, bg_mT 681 (by decide +kernel) (by decide +kernel), bg_mT 682 (by decide +kernel) (by decide +kernel), rfl⟩
def mX3_columnA : bg_P := (yX3_columnA, cX3_columnA, 1, (Option.some (Jvm.ClassFile.FieldType.object "BoreholeColumns$Column") : Option FieldType))
theorem vX3_columnA : bg_mV mX3_columnA 3 0 := ⟨⟨bg_mT 687 (by decide +kernel) (by decide +kernel), iC_RX3, ⟨by decide +kernel, by decide +kernel, by decide +kernel⟩, by decide⟩, bg_mT 685 (by decide +kernel) (by decide +kernel), bg_mT 686 (by decide +kernel) (by decide +kernel), rfl⟩
def mX3_columnB : bg_P := (yX3_columnB, cX3_columnB, 1, (Option.some (Jvm.ClassFile.FieldType.object "BoreholeColumns$Column") : Option FieldType))
theorem vX3_columnB : bg_mV mX3_columnB 3 0 := ⟨⟨bg_mT 692 (by decide +kernel) (by decide +kernel), iC_RX3, ⟨by decide +kernel, by decide +kernel, by decide +kernel⟩, by decide⟩, bg_mT 690 (by decide +kernel) (by decide +kernel), bg_mT 691 (by decide +kernel) (by decide +kernel), rfl⟩
def mX6_fault : bg_P := (yX6_fault, cX6_fault, 6, (Option.some Jvm.ClassFile.FieldType.int : Option FieldType))
theorem vX6_fault : bg_mV mX6_fault 6 4 := ⟨⟨bg_mT 698 (by decide +kernel) (by decide +kernel), iC_RX6, ⟨by decide +kernel, by decide +kernel, by decide +kernel⟩, by decide⟩, bg_mT 696 (by decide +kernel) (by decide +kernel), bg_mT 697 (by decide +kernel) (by decide +kernel), rfl⟩
def mX2_bedAheadOfFault : bg_P := (yX2_bedAheadOfFault, cX2_bedAheadOfFault, 4, (Option.some Jvm.ClassFile.FieldType.int : Option FieldType))
theorem vX2_bedAheadOfFault : bg_mV mX2_bedAheadOfFault 2 1 := ⟨⟨bg_mT 702 (by decide +kernel) (by decide +kernel), iC_RX2, ⟨by decide +kernel, by decide +kernel, by decide +kernel⟩, by decide⟩, bg_mT 700 (by decide +kernel) (by decide +kernel), bg_mT 701 (by decide +kernel) (by decide +kernel), rfl⟩
def mX2_reasonBelow : bg_P := (yX2_reasonBelow, cX2_reasonBelow, 6, (Option.some Jvm.ClassFile.FieldType.int : Option FieldType))
theorem vX2_reasonBelow : bg_mV mX2_reasonBelow 2 1 := ⟨⟨bg_mT 707 (by decide +kernel) (by decide +kernel), iC_RX2, ⟨by decide +kernel, by decide +kernel, by decide +kernel⟩, by decide⟩, bg_mT 705 (by decide +kernel) (by decide +kernel), bg_mT 706 (by decide +kernel) (by decide +kernel), rfl⟩
def mX6_sumOfThrows : bg_P := (yX6_sumOfThrows, cX6_sumOfThrows, 4, (Option.some Jvm.ClassFile.FieldType.int : Option FieldType))
theorem vX6_sumOfThrows : bg_mV mX6_sumOfThrows 6 3 := ⟨⟨bg_mT 712 (by decide +kernel) (by decide +kernel), iC_RX6, ⟨by decide +kernel, by decide +kernel, by decide +kernel⟩, by decide⟩, bg_mT 710 (by decide +kernel) (by decide +kernel), bg_mT 711 (by decide +kernel) (by decide +kernel), rfl⟩
def mX2_totalThrow : bg_P := (yX2_totalThrow, cX2_totalThrow, 4, (Option.some Jvm.ClassFile.FieldType.int : Option FieldType))
theorem vX2_totalThrow : bg_mV mX2_totalThrow 2 1 := ⟨⟨bg_mT 717 (by decide +kernel) (by decide +kernel), iC_RX2, ⟨by decide +kernel, by decide +kernel, by decide +kernel⟩, by decide⟩, bg_mT 715 (by decide +kernel) (by decide +kernel), bg_mT 716 (by decide +kernel) (by decide +kernel), rfl⟩
def mX2_changeOfElevations : bg_P := (yX2_changeOfElevations, cX2_changeOfElevations, 4, (Option.some Jvm.ClassFile.FieldType.int : Option FieldType))
theorem vX2_changeOfElevations : bg_mV mX2_changeOfElevations 2 0 := ⟨⟨bg_mT 721 (by decide +kernel) (by decide +kernel), iC_RX2, ⟨by decide +kernel, by decide +kernel, by decide +kernel⟩, by decide⟩, bg_mT 719 (by decide +kernel) (by decide +kernel), bg_mT 720 (by decide +kernel) (by decide +kernel), rfl⟩
def mX2_differenceOfElevations : bg_P := (yX2_differenceOfElevations, cX2_differenceOfElevations, 2, (Option.some Jvm.ClassFile.FieldType.int : Option FieldType))
theorem vX2_differenceOfElevations : bg_mV mX2_differenceOfElevations 2 1 := ⟨⟨bg_mT 725 (by decide +kernel) (by decide +kernel), iC_RX2, ⟨by decide +kernel, by decide +kernel, by decide +kernel⟩, by decide⟩, bg_mT 724 (by decide +kernel) (by decide +kernel), bg_mT 18 (by decide +kernel) (by decide +kernel), rfl⟩
def mX6_nearest : bg_P := (yX6_nearest, cX6_nearest, 7, (Option.some Jvm.ClassFile.FieldType.int : Option FieldType))
theorem vX6_nearest : bg_mV mX6_nearest 6 2 := ⟨⟨bg_mT 730 (by decide +kernel) (by decide +kernel), iC_RX6, ⟨by decide +kernel, by decide +kernel, by decide +kernel⟩, by decide⟩, bg_mT 728 (by decide +kernel) (by decide +kernel), bg_mT 729 (by decide +kernel) (by decide +kernel), rfl⟩
def mX6_closed : bg_P := (yX6_closed, cX6_closed, 8, (Option.some Jvm.ClassFile.FieldType.int : Option FieldType))
theorem vX6_closed : bg_mV mX6_closed 6 3 := ⟨⟨bg_mT 735 (by decide +kernel) (by decide +kernel), iC_RX6, ⟨by decide +kernel, by decide +kernel, by decide +kernel⟩, by decide⟩, bg_mT 733 (by decide +kernel) (by decide +kernel), bg_mT 734 (by decide +kernel) (by decide +kernel), rfl⟩
def mX7_init : bg_P := (yX7_init, cX7_init, 1, (Option.none : Option FieldType))
theorem bX7_init : bg_mB mX7_init 0 := ⟨bg_mT 740 (by decide +kernel) (by decide +kernel), iC_RX7, ⟨by decide +kernel, by decide +kernel, by decide +kernel⟩, by decide⟩
theorem nX7_init : Cond.instanceMethod yX7_init ∈ bg_T := bg_mT 739 (by decide +kernel) (by decide +kernel)
def mX7_setNumber : bg_P := (yX7_setNumber, cX7_setNumber, 3, (Option.some Jvm.ClassFile.FieldType.int : Option FieldType))
theorem vX7_setNumber : bg_mV mX7_setNumber 7 2 := ⟨⟨bg_mT 815 (by decide +kernel) (by decide +kernel), iC_RX7, ⟨by decide +kernel, by decide +kernel, by decide +kernel⟩, by decide⟩, bg_mT 813 (by decide +kernel) (by decide +kernel), bg_mT 814 (by decide +kernel) (by decide +kernel), rfl⟩
def mX7_in : bg_P := (yX7_in, cX7_in, 3, (Option.some Jvm.ClassFile.FieldType.boolean : Option FieldType))
theorem sX7_in : bg_mS mX7_in 3 := ⟨⟨bg_mT 818 (by decide +kernel) (by decide +kernel), iC_RX7, ⟨by decide +kernel, by decide +kernel, by decide +kernel⟩, by decide⟩, bg_mT 817 (by decide +kernel) (by decide +kernel)⟩
def mX7_mostOf : bg_P := (yX7_mostOf, cX7_mostOf, 1, (Option.some Jvm.ClassFile.FieldType.int : Option FieldType))
theorem sX7_mostOf : bg_mS mX7_mostOf 1 := ⟨⟨bg_mT 821 (by decide +kernel) (by decide +kernel), iC_RX7, ⟨by decide +kernel, by decide +kernel, by decide +kernel⟩, by decide⟩, bg_mT 820 (by decide +kernel) (by decide +kernel)⟩
def mX7_puts : bg_P := (yX7_puts, cX7_puts, 4, (Option.some Jvm.ClassFile.FieldType.int : Option FieldType))
theorem vX7_puts : bg_mV mX7_puts 7 2 := ⟨⟨bg_mT 825 (by decide +kernel) (by decide +kernel), iC_RX7, ⟨by decide +kernel, by decide +kernel, by decide +kernel⟩, by decide⟩, bg_mT 824 (by decide +kernel) (by decide +kernel), bg_mT 19 (by decide +kernel) (by decide +kernel), rfl⟩
def mX7_saves : bg_P := (yX7_saves, cX7_saves, 2, (Option.none : Option FieldType))
theorem vX7_saves : bg_mV mX7_saves 7 0 := ⟨⟨bg_mT 829 (by decide +kernel) (by decide +kernel), iC_RX7, ⟨by decide +kernel, by decide +kernel, by decide +kernel⟩, by decide⟩, bg_mT 828 (by decide +kernel) (by decide +kernel), bg_mT 20 (by decide +kernel) (by decide +kernel), rfl⟩
def mX7_setKey : bg_P := (yX7_setKey, cX7_setKey, 4, (Option.some Jvm.ClassFile.FieldType.int : Option FieldType))
theorem vX7_setKey : bg_mV mX7_setKey 7 2 := ⟨⟨bg_mT 834 (by decide +kernel) (by decide +kernel), iC_RX7, ⟨by decide +kernel, by decide +kernel, by decide +kernel⟩, by decide⟩, bg_mT 832 (by decide +kernel) (by decide +kernel), bg_mT 833 (by decide +kernel) (by decide +kernel), rfl⟩
def mX7_isMark : bg_P := (yX7_isMark, cX7_isMark, 1, (Option.some Jvm.ClassFile.FieldType.boolean : Option FieldType))
theorem sX7_isMark : bg_mS mX7_isMark 1 := ⟨⟨bg_mT 837 (by decide +kernel) (by decide +kernel), iC_RX7, ⟨by decide +kernel, by decide +kernel, by decide +kernel⟩, by decide⟩, bg_mT 836 (by decide +kernel) (by decide +kernel)⟩
def mX7_setCollar : bg_P := (yX7_setCollar, cX7_setCollar, 3, (Option.some Jvm.ClassFile.FieldType.int : Option FieldType))
theorem vX7_setCollar : bg_mV mX7_setCollar 7 2 := ⟨⟨bg_mT 841 (by decide +kernel) (by decide +kernel), iC_RX7, ⟨by decide +kernel, by decide +kernel, by decide +kernel⟩, by decide⟩, bg_mT 839 (by decide +kernel) (by decide +kernel), bg_mT 840 (by decide +kernel) (by decide +kernel), rfl⟩
def mX7_isHole : bg_P := (yX7_isHole, cX7_isHole, 1, (Option.some Jvm.ClassFile.FieldType.boolean : Option FieldType))
theorem sX7_isHole : bg_mS mX7_isHole 1 := ⟨⟨bg_mT 844 (by decide +kernel) (by decide +kernel), iC_RX7, ⟨by decide +kernel, by decide +kernel, by decide +kernel⟩, by decide⟩, bg_mT 843 (by decide +kernel) (by decide +kernel)⟩
def mX7_addBed : bg_P := (yX7_addBed, cX7_addBed, 5, (Option.some Jvm.ClassFile.FieldType.int : Option FieldType))
theorem vX7_addBed : bg_mV mX7_addBed 7 4 := ⟨⟨bg_mT 848 (by decide +kernel) (by decide +kernel), iC_RX7, ⟨by decide +kernel, by decide +kernel, by decide +kernel⟩, by decide⟩, bg_mT 846 (by decide +kernel) (by decide +kernel), bg_mT 847 (by decide +kernel) (by decide +kernel), rfl⟩
def mX7_adds : bg_P := (yX7_adds, cX7_adds, 6, (Option.none : Option FieldType))
theorem vX7_adds : bg_mV mX7_adds 7 4 := ⟨⟨bg_mT 853 (by decide +kernel) (by decide +kernel), iC_RX7, ⟨by decide +kernel, by decide +kernel, by decide +kernel⟩, by decide⟩, bg_mT 852 (by decide +kernel) (by decide +kernel), bg_mT 21 (by decide +kernel) (by decide +kernel), rfl⟩
def mX7_at : bg_P := (yX7_at, cX7_at, 2, (Option.some Jvm.ClassFile.FieldType.int : Option FieldType))
theorem sX7_at : bg_mS mX7_at 2 := ⟨⟨bg_mT 856 (by decide +kernel) (by decide +kernel), iC_RX7, ⟨by decide +kernel, by decide +kernel, by decide +kernel⟩, by decide⟩, bg_mT 855 (by decide +kernel) (by decide +kernel)⟩
def mX7_comes : bg_P := (yX7_comes, cX7_comes, 3, (Option.none : Option FieldType))
theorem vX7_comes : bg_mV mX7_comes 7 2 := ⟨⟨bg_mT 860 (by decide +kernel) (by decide +kernel), iC_RX7, ⟨by decide +kernel, by decide +kernel, by decide +kernel⟩, by decide⟩, bg_mT 859 (by decide +kernel) (by decide +kernel), bg_mT 22 (by decide +kernel) (by decide +kernel), rfl⟩
def mX7_removeBed : bg_P := (yX7_removeBed, cX7_removeBed, 5, (Option.some Jvm.ClassFile.FieldType.int : Option FieldType))
theorem vX7_removeBed : bg_mV mX7_removeBed 7 2 := ⟨⟨bg_mT 864 (by decide +kernel) (by decide +kernel), iC_RX7, ⟨by decide +kernel, by decide +kernel, by decide +kernel⟩, by decide⟩, bg_mT 862 (by decide +kernel) (by decide +kernel), bg_mT 863 (by decide +kernel) (by decide +kernel), rfl⟩
def mX7_isBed : bg_P := (yX7_isBed, cX7_isBed, 3, (Option.some Jvm.ClassFile.FieldType.boolean : Option FieldType))
theorem vX7_isBed : bg_mV mX7_isBed 7 2 := ⟨⟨bg_mT 868 (by decide +kernel) (by decide +kernel), iC_RX7, ⟨by decide +kernel, by decide +kernel, by decide +kernel⟩, by decide⟩, bg_mT 867 (by decide +kernel) (by decide +kernel), bg_mT 23 (by decide +kernel) (by decide +kernel), rfl⟩
def mX7_thick : bg_P := (yX7_thick, cX7_thick, 3, (Option.some Jvm.ClassFile.FieldType.int : Option FieldType))
theorem vX7_thick : bg_mV mX7_thick 7 2 := ⟨⟨bg_mT 872 (by decide +kernel) (by decide +kernel), iC_RX7, ⟨by decide +kernel, by decide +kernel, by decide +kernel⟩, by decide⟩, bg_mT 871 (by decide +kernel) (by decide +kernel), bg_mT 24 (by decide +kernel) (by decide +kernel), rfl⟩
def mX7_setThickness : bg_P := (yX7_setThickness, cX7_setThickness, 5, (Option.some Jvm.ClassFile.FieldType.int : Option FieldType))
theorem vX7_setThickness : bg_mV mX7_setThickness 7 3 := ⟨⟨bg_mT 876 (by decide +kernel) (by decide +kernel), iC_RX7, ⟨by decide +kernel, by decide +kernel, by decide +kernel⟩, by decide⟩, bg_mT 874 (by decide +kernel) (by decide +kernel), bg_mT 875 (by decide +kernel) (by decide +kernel), rfl⟩
def mX7_cut : bg_P := (yX7_cut, cX7_cut, 6, (Option.some Jvm.ClassFile.FieldType.int : Option FieldType))
theorem vX7_cut : bg_mV mX7_cut 7 3 := ⟨⟨bg_mT 880 (by decide +kernel) (by decide +kernel), iC_RX7, ⟨by decide +kernel, by decide +kernel, by decide +kernel⟩, by decide⟩, bg_mT 878 (by decide +kernel) (by decide +kernel), bg_mT 879 (by decide +kernel) (by decide +kernel), rfl⟩
def mX7_length : bg_P := (yX7_length, cX7_length, 2, (Option.some Jvm.ClassFile.FieldType.int : Option FieldType))
theorem vX7_length : bg_mV mX7_length 7 1 := ⟨⟨bg_mT 884 (by decide +kernel) (by decide +kernel), iC_RX7, ⟨by decide +kernel, by decide +kernel, by decide +kernel⟩, by decide⟩, bg_mT 883 (by decide +kernel) (by decide +kernel), bg_mT 25 (by decide +kernel) (by decide +kernel), rfl⟩
def mX7_depth : bg_P := (yX7_depth, cX7_depth, 5, (Option.some Jvm.ClassFile.FieldType.int : Option FieldType))
theorem vX7_depth : bg_mV mX7_depth 7 2 := ⟨⟨bg_mT 888 (by decide +kernel) (by decide +kernel), iC_RX7, ⟨by decide +kernel, by decide +kernel, by decide +kernel⟩, by decide⟩, bg_mT 887 (by decide +kernel) (by decide +kernel), bg_mT 26 (by decide +kernel) (by decide +kernel), rfl⟩
def mX7_takes : bg_P := (yX7_takes, cX7_takes, 9, (Option.none : Option FieldType))
theorem vX7_takes : bg_mV mX7_takes 7 3 := ⟨⟨bg_mT 892 (by decide +kernel) (by decide +kernel), iC_RX7, ⟨by decide +kernel, by decide +kernel, by decide +kernel⟩, by decide⟩, bg_mT 891 (by decide +kernel) (by decide +kernel), bg_mT 27 (by decide +kernel) (by decide +kernel), rfl⟩
def mX7_mark : bg_P := (yX7_mark, cX7_mark, 3, (Option.some Jvm.ClassFile.FieldType.int : Option FieldType))
theorem vX7_mark : bg_mV mX7_mark 7 2 := ⟨⟨bg_mT 896 (by decide +kernel) (by decide +kernel), iC_RX7, ⟨by decide +kernel, by decide +kernel, by decide +kernel⟩, by decide⟩, bg_mT 895 (by decide +kernel) (by decide +kernel), bg_mT 28 (by decide +kernel) (by decide +kernel), rfl⟩
def mX7_appendCharacter : bg_P := (yX7_appendCharacter, cX7_appendCharacter, 2, (Option.some Jvm.ClassFile.FieldType.int : Option FieldType))
theorem vX7_appendCharacter : bg_mV mX7_appendCharacter 7 1 := ⟨⟨bg_mT 900 (by decide +kernel) (by decide +kernel), iC_RX7, ⟨by decide +kernel, by decide +kernel, by decide +kernel⟩, by decide⟩, bg_mT 898 (by decide +kernel) (by decide +kernel), bg_mT 899 (by decide +kernel) (by decide +kernel), rfl⟩
def mX7_clearText : bg_P := (yX7_clearText, cX7_clearText, 2, (Option.some Jvm.ClassFile.FieldType.int : Option FieldType))
theorem vX7_clearText : bg_mV mX7_clearText 7 0 := ⟨⟨bg_mT 904 (by decide +kernel) (by decide +kernel), iC_RX7, ⟨by decide +kernel, by decide +kernel, by decide +kernel⟩, by decide⟩, bg_mT 902 (by decide +kernel) (by decide +kernel), bg_mT 903 (by decide +kernel) (by decide +kernel), rfl⟩
def mX7_load : bg_P := (yX7_load, cX7_load, 3, (Option.some Jvm.ClassFile.FieldType.int : Option FieldType))
theorem vX7_load : bg_mV mX7_load 7 0 := ⟨⟨bg_mT 908 (by decide +kernel) (by decide +kernel), iC_RX7, ⟨by decide +kernel, by decide +kernel, by decide +kernel⟩, by decide⟩, bg_mT 906 (by decide +kernel) (by decide +kernel), bg_mT 907 (by decide +kernel) (by decide +kernel), rfl⟩
def mX7_reads : bg_P := (yX7_reads, cX7_reads, 2, (Option.some Jvm.ClassFile.FieldType.int : Option FieldType))
theorem vX7_reads : bg_mV mX7_reads 7 0 := ⟨⟨bg_mT 912 (by decide +kernel) (by decide +kernel), iC_RX7, ⟨by decide +kernel, by decide +kernel, by decide +kernel⟩, by decide⟩, bg_mT 911 (by decide +kernel) (by decide +kernel), bg_mT 29 (by decide +kernel) (by decide +kernel), rfl⟩
def mX7_isAt : bg_P := (yX7_isAt, cX7_isAt, 3, (Option.some Jvm.ClassFile.FieldType.boolean : Option FieldType))
theorem vX7_isAt : bg_mV mX7_isAt 7 2 := ⟨⟨bg_mT 916 (by decide +kernel) (by decide +kernel), iC_RX7, ⟨by decide +kernel, by decide +kernel, by decide +kernel⟩, by decide⟩, bg_mT 915 (by decide +kernel) (by decide +kernel), bg_mT 30 (by decide +kernel) (by decide +kernel), rfl⟩
def mX7_readsBed : bg_P := (yX7_readsBed, cX7_readsBed, 2, (Option.some Jvm.ClassFile.FieldType.boolean : Option FieldType))
theorem vX7_readsBed : bg_mV mX7_readsBed 7 0 := ⟨⟨bg_mT 920 (by decide +kernel) (by decide +kernel), iC_RX7, ⟨by decide +kernel, by decide +kernel, by decide +kernel⟩, by decide⟩, bg_mT 919 (by decide +kernel) (by decide +kernel), bg_mT 31 (by decide +kernel) (by decide +kernel), rfl⟩
def mX7_keep : bg_P := (yX7_keep, cX7_keep, 3, (Option.some Jvm.ClassFile.FieldType.int : Option FieldType))
theorem vX7_keep : bg_mV mX7_keep 7 1 := ⟨⟨bg_mT 925 (by decide +kernel) (by decide +kernel), iC_RX7, ⟨by decide +kernel, by decide +kernel, by decide +kernel⟩, by decide⟩, bg_mT 923 (by decide +kernel) (by decide +kernel), bg_mT 924 (by decide +kernel) (by decide +kernel), rfl⟩
def mX7_allBeds : bg_P := (yX7_allBeds, cX7_allBeds, 1, (Option.some Jvm.ClassFile.FieldType.int : Option FieldType))
theorem vX7_allBeds : bg_mV mX7_allBeds 7 0 := ⟨⟨bg_mT 929 (by decide +kernel) (by decide +kernel), iC_RX7, ⟨by decide +kernel, by decide +kernel, by decide +kernel⟩, by decide⟩, bg_mT 928 (by decide +kernel) (by decide +kernel), bg_mT 32 (by decide +kernel) (by decide +kernel), rfl⟩
def mX7_back : bg_P := (yX7_back, cX7_back, 3, (Option.some Jvm.ClassFile.FieldType.int : Option FieldType))
theorem vX7_back : bg_mV mX7_back 7 1 := ⟨⟨bg_mT 933 (by decide +kernel) (by decide +kernel), iC_RX7, ⟨by decide +kernel, by decide +kernel, by decide +kernel⟩, by decide⟩, bg_mT 931 (by decide +kernel) (by decide +kernel), bg_mT 932 (by decide +kernel) (by decide +kernel), rfl⟩
def mX7_undo : bg_P := (yX7_undo, cX7_undo, 2, (Option.some Jvm.ClassFile.FieldType.int : Option FieldType))
theorem vX7_undo : bg_mV mX7_undo 7 0 := ⟨⟨bg_mT 938 (by decide +kernel) (by decide +kernel), iC_RX7, ⟨by decide +kernel, by decide +kernel, by decide +kernel⟩, by decide⟩, bg_mT 936 (by decide +kernel) (by decide +kernel), bg_mT 937 (by decide +kernel) (by decide +kernel), rfl⟩
def mX7_count : bg_P := (yX7_count, cX7_count, 2, (Option.some Jvm.ClassFile.FieldType.int : Option FieldType))
theorem vX7_count : bg_mV mX7_count 7 1 := ⟨⟨bg_mT 942 (by decide +kernel) (by decide +kernel), iC_RX7, ⟨by decide +kernel, by decide +kernel, by decide +kernel⟩, by decide⟩, bg_mT 940 (by decide +kernel) (by decide +kernel), bg_mT 941 (by decide +kernel) (by decide +kernel), rfl⟩
def mX7_keyMany : bg_P := (yX7_keyMany, cX7_keyMany, 3, (Option.some Jvm.ClassFile.FieldType.int : Option FieldType))
theorem vX7_keyMany : bg_mV mX7_keyMany 7 0 := ⟨⟨bg_mT 946 (by decide +kernel) (by decide +kernel), iC_RX7, ⟨by decide +kernel, by decide +kernel, by decide +kernel⟩, by decide⟩, bg_mT 945 (by decide +kernel) (by decide +kernel), bg_mT 33 (by decide +kernel) (by decide +kernel), rfl⟩
def mX7_hole : bg_P := (yX7_hole, cX7_hole, 3, (Option.some Jvm.ClassFile.FieldType.int : Option FieldType))
theorem vX7_hole : bg_mV mX7_hole 7 2 := ⟨⟨bg_mT 950 (by decide +kernel) (by decide +kernel), iC_RX7, ⟨by decide +kernel, by decide +kernel, by decide +kernel⟩, by decide⟩, bg_mT 948 (by decide +kernel) (by decide +kernel), bg_mT 949 (by decide +kernel) (by decide +kernel), rfl⟩
def mX7_bed : bg_P := (yX7_bed, cX7_bed, 4, (Option.some Jvm.ClassFile.FieldType.int : Option FieldType))
theorem vX7_bed : bg_mV mX7_bed 7 3 := ⟨⟨bg_mT 954 (by decide +kernel) (by decide +kernel), iC_RX7, ⟨by decide +kernel, by decide +kernel, by decide +kernel⟩, by decide⟩, bg_mT 952 (by decide +kernel) (by decide +kernel), bg_mT 953 (by decide +kernel) (by decide +kernel), rfl⟩
def mX7_find : bg_P := (yX7_find, cX7_find, 6, (Option.some Jvm.ClassFile.FieldType.int : Option FieldType))
theorem vX7_find : bg_mV mX7_find 7 3 := ⟨⟨bg_mT 959 (by decide +kernel) (by decide +kernel), iC_RX7, ⟨by decide +kernel, by decide +kernel, by decide +kernel⟩, by decide⟩, bg_mT 957 (by decide +kernel) (by decide +kernel), bg_mT 958 (by decide +kernel) (by decide +kernel), rfl⟩
def mX7_account : bg_P := (yX7_account, cX7_account, 2, (Option.some Jvm.ClassFile.FieldType.int : Option FieldType))
theorem vX7_account : bg_mV mX7_account 7 1 := ⟨⟨bg_mT 963 (by decide +kernel) (by decide +kernel), iC_RX7, ⟨by decide +kernel, by decide +kernel, by decide +kernel⟩, by decide⟩, bg_mT 961 (by decide +kernel) (by decide +kernel), bg_mT 962 (by decide +kernel) (by decide +kernel), rfl⟩
def mX7_cost : bg_P := (yX7_cost, cX7_cost, 4, (Option.some Jvm.ClassFile.FieldType.int : Option FieldType))
theorem vX7_cost : bg_mV mX7_cost 7 3 := ⟨⟨bg_mT 967 (by decide +kernel) (by decide +kernel), iC_RX7, ⟨by decide +kernel, by decide +kernel, by decide +kernel⟩, by decide⟩, bg_mT 965 (by decide +kernel) (by decide +kernel), bg_mT 966 (by decide +kernel) (by decide +kernel), rfl⟩
def mX7_areTwo : bg_P := (yX7_areTwo, cX7_areTwo, 2, (Option.some Jvm.ClassFile.FieldType.boolean : Option FieldType))
theorem sX7_areTwo : bg_mS mX7_areTwo 2 := ⟨⟨bg_mT 970 (by decide +kernel) (by decide +kernel), iC_RX7, ⟨by decide +kernel, by decide +kernel, by decide +kernel⟩, by decide⟩, bg_mT 969 (by decide +kernel) (by decide +kernel)⟩
def mX7_fills : bg_P := (yX7_fills, cX7_fills, 8, (Option.some Jvm.ClassFile.FieldType.int : Option FieldType))
theorem vX7_fills : bg_mV mX7_fills 7 2 := ⟨⟨bg_mT 974 (by decide +kernel) (by decide +kernel), iC_RX7, ⟨by decide +kernel, by decide +kernel, by decide +kernel⟩, by decide⟩, bg_mT 973 (by decide +kernel) (by decide +kernel), bg_mT 34 (by decide +kernel) (by decide +kernel), rfl⟩
def mX7_costOf : bg_P := (yX7_costOf, cX7_costOf, 9, (Option.some Jvm.ClassFile.FieldType.int : Option FieldType))
theorem vX7_costOf : bg_mV mX7_costOf 7 5 := ⟨⟨bg_mT 978 (by decide +kernel) (by decide +kernel), iC_RX7, ⟨by decide +kernel, by decide +kernel, by decide +kernel⟩, by decide⟩, bg_mT 977 (by decide +kernel) (by decide +kernel), bg_mT 35 (by decide +kernel) (by decide +kernel), rfl⟩
def mX7_differ : bg_P := (yX7_differ, cX7_differ, 6, (Option.some Jvm.ClassFile.FieldType.int : Option FieldType))
theorem vX7_differ : bg_mV mX7_differ 7 4 := ⟨⟨bg_mT 982 (by decide +kernel) (by decide +kernel), iC_RX7, ⟨by decide +kernel, by decide +kernel, by decide +kernel⟩, by decide⟩, bg_mT 981 (by decide +kernel) (by decide +kernel), bg_mT 36 (by decide +kernel) (by decide +kernel), rfl⟩
def mX7_missing : bg_P := (yX7_missing, cX7_missing, 2, (Option.some Jvm.ClassFile.FieldType.int : Option FieldType))
theorem vX7_missing : bg_mV mX7_missing 7 1 := ⟨⟨bg_mT 986 (by decide +kernel) (by decide +kernel), iC_RX7, ⟨by decide +kernel, by decide +kernel, by decide +kernel⟩, by decide⟩, bg_mT 985 (by decide +kernel) (by decide +kernel), bg_mT 37 (by decide +kernel) (by decide +kernel), rfl⟩
def mX7_repeated : bg_P := (yX7_repeated, cX7_repeated, 6, (Option.some Jvm.ClassFile.FieldType.int : Option FieldType))
theorem vX7_repeated : bg_mV mX7_repeated 7 4 := ⟨⟨bg_mT 990 (by decide +kernel) (by decide +kernel), iC_RX7, ⟨by decide +kernel, by decide +kernel, by decide +kernel⟩, by decide⟩, bg_mT 989 (by decide +kernel) (by decide +kernel), bg_mT 38 (by decide +kernel) (by decide +kernel), rfl⟩
def mX7_why : bg_P := (yX7_why, cX7_why, 5, (Option.some Jvm.ClassFile.FieldType.int : Option FieldType))
theorem vX7_why : bg_mV mX7_why 7 4 := ⟨⟨bg_mT 994 (by decide +kernel) (by decide +kernel), iC_RX7, ⟨by decide +kernel, by decide +kernel, by decide +kernel⟩, by decide⟩, bg_mT 992 (by decide +kernel) (by decide +kernel), bg_mT 993 (by decide +kernel) (by decide +kernel), rfl⟩
def mX7_isOne : bg_P := (yX7_isOne, cX7_isOne, 5, (Option.some Jvm.ClassFile.FieldType.boolean : Option FieldType))
theorem vX7_isOne : bg_mV mX7_isOne 7 4 := ⟨⟨bg_mT 998 (by decide +kernel) (by decide +kernel), iC_RX7, ⟨by decide +kernel, by decide +kernel, by decide +kernel⟩, by decide⟩, bg_mT 997 (by decide +kernel) (by decide +kernel), bg_mT 39 (by decide +kernel) (by decide +kernel), rfl⟩
def mX7_matches : bg_P := (yX7_matches, cX7_matches, 10, (Option.none : Option FieldType))
theorem vX7_matches : bg_mV mX7_matches 7 2 := ⟨⟨bg_mT 1002 (by decide +kernel) (by decide +kernel), iC_RX7, ⟨by decide +kernel, by decide +kernel, by decide +kernel⟩, by decide⟩, bg_mT 1001 (by decide +kernel) (by decide +kernel), bg_mT 40 (by decide +kernel) (by decide +kernel), rfl⟩
def mX7_thingAt : bg_P := (yX7_thingAt, cX7_thingAt, 6, (Option.some Jvm.ClassFile.FieldType.int : Option FieldType))
theorem vX7_thingAt : bg_mV mX7_thingAt 7 4 := ⟨⟨bg_mT 1006 (by decide +kernel) (by decide +kernel), iC_RX7, ⟨by decide +kernel, by decide +kernel, by decide +kernel⟩, by decide⟩, bg_mT 1005 (by decide +kernel) (by decide +kernel), bg_mT 41 (by decide +kernel) (by decide +kernel), rfl⟩
def mX7_partner : bg_P := (yX7_partner, cX7_partner, 6, (Option.some Jvm.ClassFile.FieldType.int : Option FieldType))
theorem vX7_partner : bg_mV mX7_partner 7 4 := ⟨⟨bg_mT 1010 (by decide +kernel) (by decide +kernel), iC_RX7, ⟨by decide +kernel, by decide +kernel, by decide +kernel⟩, by decide⟩, bg_mT 1008 (by decide +kernel) (by decide +kernel), bg_mT 1009 (by decide +kernel) (by decide +kernel), rfl⟩
def mX7_matched : bg_P := (yX7_matched, cX7_matched, 6, (Option.some Jvm.ClassFile.FieldType.int : Option FieldType))
theorem vX7_matched : bg_mV mX7_matched 7 3 := ⟨⟨bg_mT 1014 (by decide +kernel) (by decide +kernel), iC_RX7, ⟨by decide +kernel, by decide +kernel, by decide +kernel⟩, by decide⟩, bg_mT 1012 (by decide +kernel) (by decide +kernel), bg_mT 1013 (by decide +kernel) (by decide +kernel), rfl⟩
def mX7_isFault : bg_P := (yX7_isFault, cX7_isFault, 3, (Option.some Jvm.ClassFile.FieldType.boolean : Option FieldType))
theorem vX7_isFault : bg_mV mX7_isFault 7 1 := ⟨⟨bg_mT 1018 (by decide +kernel) (by decide +kernel), iC_RX7, ⟨by decide +kernel, by decide +kernel, by decide +kernel⟩, by decide⟩, bg_mT 1017 (by decide +kernel) (by decide +kernel), bg_mT 42 (by decide +kernel) (by decide +kernel), rfl⟩
def mX7_fault : bg_P := (yX7_fault, cX7_fault, 7, (Option.some Jvm.ClassFile.FieldType.int : Option FieldType))
theorem vX7_fault : bg_mV mX7_fault 7 4 := ⟨⟨bg_mT 1022 (by decide +kernel) (by decide +kernel), iC_RX7, ⟨by decide +kernel, by decide +kernel, by decide +kernel⟩, by decide⟩, bg_mT 1020 (by decide +kernel) (by decide +kernel), bg_mT 1021 (by decide +kernel) (by decide +kernel), rfl⟩
def mX7_sumOfThrows : bg_P := (yX7_sumOfThrows, cX7_sumOfThrows, 6, (Option.some Jvm.ClassFile.FieldType.int : Option FieldType))
theorem vX7_sumOfThrows : bg_mV mX7_sumOfThrows 7 3 := ⟨⟨bg_mT 1026 (by decide +kernel) (by decide +kernel), iC_RX7, ⟨by decide +kernel, by decide +kernel, by decide +kernel⟩, by decide⟩, bg_mT 1024 (by decide +kernel) (by decide +kernel), bg_mT 1025 (by decide +kernel) (by decide +kernel), rfl⟩
def mX7_nearest : bg_P := (yX7_nearest, cX7_nearest, 7, (Option.some Jvm.ClassFile.FieldType.int : Option FieldType))
theorem vX7_nearest : bg_mV mX7_nearest 7 2 := ⟨⟨bg_mT 1030 (by decide +kernel) (by decide +kernel), iC_RX7, ⟨by decide +kernel, by decide +kernel, by decide +kernel⟩, by decide⟩, bg_mT 1028 (by decide +kernel) (by decide +kernel), bg_mT 1029 (by decide +kernel) (by decide +kernel), rfl⟩
def mX7_closed : bg_P := (yX7_closed, cX7_closed, 6, (Option.some Jvm.ClassFile.FieldType.int : Option FieldType))
theorem vX7_closed : bg_mV mX7_closed 7 3 := ⟨⟨bg_mT 1034 (by decide +kernel) (by decide +kernel), iC_RX7, ⟨by decide +kernel, by decide +kernel, by decide +kernel⟩, by decide⟩, bg_mT 1032 (by decide +kernel) (by decide +kernel), bg_mT 1033 (by decide +kernel) (by decide +kernel), rfl⟩
def mX7_copiesTo : bg_P := (yX7_copiesTo, cX7_copiesTo, 4, (Option.none : Option FieldType))
theorem vX7_copiesTo : bg_mV mX7_copiesTo 7 2 := ⟨⟨bg_mT 1038 (by decide +kernel) (by decide +kernel), iC_RX7, ⟨by decide +kernel, by decide +kernel, by decide +kernel⟩, by decide⟩, bg_mT 1037 (by decide +kernel) (by decide +kernel), bg_mT 43 (by decide +kernel) (by decide +kernel), rfl⟩
theorem lL_9 : Cond.methodLink RL 9 yX6_init ∈ bg_T := bg_mT 58 (by decide +kernel) (by decide +kernel)
theorem lX6_1 : Cond.methodLink RX6 1 Lib.objectInit ∈ bg_T := bg_mT 61 (by decide +kernel) (by decide +kernel)
theorem lX6_9 : Cond.methodLink RX6 9 yX4_init ∈ bg_T := bg_mT 66 (by decide +kernel) (by decide +kernel)
theorem lX4_3 : Cond.methodLink RX4 3 Lib.objectInit ∈ bg_T := bg_mT 69 (by decide +kernel) (by decide +kernel)
theorem lX4_28 : Cond.methodLink RX4 28 yX0_init ∈ bg_T := bg_mT 75 (by decide +kernel) (by decide +kernel)
theorem lX0_3 : Cond.methodLink RX0 3 Lib.objectInit ∈ bg_T := bg_mT 78 (by decide +kernel) (by decide +kernel)
theorem fX0_9 : bg_FL RX0 9 0 4 0 := ⟨_, _, rfl, by decide, bg_mT 79 (by decide +kernel) (by decide +kernel)⟩
theorem fX0_15 : bg_FL RX0 15 0 4 1 := ⟨_, _, rfl, by decide, bg_mT 80 (by decide +kernel) (by decide +kernel)⟩
theorem fX0_18 : bg_FL RX0 18 0 4 2 := ⟨_, _, rfl, by decide, bg_mT 81 (by decide +kernel) (by decide +kernel)⟩
theorem fX0_22 : bg_FL RX0 22 0 4 3 := ⟨_, _, rfl, by decide, bg_mT 82 (by decide +kernel) (by decide +kernel)⟩
theorem fX4_9 : bg_FL RX4 9 4 4 0 := ⟨_, _, rfl, by decide, bg_mT 93 (by decide +kernel) (by decide +kernel)⟩
theorem fX4_18 : bg_FL RX4 18 4 4 1 := ⟨_, _, rfl, by decide, bg_mT 94 (by decide +kernel) (by decide +kernel)⟩
theorem fX4_24 : bg_FL RX4 24 4 4 2 := ⟨_, _, rfl, by decide, bg_mT 95 (by decide +kernel) (by decide +kernel)⟩
theorem fX4_29 : bg_FL RX4 29 4 4 3 := ⟨_, _, rfl, by decide, bg_mT 96 (by decide +kernel) (by decide +kernel)⟩
theorem lX6_18 : Cond.methodLink RX6 18 yX1_init ∈ bg_T := bg_mT 108 (by decide +kernel) (by decide +kernel)
theorem lX1_3 : Cond.methodLink RX1 3 Lib.objectInit ∈ bg_T := bg_mT 111 (by decide +kernel) (by decide +kernel)
theorem lX1_17 : Cond.methodLink RX1 17 yX4_init ∈ bg_T := bg_mT 114 (by decide +kernel) (by decide +kernel)
theorem fX1_11 : bg_FL RX1 11 1 3 0 := ⟨_, _, rfl, by decide, bg_mT 115 (by decide +kernel) (by decide +kernel)⟩
theorem fX1_18 : bg_FL RX1 18 1 3 1 := ⟨_, _, rfl, by decide, bg_mT 116 (by decide +kernel) (by decide +kernel)⟩
theorem fX1_22 : bg_FL RX1 22 1 3 2 := ⟨_, _, rfl, by decide, bg_mT 117 (by decide +kernel) (by decide +kernel)⟩
theorem lX6_33 : Cond.methodLink RX6 33 yX5_init ∈ bg_T := bg_mT 127 (by decide +kernel) (by decide +kernel)
theorem lX5_3 : Cond.methodLink RX5 3 Lib.objectInit ∈ bg_T := bg_mT 130 (by decide +kernel) (by decide +kernel)
theorem lX5_27 : Cond.methodLink RX5 27 yX0_init ∈ bg_T := bg_mT 132 (by decide +kernel) (by decide +kernel)
theorem fX5_9 : bg_FL RX5 9 5 5 0 := ⟨_, _, rfl, by decide, bg_mT 133 (by decide +kernel) (by decide +kernel)⟩
theorem fX5_15 : bg_FL RX5 15 5 5 1 := ⟨_, _, rfl, by decide, bg_mT 134 (by decide +kernel) (by decide +kernel)⟩
theorem fX5_19 : bg_FL RX5 19 5 5 2 := ⟨_, _, rfl, by decide, bg_mT 135 (by decide +kernel) (by decide +kernel)⟩
theorem fX5_22 : bg_FL RX5 22 5 5 3 := ⟨_, _, rfl, by decide, bg_mT 136 (by decide +kernel) (by decide +kernel)⟩
theorem fX5_28 : bg_FL RX5 28 5 5 4 := ⟨_, _, rfl, by decide, bg_mT 137 (by decide +kernel) (by decide +kernel)⟩
theorem lX6_40 : Cond.methodLink RX6 40 yX0_init ∈ bg_T := bg_mT 150 (by decide +kernel) (by decide +kernel)
theorem lX6_47 : Cond.methodLink RX6 47 yX2_init ∈ bg_T := bg_mT 153 (by decide +kernel) (by decide +kernel)
theorem lX2_3 : Cond.methodLink RX2 3 Lib.objectInit ∈ bg_T := bg_mT 156 (by decide +kernel) (by decide +kernel)
theorem lX2_11 : Cond.methodLink RX2 11 yX3_init ∈ bg_T := bg_mT 159 (by decide +kernel) (by decide +kernel)
theorem lX3_3 : Cond.methodLink RX3 3 Lib.objectInit ∈ bg_T := bg_mT 162 (by decide +kernel) (by decide +kernel)
theorem lX3_11 : Cond.methodLink RX3 11 yX0_init ∈ bg_T := bg_mT 164 (by decide +kernel) (by decide +kernel)
theorem fX3_12 : bg_FL RX3 12 3 7 0 := ⟨_, _, rfl, by decide, bg_mT 165 (by decide +kernel) (by decide +kernel)⟩
theorem fX3_18 : bg_FL RX3 18 3 7 1 := ⟨_, _, rfl, by decide, bg_mT 166 (by decide +kernel) (by decide +kernel)⟩
theorem fX3_21 : bg_FL RX3 21 3 7 2 := ⟨_, _, rfl, by decide, bg_mT 167 (by decide +kernel) (by decide +kernel)⟩
theorem fX3_25 : bg_FL RX3 25 3 7 3 := ⟨_, _, rfl, by decide, bg_mT 168 (by decide +kernel) (by decide +kernel)⟩
theorem fX3_29 : bg_FL RX3 29 3 7 4 := ⟨_, _, rfl, by decide, bg_mT 169 (by decide +kernel) (by decide +kernel)⟩
theorem fX3_32 : bg_FL RX3 32 3 7 5 := ⟨_, _, rfl, by decide, bg_mT 170 (by decide +kernel) (by decide +kernel)⟩
theorem fX3_35 : bg_FL RX3 35 3 7 6 := ⟨_, _, rfl, by decide, bg_mT 171 (by decide +kernel) (by decide +kernel)⟩
theorem fX2_12 : bg_FL RX2 12 2 6 0 := ⟨_, _, rfl, by decide, bg_mT 187 (by decide +kernel) (by decide +kernel)⟩
theorem fX2_18 : bg_FL RX2 18 2 6 1 := ⟨_, _, rfl, by decide, bg_mT 188 (by decide +kernel) (by decide +kernel)⟩
theorem fX2_22 : bg_FL RX2 22 2 6 2 := ⟨_, _, rfl, by decide, bg_mT 189 (by decide +kernel) (by decide +kernel)⟩
theorem fX2_25 : bg_FL RX2 25 2 6 3 := ⟨_, _, rfl, by decide, bg_mT 190 (by decide +kernel) (by decide +kernel)⟩
theorem fX2_28 : bg_FL RX2 28 2 6 4 := ⟨_, _, rfl, by decide, bg_mT 191 (by decide +kernel) (by decide +kernel)⟩
theorem fX2_31 : bg_FL RX2 31 2 6 5 := ⟨_, _, rfl, by decide, bg_mT 192 (by decide +kernel) (by decide +kernel)⟩
theorem fX6_10 : bg_FL RX6 10 6 9 0 := ⟨_, _, rfl, by decide, bg_mT 206 (by decide +kernel) (by decide +kernel)⟩
theorem fX6_19 : bg_FL RX6 19 6 9 1 := ⟨_, _, rfl, by decide, bg_mT 207 (by decide +kernel) (by decide +kernel)⟩
theorem fX6_23 : bg_FL RX6 23 6 9 2 := ⟨_, _, rfl, by decide, bg_mT 208 (by decide +kernel) (by decide +kernel)⟩
theorem fX6_27 : bg_FL RX6 27 6 9 3 := ⟨_, _, rfl, by decide, bg_mT 209 (by decide +kernel) (by decide +kernel)⟩
theorem fX6_34 : bg_FL RX6 34 6 9 4 := ⟨_, _, rfl, by decide, bg_mT 210 (by decide +kernel) (by decide +kernel)⟩
theorem fX6_41 : bg_FL RX6 41 6 9 5 := ⟨_, _, rfl, by decide, bg_mT 211 (by decide +kernel) (by decide +kernel)⟩
theorem fX6_48 : bg_FL RX6 48 6 9 6 := ⟨_, _, rfl, by decide, bg_mT 212 (by decide +kernel) (by decide +kernel)⟩
theorem fX6_52 : bg_FL RX6 52 6 9 7 := ⟨_, _, rfl, by decide, bg_mT 213 (by decide +kernel) (by decide +kernel)⟩
theorem fX6_55 : bg_FL RX6 55 6 9 8 := ⟨_, _, rfl, by decide, bg_mT 214 (by decide +kernel) (by decide +kernel)⟩
theorem lL_13 : Cond.methodLink RL 13 yX6_setNumber ∈ bg_T := bg_mT 234 (by decide +kernel) (by decide +kernel)
theorem kX6_58 : Cond.constant RX6 58 (Int32.ofInt (-1000001)) ∈ bg_T := bg_mT 238 (by decide +kernel) (by decide +kernel)
theorem gX6_59 : Cond.fieldLink RX6 59 "BoreholeColumns" "LEAST_NUMBERS" "[I" ∈ bg_T := bg_mT 239 (by decide +kernel) (by decide +kernel)
theorem gX6_63 : Cond.fieldLink RX6 63 "BoreholeColumns" "GREATEST_NUMBERS" "[I" ∈ bg_T := bg_mT 241 (by decide +kernel) (by decide +kernel)
theorem lX6_66 : Cond.methodLink RX6 66 yX1_save ∈ bg_T := bg_mT 243 (by decide +kernel) (by decide +kernel)
theorem lX1_25 : Cond.methodLink RX1 25 yX4_copyFrom ∈ bg_T := bg_mT 247 (by decide +kernel) (by decide +kernel)
theorem lX4_52 : Cond.methodLink RX4 52 arraycopyName ∈ bg_T := bg_mT 251 (by decide +kernel) (by decide +kernel)
theorem lX4_58 : Cond.methodLink RX4 58 yX0_copyFrom ∈ bg_T := bg_mT 254 (by decide +kernel) (by decide +kernel)
theorem lX0_59 : Cond.methodLink RX0 59 yX0_takeBedsOf ∈ bg_T := bg_mT 258 (by decide +kernel) (by decide +kernel)
theorem lX0_53 : Cond.methodLink RX0 53 arraycopyName ∈ bg_T := bg_mT 262 (by decide +kernel) (by decide +kernel)
theorem lX1_29 : Cond.methodLink RX1 29 Lib.Math.min.name ∈ bg_T := bg_mT 263 (by decide +kernel) (by decide +kernel)
theorem lX6_70 : Cond.methodLink RX6 70 yX4_numberOf ∈ bg_T := bg_mT 266 (by decide +kernel) (by decide +kernel)
theorem lX6_74 : Cond.methodLink RX6 74 yX4_putNumber ∈ bg_T := bg_mT 270 (by decide +kernel) (by decide +kernel)
theorem lL_18 : Cond.methodLink RL 18 yX6_setKey ∈ bg_T := bg_mT 274 (by decide +kernel) (by decide +kernel)
theorem lX6_78 : Cond.methodLink RX6 78 yX6_isMark ∈ bg_T := bg_mT 278 (by decide +kernel) (by decide +kernel)
theorem lX6_82 : Cond.methodLink RX6 82 yX4_isKey ∈ bg_T := bg_mT 281 (by decide +kernel) (by decide +kernel)
theorem lX6_85 : Cond.methodLink RX6 85 yX4_putKey ∈ bg_T := bg_mT 286 (by decide +kernel) (by decide +kernel)
theorem lL_22 : Cond.methodLink RL 22 yX6_setCollar ∈ bg_T := bg_mT 290 (by decide +kernel) (by decide +kernel)
theorem lX6_89 : Cond.methodLink RX6 89 yX6_isHole ∈ bg_T := bg_mT 294 (by decide +kernel) (by decide +kernel)
theorem lX6_92 : Cond.methodLink RX6 92 yX4_columnOf ∈ bg_T := bg_mT 297 (by decide +kernel) (by decide +kernel)
theorem lX6_96 : Cond.methodLink RX6 96 yX0_collarElevation ∈ bg_T := bg_mT 302 (by decide +kernel) (by decide +kernel)
theorem lX6_100 : Cond.methodLink RX6 100 yX0_putCollar ∈ bg_T := bg_mT 306 (by decide +kernel) (by decide +kernel)
theorem lL_26 : Cond.methodLink RL 26 yX6_addBed ∈ bg_T := bg_mT 310 (by decide +kernel) (by decide +kernel)
theorem lX6_104 : Cond.methodLink RX6 104 yX6_isThickness ∈ bg_T := bg_mT 314 (by decide +kernel) (by decide +kernel)
theorem lX6_107 : Cond.methodLink RX6 107 yX0_size ∈ bg_T := bg_mT 317 (by decide +kernel) (by decide +kernel)
theorem kX6_110 : Cond.constant RX6 110 (Int32.ofInt (-1000003)) ∈ bg_T := bg_mT 321 (by decide +kernel) (by decide +kernel)
theorem lX6_111 : Cond.methodLink RX6 111 yX0_insert ∈ bg_T := bg_mT 322 (by decide +kernel) (by decide +kernel)
theorem lX6_115 : Cond.methodLink RX6 115 yX4_book ∈ bg_T := bg_mT 326 (by decide +kernel) (by decide +kernel)
theorem lL_31 : Cond.methodLink RL 31 yX6_removeBed ∈ bg_T := bg_mT 330 (by decide +kernel) (by decide +kernel)
theorem lX6_118 : Cond.methodLink RX6 118 yX0_has ∈ bg_T := bg_mT 334 (by decide +kernel) (by decide +kernel)
theorem lX6_121 : Cond.methodLink RX6 121 yX0_thicknessOf ∈ bg_T := bg_mT 338 (by decide +kernel) (by decide +kernel)
theorem lX0_25 : Cond.methodLink RX0 25 yX0_has ∈ bg_T := bg_mT 342 (by decide +kernel) (by decide +kernel)
theorem lX6_124 : Cond.methodLink RX6 124 yX0_takeOut ∈ bg_T := bg_mT 343 (by decide +kernel) (by decide +kernel)
theorem lL_35 : Cond.methodLink RL 35 yX6_setThickness ∈ bg_T := bg_mT 347 (by decide +kernel) (by decide +kernel)
theorem lX6_127 : Cond.methodLink RX6 127 yX0_putThickness ∈ bg_T := bg_mT 351 (by decide +kernel) (by decide +kernel)
theorem lX6_130 : Cond.methodLink RX6 130 Lib.Math.max.name ∈ bg_T := bg_mT 355 (by decide +kernel) (by decide +kernel)
theorem lL_40 : Cond.methodLink RL 40 yX6_cut ∈ bg_T := bg_mT 358 (by decide +kernel) (by decide +kernel)
theorem lX6_136 : Cond.methodLink RX6 136 yX0_totalThickness ∈ bg_T := bg_mT 362 (by decide +kernel) (by decide +kernel)
theorem lX0_30 : Cond.methodLink RX0 30 yX0_depthOf ∈ bg_T := bg_mT 366 (by decide +kernel) (by decide +kernel)
theorem lX6_139 : Cond.methodLink RX6 139 Lib.Math.min.name ∈ bg_T := bg_mT 370 (by decide +kernel) (by decide +kernel)
theorem lX6_142 : Cond.methodLink RX6 142 yX0_clear ∈ bg_T := bg_mT 371 (by decide +kernel) (by decide +kernel)
theorem lX6_145 : Cond.methodLink RX6 145 yX0_appendPart ∈ bg_T := bg_mT 375 (by decide +kernel) (by decide +kernel)
theorem lX0_34 : Cond.methodLink RX0 34 yX0_thicknessOf ∈ bg_T := bg_mT 379 (by decide +kernel) (by decide +kernel)
theorem lX0_37 : Cond.methodLink RX0 37 Lib.Math.min.name ∈ bg_T := bg_mT 380 (by decide +kernel) (by decide +kernel)
theorem lX0_43 : Cond.methodLink RX0 43 Lib.Math.max.name ∈ bg_T := bg_mT 381 (by decide +kernel) (by decide +kernel)
theorem lX0_46 : Cond.methodLink RX0 46 yX0_markOf ∈ bg_T := bg_mT 382 (by decide +kernel) (by decide +kernel)
theorem kX0_29 : Cond.constant RX0 29 (Int32.ofInt (-1000009)) ∈ bg_T := bg_mT 386 (by decide +kernel) (by decide +kernel)
theorem lX0_49 : Cond.methodLink RX0 49 yX0_insert ∈ bg_T := bg_mT 387 (by decide +kernel) (by decide +kernel)
theorem lX6_149 : Cond.methodLink RX6 149 yX0_takeBedsOf ∈ bg_T := bg_mT 388 (by decide +kernel) (by decide +kernel)
theorem lL_44 : Cond.methodLink RL 44 yX6_appendCharacter ∈ bg_T := bg_mT 389 (by decide +kernel) (by decide +kernel)
theorem lX6_153 : Cond.methodLink RX6 153 yX5_append ∈ bg_T := bg_mT 393 (by decide +kernel) (by decide +kernel)
theorem lX6_156 : Cond.methodLink RX6 156 yX5_size ∈ bg_T := bg_mT 397 (by decide +kernel) (by decide +kernel)
theorem lL_49 : Cond.methodLink RL 49 yX6_clearText ∈ bg_T := bg_mT 401 (by decide +kernel) (by decide +kernel)
theorem lX6_157 : Cond.methodLink RX6 157 yX5_clear ∈ bg_T := bg_mT 405 (by decide +kernel) (by decide +kernel)
theorem lL_54 : Cond.methodLink RL 54 yX6_load ∈ bg_T := bg_mT 409 (by decide +kernel) (by decide +kernel)
theorem lX6_158 : Cond.methodLink RX6 158 yX5_parse ∈ bg_T := bg_mT 413 (by decide +kernel) (by decide +kernel)
theorem lX5_32 : Cond.methodLink RX5 32 yX0_clear ∈ bg_T := bg_mT 417 (by decide +kernel) (by decide +kernel)
theorem lX5_35 : Cond.methodLink RX5 35 yX5_parseHole ∈ bg_T := bg_mT 418 (by decide +kernel) (by decide +kernel)
theorem lX5_46 : Cond.methodLink RX5 46 yX5_skipSpaces ∈ bg_T := bg_mT 422 (by decide +kernel) (by decide +kernel)
theorem lX5_49 : Cond.methodLink RX5 49 yX5_current ∈ bg_T := bg_mT 426 (by decide +kernel) (by decide +kernel)
theorem lX5_39 : Cond.methodLink RX5 39 yX5_parseSign ∈ bg_T := bg_mT 431 (by decide +kernel) (by decide +kernel)
theorem lX5_43 : Cond.methodLink RX5 43 yX5_parseBeds ∈ bg_T := bg_mT 435 (by decide +kernel) (by decide +kernel)
theorem lX5_59 : Cond.methodLink RX5 59 yX5_parseThickness ∈ bg_T := bg_mT 440 (by decide +kernel) (by decide +kernel)
theorem lX5_62 : Cond.methodLink RX5 62 yX0_insert ∈ bg_T := bg_mT 444 (by decide +kernel) (by decide +kernel)
theorem kX6_162 : Cond.constant RX6 162 (Int32.ofInt (-2000000)) ∈ bg_T := bg_mT 445 (by decide +kernel) (by decide +kernel)
theorem lX6_163 : Cond.methodLink RX6 163 yX5_parsedTo ∈ bg_T := bg_mT 446 (by decide +kernel) (by decide +kernel)
theorem lX6_166 : Cond.methodLink RX6 166 yX5_parsedHole ∈ bg_T := bg_mT 450 (by decide +kernel) (by decide +kernel)
theorem lX6_169 : Cond.methodLink RX6 169 yX5_parsedBeds ∈ bg_T := bg_mT 454 (by decide +kernel) (by decide +kernel)
theorem lL_58 : Cond.methodLink RL 58 yX6_keep ∈ bg_T := bg_mT 458 (by decide +kernel) (by decide +kernel)
theorem lX6_173 : Cond.methodLink RX6 173 yX6_isImage ∈ bg_T := bg_mT 462 (by decide +kernel) (by decide +kernel)
theorem lX6_176 : Cond.methodLink RX6 176 yX4_copyFrom ∈ bg_T := bg_mT 465 (by decide +kernel) (by decide +kernel)
theorem lX6_179 : Cond.methodLink RX6 179 yX4_sumOfSizes ∈ bg_T := bg_mT 466 (by decide +kernel) (by decide +kernel)
theorem lX4_45 : Cond.methodLink RX4 45 yX0_size ∈ bg_T := bg_mT 470 (by decide +kernel) (by decide +kernel)
theorem lL_62 : Cond.methodLink RL 62 yX6_back ∈ bg_T := bg_mT 471 (by decide +kernel) (by decide +kernel)
theorem kX6_182 : Cond.constant RX6 182 (Int32.ofInt (-1000002)) ∈ bg_T := bg_mT 475 (by decide +kernel) (by decide +kernel)
theorem lL_66 : Cond.methodLink RL 66 yX6_undo ∈ bg_T := bg_mT 476 (by decide +kernel) (by decide +kernel)
theorem lX6_183 : Cond.methodLink RX6 183 yX1_restore ∈ bg_T := bg_mT 480 (by decide +kernel) (by decide +kernel)
theorem lX6_187 : Cond.methodLink RX6 187 yX1_size ∈ bg_T := bg_mT 484 (by decide +kernel) (by decide +kernel)
theorem lL_70 : Cond.methodLink RL 70 yX6_count ∈ bg_T := bg_mT 488 (by decide +kernel) (by decide +kernel)
theorem lX6_188 : Cond.methodLink RX6 188 yX4_keyMarkCount ∈ bg_T := bg_mT 492 (by decide +kernel) (by decide +kernel)
theorem lX4_36 : Cond.methodLink RX4 36 yJ6_bitCount_0f7a4 ∈ bg_T := bg_mT 496 (by decide +kernel) (by decide +kernel)
theorem lL_74 : Cond.methodLink RL 74 yX6_hole ∈ bg_T := bg_mT 502 (by decide +kernel) (by decide +kernel)
theorem lL_78 : Cond.methodLink RL 78 yX6_bed ∈ bg_T := bg_mT 506 (by decide +kernel) (by decide +kernel)
theorem kX6_191 : Cond.constant RX6 191 (Int32.ofInt (-1000009)) ∈ bg_T := bg_mT 510 (by decide +kernel) (by decide +kernel)
theorem lX6_192 : Cond.methodLink RX6 192 yX0_markOf ∈ bg_T := bg_mT 511 (by decide +kernel) (by decide +kernel)
theorem lX6_195 : Cond.methodLink RX6 195 yX0_depthOf ∈ bg_T := bg_mT 512 (by decide +kernel) (by decide +kernel)
theorem lX6_198 : Cond.methodLink RX6 198 yX0_elevationOf ∈ bg_T := bg_mT 513 (by decide +kernel) (by decide +kernel)
theorem lL_82 : Cond.methodLink RL 82 yX6_find ∈ bg_T := bg_mT 517 (by decide +kernel) (by decide +kernel)
theorem lX6_201 : Cond.methodLink RX6 201 yX0_bedWithMark ∈ bg_T := bg_mT 521 (by decide +kernel) (by decide +kernel)
theorem lL_86 : Cond.methodLink RL 86 yX6_account ∈ bg_T := bg_mT 525 (by decide +kernel) (by decide +kernel)
theorem lX6_204 : Cond.methodLink RX6 204 yX4_sumOfLengths ∈ bg_T := bg_mT 529 (by decide +kernel) (by decide +kernel)
theorem lX4_49 : Cond.methodLink RX4 49 yX0_totalThickness ∈ bg_T := bg_mT 533 (by decide +kernel) (by decide +kernel)
theorem lX6_207 : Cond.methodLink RX6 207 yX4_bookedIn ∈ bg_T := bg_mT 534 (by decide +kernel) (by decide +kernel)
theorem lL_90 : Cond.methodLink RL 90 yX6_cost ∈ bg_T := bg_mT 538 (by decide +kernel) (by decide +kernel)
theorem lX6_210 : Cond.methodLink RX6 210 yX6_arePair ∈ bg_T := bg_mT 542 (by decide +kernel) (by decide +kernel)
theorem lX6_214 : Cond.methodLink RX6 214 yX2_leastCost ∈ bg_T := bg_mT 545 (by decide +kernel) (by decide +kernel)
theorem lX2_35 : Cond.methodLink RX2 35 yX3_take ∈ bg_T := bg_mT 549 (by decide +kernel) (by decide +kernel)
theorem lX3_38 : Cond.methodLink RX3 38 yX4_columnOf ∈ bg_T := bg_mT 553 (by decide +kernel) (by decide +kernel)
theorem lX3_44 : Cond.methodLink RX3 44 yX0_copyFrom ∈ bg_T := bg_mT 554 (by decide +kernel) (by decide +kernel)
theorem lX3_48 : Cond.methodLink RX3 48 yX4_numberOf ∈ bg_T := bg_mT 555 (by decide +kernel) (by decide +kernel)
theorem lX3_52 : Cond.methodLink RX3 52 yX4_isKey ∈ bg_T := bg_mT 556 (by decide +kernel) (by decide +kernel)
theorem lX2_39 : Cond.methodLink RX2 39 yX3_costFromTop ∈ bg_T := bg_mT 557 (by decide +kernel) (by decide +kernel)
theorem kX3_67 : Cond.constant RX3 67 (Int32.ofInt (1000000)) ∈ bg_T := bg_mT 561 (by decide +kernel) (by decide +kernel)
theorem lX3_108 : Cond.methodLink RX3 108 yX3_putLeast ∈ bg_T := bg_mT 562 (by decide +kernel) (by decide +kernel)
theorem lX3_94 : Cond.methodLink RX3 94 yX0_size ∈ bg_T := bg_mT 566 (by decide +kernel) (by decide +kernel)
theorem lX3_91 : Cond.methodLink RX3 91 yX3_leastAt ∈ bg_T := bg_mT 567 (by decide +kernel) (by decide +kernel)
theorem lX3_98 : Cond.methodLink RX3 98 yX3_stepCost ∈ bg_T := bg_mT 571 (by decide +kernel) (by decide +kernel)
theorem lX3_56 : Cond.methodLink RX3 56 yX0_has ∈ bg_T := bg_mT 575 (by decide +kernel) (by decide +kernel)
theorem lX3_60 : Cond.methodLink RX3 60 yX0_markOf ∈ bg_T := bg_mT 576 (by decide +kernel) (by decide +kernel)
theorem lX3_63 : Cond.methodLink RX3 63 yX3_costOfDifference ∈ bg_T := bg_mT 577 (by decide +kernel) (by decide +kernel)
theorem lX3_77 : Cond.methodLink RX3 77 yX0_thicknessOf ∈ bg_T := bg_mT 581 (by decide +kernel) (by decide +kernel)
theorem lX3_80 : Cond.methodLink RX3 80 Lib.Math.abs.name ∈ bg_T := bg_mT 582 (by decide +kernel) (by decide +kernel)
theorem lX3_68 : Cond.methodLink RX3 68 yX3_missingCostOf ∈ bg_T := bg_mT 585 (by decide +kernel) (by decide +kernel)
theorem lX3_71 : Cond.methodLink RX3 71 yX3_repeatedBed ∈ bg_T := bg_mT 590 (by decide +kernel) (by decide +kernel)
theorem kX3_59 : Cond.constant RX3 59 (Int32.ofInt (-1000009)) ∈ bg_T := bg_mT 594 (by decide +kernel) (by decide +kernel)
theorem lX3_102 : Cond.methodLink RX3 102 yX3_leastAfter ∈ bg_T := bg_mT 595 (by decide +kernel) (by decide +kernel)
theorem lX3_85 : Cond.methodLink RX3 85 yX3_nextOfA ∈ bg_T := bg_mT 599 (by decide +kernel) (by decide +kernel)
theorem lX3_88 : Cond.methodLink RX3 88 yX3_nextOfB ∈ bg_T := bg_mT 602 (by decide +kernel) (by decide +kernel)
theorem lX2_43 : Cond.methodLink RX2 43 yX3_costFromBottom ∈ bg_T := bg_mT 605 (by decide +kernel) (by decide +kernel)
theorem lX3_105 : Cond.methodLink RX3 105 Lib.Math.min.name ∈ bg_T := bg_mT 609 (by decide +kernel) (by decide +kernel)
theorem lL_94 : Cond.methodLink RL 94 yX6_why ∈ bg_T := bg_mT 610 (by decide +kernel) (by decide +kernel)
theorem lX6_218 : Cond.methodLink RX6 218 yX6_isBedOfPair ∈ bg_T := bg_mT 614 (by decide +kernel) (by decide +kernel)
theorem lX6_222 : Cond.methodLink RX6 222 yX2_solve ∈ bg_T := bg_mT 618 (by decide +kernel) (by decide +kernel)
theorem lX2_46 : Cond.methodLink RX2 46 yX4_numberOf ∈ bg_T := bg_mT 622 (by decide +kernel) (by decide +kernel)
theorem kX2_52 : Cond.constant RX2 52 (Int32.ofInt (-1000009)) ∈ bg_T := bg_mT 623 (by decide +kernel) (by decide +kernel)
theorem lX2_53 : Cond.methodLink RX2 53 yX2_settleA ∈ bg_T := bg_mT 624 (by decide +kernel) (by decide +kernel)
theorem lX2_57 : Cond.methodLink RX2 57 yX2_settleB ∈ bg_T := bg_mT 628 (by decide +kernel) (by decide +kernel)
theorem lX2_60 : Cond.methodLink RX2 60 yX3_firstBestStep ∈ bg_T := bg_mT 632 (by decide +kernel) (by decide +kernel)
theorem lX2_64 : Cond.methodLink RX2 64 yX2_settle ∈ bg_T := bg_mT 636 (by decide +kernel) (by decide +kernel)
theorem lX2_73 : Cond.methodLink RX2 73 yX3_repeatedBed ∈ bg_T := bg_mT 640 (by decide +kernel) (by decide +kernel)
theorem lX2_67 : Cond.methodLink RX2 67 yX3_nextOfA ∈ bg_T := bg_mT 641 (by decide +kernel) (by decide +kernel)
theorem lX2_70 : Cond.methodLink RX2 70 yX3_nextOfB ∈ bg_T := bg_mT 642 (by decide +kernel) (by decide +kernel)
theorem lX6_226 : Cond.methodLink RX6 226 yX2_fateOf ∈ bg_T := bg_mT 643 (by decide +kernel) (by decide +kernel)
theorem lL_98 : Cond.methodLink RL 98 yX6_partner ∈ bg_T := bg_mT 647 (by decide +kernel) (by decide +kernel)
theorem lX6_229 : Cond.methodLink RX6 229 yX2_partnerOf ∈ bg_T := bg_mT 651 (by decide +kernel) (by decide +kernel)
theorem lL_102 : Cond.methodLink RL 102 yX6_matched ∈ bg_T := bg_mT 655 (by decide +kernel) (by decide +kernel)
theorem lX6_232 : Cond.methodLink RX6 232 yX2_countFates ∈ bg_T := bg_mT 659 (by decide +kernel) (by decide +kernel)
theorem lX2_76 : Cond.methodLink RX2 76 yX2_fateOf ∈ bg_T := bg_mT 663 (by decide +kernel) (by decide +kernel)
theorem lX6_235 : Cond.methodLink RX6 235 yX2_faultCount ∈ bg_T := bg_mT 664 (by decide +kernel) (by decide +kernel)
theorem lX2_112 : Cond.methodLink RX2 112 yX2_hasFault ∈ bg_T := bg_mT 668 (by decide +kernel) (by decide +kernel)
theorem lX2_82 : Cond.methodLink RX2 82 yX2_hasThrow ∈ bg_T := bg_mT 672 (by decide +kernel) (by decide +kernel)
theorem lX2_79 : Cond.methodLink RX2 79 yX2_nextMatch ∈ bg_T := bg_mT 676 (by decide +kernel) (by decide +kernel)
theorem lX2_101 : Cond.methodLink RX2 101 yX2_throwBelow ∈ bg_T := bg_mT 680 (by decide +kernel) (by decide +kernel)
theorem lX2_86 : Cond.methodLink RX2 86 yX3_columnA ∈ bg_T := bg_mT 684 (by decide +kernel) (by decide +kernel)
theorem lX2_90 : Cond.methodLink RX2 90 yX0_depthOf ∈ bg_T := bg_mT 688 (by decide +kernel) (by decide +kernel)
theorem lX2_95 : Cond.methodLink RX2 95 yX3_columnB ∈ bg_T := bg_mT 689 (by decide +kernel) (by decide +kernel)
theorem lX2_98 : Cond.methodLink RX2 98 yX2_partnerOf ∈ bg_T := bg_mT 693 (by decide +kernel) (by decide +kernel)
theorem lX2_104 : Cond.methodLink RX2 104 Lib.Math.abs.name ∈ bg_T := bg_mT 694 (by decide +kernel) (by decide +kernel)
theorem lL_106 : Cond.methodLink RL 106 yX6_fault ∈ bg_T := bg_mT 695 (by decide +kernel) (by decide +kernel)
theorem lX6_238 : Cond.methodLink RX6 238 yX2_bedAheadOfFault ∈ bg_T := bg_mT 699 (by decide +kernel) (by decide +kernel)
theorem lX6_241 : Cond.methodLink RX6 241 yX2_throwBelow ∈ bg_T := bg_mT 703 (by decide +kernel) (by decide +kernel)
theorem lX6_244 : Cond.methodLink RX6 244 yX2_reasonBelow ∈ bg_T := bg_mT 704 (by decide +kernel) (by decide +kernel)
theorem lX2_109 : Cond.methodLink RX2 109 Lib.Math.min.name ∈ bg_T := bg_mT 708 (by decide +kernel) (by decide +kernel)
theorem lL_110 : Cond.methodLink RL 110 yX6_sumOfThrows ∈ bg_T := bg_mT 709 (by decide +kernel) (by decide +kernel)
theorem lX6_247 : Cond.methodLink RX6 247 yX2_nextMatch ∈ bg_T := bg_mT 713 (by decide +kernel) (by decide +kernel)
theorem lX6_250 : Cond.methodLink RX6 250 yX2_totalThrow ∈ bg_T := bg_mT 714 (by decide +kernel) (by decide +kernel)
theorem lX6_254 : Cond.methodLink RX6 254 yX2_changeOfElevations ∈ bg_T := bg_mT 718 (by decide +kernel) (by decide +kernel)
theorem lX2_115 : Cond.methodLink RX2 115 yX2_differenceOfElevations ∈ bg_T := bg_mT 722 (by decide +kernel) (by decide +kernel)
theorem lX2_118 : Cond.methodLink RX2 118 yX0_elevationOf ∈ bg_T := bg_mT 726 (by decide +kernel) (by decide +kernel)
theorem lL_114 : Cond.methodLink RL 114 yX6_nearest ∈ bg_T := bg_mT 727 (by decide +kernel) (by decide +kernel)
theorem kX6_257 : Cond.constant RX6 257 (Int32.ofInt (1000000)) ∈ bg_T := bg_mT 731 (by decide +kernel) (by decide +kernel)
theorem lL_118 : Cond.methodLink RL 118 yX6_closed ∈ bg_T := bg_mT 732 (by decide +kernel) (by decide +kernel)
theorem lL_12 : Cond.methodLink RL 12 yX7_init ∈ bg_T := bg_mT 738 (by decide +kernel) (by decide +kernel)
theorem lX7_1 : Cond.methodLink RX7 1 Lib.objectInit ∈ bg_T := bg_mT 741 (by decide +kernel) (by decide +kernel)
theorem fX7_7 : bg_FL RX7 7 7 23 0 := ⟨_, _, rfl, by decide, bg_mT 742 (by decide +kernel) (by decide +kernel)⟩
theorem fX7_13 : bg_FL RX7 13 7 23 1 := ⟨_, _, rfl, by decide, bg_mT 743 (by decide +kernel) (by decide +kernel)⟩
theorem fX7_16 : bg_FL RX7 16 7 23 2 := ⟨_, _, rfl, by decide, bg_mT 744 (by decide +kernel) (by decide +kernel)⟩
theorem fX7_19 : bg_FL RX7 19 7 23 3 := ⟨_, _, rfl, by decide, bg_mT 745 (by decide +kernel) (by decide +kernel)⟩
theorem fX7_55 : bg_FL RX7 55 7 23 4 := ⟨_, _, rfl, by decide, bg_mT 746 (by decide +kernel) (by decide +kernel)⟩
theorem fX7_138 : bg_FL RX7 138 7 23 5 := ⟨_, _, rfl, by decide, bg_mT 747 (by decide +kernel) (by decide +kernel)⟩
theorem fX7_22 : bg_FL RX7 22 7 23 6 := ⟨_, _, rfl, by decide, bg_mT 748 (by decide +kernel) (by decide +kernel)⟩
theorem fX7_117 : bg_FL RX7 117 7 23 7 := ⟨_, _, rfl, by decide, bg_mT 749 (by decide +kernel) (by decide +kernel)⟩
theorem fX7_25 : bg_FL RX7 25 7 23 8 := ⟨_, _, rfl, by decide, bg_mT 750 (by decide +kernel) (by decide +kernel)⟩
theorem fX7_104 : bg_FL RX7 104 7 23 9 := ⟨_, _, rfl, by decide, bg_mT 751 (by decide +kernel) (by decide +kernel)⟩
theorem fX7_120 : bg_FL RX7 120 7 23 10 := ⟨_, _, rfl, by decide, bg_mT 752 (by decide +kernel) (by decide +kernel)⟩
theorem fX7_123 : bg_FL RX7 123 7 23 11 := ⟨_, _, rfl, by decide, bg_mT 753 (by decide +kernel) (by decide +kernel)⟩
theorem fX7_28 : bg_FL RX7 28 7 23 12 := ⟨_, _, rfl, by decide, bg_mT 754 (by decide +kernel) (by decide +kernel)⟩
theorem fX7_31 : bg_FL RX7 31 7 23 13 := ⟨_, _, rfl, by decide, bg_mT 755 (by decide +kernel) (by decide +kernel)⟩
theorem fX7_34 : bg_FL RX7 34 7 23 14 := ⟨_, _, rfl, by decide, bg_mT 756 (by decide +kernel) (by decide +kernel)⟩
theorem fX7_37 : bg_FL RX7 37 7 23 15 := ⟨_, _, rfl, by decide, bg_mT 757 (by decide +kernel) (by decide +kernel)⟩
theorem fX7_40 : bg_FL RX7 40 7 23 16 := ⟨_, _, rfl, by decide, bg_mT 758 (by decide +kernel) (by decide +kernel)⟩
theorem fX7_43 : bg_FL RX7 43 7 23 17 := ⟨_, _, rfl, by decide, bg_mT 759 (by decide +kernel) (by decide +kernel)⟩
theorem fX7_46 : bg_FL RX7 46 7 23 18 := ⟨_, _, rfl, by decide, bg_mT 760 (by decide +kernel) (by decide +kernel)⟩
theorem fX7_166 : bg_FL RX7 166 7 23 19 := ⟨_, _, rfl, by decide, bg_mT 761 (by decide +kernel) (by decide +kernel)⟩
theorem fX7_169 : bg_FL RX7 169 7 23 20 := ⟨_, _, rfl, by decide, bg_mT 762 (by decide +kernel) (by decide +kernel)⟩
theorem fX7_49 : bg_FL RX7 49 7 23 21 := ⟨_, _, rfl, by decide, bg_mT 763 (by decide +kernel) (by decide +kernel)⟩
theorem fX7_52 : bg_FL RX7 52 7 23 22 := ⟨_, _, rfl, by decide, bg_mT 764 (by decide +kernel) (by decide +kernel)⟩
theorem lL_17 : Cond.methodLink RL 17 yX7_setNumber ∈ bg_T := bg_mT 812 (by decide +kernel) (by decide +kernel)
theorem lX7_59 : Cond.methodLink RX7 59 yX7_in ∈ bg_T := bg_mT 816 (by decide +kernel) (by decide +kernel)
theorem lX7_80 : Cond.methodLink RX7 80 yX7_mostOf ∈ bg_T := bg_mT 819 (by decide +kernel) (by decide +kernel)
theorem lX7_84 : Cond.methodLink RX7 84 yX7_puts ∈ bg_T := bg_mT 822 (by decide +kernel) (by decide +kernel)
theorem lX7_77 : Cond.methodLink RX7 77 yX7_saves ∈ bg_T := bg_mT 826 (by decide +kernel) (by decide +kernel)
theorem kX7_87 : Cond.constant RX7 87 (Int32.ofInt (-1000001)) ∈ bg_T := bg_mT 830 (by decide +kernel) (by decide +kernel)
theorem lL_21 : Cond.methodLink RL 21 yX7_setKey ∈ bg_T := bg_mT 831 (by decide +kernel) (by decide +kernel)
theorem lX7_88 : Cond.methodLink RX7 88 yX7_isMark ∈ bg_T := bg_mT 835 (by decide +kernel) (by decide +kernel)
theorem lL_25 : Cond.methodLink RL 25 yX7_setCollar ∈ bg_T := bg_mT 838 (by decide +kernel) (by decide +kernel)
theorem lX7_63 : Cond.methodLink RX7 63 yX7_isHole ∈ bg_T := bg_mT 842 (by decide +kernel) (by decide +kernel)
theorem lL_30 : Cond.methodLink RL 30 yX7_addBed ∈ bg_T := bg_mT 845 (by decide +kernel) (by decide +kernel)
theorem kX7_91 : Cond.constant RX7 91 (Int32.ofInt (-1000003)) ∈ bg_T := bg_mT 849 (by decide +kernel) (by decide +kernel)
theorem lX7_92 : Cond.methodLink RX7 92 yX7_adds ∈ bg_T := bg_mT 850 (by decide +kernel) (by decide +kernel)
theorem lX7_67 : Cond.methodLink RX7 67 yX7_at ∈ bg_T := bg_mT 854 (by decide +kernel) (by decide +kernel)
theorem lX7_96 : Cond.methodLink RX7 96 yX7_comes ∈ bg_T := bg_mT 857 (by decide +kernel) (by decide +kernel)
theorem lL_34 : Cond.methodLink RL 34 yX7_removeBed ∈ bg_T := bg_mT 861 (by decide +kernel) (by decide +kernel)
theorem lX7_100 : Cond.methodLink RX7 100 yX7_isBed ∈ bg_T := bg_mT 865 (by decide +kernel) (by decide +kernel)
theorem lX7_71 : Cond.methodLink RX7 71 yX7_thick ∈ bg_T := bg_mT 869 (by decide +kernel) (by decide +kernel)
theorem lL_39 : Cond.methodLink RL 39 yX7_setThickness ∈ bg_T := bg_mT 873 (by decide +kernel) (by decide +kernel)
theorem lL_43 : Cond.methodLink RL 43 yX7_cut ∈ bg_T := bg_mT 877 (by decide +kernel) (by decide +kernel)
theorem lX7_110 : Cond.methodLink RX7 110 yX7_length ∈ bg_T := bg_mT 881 (by decide +kernel) (by decide +kernel)
theorem lX7_74 : Cond.methodLink RX7 74 yX7_depth ∈ bg_T := bg_mT 885 (by decide +kernel) (by decide +kernel)
theorem lX7_113 : Cond.methodLink RX7 113 yX7_takes ∈ bg_T := bg_mT 889 (by decide +kernel) (by decide +kernel)
theorem lX7_107 : Cond.methodLink RX7 107 yX7_mark ∈ bg_T := bg_mT 893 (by decide +kernel) (by decide +kernel)
theorem lL_48 : Cond.methodLink RL 48 yX7_appendCharacter ∈ bg_T := bg_mT 897 (by decide +kernel) (by decide +kernel)
theorem lL_53 : Cond.methodLink RL 53 yX7_clearText ∈ bg_T := bg_mT 901 (by decide +kernel) (by decide +kernel)
theorem lL_57 : Cond.methodLink RL 57 yX7_load ∈ bg_T := bg_mT 905 (by decide +kernel) (by decide +kernel)
theorem lX7_133 : Cond.methodLink RX7 133 yX7_reads ∈ bg_T := bg_mT 909 (by decide +kernel) (by decide +kernel)
theorem lX7_126 : Cond.methodLink RX7 126 yX7_isAt ∈ bg_T := bg_mT 913 (by decide +kernel) (by decide +kernel)
theorem lX7_129 : Cond.methodLink RX7 129 yX7_readsBed ∈ bg_T := bg_mT 917 (by decide +kernel) (by decide +kernel)
theorem kX7_137 : Cond.constant RX7 137 (Int32.ofInt (-2000000)) ∈ bg_T := bg_mT 921 (by decide +kernel) (by decide +kernel)
theorem lL_61 : Cond.methodLink RL 61 yX7_keep ∈ bg_T := bg_mT 922 (by decide +kernel) (by decide +kernel)
theorem lX7_141 : Cond.methodLink RX7 141 yX7_allBeds ∈ bg_T := bg_mT 926 (by decide +kernel) (by decide +kernel)
theorem lL_65 : Cond.methodLink RL 65 yX7_back ∈ bg_T := bg_mT 930 (by decide +kernel) (by decide +kernel)
theorem kX7_144 : Cond.constant RX7 144 (Int32.ofInt (-1000002)) ∈ bg_T := bg_mT 934 (by decide +kernel) (by decide +kernel)
theorem lL_69 : Cond.methodLink RL 69 yX7_undo ∈ bg_T := bg_mT 935 (by decide +kernel) (by decide +kernel)
theorem lL_73 : Cond.methodLink RL 73 yX7_count ∈ bg_T := bg_mT 939 (by decide +kernel) (by decide +kernel)
theorem lX7_145 : Cond.methodLink RX7 145 yX7_keyMany ∈ bg_T := bg_mT 943 (by decide +kernel) (by decide +kernel)
theorem lL_77 : Cond.methodLink RL 77 yX7_hole ∈ bg_T := bg_mT 947 (by decide +kernel) (by decide +kernel)
theorem lL_81 : Cond.methodLink RL 81 yX7_bed ∈ bg_T := bg_mT 951 (by decide +kernel) (by decide +kernel)
theorem kX7_148 : Cond.constant RX7 148 (Int32.ofInt (-1000009)) ∈ bg_T := bg_mT 955 (by decide +kernel) (by decide +kernel)
theorem lL_85 : Cond.methodLink RL 85 yX7_find ∈ bg_T := bg_mT 956 (by decide +kernel) (by decide +kernel)
theorem lL_89 : Cond.methodLink RL 89 yX7_account ∈ bg_T := bg_mT 960 (by decide +kernel) (by decide +kernel)
theorem lL_93 : Cond.methodLink RL 93 yX7_cost ∈ bg_T := bg_mT 964 (by decide +kernel) (by decide +kernel)
theorem lX7_175 : Cond.methodLink RX7 175 yX7_areTwo ∈ bg_T := bg_mT 968 (by decide +kernel) (by decide +kernel)
theorem lX7_163 : Cond.methodLink RX7 163 yX7_fills ∈ bg_T := bg_mT 971 (by decide +kernel) (by decide +kernel)
theorem lX7_159 : Cond.methodLink RX7 159 yX7_costOf ∈ bg_T := bg_mT 975 (by decide +kernel) (by decide +kernel)
theorem lX7_149 : Cond.methodLink RX7 149 yX7_differ ∈ bg_T := bg_mT 979 (by decide +kernel) (by decide +kernel)
theorem lX7_153 : Cond.methodLink RX7 153 yX7_missing ∈ bg_T := bg_mT 983 (by decide +kernel) (by decide +kernel)
theorem lX7_156 : Cond.methodLink RX7 156 yX7_repeated ∈ bg_T := bg_mT 987 (by decide +kernel) (by decide +kernel)
theorem lL_97 : Cond.methodLink RL 97 yX7_why ∈ bg_T := bg_mT 991 (by decide +kernel) (by decide +kernel)
theorem lX7_178 : Cond.methodLink RX7 178 yX7_isOne ∈ bg_T := bg_mT 995 (by decide +kernel) (by decide +kernel)
theorem lX7_182 : Cond.methodLink RX7 182 yX7_matches ∈ bg_T := bg_mT 999 (by decide +kernel) (by decide +kernel)
theorem lX7_172 : Cond.methodLink RX7 172 yX7_thingAt ∈ bg_T := bg_mT 1003 (by decide +kernel) (by decide +kernel)
theorem lL_101 : Cond.methodLink RL 101 yX7_partner ∈ bg_T := bg_mT 1007 (by decide +kernel) (by decide +kernel)
theorem lL_105 : Cond.methodLink RL 105 yX7_matched ∈ bg_T := bg_mT 1011 (by decide +kernel) (by decide +kernel)
theorem lX7_184 : Cond.methodLink RX7 184 yX7_isFault ∈ bg_T := bg_mT 1015 (by decide +kernel) (by decide +kernel)
theorem lL_109 : Cond.methodLink RL 109 yX7_fault ∈ bg_T := bg_mT 1019 (by decide +kernel) (by decide +kernel)
theorem lL_113 : Cond.methodLink RL 113 yX7_sumOfThrows ∈ bg_T := bg_mT 1023 (by decide +kernel) (by decide +kernel)
theorem lL_117 : Cond.methodLink RL 117 yX7_nearest ∈ bg_T := bg_mT 1027 (by decide +kernel) (by decide +kernel)
theorem lL_121 : Cond.methodLink RL 121 yX7_closed ∈ bg_T := bg_mT 1031 (by decide +kernel) (by decide +kernel)
theorem lX7_187 : Cond.methodLink RX7 187 yX7_copiesTo ∈ bg_T := bg_mT 1035 (by decide +kernel) (by decide +kernel)
theorem jA_ini : Cond.initialized "java/lang/System" ∈ bg_T := bg_mT 53 (by decide +kernel) (by decide +kernel)
theorem jM_ini : Cond.initialized "java/lang/Math" ∈ bg_T := bg_mT 54 (by decide +kernel) (by decide +kernel)
theorem jI_ini : Cond.initialized "java/lang/Integer" ∈ bg_T := bg_mT 55 (by decide +kernel) (by decide +kernel)
theorem qL_7 : Cond.classLink RL 7 RX6 ∈ bg_T := bg_mT 56 (by decide +kernel) (by decide +kernel)
theorem qI_RX6 : Cond.instantiable RX6 9 ∈ bg_T := bg_mT 57 (by decide +kernel) (by decide +kernel)
theorem jO_inst : Cond.instanceMethod Lib.objectInit ∈ bg_T := bg_mT 62 (by decide +kernel) (by decide +kernel)
theorem jO_code : Cond.code Lib.objectInit ⟨#[0xb1]⟩ 1 none ∈ bg_T := bg_mT 63 (by decide +kernel) (by decide +kernel)
theorem qX6_7 : Cond.classLink RX6 7 RX4 ∈ bg_T := bg_mT 64 (by decide +kernel) (by decide +kernel)
theorem qI_RX4 : Cond.instantiable RX4 4 ∈ bg_T := bg_mT 65 (by decide +kernel) (by decide +kernel)
theorem qX4_22 : Cond.classLink RX4 22 RX0 ∈ bg_T := bg_mT 72 (by decide +kernel) (by decide +kernel)
theorem qI_RX0 : Cond.instantiable RX0 4 ∈ bg_T := bg_mT 74 (by decide +kernel) (by decide +kernel)
theorem qA_int : Cond.arrayClass .int ∈ bg_T := bg_mT 92 (by decide +kernel) (by decide +kernel)
theorem qX6_16 : Cond.classLink RX6 16 RX1 ∈ bg_T := bg_mT 106 (by decide +kernel) (by decide +kernel)
theorem qI_RX1 : Cond.instantiable RX1 3 ∈ bg_T := bg_mT 107 (by decide +kernel) (by decide +kernel)
theorem qX1_9 : Cond.classLink RX1 9 RX4 ∈ bg_T := bg_mT 112 (by decide +kernel) (by decide +kernel)
theorem qX6_31 : Cond.classLink RX6 31 RX5 ∈ bg_T := bg_mT 125 (by decide +kernel) (by decide +kernel)
theorem qI_RX5 : Cond.instantiable RX5 5 ∈ bg_T := bg_mT 126 (by decide +kernel) (by decide +kernel)
theorem qX5_25 : Cond.classLink RX5 25 RX0 ∈ bg_T := bg_mT 131 (by decide +kernel) (by decide +kernel)
theorem qX6_38 : Cond.classLink RX6 38 RX0 ∈ bg_T := bg_mT 149 (by decide +kernel) (by decide +kernel)
theorem qX6_45 : Cond.classLink RX6 45 RX2 ∈ bg_T := bg_mT 151 (by decide +kernel) (by decide +kernel)
theorem qI_RX2 : Cond.instantiable RX2 6 ∈ bg_T := bg_mT 152 (by decide +kernel) (by decide +kernel)
theorem qX2_9 : Cond.classLink RX2 9 RX3 ∈ bg_T := bg_mT 157 (by decide +kernel) (by decide +kernel)
theorem qI_RX3 : Cond.instantiable RX3 7 ∈ bg_T := bg_mT 158 (by decide +kernel) (by decide +kernel)
theorem qX3_9 : Cond.classLink RX3 9 RX0 ∈ bg_T := bg_mT 163 (by decide +kernel) (by decide +kernel)
theorem jA_stat : Cond.static arraycopyName ∈ bg_T := bg_mT 252 (by decide +kernel) (by decide +kernel)
theorem jA_nat : Cond.native arraycopyName ∈ bg_T := bg_mT 253 (by decide +kernel) (by decide +kernel)
theorem jM_stat_min : Cond.static Lib.Math.min.name ∈ bg_T := bg_mT 264 (by decide +kernel) (by decide +kernel)
theorem jM_code_min : Cond.code Lib.Math.min.name Lib.Math.min.code 2 (some .int) ∈ bg_T := bg_mT 265 (by decide +kernel) (by decide +kernel)
theorem jM_stat_max : Cond.static Lib.Math.max.name ∈ bg_T := bg_mT 356 (by decide +kernel) (by decide +kernel)
theorem jM_code_max : Cond.code Lib.Math.max.name Lib.Math.max.code 2 (some .int) ∈ bg_T := bg_mT 357 (by decide +kernel) (by decide +kernel)
theorem jM_stat_abs : Cond.static Lib.Math.abs.name ∈ bg_T := bg_mT 583 (by decide +kernel) (by decide +kernel)
theorem jM_code_abs : Cond.code Lib.Math.abs.name Lib.Math.abs.code 1 (some .int) ∈ bg_T := bg_mT 584 (by decide +kernel) (by decide +kernel)
theorem qL_10 : Cond.classLink RL 10 RX7 ∈ bg_T := bg_mT 736 (by decide +kernel) (by decide +kernel)
theorem qI_RX7 : Cond.instantiable RX7 23 ∈ bg_T := bg_mT 737 (by decide +kernel) (by decide +kernel)
theorem hX4_15 : (Jvm.Cond.fieldLinkNest "BoreholeColumns$State" (15 : Nat) "BoreholeColumns" "FIRST_NUMBERS" "[I" "BoreholeColumns") ∈ bg_NW := by decide +kernel
theorem hX4_32 : (Jvm.Cond.methodLinkNest "BoreholeColumns$State" (32 : Nat) ({ cls := "BoreholeColumns", name := "isMark", desc := "(I)Z" } : Jvm.MethodName) "BoreholeColumns") ∈ bg_NW := by decide +kernel
theorem hX4_42 : (Jvm.Cond.methodLinkNest "BoreholeColumns$State" (42 : Nat) ({ cls := "BoreholeColumns", name := "isHole", desc := "(I)Z" } : Jvm.MethodName) "BoreholeColumns") ∈ bg_NW := by decide +kernel
theorem hX5_53 : (Jvm.Cond.methodLinkNest "BoreholeColumns$Text" (53 : Nat) ({ cls := "BoreholeColumns", name := "isHole", desc := "(I)Z" } : Jvm.MethodName) "BoreholeColumns") ∈ bg_NW := by decide +kernel
theorem hX5_56 : (Jvm.Cond.methodLinkNest "BoreholeColumns$Text" (56 : Nat) ({ cls := "BoreholeColumns", name := "isMark", desc := "(I)Z" } : Jvm.MethodName) "BoreholeColumns") ∈ bg_NW := by decide +kernel
theorem hX3_74 : (Jvm.Cond.methodLinkNest "BoreholeColumns$Pair" (74 : Nat) ({ cls := "BoreholeColumns", name := "isMark", desc := "(I)Z" } : Jvm.MethodName) "BoreholeColumns") ∈ bg_NW := by decide +kernel
end
section
/-! the world as it stands once all is made: every reference is fixed, ints alone change -/
def bg_rC (c : Nat) : List (List (Option Nat)) := [[none, none, some (c + 1), some (c + 2)], [], []]
def bg_rS (b : Nat) : List (List (Option Nat)) := [[some (b + 1), none, some (b + 2), some (b + 15)], [], [some (b + 3), some (b + 6), some (b + 9), some (b + 12)]] ++ bg_rC (b + 3) ++ bg_rC (b + 6) ++ bg_rC (b + 9) ++ bg_rC (b + 12) ++ [[]]
def bg_rM (q : Nat) : List (List (Option Nat)) := [[some (q + 1), some (q + 10), some (q + 11), some (q + 12), some (q + 13), none], [some (q + 2), some (q + 5), some (q + 8), none, none, none, some (q + 9)]] ++ bg_rC (q + 2) ++ bg_rC (q + 5) ++ [[], [], [], [], [], []]
def bg_RL : List (List (Option Nat)) := [[some 1, some 17, some 115, none, some 148, some 153, some 156, some 170, some 184]] ++ bg_rS 1 ++ [[some 18, none, none], [some 19, some 35, some 51, some 67, some 83, some 99]] ++ bg_rS 19 ++ bg_rS 35 ++ bg_rS 51 ++ bg_rS 67 ++ bg_rS 83 ++ bg_rS 99 ++ [[some 116, some 132]] ++ bg_rS 116 ++ bg_rS 132 ++ [[some 149, none, none, none, some 150], []] ++ bg_rC 150 ++ bg_rC 153 ++ bg_rM 156 ++ bg_rM 170 ++ bg_rM 184 ++ [[some 199, some 200, some 201, some 202, none, none, some 203, none, some 204, none, none, none, some 205, some 206, some 207, some 208, some 209, some 210, some 211, none, none, some 212, some 213]]
def bg_F (a k : Nat) : Option Nat := ((bg_RL[a]?).bind (fun l => l[k]?)).bind id
abbrev bg_E : Type := Nat → Nat → Int
abbrev bg_O (g : bg_E) : bg_M := (214, bg_F, g)
/-- a column at c -/
def bg_col (c : Nat) : Prop := bg_kd c = some (0, 4) ∧ bg_F c 2 = some (c + 1) ∧ bg_F c 3 = some (c + 2) ∧ bg_kd (c + 1) = some (8, 24) ∧ bg_kd (c + 2) = some (8, 24)
/-- a state at b -/
def bg_sta (b : Nat) : Prop := bg_kd b = some (4, 4) ∧ bg_F b 0 = some (b + 1) ∧ bg_F b 2 = some (b + 2) ∧ bg_F b 3 = some (b + 15) ∧ bg_kd (b + 1) = some (8, 5) ∧ bg_kd (b + 2) = some (10, 4) ∧ bg_kd (b + 15) = some (8, 5) ∧ (∀ h, h < 4 → bg_F (b + 2) h = some (b + 3 + 3 * h)) ∧ ∀ h, h < 4 → bg_col (b + 3 + 3 * h)
/-- a matching at q -/
def bg_mat (q : Nat) : Prop := bg_kd q = some (2, 6) ∧ bg_F q 0 = some (q + 1) ∧ bg_F q 1 = some (q + 10) ∧ bg_F q 2 = some (q + 11) ∧ bg_F q 3 = some (q + 12) ∧ bg_F q 4 = some (q + 13) ∧ bg_kd (q + 1) = some (3, 7) ∧ bg_F (q + 1) 0 = some (q + 2) ∧ bg_F (q + 1) 1 = some (q + 5) ∧ bg_F (q + 1) 2 = some (q + 8) ∧ bg_F (q + 1) 6 = some (q + 9) ∧ bg_col (q + 2) ∧ bg_col (q + 5) ∧ bg_kd (q + 8) = some (8, 26) ∧ bg_kd (q + 9) = some (8, 625) ∧ bg_kd (q + 10) = some (8, 24) ∧ bg_kd (q + 11) = some (8, 24) ∧ bg_kd (q + 12) = some (8, 24) ∧ bg_kd (q + 13) = some (8, 24)
theorem bg_cols : ∀ c ∈ [4, 7, 10, 13, 22, 25, 28, 31, 38, 41, 44, 47, 54, 57, 60, 63, 70, 73, 76, 79, 86, 89, 92, 95, 102, 105, 108, 111, 119, 122, 125, 128, 135, 138, 141, 144, 150, 153, 158, 161, 172, 175, 186, 189], bg_col c := by
  unfold bg_col
  decide +kernel
theorem bg_stas : ∀ b ∈ [1, 19, 35, 51, 67, 83, 99, 116, 132], bg_sta b := by
  unfold bg_sta bg_col
  decide +kernel
theorem bg_mats : ∀ q ∈ [156, 170, 184], bg_mat q := by
  unfold bg_mat bg_col
  decide +kernel
def b2i (p : Prop) [Decidable p] : Int := if p then 1 else 0
theorem b2i_t {p : Prop} [Decidable p] (h : p) : b2i p = 1 := if_pos h
theorem b2i_f {p : Prop} [Decidable p] (h : ¬ p) : b2i p = 0 := if_neg h
theorem b2i_01 (p : Prop) [Decidable p] : b2i p = 0 ∨ b2i p = 1 := by
  unfold b2i
  split
  · exact Or.inr rfl
  · exact Or.inl rfl
theorem b2i_ne {p : Prop} [Decidable p] (h : ¬ b2i p = 0) : p := Classical.byContradiction (fun q => h (b2i_f q))
theorem b2i_eq {p : Prop} [Decidable p] (h : b2i p = 0) : ¬ p := fun q => by rw [b2i_t q] at h; cases h
def bg_pI (P : Int → bg_E → Prop) : Option bg_V → bg_M → Prop := fun r M' => ∃ (i : Int) (g' : bg_E), r = some (.inl i) ∧ M' = bg_O g' ∧ P i g'
def bg_pV (P : bg_E → Prop) : Option bg_V → bg_M → Prop := fun r M' => ∃ g' : bg_E, r = none ∧ M' = bg_O g' ∧ P g'
def bg_pR (P : Nat → bg_E → Prop) : Option bg_V → bg_M → Prop := fun r M' => ∃ (i : Nat) (g' : bg_E), r = some (.inr i) ∧ M' = bg_O g' ∧ P i g'
def bg_Si (y : bg_Y) (d : Nat) (μ : bg_P) (args : List bg_V) (g : bg_E) (P : Int → bg_E → Prop) : Prop := bg_S y d 0 0 μ args (bg_O g) (bg_pI P)
def bg_Sv (y : bg_Y) (d : Nat) (μ : bg_P) (args : List bg_V) (g : bg_E) (P : bg_E → Prop) : Prop := bg_S y d 0 0 μ args (bg_O g) (bg_pV P)
def bg_Sr (y : bg_Y) (d : Nat) (μ : bg_P) (args : List bg_V) (g : bg_E) (P : Nat → bg_E → Prop) : Prop := bg_S y d 0 0 μ args (bg_O g) (bg_pR P)
abbrev bg_g (κ : bg_K) (y : bg_Y) (pc : Nat) (ls : List (Option bg_V)) (st : List bg_V) (g : bg_E) : Prop := bg_G κ y (0, 0) pc ls st (bg_O g)
section ORD
variable {κ : bg_K} {y : bg_Y} {cc : ByteArray} {own : String} {dd mcc mss pc : Nat} {ls : List (Option bg_V)} {st : List bg_V} {g : bg_E}
theorem bo_getI (X : bg_X κ y cc own dd mcc mss) {a ci N k idx : Nat} (hd : decode cc pc = .ok (.getfield idx, 3)) (hf : bg_FL own idx ci N k) (hk : bg_kd a = some (ci, N)) (hi : bg_fi ci k = true) (kk : bg_g κ y (pc + 3) ls (.inl (g a k) :: st) g) : bg_g κ y pc ls (.inr a :: st) g := bg_getI X hd hf hk hi (bg_kd_lt hk) kk
theorem bo_getR (X : bg_X κ y cc own dd mcc mss) {a ci N k idx b : Nat} (hd : decode cc pc = .ok (.getfield idx, 3)) (hf : bg_FL own idx ci N k) (hk : bg_kd a = some (ci, N)) (hi : bg_fi ci k = false) (hr : bg_F a k = some b) (kk : bg_g κ y (pc + 3) ls (.inr b :: st) g) : bg_g κ y pc ls (.inr a :: st) g := bg_getR X hd hf hk hi (bg_kd_lt hk) hr kk
theorem bo_putI (X : bg_X κ y cc own dd mcc mss) {a ci N k idx : Nat} {v : Int} (hd : decode cc pc = .ok (.putfield idx, 3)) (hf : bg_FL own idx ci N k) (hk : bg_kd a = some (ci, N)) (hi : bg_fi ci k = true) (kk : bg_g κ y (pc + 3) ls st (bg_up g a k v)) : bg_g κ y pc ls (.inl v :: .inr a :: st) g := bg_putI X hd hf hk hi (bg_kd_lt hk) kk
theorem bo_iaload (X : bg_X κ y cc own dd mcc mss) {a N : Nat} {i : Int} (hd : decode cc pc = .ok (.iaload, 1)) (hk : bg_kd a = some (8, N)) (h0 : 0 ≤ i ∧ i < N) (kk : bg_g κ y (pc + 1) ls (.inl (g a i.toNat) :: st) g) : bg_g κ y pc ls (.inl i :: .inr a :: st) g := bg_iaload X hd hk (bg_kd_lt hk) h0 kk
theorem bo_iastore (X : bg_X κ y cc own dd mcc mss) {a N : Nat} {i v : Int} (hd : decode cc pc = .ok (.iastore, 1)) (hk : bg_kd a = some (8, N)) (h0 : 0 ≤ i ∧ i < N) (kk : bg_g κ y (pc + 1) ls st (bg_up g a i.toNat v)) : bg_g κ y pc ls (.inl v :: .inl i :: .inr a :: st) g := bg_iastore X hd hk (bg_kd_lt hk) h0 kk
theorem bo_aaload (X : bg_X κ y cc own dd mcc mss) {a ci N b : Nat} {i : Int} (hd : decode cc pc = .ok (.aaload, 1)) (hk : bg_kd a = some (ci, N)) (hc : ci = 9 ∨ ci = 10) (h0 : 0 ≤ i ∧ i < N) (hr : bg_F a i.toNat = some b) (kk : bg_g κ y (pc + 1) ls (.inr b :: st) g) : bg_g κ y pc ls (.inl i :: .inr a :: st) g := bg_aaload X hd hk hc (bg_kd_lt hk) h0 hr kk
theorem bo_ifeq_b (X : bg_X κ y cc own dd mcc mss) {p : Prop} {_ : Decidable p} {off : Int} {tgt : Nat} (hd : decode cc pc = .ok (.ifCond .eq off, 3)) (ht : (pc : Int) + off = (tgt : Int)) (k1 : ¬ p → bg_g κ y tgt ls st g) (k2 : p → bg_g κ y (pc + 3) ls st g) : bg_g κ y pc ls (.inl (b2i p) :: st) g := bg_if_eq X hd ht (fun h => k1 (b2i_eq h)) (fun h => k2 (b2i_ne h))
theorem bo_ifne_b (X : bg_X κ y cc own dd mcc mss) {p : Prop} {_ : Decidable p} {off : Int} {tgt : Nat} (hd : decode cc pc = .ok (.ifCond .ne off, 3)) (ht : (pc : Int) + off = (tgt : Int)) (k1 : p → bg_g κ y tgt ls st g) (k2 : ¬ p → bg_g κ y (pc + 3) ls st g) : bg_g κ y pc ls (.inl (b2i p) :: st) g := bg_if_ne X hd ht (fun h => k1 (b2i_ne h)) (fun h => k2 (b2i_eq h))
theorem bo_V0i (X : bg_X κ y cc own dd mcc mss) {d idx m ci N a : Nat} {μ : bg_P} {P : Int → bg_E → Prop} (hc : bg_Si y d μ [.inr a] g P) (hm : bg_mV μ ci m) (hl : Cond.methodLink own idx μ.1 ∈ bg_T) (hn : 0 = m) (hk : bg_kd a = some (ci, N)) (hd : d + 1 ≤ dd) (hdc : decode cc pc = .ok (.invokevirtual idx, 3)) (hst : st.length ≤ 8) (kk : ∀ (i : Int) (g' : bg_E), P i g' → bg_g κ y (pc + 3) ls (.inl i :: st) g') : bg_g κ y pc ls (.inr a :: st) g := by
  refine bg_callV X (As := []) hc hm hl hn hk (bg_kd_lt hk) hd ⟨Nat.zero_le _, Nat.zero_le _⟩ hdc hst ?_
  rintro _ _ ⟨i, g', rfl, rfl, hP⟩
  exact kk i g' hP
theorem bo_V0v (X : bg_X κ y cc own dd mcc mss) {d idx m ci N a : Nat} {μ : bg_P} {P : bg_E → Prop} (hc : bg_Sv y d μ [.inr a] g P) (hm : bg_mV μ ci m) (hl : Cond.methodLink own idx μ.1 ∈ bg_T) (hn : 0 = m) (hk : bg_kd a = some (ci, N)) (hd : d + 1 ≤ dd) (hdc : decode cc pc = .ok (.invokevirtual idx, 3)) (hst : st.length ≤ 8) (kk : ∀ (g' : bg_E), P g' → bg_g κ y (pc + 3) ls st g') : bg_g κ y pc ls (.inr a :: st) g := by
  refine bg_callV X (As := []) hc hm hl hn hk (bg_kd_lt hk) hd ⟨Nat.zero_le _, Nat.zero_le _⟩ hdc hst ?_
  rintro _ _ ⟨g', rfl, rfl, hP⟩
  exact kk g' hP
theorem bo_V0r (X : bg_X κ y cc own dd mcc mss) {d idx m ci N a : Nat} {μ : bg_P} {P : Nat → bg_E → Prop} (hc : bg_Sr y d μ [.inr a] g P) (hm : bg_mV μ ci m) (hl : Cond.methodLink own idx μ.1 ∈ bg_T) (hn : 0 = m) (hk : bg_kd a = some (ci, N)) (hd : d + 1 ≤ dd) (hdc : decode cc pc = .ok (.invokevirtual idx, 3)) (hst : st.length ≤ 8) (kk : ∀ (i : Nat) (g' : bg_E), P i g' → bg_g κ y (pc + 3) ls (.inr i :: st) g') : bg_g κ y pc ls (.inr a :: st) g := by
  refine bg_callV X (As := []) hc hm hl hn hk (bg_kd_lt hk) hd ⟨Nat.zero_le _, Nat.zero_le _⟩ hdc hst ?_
  rintro _ _ ⟨i, g', rfl, rfl, hP⟩
  exact kk i g' hP
theorem bo_V1i (X : bg_X κ y cc own dd mcc mss) {d idx m ci N a : Nat} {μ : bg_P} {x1 : bg_V} {P : Int → bg_E → Prop} (hc : bg_Si y d μ [.inr a, x1] g P) (hm : bg_mV μ ci m) (hl : Cond.methodLink own idx μ.1 ∈ bg_T) (hn : 1 = m) (hk : bg_kd a = some (ci, N)) (hd : d + 1 ≤ dd) (hdc : decode cc pc = .ok (.invokevirtual idx, 3)) (hst : st.length ≤ 8) (kk : ∀ (i : Int) (g' : bg_E), P i g' → bg_g κ y (pc + 3) ls (.inl i :: st) g') : bg_g κ y pc ls (x1 :: .inr a :: st) g := by
  refine bg_callV X (As := [x1]) hc hm hl hn hk (bg_kd_lt hk) hd ⟨Nat.zero_le _, Nat.zero_le _⟩ hdc hst ?_
  rintro _ _ ⟨i, g', rfl, rfl, hP⟩
  exact kk i g' hP
theorem bo_V1v (X : bg_X κ y cc own dd mcc mss) {d idx m ci N a : Nat} {μ : bg_P} {x1 : bg_V} {P : bg_E → Prop} (hc : bg_Sv y d μ [.inr a, x1] g P) (hm : bg_mV μ ci m) (hl : Cond.methodLink own idx μ.1 ∈ bg_T) (hn : 1 = m) (hk : bg_kd a = some (ci, N)) (hd : d + 1 ≤ dd) (hdc : decode cc pc = .ok (.invokevirtual idx, 3)) (hst : st.length ≤ 8) (kk : ∀ (g' : bg_E), P g' → bg_g κ y (pc + 3) ls st g') : bg_g κ y pc ls (x1 :: .inr a :: st) g := by
  refine bg_callV X (As := [x1]) hc hm hl hn hk (bg_kd_lt hk) hd ⟨Nat.zero_le _, Nat.zero_le _⟩ hdc hst ?_
  rintro _ _ ⟨g', rfl, rfl, hP⟩
  exact kk g' hP
theorem bo_V1r (X : bg_X κ y cc own dd mcc mss) {d idx m ci N a : Nat} {μ : bg_P} {x1 : bg_V} {P : Nat → bg_E → Prop} (hc : bg_Sr y d μ [.inr a, x1] g P) (hm : bg_mV μ ci m) (hl : Cond.methodLink own idx μ.1 ∈ bg_T) (hn : 1 = m) (hk : bg_kd a = some (ci, N)) (hd : d + 1 ≤ dd) (hdc : decode cc pc = .ok (.invokevirtual idx, 3)) (hst : st.length ≤ 8) (kk : ∀ (i : Nat) (g' : bg_E), P i g' → bg_g κ y (pc + 3) ls (.inr i :: st) g') : bg_g κ y pc ls (x1 :: .inr a :: st) g := by
  refine bg_callV X (As := [x1]) hc hm hl hn hk (bg_kd_lt hk) hd ⟨Nat.zero_le _, Nat.zero_le _⟩ hdc hst ?_
  rintro _ _ ⟨i, g', rfl, rfl, hP⟩
  exact kk i g' hP
theorem bo_S1i (X : bg_X κ y cc own dd mcc mss) {d idx m : Nat} {μ : bg_P} {x1 : bg_V} {P : Int → bg_E → Prop} (hc : bg_Si y d μ [x1] g P) (hm : bg_mS μ m) (hl : Cond.methodLink own idx μ.1 ∈ bg_T) (hn : 1 = m) (hd : d + 1 ≤ dd) (hdc : decode cc pc = .ok (.invokestatic idx, 3)) (hst : st.length ≤ 8) (kk : ∀ (i : Int) (g' : bg_E), P i g' → bg_g κ y (pc + 3) ls (.inl i :: st) g') : bg_g κ y pc ls (x1 :: st) g := by
  refine bg_callS X (As := [x1]) hc hm hl hn hd ⟨Nat.zero_le _, Nat.zero_le _⟩ hdc hst ?_
  rintro _ _ ⟨i, g', rfl, rfl, hP⟩
  exact kk i g' hP
theorem bo_N1i (X : bg_X κ y cc own dd mcc mss) {d idx m : Nat} {host : String} {μ : bg_P} {x1 : bg_V} {P : Int → bg_E → Prop} (hc : bg_Si y d μ [x1] g P) (hm : bg_mS μ m) (hl : Cond.methodLinkNest own idx μ.1 host ∈ bg_NW) (hn : 1 = m) (hd : d + 1 ≤ dd) (hdc : decode cc pc = .ok (.invokestatic idx, 3)) (hst : st.length ≤ 8) (kk : ∀ (i : Int) (g' : bg_E), P i g' → bg_g κ y (pc + 3) ls (.inl i :: st) g') : bg_g κ y pc ls (x1 :: st) g := by
  refine bg_callSN X (As := [x1]) hc hm hl hn hd ⟨Nat.zero_le _, Nat.zero_le _⟩ hdc hst ?_
  rintro _ _ ⟨i, g', rfl, rfl, hP⟩
  exact kk i g' hP
theorem bo_V2i (X : bg_X κ y cc own dd mcc mss) {d idx m ci N a : Nat} {μ : bg_P} {x1 x2 : bg_V} {P : Int → bg_E → Prop} (hc : bg_Si y d μ [.inr a, x1, x2] g P) (hm : bg_mV μ ci m) (hl : Cond.methodLink own idx μ.1 ∈ bg_T) (hn : 2 = m) (hk : bg_kd a = some (ci, N)) (hd : d + 1 ≤ dd) (hdc : decode cc pc = .ok (.invokevirtual idx, 3)) (hst : st.length ≤ 8) (kk : ∀ (i : Int) (g' : bg_E), P i g' → bg_g κ y (pc + 3) ls (.inl i :: st) g') : bg_g κ y pc ls (x2 :: x1 :: .inr a :: st) g := by
  refine bg_callV X (As := [x1, x2]) hc hm hl hn hk (bg_kd_lt hk) hd ⟨Nat.zero_le _, Nat.zero_le _⟩ hdc hst ?_
  rintro _ _ ⟨i, g', rfl, rfl, hP⟩
  exact kk i g' hP
theorem bo_V2v (X : bg_X κ y cc own dd mcc mss) {d idx m ci N a : Nat} {μ : bg_P} {x1 x2 : bg_V} {P : bg_E → Prop} (hc : bg_Sv y d μ [.inr a, x1, x2] g P) (hm : bg_mV μ ci m) (hl : Cond.methodLink own idx μ.1 ∈ bg_T) (hn : 2 = m) (hk : bg_kd a = some (ci, N)) (hd : d + 1 ≤ dd) (hdc : decode cc pc = .ok (.invokevirtual idx, 3)) (hst : st.length ≤ 8) (kk : ∀ (g' : bg_E), P g' → bg_g κ y (pc + 3) ls st g') : bg_g κ y pc ls (x2 :: x1 :: .inr a :: st) g := by
  refine bg_callV X (As := [x1, x2]) hc hm hl hn hk (bg_kd_lt hk) hd ⟨Nat.zero_le _, Nat.zero_le _⟩ hdc hst ?_
  rintro _ _ ⟨g', rfl, rfl, hP⟩
  exact kk g' hP
theorem bo_S2i (X : bg_X κ y cc own dd mcc mss) {d idx m : Nat} {μ : bg_P} {x1 x2 : bg_V} {P : Int → bg_E → Prop} (hc : bg_Si y d μ [x1, x2] g P) (hm : bg_mS μ m) (hl : Cond.methodLink own idx μ.1 ∈ bg_T) (hn : 2 = m) (hd : d + 1 ≤ dd) (hdc : decode cc pc = .ok (.invokestatic idx, 3)) (hst : st.length ≤ 8) (kk : ∀ (i : Int) (g' : bg_E), P i g' → bg_g κ y (pc + 3) ls (.inl i :: st) g') : bg_g κ y pc ls (x2 :: x1 :: st) g := by
  refine bg_callS X (As := [x1, x2]) hc hm hl hn hd ⟨Nat.zero_le _, Nat.zero_le _⟩ hdc hst ?_
  rintro _ _ ⟨i, g', rfl, rfl, hP⟩
  exact kk i g' hP
theorem bo_V3i (X : bg_X κ y cc own dd mcc mss) {d idx m ci N a : Nat} {μ : bg_P} {x1 x2 x3 : bg_V} {P : Int → bg_E → Prop} (hc : bg_Si y d μ [.inr a, x1, x2, x3] g P) (hm : bg_mV μ ci m) (hl : Cond.methodLink own idx μ.1 ∈ bg_T) (hn : 3 = m) (hk : bg_kd a = some (ci, N)) (hd : d + 1 ≤ dd) (hdc : decode cc pc = .ok (.invokevirtual idx, 3)) (hst : st.length ≤ 8) (kk : ∀ (i : Int) (g' : bg_E), P i g' → bg_g κ y (pc + 3) ls (.inl i :: st) g') : bg_g κ y pc ls (x3 :: x2 :: x1 :: .inr a :: st) g := by
  refine bg_callV X (As := [x1, x2, x3]) hc hm hl hn hk (bg_kd_lt hk) hd ⟨Nat.zero_le _, Nat.zero_le _⟩ hdc hst ?_
  rintro _ _ ⟨i, g', rfl, rfl, hP⟩
  exact kk i g' hP
theorem bo_V3v (X : bg_X κ y cc own dd mcc mss) {d idx m ci N a : Nat} {μ : bg_P} {x1 x2 x3 : bg_V} {P : bg_E → Prop} (hc : bg_Sv y d μ [.inr a, x1, x2, x3] g P) (hm : bg_mV μ ci m) (hl : Cond.methodLink own idx μ.1 ∈ bg_T) (hn : 3 = m) (hk : bg_kd a = some (ci, N)) (hd : d + 1 ≤ dd) (hdc : decode cc pc = .ok (.invokevirtual idx, 3)) (hst : st.length ≤ 8) (kk : ∀ (g' : bg_E), P g' → bg_g κ y (pc + 3) ls st g') : bg_g κ y pc ls (x3 :: x2 :: x1 :: .inr a :: st) g := by
  refine bg_callV X (As := [x1, x2, x3]) hc hm hl hn hk (bg_kd_lt hk) hd ⟨Nat.zero_le _, Nat.zero_le _⟩ hdc hst ?_
  rintro _ _ ⟨g', rfl, rfl, hP⟩
  exact kk g' hP
theorem bo_S3i (X : bg_X κ y cc own dd mcc mss) {d idx m : Nat} {μ : bg_P} {x1 x2 x3 : bg_V} {P : Int → bg_E → Prop} (hc : bg_Si y d μ [x1, x2, x3] g P) (hm : bg_mS μ m) (hl : Cond.methodLink own idx μ.1 ∈ bg_T) (hn : 3 = m) (hd : d + 1 ≤ dd) (hdc : decode cc pc = .ok (.invokestatic idx, 3)) (hst : st.length ≤ 8) (kk : ∀ (i : Int) (g' : bg_E), P i g' → bg_g κ y (pc + 3) ls (.inl i :: st) g') : bg_g κ y pc ls (x3 :: x2 :: x1 :: st) g := by
  refine bg_callS X (As := [x1, x2, x3]) hc hm hl hn hd ⟨Nat.zero_le _, Nat.zero_le _⟩ hdc hst ?_
  rintro _ _ ⟨i, g', rfl, rfl, hP⟩
  exact kk i g' hP
theorem bo_V4i (X : bg_X κ y cc own dd mcc mss) {d idx m ci N a : Nat} {μ : bg_P} {x1 x2 x3 x4 : bg_V} {P : Int → bg_E → Prop} (hc : bg_Si y d μ [.inr a, x1, x2, x3, x4] g P) (hm : bg_mV μ ci m) (hl : Cond.methodLink own idx μ.1 ∈ bg_T) (hn : 4 = m) (hk : bg_kd a = some (ci, N)) (hd : d + 1 ≤ dd) (hdc : decode cc pc = .ok (.invokevirtual idx, 3)) (hst : st.length ≤ 8) (kk : ∀ (i : Int) (g' : bg_E), P i g' → bg_g κ y (pc + 3) ls (.inl i :: st) g') : bg_g κ y pc ls (x4 :: x3 :: x2 :: x1 :: .inr a :: st) g := by
  refine bg_callV X (As := [x1, x2, x3, x4]) hc hm hl hn hk (bg_kd_lt hk) hd ⟨Nat.zero_le _, Nat.zero_le _⟩ hdc hst ?_
  rintro _ _ ⟨i, g', rfl, rfl, hP⟩
  exact kk i g' hP
theorem bo_V4v (X : bg_X κ y cc own dd mcc mss) {d idx m ci N a : Nat} {μ : bg_P} {x1 x2 x3 x4 : bg_V} {P : bg_E → Prop} (hc : bg_Sv y d μ [.inr a, x1, x2, x3, x4] g P) (hm : bg_mV μ ci m) (hl : Cond.methodLink own idx μ.1 ∈ bg_T) (hn : 4 = m) (hk : bg_kd a = some (ci, N)) (hd : d + 1 ≤ dd) (hdc : decode cc pc = .ok (.invokevirtual idx, 3)) (hst : st.length ≤ 8) (kk : ∀ (g' : bg_E), P g' → bg_g κ y (pc + 3) ls st g') : bg_g κ y pc ls (x4 :: x3 :: x2 :: x1 :: .inr a :: st) g := by
  refine bg_callV X (As := [x1, x2, x3, x4]) hc hm hl hn hk (bg_kd_lt hk) hd ⟨Nat.zero_le _, Nat.zero_le _⟩ hdc hst ?_
  rintro _ _ ⟨g', rfl, rfl, hP⟩
  exact kk g' hP
theorem bo_S4i (X : bg_X κ y cc own dd mcc mss) {d idx m : Nat} {μ : bg_P} {x1 x2 x3 x4 : bg_V} {P : Int → bg_E → Prop} (hc : bg_Si y d μ [x1, x2, x3, x4] g P) (hm : bg_mS μ m) (hl : Cond.methodLink own idx μ.1 ∈ bg_T) (hn : 4 = m) (hd : d + 1 ≤ dd) (hdc : decode cc pc = .ok (.invokestatic idx, 3)) (hst : st.length ≤ 8) (kk : ∀ (i : Int) (g' : bg_E), P i g' → bg_g κ y (pc + 3) ls (.inl i :: st) g') : bg_g κ y pc ls (x4 :: x3 :: x2 :: x1 :: st) g := by
  refine bg_callS X (As := [x1, x2, x3, x4]) hc hm hl hn hd ⟨Nat.zero_le _, Nat.zero_le _⟩ hdc hst ?_
  rintro _ _ ⟨i, g', rfl, rfl, hP⟩
  exact kk i g' hP
theorem bo_V5i (X : bg_X κ y cc own dd mcc mss) {d idx m ci N a : Nat} {μ : bg_P} {x1 x2 x3 x4 x5 : bg_V} {P : Int → bg_E → Prop} (hc : bg_Si y d μ [.inr a, x1, x2, x3, x4, x5] g P) (hm : bg_mV μ ci m) (hl : Cond.methodLink own idx μ.1 ∈ bg_T) (hn : 5 = m) (hk : bg_kd a = some (ci, N)) (hd : d + 1 ≤ dd) (hdc : decode cc pc = .ok (.invokevirtual idx, 3)) (hst : st.length ≤ 8) (kk : ∀ (i : Int) (g' : bg_E), P i g' → bg_g κ y (pc + 3) ls (.inl i :: st) g') : bg_g κ y pc ls (x5 :: x4 :: x3 :: x2 :: x1 :: .inr a :: st) g := by
  refine bg_callV X (As := [x1, x2, x3, x4, x5]) hc hm hl hn hk (bg_kd_lt hk) hd ⟨Nat.zero_le _, Nat.zero_le _⟩ hdc hst ?_
  rintro _ _ ⟨i, g', rfl, rfl, hP⟩
  exact kk i g' hP
theorem bo_V5v (X : bg_X κ y cc own dd mcc mss) {d idx m ci N a : Nat} {μ : bg_P} {x1 x2 x3 x4 x5 : bg_V} {P : bg_E → Prop} (hc : bg_Sv y d μ [.inr a, x1, x2, x3, x4, x5] g P) (hm : bg_mV μ ci m) (hl : Cond.methodLink own idx μ.1 ∈ bg_T) (hn : 5 = m) (hk : bg_kd a = some (ci, N)) (hd : d + 1 ≤ dd) (hdc : decode cc pc = .ok (.invokevirtual idx, 3)) (hst : st.length ≤ 8) (kk : ∀ (g' : bg_E), P g' → bg_g κ y (pc + 3) ls st g') : bg_g κ y pc ls (x5 :: x4 :: x3 :: x2 :: x1 :: .inr a :: st) g := by
  refine bg_callV X (As := [x1, x2, x3, x4, x5]) hc hm hl hn hk (bg_kd_lt hk) hd ⟨Nat.zero_le _, Nat.zero_le _⟩ hdc hst ?_
  rintro _ _ ⟨g', rfl, rfl, hP⟩
  exact kk g' hP
theorem bo_S5i (X : bg_X κ y cc own dd mcc mss) {d idx m : Nat} {μ : bg_P} {x1 x2 x3 x4 x5 : bg_V} {P : Int → bg_E → Prop} (hc : bg_Si y d μ [x1, x2, x3, x4, x5] g P) (hm : bg_mS μ m) (hl : Cond.methodLink own idx μ.1 ∈ bg_T) (hn : 5 = m) (hd : d + 1 ≤ dd) (hdc : decode cc pc = .ok (.invokestatic idx, 3)) (hst : st.length ≤ 8) (kk : ∀ (i : Int) (g' : bg_E), P i g' → bg_g κ y (pc + 3) ls (.inl i :: st) g') : bg_g κ y pc ls (x5 :: x4 :: x3 :: x2 :: x1 :: st) g := by
  refine bg_callS X (As := [x1, x2, x3, x4, x5]) hc hm hl hn hd ⟨Nat.zero_le _, Nat.zero_le _⟩ hdc hst ?_
  rintro _ _ ⟨i, g', rfl, rfl, hP⟩
  exact kk i g' hP
theorem bo_max (X : bg_X κ y cc own dd mcc mss) {idx : Nat} {p q : Int} (hl : Cond.methodLink own idx Lib.Math.max.name ∈ bg_T) (h1 : 1 ≤ dd) (hd : decode cc pc = .ok (.invokestatic idx, 3)) (hst : st.length ≤ 8) (kk : bg_g κ y (pc + 3) ls (.inl (max p q) :: st) g) : bg_g κ y pc ls (.inl q :: .inl p :: st) g := by
  intro H locs a hD hS hL hR
  obtain ⟨hx, hb, hown, hts, hK, hbs, hlk, r1, r2, r3, r4⟩ := X
  have hq : R32 q := hR.1
  have hp : R32 p := hR.2.1
  refine va_mmax hx hb hL.2.1.symm hown (hts _ hl) (hts _ jM_stat_max) (hts _ jM_ini) (hts _ jM_code_max) (Nat.le_trans h1 r1) (by rw [bg_RS_R]; omega) (Nat.zero_le _) (Nat.zero_le _) hd ?_
  have e : (if Int32.ofInt p < Int32.ofInt q then Int32.ofInt q else Int32.ofInt p) = Int32.ofInt (max p q) := by
    by_cases h : p < q
    · rw [if_pos ((bg_lt hp hq).mpr h), Int.max_eq_right (by omega)]
    · rw [if_neg (fun z => h ((bg_lt hp hq).mp z)), Int.max_eq_left (by omega)]
  rw [e]
  exact kk H locs a hD hS hL ⟨by show R32 _; omega, hR.2.2⟩
theorem bo_min (X : bg_X κ y cc own dd mcc mss) {idx : Nat} {p q : Int} (hl : Cond.methodLink own idx Lib.Math.min.name ∈ bg_T) (h1 : 1 ≤ dd) (hd : decode cc pc = .ok (.invokestatic idx, 3)) (hst : st.length ≤ 8) (kk : bg_g κ y (pc + 3) ls (.inl (min p q) :: st) g) : bg_g κ y pc ls (.inl q :: .inl p :: st) g := by
  intro H locs a hD hS hL hR
  obtain ⟨hx, hb, hown, hts, hK, hbs, hlk, r1, r2, r3, r4⟩ := X
  have hq : R32 q := hR.1
  have hp : R32 p := hR.2.1
  refine va_mmin hx hb hL.2.1.symm hown (hts _ hl) (hts _ jM_stat_min) (hts _ jM_ini) (hts _ jM_code_min) (Nat.le_trans h1 r1) (by rw [bg_RS_R]; omega) (Nat.zero_le _) (Nat.zero_le _) hd ?_
  have e : (if Int32.ofInt q < Int32.ofInt p then Int32.ofInt q else Int32.ofInt p) = Int32.ofInt (min p q) := by
    by_cases h : q < p
    · rw [if_pos ((bg_lt hq hp).mpr h), Int.min_eq_right (by omega)]
    · rw [if_neg (fun z => h ((bg_lt hq hp).mp z)), Int.min_eq_left (by omega)]
  rw [e]
  exact kk H locs a hD hS hL ⟨by show R32 _; omega, hR.2.2⟩
theorem bo_abs (X : bg_X κ y cc own dd mcc mss) {idx : Nat} {p : Int} (hl : Cond.methodLink own idx Lib.Math.abs.name ∈ bg_T) (h1 : 1 ≤ dd) (hp0 : -2147483648 < p) (hd : decode cc pc = .ok (.invokestatic idx, 3)) (hst : st.length ≤ 8) (kk : bg_g κ y (pc + 3) ls (.inl (p.natAbs : Int) :: st) g) : bg_g κ y pc ls (.inl p :: st) g := by
  intro H locs a hD hS hL hR
  obtain ⟨hx, hb, hown, hts, hK, hbs, hlk, r1, r2, r3, r4⟩ := X
  have hp : R32 p := hR.1
  refine va_mabs hx hb hL.2.1.symm hown (hts _ hl) (hts _ jM_stat_abs) (hts _ jM_ini) (hts _ jM_code_abs) (Nat.le_trans h1 r1) (by rw [bg_RS_R]; omega) (Nat.zero_le _) (Nat.zero_le _) hd ?_
  have e : (if 0 ≤ Int32.ofInt p then Int32.ofInt p else 0 - Int32.ofInt p) = Int32.ofInt (p.natAbs : Int) := by
    rw [show (0 : Int32) = Int32.ofInt 0 from rfl]
    by_cases h : 0 ≤ p
    · rw [if_pos ((bg_le (a := 0) (by decide) hp).mpr h)]
      congr 1
      omega
    · rw [if_neg (fun z => h ((bg_le (a := 0) (by decide) hp).mp z)), ← Int32.ofInt_sub]
      congr 1
      omega
  rw [e]
  exact kk H locs a hD hS hL ⟨by show R32 _; omega, hR.2⟩
theorem bo_copy (X : bg_X κ y cc own dd mcc mss) {idx a0 a N0 N1 : Nat} {n : Int} (hl : Cond.methodLink own idx arraycopyName ∈ bg_T) (hk0 : bg_kd a0 = some (8, N0)) (hk1 : bg_kd a = some (8, N1)) (h0 : 0 ≤ n ∧ n ≤ N0 ∧ n ≤ N1) (h1 : 1 ≤ dd) (hd : decode cc pc = .ok (.invokestatic idx, 3)) (hst : st.length ≤ 8) (kk : bg_g κ y (pc + 3) ls st (fun x j => if x = a ∧ j < n.toNat then g a0 j else g x j)) : bg_g κ y pc ls (.inl n :: .inl 0 :: .inr a :: .inl 0 :: .inr a0 :: st) g := by
  intro H locs ar hD hS hL hR
  obtain ⟨hx, hb, hown, hts, hK, hbs, hlk, r1, r2, r3, r4⟩ := X
  have hn : R32 n := hR.1
  have hix := bg_idx hn
  have hc0 := (hD.2.1 a0 (bg_kd_lt hk0) 8 N0 hk0).2 (Nat.le_refl 8)
  have hc1 := (hD.2.1 a (bg_kd_lt hk1) 8 N1 hk1).2 (Nat.le_refl 8)
  intro T hT Xs
  obtain ⟨-, k0, hk0', cm0, hkk0⟩ := (hK.1.2 0 _ rfl).1 N0 (bg_ae y bg_F g 8 a0)
  obtain ⟨-, k1, hk1', cm1, hkk1⟩ := (hK.1.2 0 _ rfl).1 N1 (bg_ae y bg_F g 8 a)
  have hn0 : ¬ Int32.ofInt n < 0 := fun z => by have := (bg_lt (b := 0) hn (by decide)).mp z; omega
  have hz : (0 : Int32).toNatClampNeg = 0 := rfl
  have hgetD : ∀ i, i < N0 → (arrV (bg_cA y 8) N0 (bg_ae y bg_F g 8 a0)).slots.getD i .null = .int (Int32.ofInt (g a0 i)) := fun i hi => by
    rw [Array.getD_eq_getD_getElem?, arrV_read _ _ hi]
    rfl
  obtain ⟨vm', X', step⟩ := Xs.arraycopy hx hown (hts _ hl) (hts _ jA_nat) (hts _ jA_stat) (hts _ jA_ini) (src := y.1 + a0) (dst := y.1 + a) (cs := arrV (bg_cA y 8) N0 (bg_ae y bg_F g 8 a0)) (cd := arrV (bg_cA y 8) N1 (bg_ae y bg_F g 8 a)) (srcPos := 0) (destPos := 0) (n := Int32.ofInt n) (by rw [hT]; exact hc0) (by rw [hT]; exact hc1)
    (fun _ h => by cases h) (fun _ h => by cases h) (fun h => by cases h) (fun h => by cases h) hk0' hk1' hkk0 hkk1 rfl (by decide) (by decide) hn0
    (by rw [bg_toInt hn]; show ¬ (0 : Int) + n > ((arrV _ _ _).slots.size : Int); rw [arrV_size]; omega)
    (by rw [bg_toInt hn]; show ¬ (0 : Int) + n > ((arrV _ _ _).slots.size : Int); rw [arrV_size]; omega)
    (fun vm₁ _ i hi => by
      rw [hix] at hi
      rw [hz, Nat.zero_add]
      rw [hgetD i (by omega)]
      exact ⟨rfl, trivial⟩)
    (g := F0 (bg_m κ) pc ar (.int (Int32.ofInt n) :: .int 0 :: .ref (y.1 + a) :: .int 0 :: .ref (y.1 + a0) :: st.map (bg_v y))) rfl hL.2.1 (rest := st.map (bg_v y)) rfl (by rw [hb]; exact hd) (Nat.le_trans h1 r1) (by
      show 2 * 0 + _ + _ ≤ _
      rw [bg_RS_R]
      have : nativeFrameWords "java/lang/System" "arraycopy" 5 + 11 ≤ 30 := by decide +kernel
      have r2' : 44 * dd ≤ κ.2.2.2.1.locals := r2
      omega)
  have e1 : copied (arrV (bg_cA y 8) N0 (bg_ae y bg_F g 8 a0)) (arrV (bg_cA y 8) N1 (bg_ae y bg_F g 8 a)) 0 0 (Int32.ofInt n) = arrV (bg_cA y 8) N1 (bg_ae y bg_F (fun x j => if x = a ∧ j < n.toNat then g a0 j else g x j) 8 a) := by
    have h := va_copied (fun z : Int => Value.int (Int32.ofInt z)) (bg_cA y 8) (bg_cA y 8) (n0 := N0) (n1 := N1) (sp := 0) (dp := 0) (n := (Int32.ofInt n).toNatClampNeg) (g a0) (g a) (by rw [hix]; omega)
    refine Eq.trans h ?_
    congr 1
    funext j
    unfold va_cpy bg_ae
    rw [hix]
    simp
  rw [e1] at X' step
  have hl1 : y.1 + a < H.size := (Array.getElem?_eq_some_iff.mp hc1).1
  have oq : ∀ (c1 : Cell) (q : Nat), q ≠ y.1 + a → (H.setIfInBounds (y.1 + a) c1)[q]? = H[q]? := fun c1 q hq => by simp [Array.getElem?_setIfInBounds, Ne.symm hq]
  have hheap : ∀ c1 : Cell, ((T.setVm vm').setCell (y.1 + a) c1).heap = H.setIfInBounds (y.1 + a) c1 := fun c1 => by rw [← hT]; rfl
  have hD' : bg_D y (bg_O (fun x j => if x = a ∧ j < n.toNat then g a0 j else g x j)) (H.setIfInBounds (y.1 + a) (arrV (bg_cA y 8) N1 (bg_ae y bg_F (fun x j => if x = a ∧ j < n.toNat then g a0 j else g x j) 8 a))) := by
    refine bg_D.set (id := a) hD (by simp) (oq _) ?_ (fun _ _ => rfl) (fun i hi => by funext j; simp [hi]) (fun x j => by
      show R32 (if _ then _ else _)
      split
      · exact hD.2.2 _ _
      · exact hD.2.2 _ _)
    intro ci N hk
    cases hk1.symm.trans hk
    exact ⟨fun h => absurd h (by omega), fun _ => by simp [Array.getElem?_setIfInBounds, hl1]⟩
  obtain ⟨t, a1, b1⟩ := kk _ _ ar hD' ⟨by simp; exact hS.1, fun q g1 g2 => by
      rw [oq _ q (fun e => g2 (by rw [e]; exact Nat.le_add_right _ _))]
      exact hS.2.1 q g1 g2, fun q hq => by
      rcases List.mem_append.mp hq with h | h
      · exact hS.2.2 q h
      · obtain ⟨z, -, hz⟩ := List.mem_map.mp h
        rw [← hz]
        exact Nat.le_add_right _ _⟩ hL hR.2.2.2.2.2 _ (hheap _) X'
  exact ⟨t, step t a1, b1⟩
theorem bo_iret {d : Nat} {μ : bg_P} {P : Int → bg_E → Prop} (X : bg_Xm κ y μ d 0 0 (bg_pI P)) (hr : μ.2.2.2 = some .int) {i : Int} (hd : decode μ.2.1 pc = .ok (.ireturn, 1)) (hp : R32 i → P i g) : bg_g κ y pc ls [.inl i] g := bg_iret X hr hd (fun h => ⟨i, g, rfl, rfl, hp h⟩)
theorem bo_zret {d : Nat} {μ : bg_P} {P : Int → bg_E → Prop} (X : bg_Xm κ y μ d 0 0 (bg_pI P)) (hr : μ.2.2.2 = some .boolean) {i : Int} (h01 : i = 0 ∨ i = 1) (hd : decode μ.2.1 pc = .ok (.ireturn, 1)) (hp : P i g) : bg_g κ y pc ls [.inl i] g := bg_zret X hr h01 hd ⟨i, g, rfl, rfl, hp⟩
theorem bo_aret {d : Nat} {μ : bg_P} {P : Nat → bg_E → Prop} (X : bg_Xm κ y μ d 0 0 (bg_pR P)) {C : String} (hr : μ.2.2.2 = some (.object C)) {i : Nat} (hd : decode μ.2.1 pc = .ok (.areturn, 1)) (hp : P i g) : bg_g κ y pc ls [.inr i] g := bg_aret X hr hd ⟨i, g, rfl, rfl, hp⟩
theorem bo_vret {d : Nat} {μ : bg_P} {P : bg_E → Prop} (X : bg_Xm κ y μ d 0 0 (bg_pV P)) (hr : μ.2.2.2 = none) (hd : decode μ.2.1 pc = .ok (.return_, 1)) (hp : (∀ a k, R32 (g a k)) → P g) : bg_g κ y pc ls [] g := bg_vret X hr hd (fun h => ⟨g, rfl, rfl, hp h⟩)
end ORD
theorem bg_Si.mono {y : bg_Y} {d : Nat} {μ : bg_P} {args : List bg_V} {g : bg_E} {P P' : Int → bg_E → Prop} (hp : P = P') (h : bg_Si y d μ args g P) : bg_Si y d μ args g P' := hp ▸ h
theorem pnX0 : plainName RX0 = true := by decide +kernel
theorem pnX1 : plainName RX1 = true := by decide +kernel
theorem pnX2 : plainName RX2 = true := by decide +kernel
theorem pnX3 : plainName RX3 = true := by decide +kernel
theorem pnX4 : plainName RX4 = true := by decide +kernel
theorem pnX5 : plainName RX5 = true := by decide +kernel
theorem pnX6 : plainName RX6 = true := by decide +kernel
theorem pnX7 : plainName RX7 = true := by decide +kernel
end
section
/-! the columns -/
abbrev hasP (g : bg_E) (c : Nat) (i : Int) : Prop := 0 ≤ i ∧ i < g c 1 ∧ i < 24
def sumN (f : Nat → Int) : Nat → Int
  | 0 => 0
  | n + 1 => sumN f n + f n
/-- a column whose beds are as they must be -/
def colV (g : bg_E) (c : Nat) : Prop := 0 ≤ g c 1 ∧ g c 1 ≤ 24 ∧ ∀ k : Nat, (k : Int) < g c 1 → 1 ≤ g (c + 2) k ∧ g (c + 2) k ≤ 99 ∧ 0 ≤ g (c + 1) k ∧ g (c + 1) k ≤ 25
theorem sumN_le {f : Nat → Int} : ∀ {n : Nat}, (∀ k, k < n → 0 ≤ f k ∧ f k ≤ 99) → 0 ≤ sumN f n ∧ sumN f n ≤ 99 * n
  | 0, _ => by simp [sumN]
  | n + 1, h => by
    have h1 := sumN_le (n := n) (fun k hk => h k (by omega))
    have h2 := h n (by omega)
    show 0 ≤ sumN f n + f n ∧ sumN f n + f n ≤ 99 * ((n + 1 : Nat) : Int)
    omega
set_option maxHeartbeats 1000000
theorem c_X0_has {y : bg_Y} {g : bg_E} {c : Nat} {i : Int} (hc : bg_col c) : bg_Si y 0 mX0_has [.inr c, .inl i] g (fun r g' => r = b2i (hasP g c i) ∧ g' = g) := by
  obtain ⟨k1, k2, k3, k4, k5⟩ := id hc
  refine bg_enter pnX0 (Nat.le_of_ble_eq_true rfl) (fun κ X hR hg => ?_)
  have X1 : bg_X κ y cX0_has RX0 0 0 0 := X.1
  have hg : ∀ a k, R32 (g a k) := hg
  show bg_g κ y 0 [some (.inr c), some (.inl i)] [] g
  refine bg_iload1 (pc := 0) X1 dX0_has_0 ?_
  refine bg_if_lt (pc := 1) X1 (tgt := 22) dX0_has_1 (by decide) (fun u1 => ?_) (fun u1 => ?_)
  · refine bg_iconst (pc := 22) X1 dX0_has_22 (by decide) ?_
    exact bo_zret (pc := 23) X rfl (by first | exact Or.inl rfl | exact Or.inr rfl | exact b2i_01 _) dX0_has_23 (⟨by first | rfl | exact (b2i_t (by omega)).symm | exact (b2i_f (by omega)).symm, rfl⟩)
  · refine bg_iload1 (pc := 4) X1 dX0_has_4 ?_
    refine bg_aload0 (pc := 5) X1 dX0_has_5 ?_
    refine bo_getI (pc := 6) X1 dX0_has_6 fX0_15 (by first | assumption | rfl) rfl ?_
    refine bg_icmp_ge (pc := 9) X1 (tgt := 22) dX0_has_9 (by decide) (fun u9 => ?_) (fun u9 => ?_)
    · refine bg_iconst (pc := 22) X1 dX0_has_22 (by decide) ?_
      exact bo_zret (pc := 23) X rfl (by first | exact Or.inl rfl | exact Or.inr rfl | exact b2i_01 _) dX0_has_23 (⟨by first | rfl | exact (b2i_t (by omega)).symm | exact (b2i_f (by omega)).symm, rfl⟩)
    · refine bg_iload1 (pc := 12) X1 dX0_has_12 ?_
      refine bg_bipush (pc := 13) X1 dX0_has_13 rfl (by decide) ?_
      refine bg_icmp_ge (pc := 15) X1 (tgt := 22) dX0_has_15 (by decide) (fun u15 => ?_) (fun u15 => ?_)
      · refine bg_iconst (pc := 22) X1 dX0_has_22 (by decide) ?_
        exact bo_zret (pc := 23) X rfl (by first | exact Or.inl rfl | exact Or.inr rfl | exact b2i_01 _) dX0_has_23 (⟨by first | rfl | exact (b2i_t (by omega)).symm | exact (b2i_f (by omega)).symm, rfl⟩)
      · refine bg_iconst (pc := 18) X1 dX0_has_18 (by decide) ?_
        refine bg_goto (pc := 19) X1 (tgt := 23) dX0_has_19 (by decide) ?_
        exact bo_zret (pc := 23) X rfl (by first | exact Or.inl rfl | exact Or.inr rfl | exact b2i_01 _) dX0_has_23 (⟨by first | rfl | exact (b2i_t (by omega)).symm | exact (b2i_f (by omega)).symm, rfl⟩)
theorem c_X0_collarElevation {y : bg_Y} {g : bg_E} {c : Nat} (hc : bg_col c) : bg_Si y 0 mX0_collarElevation [.inr c] g (fun r g' => r = g c 0 ∧ g' = g) := by
  obtain ⟨k1, k2, k3, k4, k5⟩ := id hc
  refine bg_enter pnX0 (Nat.le_of_ble_eq_true rfl) (fun κ X hR hg => ?_)
  have X1 : bg_X κ y cX0_collarElevation RX0 0 0 0 := X.1
  have hg : ∀ a k, R32 (g a k) := hg
  show bg_g κ y 0 [some (.inr c)] [] g
  refine bg_aload0 (pc := 0) X1 dX0_collarElevation_0 ?_
  refine bo_getI (pc := 1) X1 dX0_collarElevation_1 fX0_9 (by first | assumption | rfl) rfl ?_
  exact bo_iret (pc := 4) X rfl dX0_collarElevation_4 (fun hi => ⟨by first | rfl | omega, rfl⟩)
theorem c_X0_size {y : bg_Y} {g : bg_E} {c : Nat} (hc : bg_col c) : bg_Si y 0 mX0_size [.inr c] g (fun r g' => r = g c 1 ∧ g' = g) := by
  obtain ⟨k1, k2, k3, k4, k5⟩ := id hc
  refine bg_enter pnX0 (Nat.le_of_ble_eq_true rfl) (fun κ X hR hg => ?_)
  have X1 : bg_X κ y cX0_size RX0 0 0 0 := X.1
  have hg : ∀ a k, R32 (g a k) := hg
  show bg_g κ y 0 [some (.inr c)] [] g
  refine bg_aload0 (pc := 0) X1 dX0_size_0 ?_
  refine bo_getI (pc := 1) X1 dX0_size_1 fX0_15 (by first | assumption | rfl) rfl ?_
  exact bo_iret (pc := 4) X rfl dX0_size_4 (fun hi => ⟨by first | rfl | omega, rfl⟩)
theorem c_X0_putCollar {y : bg_Y} {g : bg_E} {c : Nat} {v : Int} (hc : bg_col c) : bg_Sv y 0 mX0_putCollar [.inr c, .inl v] g (fun g' => g' = bg_up g c 0 v) := by
  obtain ⟨k1, k2, k3, k4, k5⟩ := id hc
  refine bg_enter pnX0 (Nat.le_of_ble_eq_true rfl) (fun κ X hR hg => ?_)
  have X1 : bg_X κ y cX0_putCollar RX0 0 0 0 := X.1
  have hg : ∀ a k, R32 (g a k) := hg
  show bg_g κ y 0 [some (.inr c), some (.inl v)] [] g
  refine bg_aload0 (pc := 0) X1 dX0_putCollar_0 ?_
  refine bg_iload1 (pc := 1) X1 dX0_putCollar_1 ?_
  refine bo_putI (pc := 2) X1 dX0_putCollar_2 fX0_9 (by first | assumption | rfl) rfl ?_
  exact bo_vret (pc := 5) X rfl dX0_putCollar_5 (fun hg9 => rfl)
theorem c_X0_clear {y : bg_Y} {g : bg_E} {c : Nat} (hc : bg_col c) : bg_Sv y 0 mX0_clear [.inr c] g (fun g' => g' = bg_up g c 1 0) := by
  obtain ⟨k1, k2, k3, k4, k5⟩ := id hc
  refine bg_enter pnX0 (Nat.le_of_ble_eq_true rfl) (fun κ X hR hg => ?_)
  have X1 : bg_X κ y cX0_clear RX0 0 0 0 := X.1
  have hg : ∀ a k, R32 (g a k) := hg
  show bg_g κ y 0 [some (.inr c)] [] g
  refine bg_aload0 (pc := 0) X1 dX0_clear_0 ?_
  refine bg_iconst (pc := 1) X1 dX0_clear_1 (by decide) ?_
  refine bo_putI (pc := 2) X1 dX0_clear_2 fX0_15 (by first | assumption | rfl) rfl ?_
  exact bo_vret (pc := 5) X rfl dX0_clear_5 (fun hg9 => rfl)
theorem c_X0_markOf {y : bg_Y} {g : bg_E} {c : Nat} {i : Int} (hc : bg_col c) : bg_Si y 1 mX0_markOf [.inr c, .inl i] g (fun r g' => r = (if hasP g c i then g (c + 1) i.toNat else -1000009) ∧ g' = g) := by
  obtain ⟨k1, k2, k3, k4, k5⟩ := id hc
  refine bg_enter pnX0 (Nat.le_of_ble_eq_true rfl) (fun κ X hR hg => ?_)
  have X1 : bg_X κ y cX0_markOf RX0 1 0 0 := X.1
  have hg : ∀ a k, R32 (g a k) := hg
  show bg_g κ y 0 [some (.inr c), some (.inl i)] [] g
  refine bg_aload0 (pc := 0) X1 dX0_markOf_0 ?_
  refine bg_iload1 (pc := 1) X1 dX0_markOf_1 ?_
  refine bo_V1i (pc := 2) X1 (c_X0_has (by assumption)) vX0_has lX0_25 rfl (by first | assumption | rfl) (by decide) dX0_markOf_2 (by exact Nat.le_of_ble_eq_true rfl) ?_
  rintro _ _ ⟨h9, h8⟩
  obtain rfl := h9.symm
  obtain rfl := h8.symm
  refine bo_ifeq_b (pc := 5) X1 (tgt := 17) dX0_markOf_5 (by decide) (fun u5 => ?_) (fun u5 => ?_)
  · refine bg_ldc (pc := 17) X1 dX0_markOf_17 kX0_29 (by decide) ?_
    exact bo_iret (pc := 19) X rfl dX0_markOf_19 (fun hi => ⟨by first | rw [if_pos (by assumption)] | rw [if_neg (by assumption)], rfl⟩)
  · refine bg_aload0 (pc := 8) X1 dX0_markOf_8 ?_
    refine bo_getR (pc := 9) X1 dX0_markOf_9 fX0_18 (by first | assumption | rfl) rfl (by first | assumption | rfl) ?_
    refine bg_iload1 (pc := 12) X1 dX0_markOf_12 ?_
    refine bo_iaload (pc := 13) X1 dX0_markOf_13 (by first | assumption | rfl) (by omega) ?_
    refine bg_goto (pc := 14) X1 (tgt := 19) dX0_markOf_14 (by decide) ?_
    exact bo_iret (pc := 19) X rfl dX0_markOf_19 (fun hi => ⟨by first | rw [if_pos (by assumption)] | rw [if_neg (by assumption)], rfl⟩)
theorem c_X0_thicknessOf {y : bg_Y} {g : bg_E} {c : Nat} {i : Int} (hc : bg_col c) : bg_Si y 1 mX0_thicknessOf [.inr c, .inl i] g (fun r g' => r = (if hasP g c i then g (c + 2) i.toNat else 0) ∧ g' = g) := by
  obtain ⟨k1, k2, k3, k4, k5⟩ := id hc
  refine bg_enter pnX0 (Nat.le_of_ble_eq_true rfl) (fun κ X hR hg => ?_)
  have X1 : bg_X κ y cX0_thicknessOf RX0 1 0 0 := X.1
  have hg : ∀ a k, R32 (g a k) := hg
  show bg_g κ y 0 [some (.inr c), some (.inl i)] [] g
  refine bg_aload0 (pc := 0) X1 dX0_thicknessOf_0 ?_
  refine bg_iload1 (pc := 1) X1 dX0_thicknessOf_1 ?_
  refine bo_V1i (pc := 2) X1 (c_X0_has (by assumption)) vX0_has lX0_25 rfl (by first | assumption | rfl) (by decide) dX0_thicknessOf_2 (by exact Nat.le_of_ble_eq_true rfl) ?_
  rintro _ _ ⟨h9, h8⟩
  obtain rfl := h9.symm
  obtain rfl := h8.symm
  refine bo_ifeq_b (pc := 5) X1 (tgt := 17) dX0_thicknessOf_5 (by decide) (fun u5 => ?_) (fun u5 => ?_)
  · refine bg_iconst (pc := 17) X1 dX0_thicknessOf_17 (by decide) ?_
    exact bo_iret (pc := 18) X rfl dX0_thicknessOf_18 (fun hi => ⟨by first | rw [if_pos (by assumption)] | rw [if_neg (by assumption)], rfl⟩)
  · refine bg_aload0 (pc := 8) X1 dX0_thicknessOf_8 ?_
    refine bo_getR (pc := 9) X1 dX0_thicknessOf_9 fX0_22 (by first | assumption | rfl) rfl (by first | assumption | rfl) ?_
    refine bg_iload1 (pc := 12) X1 dX0_thicknessOf_12 ?_
    refine bo_iaload (pc := 13) X1 dX0_thicknessOf_13 (by first | assumption | rfl) (by omega) ?_
    refine bg_goto (pc := 14) X1 (tgt := 18) dX0_thicknessOf_14 (by decide) ?_
    exact bo_iret (pc := 18) X rfl dX0_thicknessOf_18 (fun hi => ⟨by first | rw [if_pos (by assumption)] | rw [if_neg (by assumption)], rfl⟩)
theorem c_X0_putThickness {y : bg_Y} {g : bg_E} {c : Nat} {i v : Int} (hc : bg_col c) : bg_Sv y 1 mX0_putThickness [.inr c, .inl i, .inl v] g (fun g' => g' = if hasP g c i then bg_up g (c + 2) i.toNat v else g) := by
  obtain ⟨k1, k2, k3, k4, k5⟩ := id hc
  refine bg_enter pnX0 (Nat.le_of_ble_eq_true rfl) (fun κ X hR hg => ?_)
  have X1 : bg_X κ y cX0_putThickness RX0 1 0 0 := X.1
  have hg : ∀ a k, R32 (g a k) := hg
  show bg_g κ y 0 [some (.inr c), some (.inl i), some (.inl v)] [] g
  refine bg_aload0 (pc := 0) X1 dX0_putThickness_0 ?_
  refine bg_iload1 (pc := 1) X1 dX0_putThickness_1 ?_
  refine bo_V1i (pc := 2) X1 (c_X0_has (by assumption)) vX0_has lX0_25 rfl (by first | assumption | rfl) (by decide) dX0_putThickness_2 (by exact Nat.le_of_ble_eq_true rfl) ?_
  rintro _ _ ⟨h9, h8⟩
  obtain rfl := h9.symm
  obtain rfl := h8.symm
  refine bo_ifeq_b (pc := 5) X1 (tgt := 15) dX0_putThickness_5 (by decide) (fun u5 => ?_) (fun u5 => ?_)
  · exact bo_vret (pc := 15) X rfl dX0_putThickness_15 (fun hg9 => by first | rw [if_pos (by assumption)] | rw [if_neg (by assumption)])
  · refine bg_aload0 (pc := 8) X1 dX0_putThickness_8 ?_
    refine bo_getR (pc := 9) X1 dX0_putThickness_9 fX0_22 (by first | assumption | rfl) rfl (by first | assumption | rfl) ?_
    refine bg_iload1 (pc := 12) X1 dX0_putThickness_12 ?_
    refine bg_iload2 (pc := 13) X1 dX0_putThickness_13 ?_
    refine bo_iastore (pc := 14) X1 dX0_putThickness_14 (by first | assumption | rfl) (by omega) ?_
    exact bo_vret (pc := 15) X rfl dX0_putThickness_15 (fun hg9 => by first | rw [if_pos (by assumption)] | rw [if_neg (by assumption)])
end
section
/-! a column as a list of beds (mark, thickness) -/
abbrev bm_Q : Type := List (Int × Int)
def mrk (q : bm_Q) (k : Nat) : Int := (q.getD k (0, 0)).1
def th (q : bm_Q) (k : Nat) : Int := (q.getD k (0, 0)).2
def dep (q : bm_Q) : Nat → Int
  | 0 => 0
  | n + 1 => dep q n + th q n
def colR (g : bg_E) (c : Nat) (q : bm_Q) : Prop := g c 1 = (q.length : Int) ∧ q.length ≤ 24 ∧ ∀ k : Nat, k < q.length → g (c + 1) k = mrk q k ∧ g (c + 2) k = th q k
def bedOK (p : Int × Int) : Prop := 0 ≤ p.1 ∧ p.1 ≤ 25 ∧ 1 ≤ p.2 ∧ p.2 ≤ 99
def colOK (q : bm_Q) : Prop := ∀ p ∈ q, bedOK p
/-- what lies outside lo .. hi - 1 is as it was -/
def frR (lo hi : Nat) (g g' : bg_E) : Prop := ∀ x : Nat, (x < lo ∨ hi ≤ x) → g' x = g x
theorem frR.rf {lo hi : Nat} {g : bg_E} : frR lo hi g g := fun _ _ => rfl
theorem frR.tr {lo hi : Nat} {g g1 g2 : bg_E} (h : frR lo hi g g1) (h2 : frR lo hi g1 g2) : frR lo hi g g2 := fun x hx => (h2 x hx).trans (h x hx)
theorem frR.wide {lo hi lo' hi' : Nat} {g g' : bg_E} (h : frR lo hi g g') (h1 : lo' ≤ lo) (h2 : hi ≤ hi') : frR lo' hi' g g' := fun x hx => h x (by omega)
theorem frR.up {lo hi a k : Nat} {v : Int} {g g' : bg_E} (h : frR lo hi g g') (h1 : lo ≤ a) (h2 : a < hi) : frR lo hi g (bg_up g' a k v) := fun x hx => by
  rw [bg_up_ne (by omega)]
  exact h x hx
theorem up_eq {g : bg_E} {a k : Nat} {v : Int} : bg_up g a k v a k = v := by simp [bg_up]
theorem up_k {g : bg_E} {a k j : Nat} {v : Int} (h : j ≠ k) : bg_up g a k v a j = g a j := by simp [bg_up, h]
theorem up_a {g : bg_E} {a x k j : Nat} {v : Int} (h : x ≠ a) : bg_up g a k v x j = g x j := by simp [bg_up, h]
theorem thOK {q : bm_Q} (h : colOK q) {k : Nat} (hk : k < q.length) : 1 ≤ th q k ∧ th q k ≤ 99 := by
  have h1 := h _ (List.getElem_mem hk)
  have e : th q k = q[k].2 := by simp only [th, List.getD_eq_getElem?_getD, List.getElem?_eq_getElem hk, Option.getD_some]
  rw [e]
  exact ⟨h1.2.2.1, h1.2.2.2⟩
theorem mkOK {q : bm_Q} (h : colOK q) {k : Nat} (hk : k < q.length) : 0 ≤ mrk q k ∧ mrk q k ≤ 25 := by
  have h1 := h _ (List.getElem_mem hk)
  have e : mrk q k = q[k].1 := by simp only [mrk, List.getD_eq_getElem?_getD, List.getElem?_eq_getElem hk, Option.getD_some]
  rw [e]
  exact ⟨h1.1, h1.2.1⟩
theorem dep_le {q : bm_Q} (h : colOK q) : ∀ {n : Nat}, n ≤ q.length → (n : Int) ≤ dep q n ∧ dep q n ≤ 99 * n
  | 0, _ => by simp [dep]
  | n + 1, hn => by
    have h1 := dep_le h (n := n) (by omega)
    have h2 := thOK h (k := n) (by omega)
    show ((n + 1 : Nat) : Int) ≤ dep q n + th q n ∧ dep q n + th q n ≤ 99 * ((n + 1 : Nat) : Int)
    omega
theorem c_X0_depthOf {y : bg_Y} {g : bg_E} {c : Nat} {bed : Int} {q : bm_Q} (hc : bg_col c) (hq : colR g c q) (hv : colOK q) (hb : 0 ≤ bed ∧ bed ≤ q.length) : bg_Si y 1 mX0_depthOf [.inr c, .inl bed] g (fun r g' => r = dep q bed.toNat ∧ g' = g) := by
  obtain ⟨k1, k2, k3, k4, k5⟩ := id hc
  obtain ⟨q1, q2, q3⟩ := hq
  refine bg_enter pnX0 (Nat.le_of_ble_eq_true rfl) (fun κ X hR hg => ?_)
  have X1 : bg_X κ y cX0_depthOf RX0 1 0 0 := X.1
  have hg : ∀ a k, R32 (g a k) := hg
  show bg_g κ y 0 [some (.inr c), some (.inl bed), none, none] [] g
  have loop : ∀ (n k : Nat) (s a : Int), s = dep q k → a = (k : Int) → (k : Int) ≤ bed → (k : Int) + n = bed + 1 → bg_g κ y 4 [some (.inr c), some (.inl bed), some (.inl s), some (.inl a)] [] g := by
    intro n
    induction n with
    | zero => intro k s a hs ha h1 h2; omega
    | succ n ih =>
      intro k s a hs ha h1 h2
      have h3 := dep_le hv (n := k) (by omega)
      refine bg_iload3 (pc := 4) X1 dX0_depthOf_4 ?_
      refine bg_iload1 (pc := 5) X1 dX0_depthOf_5 ?_
      refine bg_icmp_ge (pc := 6) X1 (tgt := 38) dX0_depthOf_6 (by decide) (fun u6 => ?_) (fun u6 => ?_)
      · refine bg_iload2 (pc := 38) X1 dX0_depthOf_38 ?_
        exact bo_iret (pc := 39) X rfl dX0_depthOf_39 (fun hi => ⟨by rw [hs]; congr 1; omega, rfl⟩)
      · refine bg_iload3 (pc := 9) X1 dX0_depthOf_9 ?_
        refine bg_bipush (pc := 10) X1 dX0_depthOf_10 rfl (by decide) ?_
        refine bg_icmp_ge (pc := 12) X1 (tgt := 38) dX0_depthOf_12 (by decide) (fun u12 => ?_) (fun u12 => ?_)
        · exfalso; omega
        · refine bg_aload0 (pc := 15) X1 dX0_depthOf_15 ?_
          refine bg_iload3 (pc := 16) X1 dX0_depthOf_16 ?_
          refine bo_V1i (pc := 17) X1 (c_X0_has (by assumption)) vX0_has lX0_25 rfl (by first | assumption | rfl) (by decide) dX0_depthOf_17 (by exact Nat.le_of_ble_eq_true rfl) ?_
          rintro _ _ ⟨h9, h8⟩
          obtain rfl := h9.symm
          obtain rfl := h8.symm
          refine bo_ifeq_b (pc := 20) X1 (tgt := 38) dX0_depthOf_20 (by decide) (fun u20 => ?_) (fun u20 => ?_)
          · exfalso; omega
          · have h4 := thOK hv (k := k) (by omega)
            have e1 : g (c + 2) a.toNat = th q k := by rw [ha]; exact (q3 k (by omega)).2
            refine bg_iload2 (pc := 23) X1 dX0_depthOf_23 ?_
            refine bg_aload0 (pc := 24) X1 dX0_depthOf_24 ?_
            refine bo_getR (pc := 25) X1 dX0_depthOf_25 fX0_22 (by first | assumption | rfl) rfl (by first | assumption | rfl) ?_
            refine bg_iload3 (pc := 28) X1 dX0_depthOf_28 ?_
            refine bo_iaload (pc := 29) X1 dX0_depthOf_29 (by first | assumption | rfl) (by omega) ?_
            refine bg_iadd (pc := 30) X1 dX0_depthOf_30 (by omega) ?_
            refine bg_istore2 (pc := 31) X1 dX0_depthOf_31 ?_
            refine bg_iinc3 (pc := 32) X1 dX0_depthOf_32 (by omega) ?_
            refine bg_goto (pc := 35) X1 (tgt := 4) dX0_depthOf_35 (by decide) ?_
            exact ih (k + 1) _ _ (by rw [hs, e1]; rfl) (by omega) (by omega) (by omega)
  refine bg_iconst (pc := 0) X1 dX0_depthOf_0 (by decide) ?_
  refine bg_istore2 (pc := 1) X1 dX0_depthOf_1 ?_
  refine bg_iconst (pc := 2) X1 dX0_depthOf_2 (by decide) ?_
  refine bg_istore3 (pc := 3) X1 dX0_depthOf_3 ?_
  exact loop (bed.toNat + 1) 0 _ _ rfl rfl (by omega) (by omega)
theorem c_X0_elevationOf {y : bg_Y} {g : bg_E} {c : Nat} {bed : Int} {q : bm_Q} (hc : bg_col c) (hq : colR g c q) (hv : colOK q) (hb : 0 ≤ bed ∧ bed ≤ q.length) (he : -9999 ≤ g c 0 ∧ g c 0 ≤ 9999) : bg_Si y 2 mX0_elevationOf [.inr c, .inl bed] g (fun r g' => r = g c 0 - dep q bed.toNat ∧ g' = g) := by
  obtain ⟨k1, k2, k3, k4, k5⟩ := id hc
  have q2 := hq.2.1
  have h3 := dep_le hv (n := bed.toNat) (by omega)
  refine bg_enter pnX0 (Nat.le_of_ble_eq_true rfl) (fun κ X hR hg => ?_)
  have X1 : bg_X κ y cX0_elevationOf RX0 2 0 0 := X.1
  have hg : ∀ a k, R32 (g a k) := hg
  show bg_g κ y 0 [some (.inr c), some (.inl bed)] [] g
  refine bg_aload0 (pc := 0) X1 dX0_elevationOf_0 ?_
  refine bo_getI (pc := 1) X1 dX0_elevationOf_1 fX0_9 (by first | assumption | rfl) rfl ?_
  refine bg_aload0 (pc := 4) X1 dX0_elevationOf_4 ?_
  refine bg_iload1 (pc := 5) X1 dX0_elevationOf_5 ?_
  refine bo_V1i (pc := 6) X1 (c_X0_depthOf hc hq hv hb) vX0_depthOf lX0_30 rfl (by first | assumption | rfl) (by decide) dX0_elevationOf_6 (by exact Nat.le_of_ble_eq_true rfl) ?_
  rintro _ _ ⟨h9, h8⟩
  obtain rfl := h9.symm
  obtain rfl := h8.symm
  refine bg_isub (pc := 9) X1 dX0_elevationOf_9 (by omega) ?_
  exact bo_iret (pc := 10) X rfl dX0_elevationOf_10 (fun hi => ⟨by first | rfl | omega, rfl⟩)
theorem c_X0_totalThickness {y : bg_Y} {g : bg_E} {c : Nat} {q : bm_Q} (hc : bg_col c) (hq : colR g c q) (hv : colOK q) : bg_Si y 2 mX0_totalThickness [.inr c] g (fun r g' => r = dep q q.length ∧ g' = g) := by
  obtain ⟨k1, k2, k3, k4, k5⟩ := id hc
  have q1 := hq.1
  refine bg_enter pnX0 (Nat.le_of_ble_eq_true rfl) (fun κ X hR hg => ?_)
  have X1 : bg_X κ y cX0_totalThickness RX0 2 0 0 := X.1
  have hg : ∀ a k, R32 (g a k) := hg
  show bg_g κ y 0 [some (.inr c)] [] g
  refine bg_aload0 (pc := 0) X1 dX0_totalThickness_0 ?_
  refine bg_aload0 (pc := 1) X1 dX0_totalThickness_1 ?_
  refine bo_getI (pc := 2) X1 dX0_totalThickness_2 fX0_15 (by first | assumption | rfl) rfl ?_
  refine bo_V1i (pc := 5) X1 (c_X0_depthOf hc hq hv (by omega)) vX0_depthOf lX0_30 rfl (by first | assumption | rfl) (by decide) dX0_totalThickness_5 (by exact Nat.le_of_ble_eq_true rfl) ?_
  rintro _ _ ⟨h9, h8⟩
  obtain rfl := h9.symm
  obtain rfl := h8.symm
  exact bo_iret (pc := 8) X rfl dX0_totalThickness_8 (fun hi => ⟨by rw [q1]; rfl, rfl⟩)
/-- the bed with a mark, the w-th from the k-th on -/
def fndB (q : bm_Q) (m : Int) : Nat → Nat → Int → Int
  | 0, _, _ => -1000009
  | f + 1, k, w => if mrk q k = m then (if w = 0 then (k : Int) else fndB q m f (k + 1) (w - 1)) else fndB q m f (k + 1) w
theorem c_X0_bedWithMark {y : bg_Y} {g : bg_E} {c : Nat} {m w : Int} {q : bm_Q} (hc : bg_col c) (hq : colR g c q) (hw : 0 ≤ w) : bg_Si y 1 mX0_bedWithMark [.inr c, .inl m, .inl w] g (fun r g' => r = fndB q m q.length 0 w ∧ g' = g) := by
  obtain ⟨k1, k2, k3, k4, k5⟩ := id hc
  obtain ⟨q1, q2, q3⟩ := hq
  refine bg_enter pnX0 (Nat.le_of_ble_eq_true rfl) (fun κ X hR hg => ?_)
  have X1 : bg_X κ y cX0_bedWithMark RX0 1 0 0 := X.1
  have hg : ∀ a k, R32 (g a k) := hg
  show bg_g κ y 0 [some (.inr c), some (.inl m), some (.inl w), none, none] [] g
  have loop : ∀ (n k : Nat) (s a : Int), 0 ≤ s → s ≤ k → s ≤ w → a = (k : Int) → k + n = q.length → fndB q m q.length 0 w = fndB q m n k (w - s) → bg_g κ y 5 [some (.inr c), some (.inl m), some (.inl w), some (.inl s), some (.inl a)] [] g := by
    intro n
    induction n with
    | zero =>
      intro k s a hs hs2 hs3 ha h1 h2
      refine bg_iload4 (pc := 5) X1 dX0_bedWithMark_5 ?_
      refine bg_bipush (pc := 7) X1 dX0_bedWithMark_7 rfl (by decide) ?_
      refine bg_icmp_ge (pc := 9) X1 (tgt := 49) dX0_bedWithMark_9 (by decide) (fun u9 => ?_) (fun u9 => ?_)
      · refine bg_ldc (pc := 49) X1 dX0_bedWithMark_49 kX0_29 (by decide) ?_
        exact bo_iret (pc := 51) X rfl dX0_bedWithMark_51 (fun hi => ⟨h2.symm, rfl⟩)
      · refine bg_aload0 (pc := 12) X1 dX0_bedWithMark_12 ?_
        refine bg_iload4 (pc := 13) X1 dX0_bedWithMark_13 ?_
        refine bo_V1i (pc := 15) X1 (c_X0_has (by assumption)) vX0_has lX0_25 rfl (by first | assumption | rfl) (by decide) dX0_bedWithMark_15 (by exact Nat.le_of_ble_eq_true rfl) ?_
        rintro _ _ ⟨h9, h8⟩
        obtain rfl := h9.symm
        obtain rfl := h8.symm
        refine bo_ifeq_b (pc := 18) X1 (tgt := 49) dX0_bedWithMark_18 (by decide) (fun u18 => ?_) (fun u18 => ?_)
        · refine bg_ldc (pc := 49) X1 dX0_bedWithMark_49 kX0_29 (by decide) ?_
          exact bo_iret (pc := 51) X rfl dX0_bedWithMark_51 (fun hi => ⟨h2.symm, rfl⟩)
        · exfalso; omega
    | succ n ih =>
      intro k s a hs hs2 hs3 ha h1 h2
      refine bg_iload4 (pc := 5) X1 dX0_bedWithMark_5 ?_
      refine bg_bipush (pc := 7) X1 dX0_bedWithMark_7 rfl (by decide) ?_
      refine bg_icmp_ge (pc := 9) X1 (tgt := 49) dX0_bedWithMark_9 (by decide) (fun u9 => ?_) (fun u9 => ?_)
      · exfalso; omega
      · refine bg_aload0 (pc := 12) X1 dX0_bedWithMark_12 ?_
        refine bg_iload4 (pc := 13) X1 dX0_bedWithMark_13 ?_
        refine bo_V1i (pc := 15) X1 (c_X0_has (by assumption)) vX0_has lX0_25 rfl (by first | assumption | rfl) (by decide) dX0_bedWithMark_15 (by exact Nat.le_of_ble_eq_true rfl) ?_
        rintro _ _ ⟨h9, h8⟩
        obtain rfl := h9.symm
        obtain rfl := h8.symm
        refine bo_ifeq_b (pc := 18) X1 (tgt := 49) dX0_bedWithMark_18 (by decide) (fun u18 => ?_) (fun u18 => ?_)
        · exfalso; omega
        · have e1 : g (c + 1) a.toNat = mrk q k := by rw [ha]; exact (q3 k (by omega)).1
          rw [fndB] at h2
          refine bg_aload0 (pc := 21) X1 dX0_bedWithMark_21 ?_
          refine bo_getR (pc := 22) X1 dX0_bedWithMark_22 fX0_18 (by first | assumption | rfl) rfl (by first | assumption | rfl) ?_
          refine bg_iload4 (pc := 25) X1 dX0_bedWithMark_25 ?_
          refine bo_iaload (pc := 27) X1 dX0_bedWithMark_27 (by first | assumption | rfl) (by omega) ?_
          refine bg_iload1 (pc := 28) X1 dX0_bedWithMark_28 ?_
          refine bg_icmp_ne (pc := 29) X1 (tgt := 43) dX0_bedWithMark_29 (by decide) (fun u29 => ?_) (fun u29 => ?_)
          · have e2 := h2
            rw [if_neg (by rw [← e1]; exact u29)] at e2
            refine bg_iinc4 (pc := 43) X1 dX0_bedWithMark_43 (by omega) ?_
            refine bg_goto (pc := 46) X1 (tgt := 5) dX0_bedWithMark_46 (by decide) ?_
            exact ih (k + 1) _ _ (by omega) (by omega) (by omega) (by omega) (by omega) e2
          · refine bg_iload3 (pc := 32) X1 dX0_bedWithMark_32 ?_
            refine bg_iload2 (pc := 33) X1 dX0_bedWithMark_33 ?_
            refine bg_icmp_ne (pc := 34) X1 (tgt := 40) dX0_bedWithMark_34 (by decide) (fun u34 => ?_) (fun u34 => ?_)
            · have e2 := h2
              rw [if_pos (by rw [← e1]; exact u29), if_neg (by omega), show w - s - 1 = w - (s + 1) by omega] at e2
              refine bg_iinc3 (pc := 40) X1 dX0_bedWithMark_40 (by omega) ?_
              refine bg_iinc4 (pc := 43) X1 dX0_bedWithMark_43 (by omega) ?_
              refine bg_goto (pc := 46) X1 (tgt := 5) dX0_bedWithMark_46 (by decide) ?_
              exact ih (k + 1) _ _ (by omega) (by omega) (by omega) (by omega) (by omega) e2
            · refine bg_iload4 (pc := 37) X1 dX0_bedWithMark_37 ?_
              exact bo_iret (pc := 39) X rfl dX0_bedWithMark_39 (fun hi => ⟨by rw [h2, if_pos (by rw [← e1]; exact u29), if_pos (by omega)]; exact ha, rfl⟩)
  refine bg_iconst (pc := 0) X1 dX0_bedWithMark_0 (by decide) ?_
  refine bg_istore3 (pc := 1) X1 dX0_bedWithMark_1 ?_
  refine bg_iconst (pc := 2) X1 dX0_bedWithMark_2 (by decide) ?_
  refine bg_istore4 (pc := 3) X1 dX0_bedWithMark_3 ?_
  exact loop q.length 0 _ _ (by decide) (by omega) (by omega) rfl (by omega) (by rw [Int.sub_zero])
end
section
/-! columns that change -/
def insB (q : bm_Q) (i : Nat) (p : Int × Int) : bm_Q := q.take i ++ p :: q.drop i
def delB (q : bm_Q) (i : Nat) : bm_Q := q.take i ++ q.drop (i + 1)
theorem insB_length {q : bm_Q} {i : Nat} {p : Int × Int} (h : i ≤ q.length) : (insB q i p).length = q.length + 1 := by
  simp [insB]; omega
theorem delB_length {q : bm_Q} {i : Nat} (h : i < q.length) : (delB q i).length = q.length - 1 := by
  simp [delB]; omega
theorem insB_get {q : bm_Q} {i : Nat} {p : Int × Int} (h : i ≤ q.length) (k : Nat) : (insB q i p).getD k (0, 0) = if k < i then q.getD k (0, 0) else if k = i then p else q.getD (k - 1) (0, 0) := by
  simp only [insB, List.getD_eq_getElem?_getD]
  by_cases h1 : k < i
  · rw [if_pos h1, List.getElem?_append_left (by simp; omega), List.getElem?_take, if_pos h1]
  · rw [if_neg h1, List.getElem?_append_right (by simp; omega)]
    have e : (q.take i).length = i := by simp; omega
    rw [e]
    by_cases h2 : k = i
    · subst h2; simp
    · rw [if_neg h2, show k - i = (k - 1 - i) + 1 by omega, List.getElem?_cons_succ, List.getElem?_drop]
      congr 2
      omega
theorem delB_get {q : bm_Q} {i : Nat} (h : i < q.length) (k : Nat) : (delB q i).getD k (0, 0) = if k < i then q.getD k (0, 0) else q.getD (k + 1) (0, 0) := by
  simp only [delB, List.getD_eq_getElem?_getD]
  by_cases h1 : k < i
  · rw [if_pos h1, List.getElem?_append_left (by simp; omega), List.getElem?_take, if_pos h1]
  · rw [if_neg h1, List.getElem?_append_right (by simp; omega)]
    have e : (q.take i).length = i := by simp; omega
    rw [e, List.getElem?_drop]
    congr 2
    omega
theorem set_get {q : bm_Q} {i : Nat} {p : Int × Int} (h : i < q.length) (k : Nat) : (q.set i p).getD k (0, 0) = if k = i then p else q.getD k (0, 0) := by
  simp only [List.getD_eq_getElem?_getD]
  by_cases h1 : k = i
  · subst h1; rw [List.getElem?_set_self h]; simp
  · rw [if_neg h1, List.getElem?_set_ne (Ne.symm h1)]
theorem insB_OK {q : bm_Q} {i : Nat} {p : Int × Int} (h : colOK q) (hp : bedOK p) : colOK (insB q i p) := by
  intro x hx
  rcases List.mem_append.mp hx with h1 | h1
  · exact h x (List.mem_of_mem_take h1)
  · rcases List.mem_cons.mp h1 with rfl | h2
    · exact hp
    · exact h x (List.mem_of_mem_drop h2)
theorem delB_OK {q : bm_Q} {i : Nat} (h : colOK q) : colOK (delB q i) := by
  intro x hx
  rcases List.mem_append.mp hx with h1 | h1
  · exact h x (List.mem_of_mem_take h1)
  · exact h x (List.mem_of_mem_drop h1)
theorem set_OK {q : bm_Q} {i : Nat} {p : Int × Int} (h : colOK q) (hp : bedOK p) : colOK (q.set i p) := by
  intro x hx
  rcases List.mem_or_eq_of_mem_set hx with h1 | h1
  · exact h x h1
  · exact h1 ▸ hp
theorem c_X0_insertN {y : bg_Y} {g : bg_E} {c : Nat} {i m t : Int} {q : bm_Q} (hc : bg_col c) (hq : colR g c q) (hC : ¬ (q.length < 24 ∧ 0 ≤ i ∧ i ≤ q.length)) : bg_Si y 0 mX0_insert [.inr c, .inl i, .inl m, .inl t] g (fun r g' => r = 0 ∧ g' = g) := by
  obtain ⟨k1, k2, k3, k4, k5⟩ := id hc
  obtain ⟨q1, q2, q3⟩ := hq
  refine bg_enter pnX0 (Nat.le_of_ble_eq_true rfl) (fun κ X hR hg => ?_)
  have X1 : bg_X κ y cX0_insert RX0 0 0 0 := X.1
  have hg : ∀ a k, R32 (g a k) := hg
  show bg_g κ y 0 [some (.inr c), some (.inl i), some (.inl m), some (.inl t), none] [] g
  refine bg_aload0 (pc := 0) X1 dX0_insert_0 ?_
  refine bo_getI (pc := 1) X1 dX0_insert_1 fX0_15 (by first | assumption | rfl) rfl ?_
  refine bg_if_lt (pc := 4) X1 (tgt := 28) dX0_insert_4 (by decide) (fun u4 => ?_) (fun u4 => ?_)
  · refine bg_iconst (pc := 28) X1 dX0_insert_28 (by decide) ?_
    exact bo_zret (pc := 29) X rfl (by first | exact Or.inl rfl | exact Or.inr rfl | exact b2i_01 _) dX0_insert_29 (⟨by first | rfl | exact (b2i_t (by omega)).symm | exact (b2i_f (by omega)).symm, rfl⟩)
  · refine bg_aload0 (pc := 7) X1 dX0_insert_7 ?_
    refine bo_getI (pc := 8) X1 dX0_insert_8 fX0_15 (by first | assumption | rfl) rfl ?_
    refine bg_bipush (pc := 11) X1 dX0_insert_11 rfl (by decide) ?_
    refine bg_icmp_ge (pc := 13) X1 (tgt := 28) dX0_insert_13 (by decide) (fun u13 => ?_) (fun u13 => ?_)
    · refine bg_iconst (pc := 28) X1 dX0_insert_28 (by decide) ?_
      exact bo_zret (pc := 29) X rfl (by first | exact Or.inl rfl | exact Or.inr rfl | exact b2i_01 _) dX0_insert_29 (⟨by first | rfl | exact (b2i_t (by omega)).symm | exact (b2i_f (by omega)).symm, rfl⟩)
    · refine bg_iload1 (pc := 16) X1 dX0_insert_16 ?_
      refine bg_if_lt (pc := 17) X1 (tgt := 28) dX0_insert_17 (by decide) (fun u17 => ?_) (fun u17 => ?_)
      · refine bg_iconst (pc := 28) X1 dX0_insert_28 (by decide) ?_
        exact bo_zret (pc := 29) X rfl (by first | exact Or.inl rfl | exact Or.inr rfl | exact b2i_01 _) dX0_insert_29 (⟨by first | rfl | exact (b2i_t (by omega)).symm | exact (b2i_f (by omega)).symm, rfl⟩)
      · refine bg_iload1 (pc := 20) X1 dX0_insert_20 ?_
        refine bg_aload0 (pc := 21) X1 dX0_insert_21 ?_
        refine bo_getI (pc := 22) X1 dX0_insert_22 fX0_15 (by first | assumption | rfl) rfl ?_
        refine bg_icmp_le (pc := 25) X1 (tgt := 30) dX0_insert_25 (by decide) (fun u25 => ?_) (fun u25 => ?_)
        · exfalso; omega
        · refine bg_iconst (pc := 28) X1 dX0_insert_28 (by decide) ?_
          exact bo_zret (pc := 29) X rfl (by first | exact Or.inl rfl | exact Or.inr rfl | exact b2i_01 _) dX0_insert_29 (⟨by first | rfl | exact (b2i_t (by omega)).symm | exact (b2i_f (by omega)).symm, rfl⟩)
/-- column c holds what it held, with what lay from the i-th bed on to the b-th moved down by one -/
def insI (g g1 : bg_E) (c : Nat) (q : bm_Q) (b : Nat) : Prop := (∀ x, x ≠ c + 1 → x ≠ c + 2 → g1 x = g x) ∧ ∀ k, k ≤ q.length → (b < k → g1 (c + 1) k = mrk q (k - 1) ∧ g1 (c + 2) k = th q (k - 1)) ∧ (k ≤ b → k < q.length → g1 (c + 1) k = mrk q k ∧ g1 (c + 2) k = th q k)
theorem c_X0_insert {y : bg_Y} {g : bg_E} {c : Nat} {i m t : Int} {q : bm_Q} (hc : bg_col c) (hq : colR g c q) (hC : q.length < 24 ∧ 0 ≤ i ∧ i ≤ q.length) : bg_Si y 0 mX0_insert [.inr c, .inl i, .inl m, .inl t] g (fun r g' => r = 1 ∧ colR g' c (insB q i.toNat (m, t)) ∧ frR c (c + 3) g g' ∧ g' c 0 = g c 0) := by
  obtain ⟨k1, k2, k3, k4, k5⟩ := id hc
  obtain ⟨q1, q2, q3⟩ := hq
  obtain ⟨C1, C2, C3⟩ := hC
  refine bg_enter pnX0 (Nat.le_of_ble_eq_true rfl) (fun κ X hR hg => ?_)
  have X1 : bg_X κ y cX0_insert RX0 0 0 0 := X.1
  have hg : ∀ a k, R32 (g a k) := hg
  show bg_g κ y 0 [some (.inr c), some (.inl i), some (.inl m), some (.inl t), none] [] g
  have loop : ∀ (n b : Nat) (a : Int) (g1 : bg_E), a = (b : Int) → i ≤ b → b ≤ q.length → (b : Int) = i + n → insI g g1 c q b → bg_g κ y 36 [some (.inr c), some (.inl i), some (.inl m), some (.inl t), some (.inl a)] [] g1 := by
    intro n
    induction n with
    | zero =>
      intro b a g1 ha h1 h2 h3 hI
      obtain ⟨I1, I2⟩ := hI
      have e0 : g1 c 1 = (q.length : Int) := by rw [I1 c (by omega) (by omega)]; exact q1
      refine bg_iload4 (pc := 36) X1 dX0_insert_36 ?_
      refine bg_iload1 (pc := 38) X1 dX0_insert_38 ?_
      refine bg_icmp_le (pc := 39) X1 (tgt := 80) dX0_insert_39 (by decide) (fun u39 => ?_) (fun u39 => ?_)
      · refine bg_aload0 (pc := 80) X1 dX0_insert_80 ?_
        refine bo_getR (pc := 81) X1 dX0_insert_81 fX0_18 (by first | assumption | rfl) rfl (by first | assumption | rfl) ?_
        refine bg_iload1 (pc := 84) X1 dX0_insert_84 ?_
        refine bg_iload2 (pc := 85) X1 dX0_insert_85 ?_
        refine bo_iastore (pc := 86) X1 dX0_insert_86 (by first | assumption | rfl) (by omega) ?_
        refine bg_aload0 (pc := 87) X1 dX0_insert_87 ?_
        refine bo_getR (pc := 88) X1 dX0_insert_88 fX0_22 (by first | assumption | rfl) rfl (by first | assumption | rfl) ?_
        refine bg_iload1 (pc := 91) X1 dX0_insert_91 ?_
        refine bg_iload3 (pc := 92) X1 dX0_insert_92 ?_
        refine bo_iastore (pc := 93) X1 dX0_insert_93 (by first | assumption | rfl) (by omega) ?_
        refine bg_aload0 (pc := 94) X1 dX0_insert_94 ?_
        refine bg_dup (pc := 95) X1 dX0_insert_95 ?_
        refine bo_getI (pc := 96) X1 dX0_insert_96 fX0_15 (by first | assumption | rfl) rfl ?_
        refine bg_iconst (pc := 99) X1 dX0_insert_99 (by decide) ?_
        refine bg_iadd (pc := 100) X1 dX0_insert_100 (by simp only [up_a (show c ≠ c + 1 by omega), up_a (show c ≠ c + 2 by omega), e0]; omega) ?_
        refine bo_putI (pc := 101) X1 dX0_insert_101 fX0_15 (by first | assumption | rfl) rfl ?_
        refine bg_iconst (pc := 104) X1 dX0_insert_104 (by decide) ?_
        exact bo_zret (pc := 105) X rfl (by first | exact Or.inl rfl | exact Or.inr rfl | exact b2i_01 _) dX0_insert_105 (by
            have hb : i.toNat = b := by omega
            rw [hb]
            refine ⟨rfl, ⟨?_, by rw [insB_length (by omega)]; omega, fun k hk => ?_⟩, ?_, ?_⟩
            · rw [up_eq, up_a (by omega), up_a (by omega), e0, insB_length (by omega)]; omega
            · rw [insB_length (by omega)] at hk
              have h5 := I2 k (by omega)
              simp only [mrk, th, insB_get (show b ≤ q.length by omega)] at h5 ⊢
              rw [up_a (show c + 1 ≠ c by omega), up_a (show c + 1 ≠ c + 2 by omega), up_a (show c + 2 ≠ c by omega)]
              by_cases hk1 : k = b
              · subst hk1
                rw [up_eq, up_eq]
                simp
              · rw [up_k hk1, up_k hk1, up_a (show c + 2 ≠ c + 1 by omega)]
                by_cases hk2 : k < b
                · rw [if_pos hk2]; exact h5.2 (by omega) (by omega)
                · rw [if_neg hk2, if_neg hk1]; exact h5.1 (by omega)
            · intro x hx
              rw [bg_up_ne (by omega), bg_up_ne (by omega), bg_up_ne (by omega)]
              exact I1 x (by omega) (by omega)
            · rw [up_k (by decide), up_a (by omega), up_a (by omega), I1 c (by omega) (by omega)])
      · exfalso; omega
    | succ n ih =>
      intro b a g1 ha h1 h2 h3 hI
      obtain ⟨I1, I2⟩ := id hI
      refine bg_iload4 (pc := 36) X1 dX0_insert_36 ?_
      refine bg_iload1 (pc := 38) X1 dX0_insert_38 ?_
      refine bg_icmp_le (pc := 39) X1 (tgt := 80) dX0_insert_39 (by decide) (fun u39 => ?_) (fun u39 => ?_)
      · exfalso; omega
      · refine bg_aload0 (pc := 42) X1 dX0_insert_42 ?_
        refine bo_getR (pc := 43) X1 dX0_insert_43 fX0_18 (by first | assumption | rfl) rfl (by first | assumption | rfl) ?_
        refine bg_iload4 (pc := 46) X1 dX0_insert_46 ?_
        refine bg_aload0 (pc := 48) X1 dX0_insert_48 ?_
        refine bo_getR (pc := 49) X1 dX0_insert_49 fX0_18 (by first | assumption | rfl) rfl (by first | assumption | rfl) ?_
        refine bg_iload4 (pc := 52) X1 dX0_insert_52 ?_
        refine bg_iconst (pc := 54) X1 dX0_insert_54 (by decide) ?_
        refine bg_isub (pc := 55) X1 dX0_insert_55 (by omega) ?_
        refine bo_iaload (pc := 56) X1 dX0_insert_56 (by first | assumption | rfl) (by omega) ?_
        refine bo_iastore (pc := 57) X1 dX0_insert_57 (by first | assumption | rfl) (by omega) ?_
        refine bg_aload0 (pc := 58) X1 dX0_insert_58 ?_
        refine bo_getR (pc := 59) X1 dX0_insert_59 fX0_22 (by first | assumption | rfl) rfl (by first | assumption | rfl) ?_
        refine bg_iload4 (pc := 62) X1 dX0_insert_62 ?_
        refine bg_aload0 (pc := 64) X1 dX0_insert_64 ?_
        refine bo_getR (pc := 65) X1 dX0_insert_65 fX0_22 (by first | assumption | rfl) rfl (by first | assumption | rfl) ?_
        refine bg_iload4 (pc := 68) X1 dX0_insert_68 ?_
        refine bg_iconst (pc := 70) X1 dX0_insert_70 (by decide) ?_
        refine bg_isub (pc := 71) X1 dX0_insert_71 (by omega) ?_
        refine bo_iaload (pc := 72) X1 dX0_insert_72 (by first | assumption | rfl) (by omega) ?_
        refine bo_iastore (pc := 73) X1 dX0_insert_73 (by first | assumption | rfl) (by omega) ?_
        refine bg_iinc4 (pc := 74) X1 dX0_insert_74 (by omega) ?_
        refine bg_goto (pc := 77) X1 (tgt := 36) dX0_insert_77 (by decide) ?_
        refine ih (b - 1) _ _ (by omega) (by omega) (by omega) (by omega) ⟨fun x h7 h8 => ?_, fun k hk => ?_⟩
        · rw [bg_up_ne h8, bg_up_ne h7]; exact I1 x h7 h8
        · have e1 : (a - 1).toNat = b - 1 := by omega
          have e2 : a.toNat = b := by omega
          have h5 := I2 k hk
          have h6 := (I2 (b - 1) (by omega)).2 (by omega) (by omega)
          rw [e1, e2, up_a (show c + 1 ≠ c + 2 by omega)]
          by_cases hk1 : k = b
          · subst hk1
            rw [up_eq, up_eq, up_a (by omega)]
            exact ⟨fun _ => h6, fun h9 => by omega⟩
          · rw [up_k hk1, up_k hk1, up_a (by omega)]
            exact ⟨fun h9 => h5.1 (by omega), fun h9 h10 => h5.2 (by omega) h10⟩
  refine bg_aload0 (pc := 0) X1 dX0_insert_0 ?_
  refine bo_getI (pc := 1) X1 dX0_insert_1 fX0_15 (by first | assumption | rfl) rfl ?_
  refine bg_if_lt (pc := 4) X1 (tgt := 28) dX0_insert_4 (by decide) (fun u4 => ?_) (fun u4 => ?_)
  · exfalso; omega
  · refine bg_aload0 (pc := 7) X1 dX0_insert_7 ?_
    refine bo_getI (pc := 8) X1 dX0_insert_8 fX0_15 (by first | assumption | rfl) rfl ?_
    refine bg_bipush (pc := 11) X1 dX0_insert_11 rfl (by decide) ?_
    refine bg_icmp_ge (pc := 13) X1 (tgt := 28) dX0_insert_13 (by decide) (fun u13 => ?_) (fun u13 => ?_)
    · exfalso; omega
    · refine bg_iload1 (pc := 16) X1 dX0_insert_16 ?_
      refine bg_if_lt (pc := 17) X1 (tgt := 28) dX0_insert_17 (by decide) (fun u17 => ?_) (fun u17 => ?_)
      · exfalso; omega
      · refine bg_iload1 (pc := 20) X1 dX0_insert_20 ?_
        refine bg_aload0 (pc := 21) X1 dX0_insert_21 ?_
        refine bo_getI (pc := 22) X1 dX0_insert_22 fX0_15 (by first | assumption | rfl) rfl ?_
        refine bg_icmp_le (pc := 25) X1 (tgt := 30) dX0_insert_25 (by decide) (fun u25 => ?_) (fun u25 => ?_)
        · refine bg_aload0 (pc := 30) X1 dX0_insert_30 ?_
          refine bo_getI (pc := 31) X1 dX0_insert_31 fX0_15 (by first | assumption | rfl) rfl ?_
          refine bg_istore4 (pc := 34) X1 dX0_insert_34 ?_
          exact loop (q.length - i.toNat) q.length _ _ q1 (by omega) (by omega) (by omega) ⟨fun _ _ _ => rfl, fun k hk => ⟨fun h => by omega, fun _ h => q3 k h⟩⟩
        · exfalso; omega
def delI (g g1 : bg_E) (c : Nat) (q : bm_Q) (b : Nat) : Prop := (∀ x, x ≠ c + 1 → x ≠ c + 2 → g1 x = g x) ∧ ∀ k, (b ≤ k → k < q.length → g1 (c + 1) k = mrk q k ∧ g1 (c + 2) k = th q k)
theorem c_X0_takeOut {y : bg_Y} {g : bg_E} {c : Nat} {i : Int} {q : bm_Q} (hc : bg_col c) (hq : colR g c q) (hC : 0 ≤ i ∧ i < q.length) : bg_Sv y 1 mX0_takeOut [.inr c, .inl i] g (fun g' => colR g' c (delB q i.toNat) ∧ frR c (c + 3) g g' ∧ g' c 0 = g c 0) := by
  obtain ⟨k1, k2, k3, k4, k5⟩ := id hc
  obtain ⟨q1, q2, q3⟩ := hq
  obtain ⟨C1, C2⟩ := hC
  refine bg_enter pnX0 (Nat.le_of_ble_eq_true rfl) (fun κ X hR hg => ?_)
  have X1 : bg_X κ y cX0_takeOut RX0 1 0 0 := X.1
  have hg : ∀ a k, R32 (g a k) := hg
  show bg_g κ y 0 [some (.inr c), some (.inl i), none] [] g
  have loop : ∀ (n b : Nat) (a : Int) (g1 : bg_E), a = (b : Int) → i ≤ b → b + n + 1 = q.length → ((∀ x, x ≠ c + 1 → x ≠ c + 2 → g1 x = g x) ∧ ∀ k, k < q.length → (b ≤ k → g1 (c + 1) k = mrk q k ∧ g1 (c + 2) k = th q k) ∧ (k < b → g1 (c + 1) k = mrk (delB q i.toNat) k ∧ g1 (c + 2) k = th (delB q i.toNat) k)) → bg_g κ y 11 [some (.inr c), some (.inl i), some (.inl a)] [] g1 := by
    intro n
    induction n with
    | zero =>
      intro b a g1 ha h1 h2 hI
      obtain ⟨I1, I2⟩ := hI
      have e0 : g1 c 1 = (q.length : Int) := by rw [I1 c (by omega) (by omega)]; exact q1
      refine bg_iload2 (pc := 11) X1 dX0_takeOut_11 ?_
      refine bg_iconst (pc := 12) X1 dX0_takeOut_12 (by decide) ?_
      refine bg_iadd (pc := 13) X1 dX0_takeOut_13 (by omega) ?_
      refine bg_bipush (pc := 14) X1 dX0_takeOut_14 rfl (by decide) ?_
      refine bg_icmp_ge (pc := 16) X1 (tgt := 63) dX0_takeOut_16 (by decide) (fun u16 => ?_) (fun u16 => ?_)
      · refine bg_aload0 (pc := 63) X1 dX0_takeOut_63 ?_
        refine bg_dup (pc := 64) X1 dX0_takeOut_64 ?_
        refine bo_getI (pc := 65) X1 dX0_takeOut_65 fX0_15 (by first | assumption | rfl) rfl ?_
        refine bg_iconst (pc := 68) X1 dX0_takeOut_68 (by decide) ?_
        refine bg_isub (pc := 69) X1 dX0_takeOut_69 (by omega) ?_
        refine bo_putI (pc := 70) X1 dX0_takeOut_70 fX0_15 (by first | assumption | rfl) rfl ?_
        exact bo_vret (pc := 73) X rfl dX0_takeOut_73 (fun hg9 => by
            refine ⟨⟨?_, by rw [delB_length (by omega)]; omega, fun k hk => ?_⟩, ?_, ?_⟩
            · rw [up_eq, e0, delB_length (by omega)]; omega
            · rw [delB_length (by omega)] at hk
              rw [up_a (by omega), up_a (by omega)]
              exact (I2 k (by omega)).2 (by omega)
            · intro x hx
              rw [bg_up_ne (by omega)]
              exact I1 x (by omega) (by omega)
            · rw [up_k (by decide), I1 c (by omega) (by omega)])
      · refine bg_aload0 (pc := 19) X1 dX0_takeOut_19 ?_
        refine bg_iload2 (pc := 20) X1 dX0_takeOut_20 ?_
        refine bg_iconst (pc := 21) X1 dX0_takeOut_21 (by decide) ?_
        refine bg_iadd (pc := 22) X1 dX0_takeOut_22 (by omega) ?_
        refine bo_V1i (pc := 23) X1 (c_X0_has hc) vX0_has lX0_25 rfl (by first | assumption | rfl) (by decide) dX0_takeOut_23 (by exact Nat.le_of_ble_eq_true rfl) ?_
        rintro _ _ ⟨h9, h8⟩
        obtain rfl := h9.symm
        obtain rfl := h8.symm
        refine bo_ifeq_b (pc := 26) X1 (tgt := 63) dX0_takeOut_26 (by decide) (fun u26 => ?_) (fun u26 => ?_)
        · refine bg_aload0 (pc := 63) X1 dX0_takeOut_63 ?_
          refine bg_dup (pc := 64) X1 dX0_takeOut_64 ?_
          refine bo_getI (pc := 65) X1 dX0_takeOut_65 fX0_15 (by first | assumption | rfl) rfl ?_
          refine bg_iconst (pc := 68) X1 dX0_takeOut_68 (by decide) ?_
          refine bg_isub (pc := 69) X1 dX0_takeOut_69 (by omega) ?_
          refine bo_putI (pc := 70) X1 dX0_takeOut_70 fX0_15 (by first | assumption | rfl) rfl ?_
          exact bo_vret (pc := 73) X rfl dX0_takeOut_73 (fun hg9 => by
              refine ⟨⟨?_, by rw [delB_length (by omega)]; omega, fun k hk => ?_⟩, ?_, ?_⟩
              · rw [up_eq, e0, delB_length (by omega)]; omega
              · rw [delB_length (by omega)] at hk
                rw [up_a (by omega), up_a (by omega)]
                exact (I2 k (by omega)).2 (by omega)
              · intro x hx
                rw [bg_up_ne (by omega)]
                exact I1 x (by omega) (by omega)
              · rw [up_k (by decide), I1 c (by omega) (by omega)])
        · exfalso; omega
    | succ n ih =>
      intro b a g1 ha h1 h2 hI
      obtain ⟨I1, I2⟩ := hI
      have e0 : g1 c 1 = (q.length : Int) := by rw [I1 c (by omega) (by omega)]; exact q1
      refine bg_iload2 (pc := 11) X1 dX0_takeOut_11 ?_
      refine bg_iconst (pc := 12) X1 dX0_takeOut_12 (by decide) ?_
      refine bg_iadd (pc := 13) X1 dX0_takeOut_13 (by omega) ?_
      refine bg_bipush (pc := 14) X1 dX0_takeOut_14 rfl (by decide) ?_
      refine bg_icmp_ge (pc := 16) X1 (tgt := 63) dX0_takeOut_16 (by decide) (fun u16 => ?_) (fun u16 => ?_)
      · exfalso; omega
      · refine bg_aload0 (pc := 19) X1 dX0_takeOut_19 ?_
        refine bg_iload2 (pc := 20) X1 dX0_takeOut_20 ?_
        refine bg_iconst (pc := 21) X1 dX0_takeOut_21 (by decide) ?_
        refine bg_iadd (pc := 22) X1 dX0_takeOut_22 (by omega) ?_
        refine bo_V1i (pc := 23) X1 (c_X0_has hc) vX0_has lX0_25 rfl (by first | assumption | rfl) (by decide) dX0_takeOut_23 (by exact Nat.le_of_ble_eq_true rfl) ?_
        rintro _ _ ⟨h9, h8⟩
        obtain rfl := h9.symm
        obtain rfl := h8.symm
        refine bo_ifeq_b (pc := 26) X1 (tgt := 63) dX0_takeOut_26 (by decide) (fun u26 => ?_) (fun u26 => ?_)
        · exfalso; omega
        · refine bg_aload0 (pc := 29) X1 dX0_takeOut_29 ?_
          refine bo_getR (pc := 30) X1 dX0_takeOut_30 fX0_18 (by first | assumption | rfl) rfl (by first | assumption | rfl) ?_
          refine bg_iload2 (pc := 33) X1 dX0_takeOut_33 ?_
          refine bg_aload0 (pc := 34) X1 dX0_takeOut_34 ?_
          refine bo_getR (pc := 35) X1 dX0_takeOut_35 fX0_18 (by first | assumption | rfl) rfl (by first | assumption | rfl) ?_
          refine bg_iload2 (pc := 38) X1 dX0_takeOut_38 ?_
          refine bg_iconst (pc := 39) X1 dX0_takeOut_39 (by decide) ?_
          refine bg_iadd (pc := 40) X1 dX0_takeOut_40 (by omega) ?_
          refine bo_iaload (pc := 41) X1 dX0_takeOut_41 (by first | assumption | rfl) (by omega) ?_
          refine bo_iastore (pc := 42) X1 dX0_takeOut_42 (by first | assumption | rfl) (by omega) ?_
          refine bg_aload0 (pc := 43) X1 dX0_takeOut_43 ?_
          refine bo_getR (pc := 44) X1 dX0_takeOut_44 fX0_22 (by first | assumption | rfl) rfl (by first | assumption | rfl) ?_
          refine bg_iload2 (pc := 47) X1 dX0_takeOut_47 ?_
          refine bg_aload0 (pc := 48) X1 dX0_takeOut_48 ?_
          refine bo_getR (pc := 49) X1 dX0_takeOut_49 fX0_22 (by first | assumption | rfl) rfl (by first | assumption | rfl) ?_
          refine bg_iload2 (pc := 52) X1 dX0_takeOut_52 ?_
          refine bg_iconst (pc := 53) X1 dX0_takeOut_53 (by decide) ?_
          refine bg_iadd (pc := 54) X1 dX0_takeOut_54 (by omega) ?_
          refine bo_iaload (pc := 55) X1 dX0_takeOut_55 (by first | assumption | rfl) (by omega) ?_
          refine bo_iastore (pc := 56) X1 dX0_takeOut_56 (by first | assumption | rfl) (by omega) ?_
          refine bg_iinc2 (pc := 57) X1 dX0_takeOut_57 (by omega) ?_
          refine bg_goto (pc := 60) X1 (tgt := 11) dX0_takeOut_60 (by decide) ?_
          refine ih (b + 1) _ _ (by omega) (by omega) (by omega) ⟨fun x h7 h8 => ?_, fun k hk => ?_⟩
          · rw [bg_up_ne h8, bg_up_ne h7]; exact I1 x h7 h8
          · have e1 : (a + 1).toNat = b + 1 := by omega
            have e2 : a.toNat = b := by omega
            have h5 := I2 k hk
            have h6 := (I2 (b + 1) (by omega)).1 (by omega)
            rw [e1, e2, up_a (show c + 1 ≠ c + 2 by omega), up_a (show c + 2 ≠ c + 1 by omega)]
            by_cases hk1 : k = b
            · subst hk1
              rw [up_eq, up_eq]
              refine ⟨fun h9 => by omega, fun _ => ?_⟩
              simp only [mrk, th, delB_get (show i.toNat < q.length by omega)]
              rw [if_neg (by omega)]
              exact h6
            · rw [up_k hk1, up_k hk1, up_a (by omega)]
              exact ⟨fun h9 => h5.1 (by omega), fun h9 => h5.2 (by omega)⟩
  refine bg_aload0 (pc := 0) X1 dX0_takeOut_0 ?_
  refine bg_iload1 (pc := 1) X1 dX0_takeOut_1 ?_
  refine bo_V1i (pc := 2) X1 (c_X0_has (by assumption)) vX0_has lX0_25 rfl (by first | assumption | rfl) (by decide) dX0_takeOut_2 (by exact Nat.le_of_ble_eq_true rfl) ?_
  rintro _ _ ⟨h9, h8⟩
  obtain rfl := h9.symm
  obtain rfl := h8.symm
  refine bo_ifne_b (pc := 5) X1 (tgt := 9) dX0_takeOut_5 (by decide) (fun u5 => ?_) (fun u5 => ?_)
  · refine bg_iload1 (pc := 9) X1 dX0_takeOut_9 ?_
    refine bg_istore2 (pc := 10) X1 dX0_takeOut_10 ?_
    refine loop (q.length - 1 - i.toNat) i.toNat _ _ (by omega) (by omega) (by omega) ⟨fun _ _ _ => rfl, fun k hk => ⟨fun _ => q3 k hk, fun h => ?_⟩⟩
    have h5 := q3 k hk
    simp only [mrk, th, delB_get (show i.toNat < q.length by omega)] at h5 ⊢
    rw [if_pos h]
    exact h5
  · exfalso; omega
theorem c_X0_takeBedsOf {y : bg_Y} {g : bg_E} {c s : Nat} {q : bm_Q} (hc : bg_col c) (hs : bg_col s) (hne : c + 2 < s ∨ s + 2 < c) (hq : colR g s q) : bg_Sv y 1 mX0_takeBedsOf [.inr c, .inr s] g (fun g' => colR g' c q ∧ frR c (c + 3) g g' ∧ g' c 0 = g c 0) := by
  obtain ⟨k1, k2, k3, k4, k5⟩ := id hc
  obtain ⟨m1, m2, m3, m4, m5⟩ := id hs
  obtain ⟨q1, q2, q3⟩ := hq
  refine bg_enter pnX0 (Nat.le_of_ble_eq_true rfl) (fun κ X hR hg => ?_)
  have X1 : bg_X κ y cX0_takeBedsOf RX0 1 0 0 := X.1
  have hg : ∀ a k, R32 (g a k) := hg
  show bg_g κ y 0 [some (.inr c), some (.inr s)] [] g
  refine bg_aload0 (pc := 0) X1 dX0_takeBedsOf_0 ?_
  refine bg_aload1 (pc := 1) X1 dX0_takeBedsOf_1 ?_
  refine bo_getI (pc := 2) X1 dX0_takeBedsOf_2 fX0_15 (by first | assumption | rfl) rfl ?_
  refine bo_putI (pc := 5) X1 dX0_takeBedsOf_5 fX0_15 (by first | assumption | rfl) rfl ?_
  refine bg_aload1 (pc := 8) X1 dX0_takeBedsOf_8 ?_
  refine bo_getR (pc := 9) X1 dX0_takeBedsOf_9 fX0_18 (by first | assumption | rfl) rfl (by first | assumption | rfl) ?_
  refine bg_iconst (pc := 12) X1 dX0_takeBedsOf_12 (by decide) ?_
  refine bg_aload0 (pc := 13) X1 dX0_takeBedsOf_13 ?_
  refine bo_getR (pc := 14) X1 dX0_takeBedsOf_14 fX0_18 (by first | assumption | rfl) rfl (by first | assumption | rfl) ?_
  refine bg_iconst (pc := 17) X1 dX0_takeBedsOf_17 (by decide) ?_
  refine bg_bipush (pc := 18) X1 dX0_takeBedsOf_18 rfl (by decide) ?_
  refine bo_copy (pc := 20) X1 lX0_53 (by first | assumption | rfl) (by first | assumption | rfl) (by omega) (by decide) dX0_takeBedsOf_20 (by exact Nat.le_of_ble_eq_true rfl) ?_
  refine bg_aload1 (pc := 23) X1 dX0_takeBedsOf_23 ?_
  refine bo_getR (pc := 24) X1 dX0_takeBedsOf_24 fX0_22 (by first | assumption | rfl) rfl (by first | assumption | rfl) ?_
  refine bg_iconst (pc := 27) X1 dX0_takeBedsOf_27 (by decide) ?_
  refine bg_aload0 (pc := 28) X1 dX0_takeBedsOf_28 ?_
  refine bo_getR (pc := 29) X1 dX0_takeBedsOf_29 fX0_22 (by first | assumption | rfl) rfl (by first | assumption | rfl) ?_
  refine bg_iconst (pc := 32) X1 dX0_takeBedsOf_32 (by decide) ?_
  refine bg_bipush (pc := 33) X1 dX0_takeBedsOf_33 rfl (by decide) ?_
  refine bo_copy (pc := 35) X1 lX0_53 (by first | assumption | rfl) (by first | assumption | rfl) (by omega) (by decide) dX0_takeBedsOf_35 (by exact Nat.le_of_ble_eq_true rfl) ?_
  exact bo_vret (pc := 38) X rfl dX0_takeBedsOf_38 (fun hg9 => by
      refine ⟨⟨?_, q2, fun k hk => ?_⟩, ?_, ?_⟩
      · simp only [show ¬ c = c + 1 by omega, show ¬ c = c + 2 by omega, false_and, if_false]
        rw [up_eq]; exact q1
      · have h24 : k < (24 : Int).toNat := by show k < 24; omega
        simp only [show ¬ c + 1 = c + 2 by omega, show ¬ s + 2 = c + 1 by omega, false_and, if_false, true_and, h24, if_true]
        rw [up_a (by omega), up_a (by omega)]
        exact q3 k hk
      · intro x hx
        funext j
        simp only [show ¬ x = c + 1 by omega, show ¬ x = c + 2 by omega, false_and, if_false]
        rw [up_a (by omega)]
      · simp only [show ¬ c = c + 1 by omega, show ¬ c = c + 2 by omega, false_and, if_false]
        rw [up_k (by decide)])
theorem colR.fr {g g' : bg_E} {c lo hi : Nat} {q : bm_Q} (h : colR g c q) (hf : frR lo hi g g') (hx : c + 2 < lo ∨ hi ≤ c) : colR g' c q := by
  unfold colR
  rw [hf c (by omega), hf (c + 1) (by omega), hf (c + 2) (by omega)]
  exact h
theorem colR.up {g : bg_E} {c a k : Nat} {v : Int} {q : bm_Q} (h : colR g c q) (hx : a < c ∨ c + 2 < a) : colR (bg_up g a k v) c q := by
  unfold colR
  rw [bg_up_ne (show c ≠ a by omega), bg_up_ne (show c + 1 ≠ a by omega), bg_up_ne (show c + 2 ≠ a by omega)]
  exact h
theorem colR.up0 {g : bg_E} {c : Nat} {v : Int} {q : bm_Q} (h : colR g c q) : colR (bg_up g c 0 v) c q := by
  unfold colR
  rw [up_k (by decide), bg_up_ne (show c + 1 ≠ c by omega), bg_up_ne (show c + 2 ≠ c by omega)]
  exact h
theorem c_X0_copyFrom {y : bg_Y} {g : bg_E} {c s : Nat} {q : bm_Q} (hc : bg_col c) (hs : bg_col s) (hne : c + 2 < s ∨ s + 2 < c) (hq : colR g s q) : bg_Sv y 2 mX0_copyFrom [.inr c, .inr s] g (fun g' => colR g' c q ∧ frR c (c + 3) g g' ∧ g' c 0 = g s 0) := by
  obtain ⟨k1, k2, k3, k4, k5⟩ := id hc
  obtain ⟨m1, m2, m3, m4, m5⟩ := id hs
  refine bg_enter pnX0 (Nat.le_of_ble_eq_true rfl) (fun κ X hR hg => ?_)
  have X1 : bg_X κ y cX0_copyFrom RX0 2 0 0 := X.1
  have hg : ∀ a k, R32 (g a k) := hg
  show bg_g κ y 0 [some (.inr c), some (.inr s)] [] g
  refine bg_aload0 (pc := 0) X1 dX0_copyFrom_0 ?_
  refine bg_aload1 (pc := 1) X1 dX0_copyFrom_1 ?_
  refine bo_getI (pc := 2) X1 dX0_copyFrom_2 fX0_9 (by first | assumption | rfl) rfl ?_
  refine bo_putI (pc := 5) X1 dX0_copyFrom_5 fX0_9 (by first | assumption | rfl) rfl ?_
  refine bg_aload0 (pc := 8) X1 dX0_copyFrom_8 ?_
  refine bg_aload1 (pc := 9) X1 dX0_copyFrom_9 ?_
  refine bo_V1v (pc := 10) X1 (c_X0_takeBedsOf (q := q) hc hs hne (hq.up (by omega))) vX0_takeBedsOf lX0_59 rfl (by first | assumption | rfl) (by decide) dX0_copyFrom_10 (by exact Nat.le_of_ble_eq_true rfl) ?_
  rintro g2 ⟨p1, p2, p3⟩
  exact bo_vret (pc := 13) X rfl dX0_copyFrom_13 (fun hg9 => ⟨p1, fun x hx => by rw [p2 x hx, bg_up_ne (by omega)], by rw [p3, up_eq]⟩)
end
section
/-! contracts may say less; parts of a column -/
theorem bg_S.mono {y : bg_Y} {d mc ms : Nat} {μ : bg_P} {args : List bg_V} {M : bg_M} {P P' : Option bg_V → bg_M → Prop} (h : bg_S y d mc ms μ args M P) (hp : ∀ r M', P r M' → P' r M') : bg_S y d mc ms μ args M P' := by
  intro l p e ha hc hk s m a below hf happ hP hK
  obtain ⟨n, o, g1, g2, g3, ⟨⟨r, M', e1, e2, e3⟩, hF⟩, hL⟩ := h l p e ha hc hk s m a below hf happ hP hK
  exact ⟨n, o, g1, g2, g3, ⟨⟨r, M', e1, hp r M' e2, e3⟩, hF⟩, hL⟩
theorem bg_Si.weak {y : bg_Y} {d : Nat} {μ : bg_P} {args : List bg_V} {g : bg_E} {P P' : Int → bg_E → Prop} (h : bg_Si y d μ args g P) (hp : ∀ r g', P r g' → P' r g') : bg_Si y d μ args g P' :=
  bg_S.mono h (fun _ _ ⟨i, g', e1, e2, e3⟩ => ⟨i, g', e1, e2, hp i g' e3⟩)
theorem bg_Sv.weak {y : bg_Y} {d : Nat} {μ : bg_P} {args : List bg_V} {g : bg_E} {P P' : bg_E → Prop} (h : bg_Sv y d μ args g P) (hp : ∀ g', P g' → P' g') : bg_Sv y d μ args g P' :=
  bg_S.mono h (fun _ _ ⟨g', e1, e2, e3⟩ => ⟨g', e1, e2, hp g' e3⟩)
theorem insB_end (q : bm_Q) (p : Int × Int) : insB q q.length p = q ++ [p] := by simp [insB]
theorem c_X0_insertE {y : bg_Y} {g : bg_E} {c : Nat} {m t : Int} {q : bm_Q} (hc : bg_col c) (hq : colR g c q) : bg_Si y 0 mX0_insert [.inr c, .inl (g c 1), .inl m, .inl t] g (fun r g' => (q.length < 24 ∧ r = 1 ∧ colR g' c (q ++ [(m, t)]) ∧ frR c (c + 3) g g' ∧ g' c 0 = g c 0) ∨ (¬ q.length < 24 ∧ r = 0 ∧ g' = g)) := by
  have q1 := hq.1
  by_cases h : q.length < 24
  · refine (c_X0_insert hc hq (by omega)).weak (fun r g' hp => Or.inl ⟨h, ?_⟩)
    rw [show (g c 1).toNat = q.length by omega, insB_end] at hp
    exact hp
  · refine (c_X0_insertN hc hq (by omega)).weak (fun r g' hp => Or.inr ⟨h, hp⟩)
/-- what lies between two depths: of the first n beds -/
def prt (q : bm_Q) (fr to : Int) : Nat → bm_Q
  | 0 => []
  | n + 1 => prt q fr to n ++ (if 0 < min (dep q (n + 1)) to - max (dep q n) fr then [(mrk q n, min (dep q (n + 1)) to - max (dep q n) fr)] else [])
theorem prt_len (q : bm_Q) (fr to : Int) (n : Nat) : ∀ j, (prt q fr to n).length ≤ (prt q fr to (n + j)).length
  | 0 => Nat.le_refl _
  | j + 1 => by
    have h := prt_len q fr to n j
    show _ ≤ (prt q fr to (n + j) ++ _).length
    rw [List.length_append]
    omega
theorem prt_OK {q : bm_Q} {fr to : Int} (h : colOK q) (h0 : 0 ≤ fr) : ∀ n, n ≤ q.length → colOK (prt q fr to n)
  | 0, _ => fun p hp => by cases hp
  | n + 1, hn => by
    intro p hp
    rcases List.mem_append.mp hp with h1 | h1
    · exact prt_OK h h0 n (by omega) p h1
    · split at h1
      · have h2 := mkOK h (k := n) (by omega)
        have h3 := thOK h (k := n) (by omega)
        have h4 : dep q (n + 1) = dep q n + th q n := rfl
        rw [List.mem_singleton] at h1
        rw [h1]
        refine ⟨h2.1, h2.2, ?_, ?_⟩
        · show 1 ≤ min (dep q (n + 1)) to - max (dep q n) fr
          omega
        · show min (dep q (n + 1)) to - max (dep q n) fr ≤ 99
          omega
      · cases h1
theorem c_X0_appendPart {y : bg_Y} {g : bg_E} {f s : Nat} {fr to : Int} {q qf : bm_Q} (hf : bg_col f) (hs : bg_col s) (hne : f + 2 < s ∨ s + 2 < f) (hqf : colR g f qf) (hq : colR g s q) (hv : colOK q) (hfr : 0 ≤ fr ∧ fr ≤ 9999) (hto : 0 ≤ to ∧ to ≤ 9999) : bg_Si y 2 mX0_appendPart [.inr f, .inr s, .inl fr, .inl to] g (fun r g' => ((r = 1 ∧ colR g' f (qf ++ prt q fr to q.length)) ∨ (r = 0 ∧ 24 < (qf ++ prt q fr to q.length).length)) ∧ frR f (f + 3) g g' ∧ g' f 0 = g f 0) := by
  obtain ⟨k1, k2, k3, k4, k5⟩ := id hf
  obtain ⟨m1, m2, m3, m4, m5⟩ := id hs
  have q2 := hq.2.1
  refine bg_enter pnX0 (Nat.le_of_ble_eq_true rfl) (fun κ X hR hg => ?_)
  have X1 : bg_X κ y cX0_appendPart RX0 2 0 0 := X.1
  have hg : ∀ a k, R32 (g a k) := hg
  show bg_g κ y 0 [some (.inr f), some (.inr s), some (.inl fr), some (.inl to), none, none, none, none] [] g
  have loop : ∀ (n k : Nat) (a t : Int) (l6 l7 : Option bg_V) (g1 : bg_E), a = (k : Int) → t = dep q k → k + n = q.length → colR g1 f (qf ++ prt q fr to k) → frR f (f + 3) g g1 → g1 f 0 = g f 0 → bg_g κ y 6 [some (.inr f), some (.inr s), some (.inl fr), some (.inl to), some (.inl t), some (.inl a), l6, l7] [] g1 := by
    intro n
    induction n with
    | zero =>
      intro k a t l6 l7 g1 ha ht hk hI hF h0
      have hs1 : colR g1 s q := hq.fr hF (by omega)
      have e0 := hs1.1
      refine bg_iload5 (pc := 6) X1 dX0_appendPart_6 ?_
      refine bg_bipush (pc := 8) X1 dX0_appendPart_8 rfl (by decide) ?_
      refine bg_icmp_ge (pc := 10) X1 (tgt := 84) dX0_appendPart_10 (by decide) (fun u10 => ?_) (fun u10 => ?_)
      · refine bg_iconst (pc := 84) X1 dX0_appendPart_84 (by decide) ?_
        exact bo_zret (pc := 85) X rfl (by first | exact Or.inl rfl | exact Or.inr rfl | exact b2i_01 _) dX0_appendPart_85 (⟨Or.inl ⟨rfl, by rw [show q.length = k by omega]; exact hI⟩, hF, h0⟩)
      · refine bg_aload1 (pc := 13) X1 dX0_appendPart_13 ?_
        refine bg_iload5 (pc := 14) X1 dX0_appendPart_14 ?_
        refine bo_V1i (pc := 16) X1 (c_X0_has hs) vX0_has lX0_25 rfl (by first | assumption | rfl) (by decide) dX0_appendPart_16 (by exact Nat.le_of_ble_eq_true rfl) ?_
        rintro _ _ ⟨h9, h8⟩
        obtain rfl := h9.symm
        obtain rfl := h8.symm
        refine bo_ifeq_b (pc := 19) X1 (tgt := 84) dX0_appendPart_19 (by decide) (fun u19 => ?_) (fun u19 => ?_)
        · refine bg_iconst (pc := 84) X1 dX0_appendPart_84 (by decide) ?_
          exact bo_zret (pc := 85) X rfl (by first | exact Or.inl rfl | exact Or.inr rfl | exact b2i_01 _) dX0_appendPart_85 (⟨Or.inl ⟨rfl, by rw [show q.length = k by omega]; exact hI⟩, hF, h0⟩)
        · exfalso; omega
    | succ n ih =>
      intro k a t l6 l7 g1 ha ht hk hI hF h0
      have hs1 : colR g1 s q := hq.fr hF (by omega)
      obtain ⟨e0, e01, e02⟩ := id hs1
      have hd := dep_le hv (n := k) (by omega)
      have ht2 := thOK hv (k := k) (by omega)
      have hd2 : dep q (k + 1) = dep q k + th q k := rfl
      have hp : prt q fr to (k + 1) = prt q fr to k ++ (if 0 < min (dep q (k + 1)) to - max (dep q k) fr then [(mrk q k, min (dep q (k + 1)) to - max (dep q k) fr)] else []) := rfl
      have hP1 : hasP g1 s a := by omega
      have e1 : (if hasP g1 s a then g1 (s + 2) a.toNat else 0) = th q k := by rw [if_pos hP1, ha]; exact (e02 k (by omega)).2
      have e2 : (if hasP g1 s a then g1 (s + 1) a.toNat else -1000009) = mrk q k := by rw [if_pos hP1, ha]; exact (e02 k (by omega)).1
      refine bg_iload5 (pc := 6) X1 dX0_appendPart_6 ?_
      refine bg_bipush (pc := 8) X1 dX0_appendPart_8 rfl (by decide) ?_
      refine bg_icmp_ge (pc := 10) X1 (tgt := 84) dX0_appendPart_10 (by decide) (fun u10 => ?_) (fun u10 => ?_)
      · exfalso; omega
      · refine bg_aload1 (pc := 13) X1 dX0_appendPart_13 ?_
        refine bg_iload5 (pc := 14) X1 dX0_appendPart_14 ?_
        refine bo_V1i (pc := 16) X1 (c_X0_has hs) vX0_has lX0_25 rfl (by first | assumption | rfl) (by decide) dX0_appendPart_16 (by exact Nat.le_of_ble_eq_true rfl) ?_
        rintro _ _ ⟨h9, h8⟩
        obtain rfl := h9.symm
        obtain rfl := h8.symm
        refine bo_ifeq_b (pc := 19) X1 (tgt := 84) dX0_appendPart_19 (by decide) (fun u19 => ?_) (fun u19 => ?_)
        · exfalso; omega
        · refine bg_iload4 (pc := 22) X1 dX0_appendPart_22 ?_
          refine bg_aload1 (pc := 24) X1 dX0_appendPart_24 ?_
          refine bg_iload5 (pc := 25) X1 dX0_appendPart_25 ?_
          refine bo_V1i (pc := 27) X1 (c_X0_thicknessOf hs) vX0_thicknessOf lX0_34 rfl (by first | assumption | rfl) (by decide) dX0_appendPart_27 (by exact Nat.le_of_ble_eq_true rfl) ?_
          rintro _ _ ⟨h9, h8⟩
          obtain rfl := h9.symm
          obtain rfl := h8.symm
          rw [e1, ht]
          refine bg_iadd (pc := 30) X1 dX0_appendPart_30 (by omega) ?_
          rw [show dep q k + th q k = dep q (k + 1) from rfl]
          refine bg_istore6 (pc := 31) X1 dX0_appendPart_31 ?_
          refine bg_iload6 (pc := 33) X1 dX0_appendPart_33 ?_
          refine bg_iload3 (pc := 35) X1 dX0_appendPart_35 ?_
          refine bo_min (pc := 36) X1 lX0_37 (by decide) dX0_appendPart_36 (by exact Nat.le_of_ble_eq_true rfl) ?_
          refine bg_iload4 (pc := 39) X1 dX0_appendPart_39 ?_
          refine bg_iload2 (pc := 41) X1 dX0_appendPart_41 ?_
          refine bo_max (pc := 42) X1 lX0_43 (by decide) dX0_appendPart_42 (by exact Nat.le_of_ble_eq_true rfl) ?_
          refine bg_isub (pc := 45) X1 dX0_appendPart_45 (by omega) ?_
          refine bg_istore7 (pc := 46) X1 dX0_appendPart_46 ?_
          refine bg_iload7 (pc := 48) X1 dX0_appendPart_48 ?_
          refine bg_if_le (pc := 50) X1 (tgt := 74) dX0_appendPart_50 (by decide) (fun u50 => ?_) (fun u50 => ?_)
          · have h6 : colR g1 f (qf ++ prt q fr to (k + 1)) := by rw [hp, if_neg (by omega), List.append_nil]; exact hI
            refine bg_iload6 (pc := 74) X1 dX0_appendPart_74 ?_
            refine bg_istore4 (pc := 76) X1 dX0_appendPart_76 ?_
            refine bg_iinc5 (pc := 78) X1 dX0_appendPart_78 (by omega) ?_
            refine bg_goto (pc := 81) X1 (tgt := 6) dX0_appendPart_81 (by decide) ?_
            exact ih (k + 1) _ _ _ _ _ (by omega) rfl (by omega) h6 hF h0
          · refine bg_aload0 (pc := 53) X1 dX0_appendPart_53 ?_
            refine bg_aload0 (pc := 54) X1 dX0_appendPart_54 ?_
            refine bo_getI (pc := 55) X1 dX0_appendPart_55 fX0_15 (by first | assumption | rfl) rfl ?_
            refine bg_aload1 (pc := 58) X1 dX0_appendPart_58 ?_
            refine bg_iload5 (pc := 59) X1 dX0_appendPart_59 ?_
            refine bo_V1i (pc := 61) X1 (c_X0_markOf hs) vX0_markOf lX0_46 rfl (by first | assumption | rfl) (by decide) dX0_appendPart_61 (by exact Nat.le_of_ble_eq_true rfl) ?_
            rintro _ _ ⟨h9, h8⟩
            obtain rfl := h9.symm
            obtain rfl := h8.symm
            rw [e2]
            refine bg_iload7 (pc := 64) X1 dX0_appendPart_64 ?_
            refine bo_V3i (pc := 66) X1 (c_X0_insertE hf hI) vX0_insert lX0_49 rfl (by first | assumption | rfl) (by decide) dX0_appendPart_66 (by exact Nat.le_of_ble_eq_true rfl) ?_
            rintro r66 g2 h66
            refine bg_if_ne (pc := 69) X1 (tgt := 74) dX0_appendPart_69 (by decide) (fun u69 => ?_) (fun u69 => ?_)
            · rcases h66 with ⟨z1, z2, z3, z4, z5⟩ | ⟨z1, z2, z3⟩
              case inr => exact absurd z2 u69
              have h6 : colR g2 f (qf ++ prt q fr to (k + 1)) := by rw [hp, if_pos (by omega), ← List.append_assoc]; exact z3
              replace hF := hF.tr z4
              replace h0 := z5.trans h0
              refine bg_iload6 (pc := 74) X1 dX0_appendPart_74 ?_
              refine bg_istore4 (pc := 76) X1 dX0_appendPart_76 ?_
              refine bg_iinc5 (pc := 78) X1 dX0_appendPart_78 (by omega) ?_
              refine bg_goto (pc := 81) X1 (tgt := 6) dX0_appendPart_81 (by decide) ?_
              exact ih (k + 1) _ _ _ _ _ (by omega) rfl (by omega) h6 hF h0
            · rcases h66 with ⟨z1, z2, z3, z4, z5⟩ | ⟨z1, z2, z3⟩
              case inl => rw [z2] at u69; exact absurd u69 (by decide)
              refine bg_iconst (pc := 72) X1 dX0_appendPart_72 (by decide) ?_
              exact bo_zret (pc := 73) X rfl (by first | exact Or.inl rfl | exact Or.inr rfl | exact b2i_01 _) dX0_appendPart_73 (by
                  subst z3
                  refine ⟨Or.inr ⟨rfl, ?_⟩, hF, h0⟩
                  have z4 := prt_len q fr to (k + 1) (q.length - (k + 1))
                  rw [show k + 1 + (q.length - (k + 1)) = q.length by omega, hp, if_pos (by omega), List.length_append] at z4
                  rw [List.length_append] at z1 ⊢
                  simp only [List.length_singleton] at z4
                  have := hI.2.1
                  omega)
  refine bg_iconst (pc := 0) X1 dX0_appendPart_0 (by decide) ?_
  refine bg_istore4 (pc := 1) X1 dX0_appendPart_1 ?_
  refine bg_iconst (pc := 3) X1 dX0_appendPart_3 (by decide) ?_
  refine bg_istore5 (pc := 4) X1 dX0_appendPart_4 ?_
  exact loop q.length 0 _ _ _ _ _ rfl rfl (by omega) (by rw [show prt q fr to 0 = [] from rfl, List.append_nil]; exact hqf) frR.rf rfl
end
section
/-! the small tests, and the states -/
abbrev isHo (h : Int) : Prop := 0 ≤ h ∧ h < 4
abbrev isMa (m : Int) : Prop := 0 ≤ m ∧ m < 26
theorem c_X6_isHole {y : bg_Y} {g : bg_E} {h : Int} : bg_Si y 0 mX6_isHole [.inl h] g (fun r g' => r = b2i (isHo h) ∧ g' = g) := by
  refine bg_enter pnX6 (Nat.le_of_ble_eq_true rfl) (fun κ X hR hg => ?_)
  have X1 : bg_X κ y cX6_isHole RX6 0 0 0 := X.1
  have hg : ∀ a k, R32 (g a k) := hg
  show bg_g κ y 0 [some (.inl h)] [] g
  refine bg_iload0 (pc := 0) X1 dX6_isHole_0 ?_
  refine bg_if_lt (pc := 1) X1 (tgt := 13) dX6_isHole_1 (by decide) (fun u1 => ?_) (fun u1 => ?_)
  · refine bg_iconst (pc := 13) X1 dX6_isHole_13 (by decide) ?_
    exact bo_zret (pc := 14) X rfl (by first | exact Or.inl rfl | exact Or.inr rfl | exact b2i_01 _) dX6_isHole_14 (⟨by first | rfl | exact (b2i_t (by omega)).symm | exact (b2i_f (by omega)).symm, rfl⟩)
  · refine bg_iload0 (pc := 4) X1 dX6_isHole_4 ?_
    refine bg_iconst (pc := 5) X1 dX6_isHole_5 (by decide) ?_
    refine bg_icmp_ge (pc := 6) X1 (tgt := 13) dX6_isHole_6 (by decide) (fun u6 => ?_) (fun u6 => ?_)
    · refine bg_iconst (pc := 13) X1 dX6_isHole_13 (by decide) ?_
      exact bo_zret (pc := 14) X rfl (by first | exact Or.inl rfl | exact Or.inr rfl | exact b2i_01 _) dX6_isHole_14 (⟨by first | rfl | exact (b2i_t (by omega)).symm | exact (b2i_f (by omega)).symm, rfl⟩)
    · refine bg_iconst (pc := 9) X1 dX6_isHole_9 (by decide) ?_
      refine bg_goto (pc := 10) X1 (tgt := 14) dX6_isHole_10 (by decide) ?_
      exact bo_zret (pc := 14) X rfl (by first | exact Or.inl rfl | exact Or.inr rfl | exact b2i_01 _) dX6_isHole_14 (⟨by first | rfl | exact (b2i_t (by omega)).symm | exact (b2i_f (by omega)).symm, rfl⟩)
theorem c_X6_isMark {y : bg_Y} {g : bg_E} {h : Int} : bg_Si y 0 mX6_isMark [.inl h] g (fun r g' => r = b2i (isMa h) ∧ g' = g) := by
  refine bg_enter pnX6 (Nat.le_of_ble_eq_true rfl) (fun κ X hR hg => ?_)
  have X1 : bg_X κ y cX6_isMark RX6 0 0 0 := X.1
  have hg : ∀ a k, R32 (g a k) := hg
  show bg_g κ y 0 [some (.inl h)] [] g
  refine bg_iload0 (pc := 0) X1 dX6_isMark_0 ?_
  refine bg_if_lt (pc := 1) X1 (tgt := 14) dX6_isMark_1 (by decide) (fun u1 => ?_) (fun u1 => ?_)
  · refine bg_iconst (pc := 14) X1 dX6_isMark_14 (by decide) ?_
    exact bo_zret (pc := 15) X rfl (by first | exact Or.inl rfl | exact Or.inr rfl | exact b2i_01 _) dX6_isMark_15 (⟨by first | rfl | exact (b2i_t (by omega)).symm | exact (b2i_f (by omega)).symm, rfl⟩)
  · refine bg_iload0 (pc := 4) X1 dX6_isMark_4 ?_
    refine bg_bipush (pc := 5) X1 dX6_isMark_5 rfl (by decide) ?_
    refine bg_icmp_ge (pc := 7) X1 (tgt := 14) dX6_isMark_7 (by decide) (fun u7 => ?_) (fun u7 => ?_)
    · refine bg_iconst (pc := 14) X1 dX6_isMark_14 (by decide) ?_
      exact bo_zret (pc := 15) X rfl (by first | exact Or.inl rfl | exact Or.inr rfl | exact b2i_01 _) dX6_isMark_15 (⟨by first | rfl | exact (b2i_t (by omega)).symm | exact (b2i_f (by omega)).symm, rfl⟩)
    · refine bg_iconst (pc := 10) X1 dX6_isMark_10 (by decide) ?_
      refine bg_goto (pc := 11) X1 (tgt := 15) dX6_isMark_11 (by decide) ?_
      exact bo_zret (pc := 15) X rfl (by first | exact Or.inl rfl | exact Or.inr rfl | exact b2i_01 _) dX6_isMark_15 (⟨by first | rfl | exact (b2i_t (by omega)).symm | exact (b2i_f (by omega)).symm, rfl⟩)
theorem c_X6_isThickness {y : bg_Y} {g : bg_E} {h : Int} : bg_Si y 0 mX6_isThickness [.inl h] g (fun r g' => r = b2i (1 ≤ h ∧ h ≤ 99) ∧ g' = g) := by
  refine bg_enter pnX6 (Nat.le_of_ble_eq_true rfl) (fun κ X hR hg => ?_)
  have X1 : bg_X κ y cX6_isThickness RX6 0 0 0 := X.1
  have hg : ∀ a k, R32 (g a k) := hg
  show bg_g κ y 0 [some (.inl h)] [] g
  refine bg_iload0 (pc := 0) X1 dX6_isThickness_0 ?_
  refine bg_iconst (pc := 1) X1 dX6_isThickness_1 (by decide) ?_
  refine bg_icmp_lt (pc := 2) X1 (tgt := 15) dX6_isThickness_2 (by decide) (fun u2 => ?_) (fun u2 => ?_)
  · refine bg_iconst (pc := 15) X1 dX6_isThickness_15 (by decide) ?_
    exact bo_zret (pc := 16) X rfl (by first | exact Or.inl rfl | exact Or.inr rfl | exact b2i_01 _) dX6_isThickness_16 (⟨by first | rfl | exact (b2i_t (by omega)).symm | exact (b2i_f (by omega)).symm, rfl⟩)
  · refine bg_iload0 (pc := 5) X1 dX6_isThickness_5 ?_
    refine bg_bipush (pc := 6) X1 dX6_isThickness_6 rfl (by decide) ?_
    refine bg_icmp_gt (pc := 8) X1 (tgt := 15) dX6_isThickness_8 (by decide) (fun u8 => ?_) (fun u8 => ?_)
    · refine bg_iconst (pc := 15) X1 dX6_isThickness_15 (by decide) ?_
      exact bo_zret (pc := 16) X rfl (by first | exact Or.inl rfl | exact Or.inr rfl | exact b2i_01 _) dX6_isThickness_16 (⟨by first | rfl | exact (b2i_t (by omega)).symm | exact (b2i_f (by omega)).symm, rfl⟩)
    · refine bg_iconst (pc := 11) X1 dX6_isThickness_11 (by decide) ?_
      refine bg_goto (pc := 12) X1 (tgt := 16) dX6_isThickness_12 (by decide) ?_
      exact bo_zret (pc := 16) X rfl (by first | exact Or.inl rfl | exact Or.inr rfl | exact b2i_01 _) dX6_isThickness_16 (⟨by first | rfl | exact (b2i_t (by omega)).symm | exact (b2i_f (by omega)).symm, rfl⟩)
theorem c_X6_isImage {y : bg_Y} {g : bg_E} {h : Int} : bg_Si y 0 mX6_isImage [.inl h] g (fun r g' => r = b2i (0 ≤ h ∧ h < 2) ∧ g' = g) := by
  refine bg_enter pnX6 (Nat.le_of_ble_eq_true rfl) (fun κ X hR hg => ?_)
  have X1 : bg_X κ y cX6_isImage RX6 0 0 0 := X.1
  have hg : ∀ a k, R32 (g a k) := hg
  show bg_g κ y 0 [some (.inl h)] [] g
  refine bg_iload0 (pc := 0) X1 dX6_isImage_0 ?_
  refine bg_if_lt (pc := 1) X1 (tgt := 13) dX6_isImage_1 (by decide) (fun u1 => ?_) (fun u1 => ?_)
  · refine bg_iconst (pc := 13) X1 dX6_isImage_13 (by decide) ?_
    exact bo_zret (pc := 14) X rfl (by first | exact Or.inl rfl | exact Or.inr rfl | exact b2i_01 _) dX6_isImage_14 (⟨by first | rfl | exact (b2i_t (by omega)).symm | exact (b2i_f (by omega)).symm, rfl⟩)
  · refine bg_iload0 (pc := 4) X1 dX6_isImage_4 ?_
    refine bg_iconst (pc := 5) X1 dX6_isImage_5 (by decide) ?_
    refine bg_icmp_ge (pc := 6) X1 (tgt := 13) dX6_isImage_6 (by decide) (fun u6 => ?_) (fun u6 => ?_)
    · refine bg_iconst (pc := 13) X1 dX6_isImage_13 (by decide) ?_
      exact bo_zret (pc := 14) X rfl (by first | exact Or.inl rfl | exact Or.inr rfl | exact b2i_01 _) dX6_isImage_14 (⟨by first | rfl | exact (b2i_t (by omega)).symm | exact (b2i_f (by omega)).symm, rfl⟩)
    · refine bg_iconst (pc := 9) X1 dX6_isImage_9 (by decide) ?_
      refine bg_goto (pc := 10) X1 (tgt := 14) dX6_isImage_10 (by decide) ?_
      exact bo_zret (pc := 14) X rfl (by first | exact Or.inl rfl | exact Or.inr rfl | exact b2i_01 _) dX6_isImage_14 (⟨by first | rfl | exact (b2i_t (by omega)).symm | exact (b2i_f (by omega)).symm, rfl⟩)
abbrev arePa (a b : Int) : Prop := isHo a ∧ isHo b ∧ ¬ a = b
theorem c_X6_arePair {y : bg_Y} {g : bg_E} {a b : Int} : bg_Si y 1 mX6_arePair [.inl a, .inl b] g (fun r g' => r = b2i (arePa a b) ∧ g' = g) := by
  refine bg_enter pnX6 (Nat.le_of_ble_eq_true rfl) (fun κ X hR hg => ?_)
  have X1 : bg_X κ y cX6_arePair RX6 1 0 0 := X.1
  have hg : ∀ a k, R32 (g a k) := hg
  show bg_g κ y 0 [some (.inl a), some (.inl b)] [] g
  refine bg_iload0 (pc := 0) X1 dX6_arePair_0 ?_
  refine bo_S1i (pc := 1) X1 (c_X6_isHole) sX6_isHole lX6_89 rfl (by decide) dX6_arePair_1 (by exact Nat.le_of_ble_eq_true rfl) ?_
  rintro _ _ ⟨h9, h8⟩
  obtain rfl := h9.symm
  obtain rfl := h8.symm
  refine bo_ifeq_b (pc := 4) X1 (tgt := 23) dX6_arePair_4 (by decide) (fun u4 => ?_) (fun u4 => ?_)
  · refine bg_iconst (pc := 23) X1 dX6_arePair_23 (by decide) ?_
    exact bo_zret (pc := 24) X rfl (by first | exact Or.inl rfl | exact Or.inr rfl | exact b2i_01 _) dX6_arePair_24 (⟨by first | rfl | exact (b2i_t (by omega)).symm | exact (b2i_f (by omega)).symm, rfl⟩)
  · refine bg_iload1 (pc := 7) X1 dX6_arePair_7 ?_
    refine bo_S1i (pc := 8) X1 (c_X6_isHole) sX6_isHole lX6_89 rfl (by decide) dX6_arePair_8 (by exact Nat.le_of_ble_eq_true rfl) ?_
    rintro _ _ ⟨h9, h8⟩
    obtain rfl := h9.symm
    obtain rfl := h8.symm
    refine bo_ifeq_b (pc := 11) X1 (tgt := 23) dX6_arePair_11 (by decide) (fun u11 => ?_) (fun u11 => ?_)
    · refine bg_iconst (pc := 23) X1 dX6_arePair_23 (by decide) ?_
      exact bo_zret (pc := 24) X rfl (by first | exact Or.inl rfl | exact Or.inr rfl | exact b2i_01 _) dX6_arePair_24 (⟨by first | rfl | exact (b2i_t (by omega)).symm | exact (b2i_f (by omega)).symm, rfl⟩)
    · refine bg_iload0 (pc := 14) X1 dX6_arePair_14 ?_
      refine bg_iload1 (pc := 15) X1 dX6_arePair_15 ?_
      refine bg_icmp_eq (pc := 16) X1 (tgt := 23) dX6_arePair_16 (by decide) (fun u16 => ?_) (fun u16 => ?_)
      · refine bg_iconst (pc := 23) X1 dX6_arePair_23 (by decide) ?_
        exact bo_zret (pc := 24) X rfl (by first | exact Or.inl rfl | exact Or.inr rfl | exact b2i_01 _) dX6_arePair_24 (⟨by first | rfl | exact (b2i_t (by omega)).symm | exact (b2i_f (by omega)).symm, rfl⟩)
      · refine bg_iconst (pc := 19) X1 dX6_arePair_19 (by decide) ?_
        refine bg_goto (pc := 20) X1 (tgt := 24) dX6_arePair_20 (by decide) ?_
        exact bo_zret (pc := 24) X rfl (by first | exact Or.inl rfl | exact Or.inr rfl | exact b2i_01 _) dX6_arePair_24 (⟨by first | rfl | exact (b2i_t (by omega)).symm | exact (b2i_f (by omega)).symm, rfl⟩)
/-! a state: numbers, key marks, collars, columns, accounts -/
abbrev bm_S : Type := (Nat → Int) × Int × (Nat → Int) × (Nat → bm_Q) × (Nat → Int)
def fup {α : Type} (f : Nat → α) (k : Nat) (v : α) : Nat → α := fun j => if j = k then v else f j
theorem fup_eq {α : Type} {f : Nat → α} {k : Nat} {v : α} : fup f k v k = v := by simp [fup]
theorem fup_ne {α : Type} {f : Nat → α} {k j : Nat} {v : α} (h : j ≠ k) : fup f k v j = f j := by simp [fup, h]
def sNum (S : bm_S) (k : Nat) (v : Int) : bm_S := (fup S.1 k v, S.2)
def sKey (S : bm_S) (K : Int) : bm_S := (S.1, K, S.2.2)
def sCol (S : bm_S) (h : Nat) (v : Int) : bm_S := (S.1, S.2.1, fup S.2.2.1 h v, S.2.2.2)
def sBed (S : bm_S) (h : Nat) (q : bm_Q) : bm_S := (S.1, S.2.1, S.2.2.1, fup S.2.2.2.1 h q, S.2.2.2.2)
def sBook (S : bm_S) (a : Nat) (t : Int) : bm_S := (S.1, S.2.1, S.2.2.1, S.2.2.2.1, fup S.2.2.2.2 a (bg_wr (S.2.2.2.2 a + t)))
def staR (g : bg_E) (b : Nat) (S : bm_S) : Prop := (∀ k, k < 5 → g (b + 1) k = S.1 k) ∧ g b 1 = S.2.1 ∧ (∀ h, h < 4 → g (b + 3 + 3 * h) 0 = S.2.2.1 h ∧ colR g (b + 3 + 3 * h) (S.2.2.2.1 h)) ∧ ∀ a, 1 ≤ a → a < 5 → g (b + 15) a = S.2.2.2.2 a
def staOK (S : bm_S) : Prop := (1 ≤ S.1 0 ∧ S.1 0 ≤ 99) ∧ (1 ≤ S.1 1 ∧ S.1 1 ≤ 99) ∧ (0 ≤ S.1 2 ∧ S.1 2 ≤ 9) ∧ (1 ≤ S.1 3 ∧ S.1 3 ≤ 8) ∧ (1 ≤ S.1 4 ∧ S.1 4 ≤ 999) ∧ (0 ≤ S.2.1 ∧ S.2.1 < 67108864) ∧ (∀ h, h < 4 → -9999 ≤ S.2.2.1 h ∧ S.2.2.1 h ≤ 9999) ∧ ∀ h, h < 4 → colOK (S.2.2.2.1 h) ∧ (S.2.2.2.1 h).length ≤ 24
theorem staR.fr {g g' : bg_E} {b lo hi : Nat} {S : bm_S} (h : staR g b S) (hf : frR lo hi g g') (hx : b + 15 < lo ∨ hi ≤ b) : staR g' b S := by
  obtain ⟨h1, h2, h3, h4⟩ := h
  refine ⟨fun k hk => by rw [hf (b + 1) (by omega)]; exact h1 k hk, by rw [hf b (by omega)]; exact h2, fun h hh => ⟨by rw [hf (b + 3 + 3 * h) (by omega)]; exact (h3 h hh).1, (h3 h hh).2.fr hf (by omega)⟩, fun a h5 h6 => by rw [hf (b + 15) (by omega)]; exact h4 a h5 h6⟩
/-- one of a state's columns is another -/
theorem staR.col {g g' : bg_E} {b : Nat} {S : bm_S} {h : Nat} {q : bm_Q} (hS : staR g b S) (hh : h < 4) (hf : frR (b + 3 + 3 * h) (b + 3 + 3 * h + 3) g g') (hc : colR g' (b + 3 + 3 * h) q) (h0 : g' (b + 3 + 3 * h) 0 = g (b + 3 + 3 * h) 0) : staR g' b (sBed S h q) := by
  obtain ⟨h1, h2, h3, h4⟩ := hS
  refine ⟨fun k hk => by rw [hf (b + 1) (by omega)]; exact h1 k hk, by rw [hf b (by omega)]; exact h2, fun j hj => ?_, fun a h5 h6 => by rw [hf (b + 15) (by omega)]; exact h4 a h5 h6⟩
  by_cases hjh : j = h
  · subst hjh
    refine ⟨h0.trans (h3 j hj).1, ?_⟩
    show colR g' _ (fup S.2.2.2.1 j q j)
    rw [fup_eq]
    exact hc
  · refine ⟨by rw [hf (b + 3 + 3 * j) (by omega)]; exact (h3 j hj).1, ?_⟩
    show colR g' _ (fup S.2.2.2.1 h q j)
    rw [fup_ne hjh]
    exact (h3 j hj).2.fr hf (by omega)
theorem c_X4_numberOf {y : bg_Y} {g : bg_E} {b : Nat} {i : Int} {S : bm_S} (hb : bg_sta b) (hS : staR g b S) (hi : 0 ≤ i ∧ i < 5) : bg_Si y 0 mX4_numberOf [.inr b, .inl i] g (fun r g' => r = S.1 i.toNat ∧ g' = g) := by
  obtain ⟨s1, s2, s3, s4, s5, s6, s7, s8, s9⟩ := id hb
  refine bg_enter pnX4 (Nat.le_of_ble_eq_true rfl) (fun κ X hR hg => ?_)
  have X1 : bg_X κ y cX4_numberOf RX4 0 0 0 := X.1
  have hg : ∀ a k, R32 (g a k) := hg
  show bg_g κ y 0 [some (.inr b), some (.inl i)] [] g
  refine bg_iload1 (pc := 0) X1 dX4_numberOf_0 ?_
  refine bg_if_lt (pc := 1) X1 (tgt := 18) dX4_numberOf_1 (by decide) (fun u1 => ?_) (fun u1 => ?_)
  · exfalso; omega
  · refine bg_iload1 (pc := 4) X1 dX4_numberOf_4 ?_
    refine bg_iconst (pc := 5) X1 dX4_numberOf_5 (by decide) ?_
    refine bg_icmp_ge (pc := 6) X1 (tgt := 18) dX4_numberOf_6 (by decide) (fun u6 => ?_) (fun u6 => ?_)
    · exfalso; omega
    · refine bg_aload0 (pc := 9) X1 dX4_numberOf_9 ?_
      refine bo_getR (pc := 10) X1 dX4_numberOf_10 fX4_9 (by first | assumption | rfl) rfl (by first | assumption | rfl) ?_
      refine bg_iload1 (pc := 13) X1 dX4_numberOf_13 ?_
      refine bo_iaload (pc := 14) X1 dX4_numberOf_14 (by first | assumption | rfl) (by omega) ?_
      refine bg_goto (pc := 15) X1 (tgt := 19) dX4_numberOf_15 (by decide) ?_
      exact bo_iret (pc := 19) X rfl dX4_numberOf_19 (fun hi => ⟨hS.1 _ (by omega), rfl⟩)
theorem c_X4_putNumber {y : bg_Y} {g : bg_E} {b : Nat} {i v : Int} {S : bm_S} (hb : bg_sta b) (hS : staR g b S) (hi : 0 ≤ i ∧ i < 5) : bg_Sv y 0 mX4_putNumber [.inr b, .inl i, .inl v] g (fun g' => staR g' b (sNum S i.toNat v) ∧ frR b (b + 16) g g') := by
  obtain ⟨s1, s2, s3, s4, s5, s6, s7, s8, s9⟩ := id hb
  obtain ⟨h1, h2, h3, h4⟩ := id hS
  refine bg_enter pnX4 (Nat.le_of_ble_eq_true rfl) (fun κ X hR hg => ?_)
  have X1 : bg_X κ y cX4_putNumber RX4 0 0 0 := X.1
  have hg : ∀ a k, R32 (g a k) := hg
  show bg_g κ y 0 [some (.inr b), some (.inl i), some (.inl v)] [] g
  refine bg_iload1 (pc := 0) X1 dX4_putNumber_0 ?_
  refine bg_if_lt (pc := 1) X1 (tgt := 16) dX4_putNumber_1 (by decide) (fun u1 => ?_) (fun u1 => ?_)
  · exfalso; omega
  · refine bg_iload1 (pc := 4) X1 dX4_putNumber_4 ?_
    refine bg_iconst (pc := 5) X1 dX4_putNumber_5 (by decide) ?_
    refine bg_icmp_ge (pc := 6) X1 (tgt := 16) dX4_putNumber_6 (by decide) (fun u6 => ?_) (fun u6 => ?_)
    · exfalso; omega
    · refine bg_aload0 (pc := 9) X1 dX4_putNumber_9 ?_
      refine bo_getR (pc := 10) X1 dX4_putNumber_10 fX4_9 (by first | assumption | rfl) rfl (by first | assumption | rfl) ?_
      refine bg_iload1 (pc := 13) X1 dX4_putNumber_13 ?_
      refine bg_iload2 (pc := 14) X1 dX4_putNumber_14 ?_
      refine bo_iastore (pc := 15) X1 dX4_putNumber_15 (by first | assumption | rfl) (by omega) ?_
      exact bo_vret (pc := 16) X rfl dX4_putNumber_16 (fun hg9 => by
          refine ⟨⟨fun k hk => ?_, by rw [bg_up_ne (by omega)]; exact h2, fun h hh => ⟨by rw [bg_up_ne (by omega)]; exact (h3 h hh).1, (h3 h hh).2.up (by omega)⟩, fun a h5 h6 => by rw [bg_up_ne (by omega)]; exact h4 a h5 h6⟩, frR.rf.up (by omega) (by omega)⟩
          show _ = fup S.1 i.toNat v k
          unfold fup bg_up
          simp [h1 k hk])
theorem c_X4_columnOf {y : bg_Y} {g : bg_E} {b : Nat} {h : Int} (hb : bg_sta b) (hh : isHo h) : bg_Sr y 1 mX4_columnOf [.inr b, .inl h] g (fun r g' => r = b + 3 + 3 * h.toNat ∧ g' = g) := by
  obtain ⟨s1, s2, s3, s4, s5, s6, s7, s8, s9⟩ := id hb
  refine bg_enter pnX4 (Nat.le_of_ble_eq_true rfl) (fun κ X hR hg => ?_)
  have X1 : bg_X κ y cX4_columnOf RX4 1 0 0 := X.1
  have hg : ∀ a k, R32 (g a k) := hg
  show bg_g κ y 0 [some (.inr b), some (.inl h)] [] g
  refine bg_aload0 (pc := 0) X1 dX4_columnOf_0 ?_
  refine bo_getR (pc := 1) X1 dX4_columnOf_1 fX4_24 (by first | assumption | rfl) rfl (by first | assumption | rfl) ?_
  refine bg_iload1 (pc := 4) X1 dX4_columnOf_4 ?_
  refine bo_N1i (pc := 5) X1 (c_X6_isHole) sX6_isHole hX4_42 rfl (by decide) dX4_columnOf_5 (by exact Nat.le_of_ble_eq_true rfl) ?_
  rintro _ _ ⟨h9, h8⟩
  obtain rfl := h9.symm
  obtain rfl := h8.symm
  refine bo_ifeq_b (pc := 8) X1 (tgt := 15) dX4_columnOf_8 (by decide) (fun u8 => ?_) (fun u8 => ?_)
  · exact absurd hh u8
  · refine bg_iload1 (pc := 11) X1 dX4_columnOf_11 ?_
    refine bg_goto (pc := 12) X1 (tgt := 16) dX4_columnOf_12 (by decide) ?_
    refine bo_aaload (pc := 16) X1 dX4_columnOf_16 (by first | assumption | rfl) (by decide) (by omega) (s8 _ (by omega)) ?_
    exact bo_aret (pc := 17) X rfl dX4_columnOf_17 (⟨rfl, rfl⟩)
theorem c_X4_bookedIn {y : bg_Y} {g : bg_E} {b : Nat} {i : Int} {S : bm_S} (hb : bg_sta b) (hS : staR g b S) (hi : 1 ≤ i ∧ i < 5) : bg_Si y 0 mX4_bookedIn [.inr b, .inl i] g (fun r g' => r = S.2.2.2.2 i.toNat ∧ g' = g) := by
  obtain ⟨s1, s2, s3, s4, s5, s6, s7, s8, s9⟩ := id hb
  refine bg_enter pnX4 (Nat.le_of_ble_eq_true rfl) (fun κ X hR hg => ?_)
  have X1 : bg_X κ y cX4_bookedIn RX4 0 0 0 := X.1
  have hg : ∀ a k, R32 (g a k) := hg
  show bg_g κ y 0 [some (.inr b), some (.inl i)] [] g
  refine bg_iload1 (pc := 0) X1 dX4_bookedIn_0 ?_
  refine bg_if_lt (pc := 1) X1 (tgt := 18) dX4_bookedIn_1 (by decide) (fun u1 => ?_) (fun u1 => ?_)
  · exfalso; omega
  · refine bg_iload1 (pc := 4) X1 dX4_bookedIn_4 ?_
    refine bg_iconst (pc := 5) X1 dX4_bookedIn_5 (by decide) ?_
    refine bg_icmp_ge (pc := 6) X1 (tgt := 18) dX4_bookedIn_6 (by decide) (fun u6 => ?_) (fun u6 => ?_)
    · exfalso; omega
    · refine bg_aload0 (pc := 9) X1 dX4_bookedIn_9 ?_
      refine bo_getR (pc := 10) X1 dX4_bookedIn_10 fX4_29 (by first | assumption | rfl) rfl (by first | assumption | rfl) ?_
      refine bg_iload1 (pc := 13) X1 dX4_bookedIn_13 ?_
      refine bo_iaload (pc := 14) X1 dX4_bookedIn_14 (by first | assumption | rfl) (by omega) ?_
      refine bg_goto (pc := 15) X1 (tgt := 19) dX4_bookedIn_15 (by decide) ?_
      exact bo_iret (pc := 19) X rfl dX4_bookedIn_19 (fun hi => ⟨hS.2.2.2 _ (by omega) (by omega), rfl⟩)
theorem c_X4_book {y : bg_Y} {g : bg_E} {b : Nat} {i v : Int} {S : bm_S} (hb : bg_sta b) (hS : staR g b S) (hi : 1 ≤ i ∧ i < 5) : bg_Sv y 0 mX4_book [.inr b, .inl i, .inl v] g (fun g' => staR g' b (sBook S i.toNat v) ∧ frR b (b + 16) g g') := by
  obtain ⟨s1, s2, s3, s4, s5, s6, s7, s8, s9⟩ := id hb
  obtain ⟨h1, h2, h3, h4⟩ := id hS
  refine bg_enter pnX4 (Nat.le_of_ble_eq_true rfl) (fun κ X hR hg => ?_)
  have X1 : bg_X κ y cX4_book RX4 0 0 0 := X.1
  have hg : ∀ a k, R32 (g a k) := hg
  show bg_g κ y 0 [some (.inr b), some (.inl i), some (.inl v)] [] g
  refine bg_iload1 (pc := 0) X1 dX4_book_0 ?_
  refine bg_if_lt (pc := 1) X1 (tgt := 19) dX4_book_1 (by decide) (fun u1 => ?_) (fun u1 => ?_)
  · exfalso; omega
  · refine bg_iload1 (pc := 4) X1 dX4_book_4 ?_
    refine bg_iconst (pc := 5) X1 dX4_book_5 (by decide) ?_
    refine bg_icmp_ge (pc := 6) X1 (tgt := 19) dX4_book_6 (by decide) (fun u6 => ?_) (fun u6 => ?_)
    · exfalso; omega
    · refine bg_aload0 (pc := 9) X1 dX4_book_9 ?_
      refine bo_getR (pc := 10) X1 dX4_book_10 fX4_29 (by first | assumption | rfl) rfl (by first | assumption | rfl) ?_
      refine bg_iload1 (pc := 13) X1 dX4_book_13 ?_
      refine bg_dup2 (pc := 14) X1 dX4_book_14 ?_
      refine bo_iaload (pc := 15) X1 dX4_book_15 (by first | assumption | rfl) (by omega) ?_
      refine bg_iload2 (pc := 16) X1 dX4_book_16 ?_
      refine bg_iaddW (pc := 17) X1 dX4_book_17 ?_
      refine bo_iastore (pc := 18) X1 dX4_book_18 (by first | assumption | rfl) (by omega) ?_
      exact bo_vret (pc := 19) X rfl dX4_book_19 (fun hg9 => by
          refine ⟨⟨fun k hk => by rw [bg_up_ne (by omega)]; exact h1 k hk, by rw [bg_up_ne (by omega)]; exact h2, fun h hh => ⟨by rw [bg_up_ne (by omega)]; exact (h3 h hh).1, (h3 h hh).2.up (by omega)⟩, fun a h5 h6 => ?_⟩, frR.rf.up (by omega) (by omega)⟩
          show _ = fup S.2.2.2.2 i.toNat _ a
          unfold fup bg_up
          rw [h4 i.toNat (by omega) (by omega)]
          simp [h4 a h5 h6])
theorem c_X4_sumOfSizes {y : bg_Y} {g : bg_E} {b : Nat} {S : bm_S} (hb : bg_sta b) (hS : staR g b S) : bg_Si y 1 mX4_sumOfSizes [.inr b] g (fun r g' => r = sumN (fun h => ((S.2.2.2.1 h).length : Int)) 4 ∧ g' = g) := by
  obtain ⟨s1, s2, s3, s4, s5, s6, s7, s8, s9⟩ := id hb
  obtain ⟨h1, h2, h3, h4⟩ := id hS
  refine bg_enter pnX4 (Nat.le_of_ble_eq_true rfl) (fun κ X hR hg => ?_)
  have X1 : bg_X κ y cX4_sumOfSizes RX4 1 0 0 := X.1
  have hg : ∀ a k, R32 (g a k) := hg
  show bg_g κ y 0 [some (.inr b), none, none] [] g
  have loop : ∀ (n k : Nat) (a s : Int), a = (k : Int) → k + n = 4 → s = sumN (fun h => ((S.2.2.2.1 h).length : Int)) k → bg_g κ y 4 [some (.inr b), some (.inl s), some (.inl a)] [] g := by
    intro n
    induction n with
    | zero =>
      intro k a s ha hk hs
      refine bg_iload2 (pc := 4) X1 dX4_sumOfSizes_4 ?_
      refine bg_iconst (pc := 5) X1 dX4_sumOfSizes_5 (by decide) ?_
      refine bg_icmp_ge (pc := 6) X1 (tgt := 27) dX4_sumOfSizes_6 (by decide) (fun u6 => ?_) (fun u6 => ?_)
      · refine bg_iload1 (pc := 27) X1 dX4_sumOfSizes_27 ?_
        exact bo_iret (pc := 28) X rfl dX4_sumOfSizes_28 (fun hi => ⟨by rw [hs, show k = 4 by omega], rfl⟩)
      · exfalso; omega
    | succ n ih =>
      intro k a s ha hk hs
      have e1 := (h3 k (by omega)).2.1
      have e2 : ∀ j, j ≤ 4 → 0 ≤ sumN (fun h => ((S.2.2.2.1 h).length : Int)) j ∧ sumN (fun h => ((S.2.2.2.1 h).length : Int)) j ≤ 99 * j := fun j hj => sumN_le (fun i hi => ⟨Int.natCast_nonneg _, by have := (h3 i (by omega)).2.2.1; omega⟩)
      have e3 := e2 k (by omega)
      have e4 := (h3 k (by omega)).2.2.1
      have e5 : b + 3 + 3 * a.toNat = b + 3 + 3 * k := by omega
      refine bg_iload2 (pc := 4) X1 dX4_sumOfSizes_4 ?_
      refine bg_iconst (pc := 5) X1 dX4_sumOfSizes_5 (by decide) ?_
      refine bg_icmp_ge (pc := 6) X1 (tgt := 27) dX4_sumOfSizes_6 (by decide) (fun u6 => ?_) (fun u6 => ?_)
      · exfalso; omega
      · refine bg_iload1 (pc := 9) X1 dX4_sumOfSizes_9 ?_
        refine bg_aload0 (pc := 10) X1 dX4_sumOfSizes_10 ?_
        refine bo_getR (pc := 11) X1 dX4_sumOfSizes_11 fX4_24 (by first | assumption | rfl) rfl (by first | assumption | rfl) ?_
        refine bg_iload2 (pc := 14) X1 dX4_sumOfSizes_14 ?_
        refine bo_aaload (pc := 15) X1 dX4_sumOfSizes_15 (by first | assumption | rfl) (by decide) (by omega) (s8 _ (by omega)) ?_
        refine bo_V0i (pc := 16) X1 (c_X0_size (s9 _ (by omega))) vX0_size lX4_45 rfl (s9 _ (by omega)).1 (by decide) dX4_sumOfSizes_16 (by exact Nat.le_of_ble_eq_true rfl) ?_
        rintro _ _ ⟨h9, h8⟩
        obtain rfl := h9.symm
        obtain rfl := h8.symm
        rw [e5, e1]
        refine bg_iadd (pc := 19) X1 dX4_sumOfSizes_19 (by omega) ?_
        refine bg_istore1 (pc := 20) X1 dX4_sumOfSizes_20 ?_
        refine bg_iinc2 (pc := 21) X1 dX4_sumOfSizes_21 (by omega) ?_
        refine bg_goto (pc := 24) X1 (tgt := 4) dX4_sumOfSizes_24 (by decide) ?_
        exact ih (k + 1) _ _ (by omega) (by omega) (by rw [hs]; rfl)
  refine bg_iconst (pc := 0) X1 dX4_sumOfSizes_0 (by decide) ?_
  refine bg_istore1 (pc := 1) X1 dX4_sumOfSizes_1 ?_
  refine bg_iconst (pc := 2) X1 dX4_sumOfSizes_2 (by decide) ?_
  refine bg_istore2 (pc := 3) X1 dX4_sumOfSizes_3 ?_
  exact loop 4 0 _ _ rfl rfl rfl
theorem c_X4_sumOfLengths {y : bg_Y} {g : bg_E} {b : Nat} {S : bm_S} (hb : bg_sta b) (hS : staR g b S) (hok : staOK S) : bg_Si y 3 mX4_sumOfLengths [.inr b] g (fun r g' => r = sumN (fun h => dep (S.2.2.2.1 h) (S.2.2.2.1 h).length) 4 ∧ g' = g) := by
  obtain ⟨s1, s2, s3, s4, s5, s6, s7, s8, s9⟩ := id hb
  obtain ⟨h1, h2, h3, h4⟩ := id hS
  have hq : ∀ h, h < 4 → 0 ≤ dep (S.2.2.2.1 h) (S.2.2.2.1 h).length ∧ dep (S.2.2.2.1 h) (S.2.2.2.1 h).length ≤ 2376 := fun h hh => by
    have := dep_le ((hok.2.2.2.2.2.2.2 h hh).1) (Nat.le_refl _)
    have := (hok.2.2.2.2.2.2.2 h hh).2
    omega
  have e2 : ∀ j, j ≤ 4 → 0 ≤ sumN (fun h => dep (S.2.2.2.1 h) (S.2.2.2.1 h).length) j ∧ sumN (fun h => dep (S.2.2.2.1 h) (S.2.2.2.1 h).length) j ≤ 2376 * j := by
    intro j
    induction j with
    | zero => intro _; simp [sumN]
    | succ j ihj =>
      intro hj
      have := ihj (by omega)
      have := hq j (by omega)
      show 0 ≤ sumN _ j + dep (S.2.2.2.1 j) (S.2.2.2.1 j).length ∧ sumN _ j + dep (S.2.2.2.1 j) (S.2.2.2.1 j).length ≤ _
      omega
  refine bg_enter pnX4 (Nat.le_of_ble_eq_true rfl) (fun κ X hR hg => ?_)
  have X1 : bg_X κ y cX4_sumOfLengths RX4 3 0 0 := X.1
  have hg : ∀ a k, R32 (g a k) := hg
  show bg_g κ y 0 [some (.inr b), none, none] [] g
  have loop : ∀ (n k : Nat) (a s : Int), a = (k : Int) → k + n = 4 → s = sumN (fun h => dep (S.2.2.2.1 h) (S.2.2.2.1 h).length) k → bg_g κ y 4 [some (.inr b), some (.inl s), some (.inl a)] [] g := by
    intro n
    induction n with
    | zero =>
      intro k a s ha hk hs
      refine bg_iload2 (pc := 4) X1 dX4_sumOfLengths_4 ?_
      refine bg_iconst (pc := 5) X1 dX4_sumOfLengths_5 (by decide) ?_
      refine bg_icmp_ge (pc := 6) X1 (tgt := 27) dX4_sumOfLengths_6 (by decide) (fun u6 => ?_) (fun u6 => ?_)
      · refine bg_iload1 (pc := 27) X1 dX4_sumOfLengths_27 ?_
        exact bo_iret (pc := 28) X rfl dX4_sumOfLengths_28 (fun hi => ⟨by rw [hs, show k = 4 by omega], rfl⟩)
      · exfalso; omega
    | succ n ih =>
      intro k a s ha hk hs
      have e3 := e2 k (by omega)
      have e4 := hq k (by omega)
      have e5 : a.toNat = k := by omega
      refine bg_iload2 (pc := 4) X1 dX4_sumOfLengths_4 ?_
      refine bg_iconst (pc := 5) X1 dX4_sumOfLengths_5 (by decide) ?_
      refine bg_icmp_ge (pc := 6) X1 (tgt := 27) dX4_sumOfLengths_6 (by decide) (fun u6 => ?_) (fun u6 => ?_)
      · exfalso; omega
      · refine bg_iload1 (pc := 9) X1 dX4_sumOfLengths_9 ?_
        refine bg_aload0 (pc := 10) X1 dX4_sumOfLengths_10 ?_
        refine bo_getR (pc := 11) X1 dX4_sumOfLengths_11 fX4_24 (by first | assumption | rfl) rfl (by first | assumption | rfl) ?_
        refine bg_iload2 (pc := 14) X1 dX4_sumOfLengths_14 ?_
        refine bo_aaload (pc := 15) X1 dX4_sumOfLengths_15 (by first | assumption | rfl) (by decide) (by omega) (s8 _ (by omega)) ?_
        rw [e5]
        refine bo_V0i (pc := 16) X1 (c_X0_totalThickness (s9 _ (by omega)) (h3 k (by omega)).2 (hok.2.2.2.2.2.2.2 k (by omega)).1) vX0_totalThickness lX4_49 rfl (s9 _ (by omega)).1 (by decide) dX4_sumOfLengths_16 (by exact Nat.le_of_ble_eq_true rfl) ?_
        rintro _ _ ⟨h9, h8⟩
        obtain rfl := h9.symm
        obtain rfl := h8.symm
        refine bg_iadd (pc := 19) X1 dX4_sumOfLengths_19 (by omega) ?_
        refine bg_istore1 (pc := 20) X1 dX4_sumOfLengths_20 ?_
        refine bg_iinc2 (pc := 21) X1 dX4_sumOfLengths_21 (by omega) ?_
        refine bg_goto (pc := 24) X1 (tgt := 4) dX4_sumOfLengths_24 (by decide) ?_
        exact ih (k + 1) _ _ (by omega) (by omega) (by rw [hs]; rfl)
  refine bg_iconst (pc := 0) X1 dX4_sumOfLengths_0 (by decide) ?_
  refine bg_istore1 (pc := 1) X1 dX4_sumOfLengths_1 ?_
  refine bg_iconst (pc := 2) X1 dX4_sumOfLengths_2 (by decide) ?_
  refine bg_istore2 (pc := 3) X1 dX4_sumOfLengths_3 ?_
  exact loop 4 0 _ _ rfl rfl rfl
theorem c_X4_copyFrom {y : bg_Y} {g : bg_E} {b s : Nat} {S : bm_S} (hb : bg_sta b) (hs : bg_sta s) (hne : b + 15 < s ∨ s + 15 < b) (hS : staR g s S) : bg_Sv y 3 mX4_copyFrom [.inr b, .inr s] g (fun g' => staR g' b S ∧ frR b (b + 16) g g') := by
  obtain ⟨s1, s2, s3, s4, s5, s6, s7, s8, s9⟩ := id hb
  obtain ⟨t1, t2, t3, t4, t5, t6, t7, t8, t9⟩ := id hs
  obtain ⟨h1, h2, h3, h4⟩ := id hS
  refine bg_enter pnX4 (Nat.le_of_ble_eq_true rfl) (fun κ X hR hg => ?_)
  have X1 : bg_X κ y cX4_copyFrom RX4 3 0 0 := X.1
  have hg : ∀ a k, R32 (g a k) := hg
  show bg_g κ y 0 [some (.inr b), some (.inr s), none] [] g
  have loop : ∀ (n k : Nat) (a : Int) (g1 : bg_E), a = (k : Int) → k + n = 4 → frR b (b + 16) g g1 → (∀ j, j < 5 → g1 (b + 1) j = S.1 j) → g1 b 1 = S.2.1 → (∀ h, h < k → g1 (b + 3 + 3 * h) 0 = S.2.2.1 h ∧ colR g1 (b + 3 + 3 * h) (S.2.2.2.1 h)) → bg_g κ y 24 [some (.inr b), some (.inr s), some (.inl a)] [] g1 := by
    intro n
    induction n with
    | zero =>
      intro k a g1 ha hk hF I1 I2 I3
      have hS1 := hS.fr hF (by omega)
      refine bg_iload2 (pc := 24) X1 dX4_copyFrom_24 ?_
      refine bg_iconst (pc := 25) X1 dX4_copyFrom_25 (by decide) ?_
      refine bg_icmp_ge (pc := 26) X1 (tgt := 50) dX4_copyFrom_26 (by decide) (fun u26 => ?_) (fun u26 => ?_)
      · refine bg_aload1 (pc := 50) X1 dX4_copyFrom_50 ?_
        refine bo_getR (pc := 51) X1 dX4_copyFrom_51 fX4_29 (by first | assumption | rfl) rfl (by first | assumption | rfl) ?_
        refine bg_iconst (pc := 54) X1 dX4_copyFrom_54 (by decide) ?_
        refine bg_aload0 (pc := 55) X1 dX4_copyFrom_55 ?_
        refine bo_getR (pc := 56) X1 dX4_copyFrom_56 fX4_29 (by first | assumption | rfl) rfl (by first | assumption | rfl) ?_
        refine bg_iconst (pc := 59) X1 dX4_copyFrom_59 (by decide) ?_
        refine bg_iconst (pc := 60) X1 dX4_copyFrom_60 (by decide) ?_
        refine bo_copy (pc := 61) X1 lX4_52 (by first | assumption | rfl) (by first | assumption | rfl) (by omega) (by decide) dX4_copyFrom_61 (by exact Nat.le_of_ble_eq_true rfl) ?_
        exact bo_vret (pc := 64) X rfl dX4_copyFrom_64 (fun hg9 => by
            refine ⟨⟨fun j hj => ?_, ?_, fun h hh => ⟨?_, ?_⟩, fun j h5 h6 => ?_⟩, fun x hx => ?_⟩
            · simp only [show ¬ b + 1 = b + 15 by omega, false_and, if_false]; exact I1 j hj
            · simp only [show ¬ b = b + 15 by omega, false_and, if_false]; exact I2
            · simp only [show ¬ b + 3 + 3 * h = b + 15 by omega, false_and, if_false]; exact (I3 h (by omega)).1
            · refine (I3 h (by omega)).2.fr (lo := b + 15) (hi := b + 16) (fun x hx => ?_) (by omega)
              funext j
              simp only [show ¬ x = b + 15 by omega, false_and, if_false]
            · have h7 : j < (5 : Int).toNat := h6
              simp only [h7, and_self, if_true]
              exact hS1.2.2.2 j h5 h6
            · funext j
              simp only [show ¬ x = b + 15 by omega, false_and, if_false]
              rw [hF x (by omega)])
      · exfalso; omega
    | succ n ih =>
      intro k a g1 ha hk hF I1 I2 I3
      have hS1 := hS.fr hF (by omega)
      have e5 : a.toNat = k := by omega
      refine bg_iload2 (pc := 24) X1 dX4_copyFrom_24 ?_
      refine bg_iconst (pc := 25) X1 dX4_copyFrom_25 (by decide) ?_
      refine bg_icmp_ge (pc := 26) X1 (tgt := 50) dX4_copyFrom_26 (by decide) (fun u26 => ?_) (fun u26 => ?_)
      · exfalso; omega
      · refine bg_aload0 (pc := 29) X1 dX4_copyFrom_29 ?_
        refine bo_getR (pc := 30) X1 dX4_copyFrom_30 fX4_24 (by first | assumption | rfl) rfl (by first | assumption | rfl) ?_
        refine bg_iload2 (pc := 33) X1 dX4_copyFrom_33 ?_
        refine bo_aaload (pc := 34) X1 dX4_copyFrom_34 (by first | assumption | rfl) (by decide) (by omega) (s8 _ (by omega)) ?_
        refine bg_aload1 (pc := 35) X1 dX4_copyFrom_35 ?_
        refine bo_getR (pc := 36) X1 dX4_copyFrom_36 fX4_24 (by first | assumption | rfl) rfl (by first | assumption | rfl) ?_
        refine bg_iload2 (pc := 39) X1 dX4_copyFrom_39 ?_
        refine bo_aaload (pc := 40) X1 dX4_copyFrom_40 (by first | assumption | rfl) (by decide) (by omega) (t8 _ (by omega)) ?_
        rw [e5]
        refine bo_V1v (pc := 41) X1 (c_X0_copyFrom (s9 k (by omega)) (t9 k (by omega)) (by omega) (hS1.2.2.1 k (by omega)).2) vX0_copyFrom lX4_58 rfl (s9 _ (by omega)).1 (by decide) dX4_copyFrom_41 (by exact Nat.le_of_ble_eq_true rfl) ?_
        rintro g2 ⟨p1, p2, p3⟩
        refine bg_iinc2 (pc := 44) X1 dX4_copyFrom_44 (by omega) ?_
        refine bg_goto (pc := 47) X1 (tgt := 24) dX4_copyFrom_47 (by decide) ?_
        refine ih (k + 1) _ _ (by omega) (by omega) (hF.tr (p2.wide (by omega) (by omega))) (fun j hj => by rw [p2 (b + 1) (by omega)]; exact I1 j hj) (by rw [p2 b (by omega)]; exact I2) (fun h hh => ?_)
        by_cases hk2 : h = k
        · subst hk2; exact ⟨p3.trans (hS1.2.2.1 h (by omega)).1, p1⟩
        · exact ⟨by rw [p2 _ (by omega)]; exact (I3 h (by omega)).1, (I3 h (by omega)).2.fr p2 (by omega)⟩
  refine bg_aload1 (pc := 0) X1 dX4_copyFrom_0 ?_
  refine bo_getR (pc := 1) X1 dX4_copyFrom_1 fX4_9 (by first | assumption | rfl) rfl (by first | assumption | rfl) ?_
  refine bg_iconst (pc := 4) X1 dX4_copyFrom_4 (by decide) ?_
  refine bg_aload0 (pc := 5) X1 dX4_copyFrom_5 ?_
  refine bo_getR (pc := 6) X1 dX4_copyFrom_6 fX4_9 (by first | assumption | rfl) rfl (by first | assumption | rfl) ?_
  refine bg_iconst (pc := 9) X1 dX4_copyFrom_9 (by decide) ?_
  refine bg_iconst (pc := 10) X1 dX4_copyFrom_10 (by decide) ?_
  refine bo_copy (pc := 11) X1 lX4_52 (by first | assumption | rfl) (by first | assumption | rfl) (by omega) (by decide) dX4_copyFrom_11 (by exact Nat.le_of_ble_eq_true rfl) ?_
  refine bg_aload0 (pc := 14) X1 dX4_copyFrom_14 ?_
  refine bg_aload1 (pc := 15) X1 dX4_copyFrom_15 ?_
  refine bo_getI (pc := 16) X1 dX4_copyFrom_16 fX4_18 (by first | assumption | rfl) rfl ?_
  refine bo_putI (pc := 19) X1 dX4_copyFrom_19 fX4_18 (by first | assumption | rfl) rfl ?_
  refine bg_iconst (pc := 22) X1 dX4_copyFrom_22 (by decide) ?_
  refine bg_istore2 (pc := 23) X1 dX4_copyFrom_23 ?_
  refine loop 4 0 _ _ rfl rfl ?_ (fun j hj => ?_) ?_ (fun h hh => by omega)
  · intro x hx
    rw [bg_up_ne (by omega)]
    funext j
    simp only [show ¬ x = b + 1 by omega, false_and, if_false]
  · have h7 : j < (5 : Int).toNat := hj
    rw [up_a (by omega)]
    simp only [h7, and_self, if_true]
    exact h1 j hj
  · rw [up_eq]
    simp only [show ¬ s = b + 1 by omega, false_and, if_false]
    exact h2
end
section
/-! bits -/
theorem bt_ofInt {a : Int} (h : 0 ≤ a ∧ a ≤ 2147483647) : (Int32.ofInt a).toBitVec = BitVec.ofNat 32 a.toNat := by
  have e : a = (a.toNat : Int) := by omega
  show BitVec.ofInt 32 a = _
  conv => lhs; rw [e]
  exact BitVec.ofInt_ofNat 32 a.toNat
theorem bt_nat {x : BitVec 32} (h : x.toNat < 2147483648) : x.toInt = (x.toNat : Int) := BitVec.toInt_eq_toNat_of_lt (by omega)
theorem bt_toNat {a : Int} (h : 0 ≤ a ∧ a ≤ 2147483647) : (Int32.ofInt a).toBitVec.toNat = a.toNat := by
  rw [bt_ofInt h, BitVec.toNat_ofNat]
  omega
theorem band_nat {a b : Int} (ha : 0 ≤ a ∧ a ≤ 2147483647) (hb : 0 ≤ b ∧ b ≤ 2147483647) : bg_band a b = ((a.toNat &&& b.toNat : Nat) : Int) := by
  have e : (Int32.ofInt a &&& Int32.ofInt b).toBitVec.toNat = a.toNat &&& b.toNat := by
    show ((Int32.ofInt a).toBitVec &&& (Int32.ofInt b).toBitVec).toNat = _
    rw [BitVec.toNat_and, bt_toNat ha, bt_toNat hb]
  show (Int32.ofInt a &&& Int32.ofInt b).toBitVec.toInt = _
  rw [bt_nat (by rw [e]; have := @Nat.and_le_left a.toNat b.toNat; omega), e]
theorem bor_nat {a b : Int} (ha : 0 ≤ a ∧ a < 67108864) (hb : 0 ≤ b ∧ b < 67108864) : bg_bor a b = ((a.toNat ||| b.toNat : Nat) : Int) ∧ a.toNat ||| b.toNat < 67108864 := by
  have e : (Int32.ofInt a ||| Int32.ofInt b).toBitVec.toNat = a.toNat ||| b.toNat := by
    show ((Int32.ofInt a).toBitVec ||| (Int32.ofInt b).toBitVec).toNat = _
    rw [BitVec.toNat_or, bt_toNat (by omega), bt_toNat (by omega)]
  have h2 : a.toNat ||| b.toNat < 2 ^ 26 := Nat.or_lt_two_pow (by omega) (by omega)
  refine ⟨?_, by omega⟩
  show (Int32.ofInt a ||| Int32.ofInt b).toBitVec.toInt = _
  rw [bt_nat (by rw [e]; omega), e]
/-- what an int's bits leave of a small one is small -/
theorem band_le {a b : Int} (ha : 0 ≤ a ∧ a ≤ 2147483647) : 0 ≤ bg_band a b ∧ bg_band a b ≤ a := by
  have e : (Int32.ofInt a &&& Int32.ofInt b).toBitVec.toNat ≤ a.toNat := by
    show ((Int32.ofInt a).toBitVec &&& (Int32.ofInt b).toBitVec).toNat ≤ _
    rw [BitVec.toNat_and, bt_toNat ha]
    exact Nat.and_le_left
  have e2 : bg_band a b = (((Int32.ofInt a &&& Int32.ofInt b).toBitVec.toNat : Nat) : Int) := bt_nat (by omega)
  rw [e2]
  omega
theorem shl_1 {m : Int} (h : 0 ≤ m ∧ m < 26) : bg_shl 1 m = 2 ^ m.toNat := by
  obtain ⟨n, rfl⟩ : ∃ n : Nat, m = (n : Int) := ⟨m.toNat, by omega⟩
  have hn : n < 26 := by omega
  rw [Int.toNat_natCast]
  clear h
  revert n
  decide
theorem shl_0 {m : Int} (h : 0 ≤ m ∧ m < 26) : bg_shl 0 m = 0 := by
  obtain ⟨n, rfl⟩ : ∃ n : Nat, m = (n : Int) := ⟨m.toNat, by omega⟩
  have hn : n < 26 := by omega
  clear h
  revert n
  decide
theorem sh_amt {n : Nat} (h : n < 32) : ((Int32.ofInt (n : Int) &&& 31).toBitVec.smod 32).toNat = n := by
  revert n
  decide
theorem shr_div {K m : Int} (h : 0 ≤ m ∧ m < 32) (hK : R32 K) : bg_shr K m = K / 2 ^ m.toNat := by
  obtain ⟨n, rfl⟩ : ∃ n : Nat, m = (n : Int) := ⟨m.toNat, by omega⟩
  have hn : n < 32 := by omega
  rw [Int.toNat_natCast]
  show (BitVec.sshiftRight' (Int32.ofInt K).toBitVec ((Int32.ofInt (n : Int) &&& 31).toBitVec.smod 32)).toInt = _
  rw [BitVec.sshiftRight_eq', BitVec.toInt_sshiftRight, sh_amt hn, Int.shiftRight_eq_div_pow]
  have e : (Int32.ofInt K).toBitVec.toInt = K := bg_toInt hK
  rw [e]
  norm_cast
theorem ush_amt {n : Nat} (h : n < 32) : (((Int32.ofInt (n : Int)).toUInt32 &&& Int32.toUInt32 31).toBitVec % 32).toNat = n := by
  revert n
  decide
theorem ushr_div {K m : Int} (h : 0 ≤ m ∧ m < 32) (hK : 0 ≤ K ∧ K ≤ 2147483647) : bg_ushr K m = ((K.toNat / 2 ^ m.toNat : Nat) : Int) := by
  obtain ⟨n, rfl⟩ : ∃ n : Nat, m = (n : Int) := ⟨m.toNat, by omega⟩
  have hn : n < 32 := by omega
  rw [Int.toNat_natCast]
  have e : ((Int32.ofInt K).toUInt32 >>> ((Int32.ofInt (n : Int)).toUInt32 &&& Int32.toUInt32 31)).toInt32.toBitVec.toNat = K.toNat / 2 ^ n := by
    show ((Int32.ofInt K).toBitVec >>> (((Int32.ofInt (n : Int)).toUInt32 &&& Int32.toUInt32 31).toBitVec % 32)).toNat = _
    rw [BitVec.ushiftRight_eq', BitVec.toNat_ushiftRight, bt_toNat hK, ush_amt hn, Nat.shiftRight_eq_div_pow]
  show (((Int32.ofInt K).toUInt32 >>> ((Int32.ofInt (n : Int)).toUInt32 &&& Int32.toUInt32 31)).toInt32).toBitVec.toInt = _
  have hle : K.toNat / 2 ^ n ≤ K.toNat := Nat.div_le_self _ _
  rw [bt_nat (by rw [e]; omega), e]

theorem land4 {a y z : Nat} (ha : a < 4) : (a + 4 * y) &&& (1 + 4 * z) = a % 2 + 4 * (y &&& z) := by
  have h1 : ((a + 4 * y) &&& (1 + 4 * z)) % 2 ^ 2 = (a + 4 * y) % 2 ^ 2 &&& (1 + 4 * z) % 2 ^ 2 := Nat.and_mod_two_pow
  have h2 : ((a + 4 * y) &&& (1 + 4 * z)) / 2 ^ 2 = (a + 4 * y) / 2 ^ 2 &&& (1 + 4 * z) / 2 ^ 2 := Nat.and_div_two_pow
  rw [show (a + 4 * y) % 2 ^ 2 = a by omega, show (1 + 4 * z) % 2 ^ 2 = 2 ^ 1 - 1 by omega, Nat.and_two_pow_sub_one_eq_mod] at h1
  rw [show (a + 4 * y) / 2 ^ 2 = y by omega, show (1 + 4 * z) / 2 ^ 2 = z by omega] at h2
  omega
theorem land16 {a y z : Nat} (ha : a < 16) : (a + 16 * y) &&& (3 + 16 * z) = a % 4 + 16 * (y &&& z) := by
  have h1 : ((a + 16 * y) &&& (3 + 16 * z)) % 2 ^ 4 = (a + 16 * y) % 2 ^ 4 &&& (3 + 16 * z) % 2 ^ 4 := Nat.and_mod_two_pow
  have h2 : ((a + 16 * y) &&& (3 + 16 * z)) / 2 ^ 4 = (a + 16 * y) / 2 ^ 4 &&& (3 + 16 * z) / 2 ^ 4 := Nat.and_div_two_pow
  rw [show (a + 16 * y) % 2 ^ 4 = a by omega, show (3 + 16 * z) % 2 ^ 4 = 2 ^ 2 - 1 by omega, Nat.and_two_pow_sub_one_eq_mod] at h1
  rw [show (a + 16 * y) / 2 ^ 4 = y by omega, show (3 + 16 * z) / 2 ^ 4 = z by omega] at h2
  omega
theorem land256 {a y z : Nat} (ha : a < 256) : (a + 256 * y) &&& (15 + 256 * z) = a % 16 + 256 * (y &&& z) := by
  have h1 : ((a + 256 * y) &&& (15 + 256 * z)) % 2 ^ 8 = (a + 256 * y) % 2 ^ 8 &&& (15 + 256 * z) % 2 ^ 8 := Nat.and_mod_two_pow
  have h2 : ((a + 256 * y) &&& (15 + 256 * z)) / 2 ^ 8 = (a + 256 * y) / 2 ^ 8 &&& (15 + 256 * z) / 2 ^ 8 := Nat.and_div_two_pow
  rw [show (a + 256 * y) % 2 ^ 8 = a by omega, show (15 + 256 * z) % 2 ^ 8 = 2 ^ 4 - 1 by omega, Nat.and_two_pow_sub_one_eq_mod] at h1
  rw [show (a + 256 * y) / 2 ^ 8 = y by omega, show (15 + 256 * z) / 2 ^ 8 = z by omega] at h2
  omega
def bc_A : Nat → Nat
  | 0 => 0
  | j + 1 => 1 + 4 * bc_A j
def bc_B : Nat → Nat
  | 0 => 0
  | j + 1 => 3 + 16 * bc_B j
def bc_C : Nat → Nat
  | 0 => 0
  | j + 1 => 15 + 256 * bc_C j
def c2 (n : Nat) : Nat := n % 2 + n / 2 % 2
def c4 (n : Nat) : Nat := c2 n + c2 (n / 4)
def c8 (n : Nat) : Nat := c4 n + c4 (n / 16)
theorem c2_le (n : Nat) : c2 n ≤ 2 := by unfold c2; omega
theorem c4_le (n : Nat) : c4 n ≤ 4 := by have := c2_le n; have := c2_le (n / 4); unfold c4; omega
theorem c8_le (n : Nat) : c8 n ≤ 8 := by have := c4_le n; have := c4_le (n / 16); unfold c8; omega
def bc_S1 : Nat → Nat → Nat
  | 0, _ => 0
  | j + 1, n => c2 n + 4 * bc_S1 j (n / 4)
def bc_S2 : Nat → Nat → Nat
  | 0, _ => 0
  | j + 1, n => c4 n + 16 * bc_S2 j (n / 16)
def bc_S3 : Nat → Nat → Nat
  | 0, _ => 0
  | j + 1, n => c8 n + 256 * bc_S3 j (n / 256)
theorem bc_t1 : ∀ (j n : Nat), n < 4 ^ j → n - (n / 2 &&& bc_A j) = bc_S1 j n ∧ (n / 2 &&& bc_A j) ≤ n
  | 0, n, h => by
    have : n = 0 := by simpa using h
    subst this
    exact ⟨rfl, by simp⟩
  | j + 1, n, h => by
    have hm : n / 4 < 4 ^ j := by rw [Nat.pow_succ] at h; omega
    obtain ⟨h1, h2⟩ := bc_t1 j (n / 4) hm
    have e : n / 2 = (n % 4 / 2 + 2 * (n / 4 % 2)) + 4 * (n / 4 / 2) := by omega
    have e2 : (n / 2 &&& bc_A (j + 1)) = n % 4 / 2 + 4 * (n / 4 / 2 &&& bc_A j) := by
      rw [e]
      show (n % 4 / 2 + 2 * (n / 4 % 2)) + 4 * (n / 4 / 2) &&& 1 + 4 * bc_A j = _
      rw [land4 (by omega)]
      omega
    rw [e2]
    show _ = c2 n + 4 * bc_S1 j (n / 4) ∧ _
    rw [← h1]
    unfold c2
    omega
theorem bc_t2 : ∀ (j n : Nat), (bc_S1 (2 * j) n &&& bc_B j) + (bc_S1 (2 * j) n / 4 &&& bc_B j) = bc_S2 j n
  | 0, n => by simp [bc_S1, bc_S2, bc_B]
  | j + 1, n => by
    have h := bc_t2 j (n / 16)
    have e0 : bc_S1 (2 * (j + 1)) n = (c2 n + 4 * c2 (n / 4)) + 16 * bc_S1 (2 * j) (n / 16) := by
      show c2 n + 4 * (c2 (n / 4) + 4 * bc_S1 (2 * j) (n / 4 / 4)) = _
      rw [Nat.div_div_eq_div_mul, show (4 * 4 : Nat) = 16 from rfl]
      omega
    have l1 := c2_le n
    have l2 := c2_le (n / 4)
    generalize hx : bc_S1 (2 * j) (n / 16) = x at h e0
    have e1 : bc_S1 (2 * (j + 1)) n / 4 = (c2 (n / 4) + 4 * (x % 4)) + 16 * (x / 4) := by rw [e0]; omega
    have a1 : (bc_S1 (2 * (j + 1)) n &&& bc_B (j + 1)) = c2 n + 16 * (x &&& bc_B j) := by
      rw [e0]
      show (c2 n + 4 * c2 (n / 4)) + 16 * x &&& 3 + 16 * bc_B j = _
      rw [land16 (by omega)]
      omega
    have a2 : (bc_S1 (2 * (j + 1)) n / 4 &&& bc_B (j + 1)) = c2 (n / 4) + 16 * (x / 4 &&& bc_B j) := by
      rw [e1]
      show (c2 (n / 4) + 4 * (x % 4)) + 16 * (x / 4) &&& 3 + 16 * bc_B j = _
      rw [land16 (by omega)]
      omega
    rw [a1, a2]
    show _ = (c2 n + c2 (n / 4)) + 16 * bc_S2 j (n / 16)
    omega
theorem bc_d (j n : Nat) : bc_S2 j n % 16 ≤ 4 := by
  cases j with
  | zero => show 0 % 16 ≤ 4; omega
  | succ j =>
    have := c4_le n
    show (c4 n + 16 * bc_S2 j (n / 16)) % 16 ≤ 4
    omega
theorem bc_t3 : ∀ (j n : Nat), (bc_S2 (2 * j) n + bc_S2 (2 * j) n / 16 &&& bc_C j) = bc_S3 j n
  | 0, n => by simp [bc_S2, bc_S3, bc_C]
  | j + 1, n => by
    have h := bc_t3 j (n / 256)
    have e0 : bc_S2 (2 * (j + 1)) n = (c4 n + 16 * c4 (n / 16)) + 256 * bc_S2 (2 * j) (n / 256) := by
      show c4 n + 16 * (c4 (n / 16) + 16 * bc_S2 (2 * j) (n / 16 / 16)) = _
      rw [Nat.div_div_eq_div_mul, show (16 * 16 : Nat) = 256 from rfl]
      omega
    have l1 := c4_le n
    have l2 := c4_le (n / 16)
    have l3 := bc_d (2 * j) (n / 256)
    generalize hx : bc_S2 (2 * j) (n / 256) = x at h e0 l3
    have e1 : bc_S2 (2 * (j + 1)) n + bc_S2 (2 * (j + 1)) n / 16 = ((c4 n + c4 (n / 16)) + 16 * (c4 (n / 16) + x % 16)) + 256 * (x + x / 16) := by rw [e0]; omega
    rw [e1]
    show ((c4 n + c4 (n / 16)) + 16 * (c4 (n / 16) + x % 16)) + 256 * (x + x / 16) &&& 15 + 256 * bc_C j = _
    rw [land256 (by omega), h]
    show _ = (c4 n + c4 (n / 16)) + 256 * bc_S3 j (n / 256)
    omega
theorem bc_4 {h0 h1 h2 h3 i3 i4 i5 : Nat} (k0 : h0 < 9) (k1 : h1 < 9) (k2 : h2 < 9) (k3 : h3 < 9) (e3 : i3 = h0 + 256 * h1 + 65536 * h2 + 16777216 * h3) (e4 : i4 = i3 + i3 / 256) (e5 : i5 = i4 + i4 / 65536) : i5 &&& 63 = h0 + h1 + h2 + h3 ∧ i4 < 268435456 ∧ i5 < 536870912 := by
  have a1 : i3 / 256 = h1 + 256 * h2 + 65536 * h3 := by omega
  have a2 : i4 = (h0 + h1) + 256 * (h1 + h2) + 65536 * (h2 + h3) + 16777216 * h3 := by omega
  have a3 : i4 / 65536 = (h2 + h3) + 256 * h3 := by
    clear a1 e4
    have : (h0 + h1) + 256 * (h1 + h2) < 65536 := by omega
    omega
  have a4 : i5 = (h0 + h1 + h2 + h3) + 64 * (4 * (h1 + h2) + 1024 * (h2 + h3) + 262144 * h3 + 4 * h3) := by omega
  refine ⟨?_, by omega, by omega⟩
  rw [show (63 : Nat) = 2 ^ 6 - 1 from rfl, Nat.and_two_pow_sub_one_eq_mod, a4]
  show (h0 + h1 + h2 + h3 + 64 * _) % 64 = _
  rw [Nat.add_mul_mod_self_left]
  omega
def bsum (n : Nat) : Nat → Nat
  | 0 => 0
  | k + 1 => bsum n k + n / 2 ^ k % 2
theorem bc_sum {n : Nat} (hn : n < 67108864) : c8 n + c8 (n / 256) + c8 (n / 65536) + c8 (n / 16777216) = bsum n 26 := by
  simp only [c8, c4, c2, bsum, Nat.div_div_eq_div_mul]
  simp only [Nat.reducePow, Nat.reduceMul, Nat.div_one]
  have z : ∀ k : Nat, 67108864 ≤ k → n / k = 0 := fun k hk => Nat.div_eq_of_lt (by omega)
  rw [z 67108864 (by decide), z 134217728 (by decide), z 268435456 (by decide), z 536870912 (by decide), z 1073741824 (by decide), z 2147483648 (by decide)]
  omega
theorem bc_all {n i1 i2 i3 i4 i5 : Nat} (hn : n < 67108864) (e1 : i1 = n - (n / 2 &&& 1431655765)) (e2 : i2 = (i1 &&& 858993459) + (i1 / 4 &&& 858993459)) (e3 : i3 = (i2 + i2 / 16) &&& 252645135) (e4 : i4 = i3 + i3 / 256) (e5 : i5 = i4 + i4 / 65536) :
    i5 &&& 63 = bsum n 26 ∧ (n / 2 &&& 1431655765) ≤ n ∧ i2 < 300000000 ∧ i3 < 268435456 ∧ i4 < 268435456 ∧ i5 < 536870912 := by
  have hA : bc_A 16 = 1431655765 := by decide
  have hB : bc_B 8 = 858993459 := by decide
  have hC : bc_C 4 = 252645135 := by decide
  obtain ⟨t1, t1b⟩ := bc_t1 16 n (by omega)
  rw [hA] at t1 t1b
  have d1 : i1 = bc_S1 16 n := by rw [e1, t1]
  have t2 := bc_t2 8 n
  rw [hB] at t2
  have d2 : i2 = bc_S2 8 n := by rw [e2, d1]; exact t2
  have t3 := bc_t3 4 n
  rw [hC] at t3
  have d3 : i3 = bc_S3 4 n := by rw [e3, d2]; exact t3
  have g0 := c8_le n
  have g1 := c8_le (n / 256)
  have g2 := c8_le (n / 65536)
  have g3 := c8_le (n / 16777216)
  have d4 : i3 = c8 n + 256 * c8 (n / 256) + 65536 * c8 (n / 65536) + 16777216 * c8 (n / 16777216) := by
    rw [d3]
    simp only [bc_S3, Nat.div_div_eq_div_mul, Nat.reduceMul]
    omega
  have b4 := bc_4 (by omega) (by omega) (by omega) (by omega) d4 e4 e5
  refine ⟨b4.1.trans (bc_sum hn), t1b, ?_, by omega, b4.2.1, b4.2.2⟩
  have l1 := @Nat.and_le_right i1 858993459
  have l2 := @Nat.and_le_right (i1 / 4) 858993459
  have l3 := @Nat.and_le_left i1 858993459
  have l4 := @Nat.and_le_left (i1 / 4) 858993459
  omega
end
section
/-! keys -/
def mJ6_bitCount_0f7a4 : bg_P := (yJ6_bitCount_0f7a4, cJ6_bitCount_0f7a4, 1, (Option.some .int : Option FieldType))
theorem sJ6_bitCount_0f7a4 : bg_mS mJ6_bitCount_0f7a4 1 := ⟨⟨bg_mT 498 (by decide +kernel) (by decide +kernel), jI_ini, ⟨by decide +kernel, by decide +kernel, by decide +kernel⟩, by decide⟩, bg_mT 497 (by decide +kernel) (by decide +kernel)⟩
theorem kJ6_265 : Cond.constant RJ6 265 (Int32.ofInt (1431655765)) ∈ bg_T := bg_mT 499 (by decide +kernel) (by decide +kernel)
theorem kJ6_266 : Cond.constant RJ6 266 (Int32.ofInt (858993459)) ∈ bg_T := bg_mT 500 (by decide +kernel) (by decide +kernel)
theorem kJ6_267 : Cond.constant RJ6 267 (Int32.ofInt (252645135)) ∈ bg_T := bg_mT 501 (by decide +kernel) (by decide +kernel)
theorem pnJ6 : plainName RJ6 = true := by decide +kernel
theorem c_J6_bitCount_0f7a4 {y : bg_Y} {g : bg_E} {x : Int} (hx : 0 ≤ x ∧ x < 67108864) : bg_Si y 0 mJ6_bitCount_0f7a4 [.inl x] g (fun r g' => r = (bsum x.toNat 26 : Int) ∧ g' = g) := by
  obtain ⟨n, rfl⟩ : ∃ n : Nat, x = (n : Int) := ⟨x.toNat, by omega⟩
  have hn : n < 67108864 := by omega
  obtain ⟨i1, e1⟩ : ∃ i : Nat, i = n - (n / 2 &&& 1431655765) := ⟨_, rfl⟩
  obtain ⟨i2, e2⟩ : ∃ i : Nat, i = (i1 &&& 858993459) + (i1 / 4 &&& 858993459) := ⟨_, rfl⟩
  obtain ⟨i3, e3⟩ : ∃ i : Nat, i = (i2 + i2 / 16) &&& 252645135 := ⟨_, rfl⟩
  obtain ⟨i4, e4⟩ : ∃ i : Nat, i = i3 + i3 / 256 := ⟨_, rfl⟩
  obtain ⟨i5, e5⟩ : ∃ i : Nat, i = i4 + i4 / 65536 := ⟨_, rfl⟩
  obtain ⟨a1, a2, a3, a4, a5, a6⟩ := bc_all hn e1 e2 e3 e4 e5
  have l1 := @Nat.and_le_right i1 858993459
  have l2 := @Nat.and_le_right (i1 / 4) 858993459
  have us : ∀ (k j : Nat), j < 32 → k < 1073741824 → bg_ushr (k : Int) (j : Int) = ((k / 2 ^ j : Nat) : Int) := fun k j hj hk => ushr_div ⟨by omega, by omega⟩ ⟨by omega, by omega⟩
  have bn : ∀ (k j : Nat), k < 1073741824 → j < 1500000000 → bg_band (k : Int) (j : Int) = ((k &&& j : Nat) : Int) := fun k j hk hj => band_nat ⟨by omega, by omega⟩ ⟨by omega, by omega⟩
  have f1 : bg_band (bg_ushr (n : Int) 1) 1431655765 = ((n / 2 &&& 1431655765 : Nat) : Int) := by rw [show (1 : Int) = ((1 : Nat) : Int) from rfl, us n 1 (by omega) (by omega)]; exact bn (n / 2 ^ 1) 1431655765 (by omega) (by omega)
  have f2 : bg_band (i1 : Int) 858993459 = ((i1 &&& 858993459 : Nat) : Int) := bn i1 858993459 (by omega) (by omega)
  have f3 : bg_band (bg_ushr (i1 : Int) 2) 858993459 = ((i1 / 4 &&& 858993459 : Nat) : Int) := by rw [show (2 : Int) = ((2 : Nat) : Int) from rfl, us i1 2 (by omega) (by omega)]; exact bn (i1 / 2 ^ 2) 858993459 (by omega) (by omega)
  have f4 : bg_ushr (i2 : Int) 4 = ((i2 / 16 : Nat) : Int) := us i2 4 (by omega) (by omega)
  have f5 : bg_band ((i2 : Int) + ((i2 / 16 : Nat) : Int)) 252645135 = (i3 : Int) := by rw [e3, ← Int.natCast_add]; exact bn (i2 + i2 / 16) 252645135 (by omega) (by omega)
  have f6 : bg_ushr (i3 : Int) 8 = ((i3 / 256 : Nat) : Int) := us i3 8 (by omega) (by omega)
  have f7 : bg_ushr (i4 : Int) 16 = ((i4 / 65536 : Nat) : Int) := us i4 16 (by omega) (by omega)
  have f8 : bg_band (i5 : Int) 63 = ((i5 &&& 63 : Nat) : Int) := bn i5 63 (by omega) (by omega)
  refine bg_enter pnJ6 (Nat.le_of_ble_eq_true rfl) (fun κ X hR hg => ?_)
  have X1 : bg_X κ y cJ6_bitCount_0f7a4 RJ6 0 0 0 := X.1
  have hg : ∀ a k, R32 (g a k) := hg
  show bg_g κ y 0 [some (.inl (n : Int))] [] g
  refine bg_iload0 (pc := 0) X1 dJ6_bitCount_0f7a4_0 ?_
  refine bg_iload0 (pc := 1) X1 dJ6_bitCount_0f7a4_1 ?_
  refine bg_iconst (pc := 2) X1 dJ6_bitCount_0f7a4_2 (by decide) ?_
  refine bg_iushr (pc := 3) X1 dJ6_bitCount_0f7a4_3 ?_
  refine bg_ldcw (pc := 4) X1 dJ6_bitCount_0f7a4_4 kJ6_265 (by decide) ?_
  refine bg_iand (pc := 7) X1 dJ6_bitCount_0f7a4_7 ?_
  rw [f1]
  refine bg_isub (pc := 8) X1 dJ6_bitCount_0f7a4_8 (by omega) ?_
  rw [show (n : Int) - ((n / 2 &&& 1431655765 : Nat) : Int) = (i1 : Int) by omega]
  refine bg_istore0 (pc := 9) X1 dJ6_bitCount_0f7a4_9 ?_
  refine bg_iload0 (pc := 10) X1 dJ6_bitCount_0f7a4_10 ?_
  refine bg_ldcw (pc := 11) X1 dJ6_bitCount_0f7a4_11 kJ6_266 (by decide) ?_
  refine bg_iand (pc := 14) X1 dJ6_bitCount_0f7a4_14 ?_
  rw [f2]
  refine bg_iload0 (pc := 15) X1 dJ6_bitCount_0f7a4_15 ?_
  refine bg_iconst (pc := 16) X1 dJ6_bitCount_0f7a4_16 (by decide) ?_
  refine bg_iushr (pc := 17) X1 dJ6_bitCount_0f7a4_17 ?_
  refine bg_ldcw (pc := 18) X1 dJ6_bitCount_0f7a4_18 kJ6_266 (by decide) ?_
  refine bg_iand (pc := 21) X1 dJ6_bitCount_0f7a4_21 ?_
  rw [f3]
  refine bg_iadd (pc := 22) X1 dJ6_bitCount_0f7a4_22 (by omega) ?_
  rw [show ((i1 &&& 858993459 : Nat) : Int) + ((i1 / 4 &&& 858993459 : Nat) : Int) = (i2 : Int) by omega]
  refine bg_istore0 (pc := 23) X1 dJ6_bitCount_0f7a4_23 ?_
  refine bg_iload0 (pc := 24) X1 dJ6_bitCount_0f7a4_24 ?_
  refine bg_iload0 (pc := 25) X1 dJ6_bitCount_0f7a4_25 ?_
  refine bg_iconst (pc := 26) X1 dJ6_bitCount_0f7a4_26 (by decide) ?_
  refine bg_iushr (pc := 27) X1 dJ6_bitCount_0f7a4_27 ?_
  rw [f4]
  refine bg_iadd (pc := 28) X1 dJ6_bitCount_0f7a4_28 (by omega) ?_
  refine bg_ldcw (pc := 29) X1 dJ6_bitCount_0f7a4_29 kJ6_267 (by decide) ?_
  refine bg_iand (pc := 32) X1 dJ6_bitCount_0f7a4_32 ?_
  rw [f5]
  refine bg_istore0 (pc := 33) X1 dJ6_bitCount_0f7a4_33 ?_
  refine bg_iload0 (pc := 34) X1 dJ6_bitCount_0f7a4_34 ?_
  refine bg_iload0 (pc := 35) X1 dJ6_bitCount_0f7a4_35 ?_
  refine bg_bipush (pc := 36) X1 dJ6_bitCount_0f7a4_36 rfl (by decide) ?_
  refine bg_iushr (pc := 38) X1 dJ6_bitCount_0f7a4_38 ?_
  rw [f6]
  refine bg_iadd (pc := 39) X1 dJ6_bitCount_0f7a4_39 (by omega) ?_
  rw [show (i3 : Int) + ((i3 / 256 : Nat) : Int) = (i4 : Int) by omega]
  refine bg_istore0 (pc := 40) X1 dJ6_bitCount_0f7a4_40 ?_
  refine bg_iload0 (pc := 41) X1 dJ6_bitCount_0f7a4_41 ?_
  refine bg_iload0 (pc := 42) X1 dJ6_bitCount_0f7a4_42 ?_
  refine bg_bipush (pc := 43) X1 dJ6_bitCount_0f7a4_43 rfl (by decide) ?_
  refine bg_iushr (pc := 45) X1 dJ6_bitCount_0f7a4_45 ?_
  rw [f7]
  refine bg_iadd (pc := 46) X1 dJ6_bitCount_0f7a4_46 (by omega) ?_
  rw [show (i4 : Int) + ((i4 / 65536 : Nat) : Int) = (i5 : Int) by omega]
  refine bg_istore0 (pc := 47) X1 dJ6_bitCount_0f7a4_47 ?_
  refine bg_iload0 (pc := 48) X1 dJ6_bitCount_0f7a4_48 ?_
  refine bg_bipush (pc := 49) X1 dJ6_bitCount_0f7a4_49 rfl (by decide) ?_
  refine bg_iand (pc := 51) X1 dJ6_bitCount_0f7a4_51 ?_
  rw [f8]
  exact bo_iret (pc := 52) X rfl dJ6_bitCount_0f7a4_52 (fun hi => ⟨by rw [a1]; rfl, rfl⟩)
/-- whether a mark is a key mark: 1 or 0 -/
def kb (K m : Int) : Int := bg_band (bg_shr K m) 1
def kset (K m i : Int) : Int := bg_bor (bg_band K (bg_bxor (bg_shl 1 m) (-1))) (bg_shl i m)
theorem kb_nat {K m : Int} (hK : 0 ≤ K ∧ K < 67108864) (hm : isMa m) : kb K m = ((K.toNat / 2 ^ m.toNat % 2 : Nat) : Int) := by
  unfold kb
  rw [shr_div ⟨hm.1, by omega⟩ (by omega)]
  obtain ⟨k, rfl⟩ : ∃ k : Nat, K = (k : Int) := ⟨K.toNat, by omega⟩
  have e : ((k : Int) / 2 ^ m.toNat) = ((k / 2 ^ m.toNat : Nat) : Int) := by norm_cast
  have hle := Nat.div_le_self k (2 ^ m.toNat)
  rw [e, Int.toNat_natCast]
  generalize k / 2 ^ m.toNat = w at hle ⊢
  rw [band_nat ⟨by omega, by omega⟩ (by decide), Int.toNat_natCast, show (1 : Int).toNat = 1 from rfl, Nat.and_one_is_mod]
theorem kb_01 {K m : Int} (hK : 0 ≤ K ∧ K < 67108864) (hm : isMa m) : kb K m = 0 ∨ kb K m = 1 := by
  rw [kb_nat hK hm]
  omega
theorem pow26 {m : Int} (hm : isMa m) : (2 : Nat) ^ m.toNat ≤ 33554432 := by
  have : (2 : Nat) ^ m.toNat ≤ 2 ^ 25 := Nat.pow_le_pow_right (by decide) (by omega)
  omega
theorem pow26i {m : Int} (hm : isMa m) : 0 ≤ bg_shl 1 m ∧ bg_shl 1 m ≤ 33554432 ∧ (bg_shl 1 m).toNat = 2 ^ m.toNat := by
  have h1 := pow26 hm
  have e : bg_shl 1 m = ((2 ^ m.toNat : Nat) : Int) := by rw [shl_1 hm]; norm_cast
  generalize 2 ^ m.toNat = w at h1 e ⊢
  rw [e]
  exact ⟨by omega, by omega, by omega⟩
theorem and_pow (n i : Nat) : n &&& 2 ^ i = 0 ↔ n / 2 ^ i % 2 = 0 := by
  have hb : n.testBit i = decide (n / 2 ^ i % 2 = 1) := Nat.testBit_eq_decide_div_mod_eq
  constructor
  · intro h
    have h1 : (n &&& 2 ^ i).testBit i = false := by rw [h]; simp
    rw [Nat.testBit_and, Nat.testBit_two_pow_self, Bool.and_true, hb] at h1
    have h2 : ¬ n / 2 ^ i % 2 = 1 := by simpa using h1
    omega
  · intro h
    apply Nat.eq_of_testBit_eq
    intro j
    rw [Nat.testBit_and, Nat.zero_testBit]
    by_cases hij : i = j
    · subst hij
      rw [hb]
      simp [h]
    · rw [Nat.testBit_two_pow_of_ne hij, Bool.and_false]
theorem kb_band {K m : Int} (hK : 0 ≤ K ∧ K < 67108864) (hm : isMa m) : bg_band K (bg_shl 1 m) = 0 ↔ kb K m = 0 := by
  obtain ⟨p1, p2, p3⟩ := pow26i hm
  have h := and_pow K.toNat m.toNat
  rw [kb_nat hK hm, band_nat (by omega) (by omega), p3]
  omega
theorem kset_1 {K m : Int} : kset K m 1 = bg_bor K (bg_shl 1 m) := by
  unfold kset bg_bor bg_band bg_bxor
  simp only [Int32.ofInt_toInt]
  congr 1
  generalize Int32.ofInt (bg_shl 1 m) = B
  generalize Int32.ofInt K = A
  apply Int32.toBitVec_inj.mp
  show (A.toBitVec &&& (B.toBitVec ^^^ BitVec.ofInt 32 (-1))) ||| B.toBitVec = A.toBitVec ||| B.toBitVec
  ext i hi
  have hm1 : (BitVec.ofInt 32 (-1))[i] = true := by
    have : BitVec.ofInt 32 (-1) = BitVec.allOnes 32 := by decide
    rw [this]
    exact BitVec.getElem_allOnes i hi
  simp only [BitVec.getElem_or, BitVec.getElem_and, BitVec.getElem_xor, hm1]
  cases A.toBitVec[i] <;> cases B.toBitVec[i] <;> rfl
theorem kset_0 {K m : Int} (hm : isMa m) : kset K m 0 = bg_band K (bg_bxor (bg_shl 1 m) (-1)) := by
  unfold kset
  rw [shl_0 hm]
  unfold bg_bor bg_band
  rw [Int32.ofInt_toInt]
  congr 1
  generalize Int32.ofInt K &&& Int32.ofInt (bg_bxor (bg_shl 1 m) (-1)) = A
  apply Int32.toBitVec_inj.mp
  show A.toBitVec ||| BitVec.ofInt 32 0 = A.toBitVec
  ext i hi
  have hm1 : (BitVec.ofInt 32 0)[i] = false := by
    have : BitVec.ofInt 32 0 = BitVec.zero 32 := by decide
    rw [this]
    simp
  simp only [BitVec.getElem_or, hm1, Bool.or_false]
theorem kset_R {K m i : Int} (hK : 0 ≤ K ∧ K < 67108864) (hm : isMa m) (hi : i = 0 ∨ i = 1) : 0 ≤ kset K m i ∧ kset K m i < 67108864 := by
  rcases hi with rfl | rfl
  · rw [kset_0 hm]
    have := band_le (a := K) (b := bg_bxor (bg_shl 1 m) (-1)) (by omega)
    omega
  · rw [kset_1]
    obtain ⟨p1, p2, p3⟩ := pow26i hm
    have := bor_nat (a := K) (b := bg_shl 1 m) (by omega) (by omega)
    omega
theorem c_X4_isKey {y : bg_Y} {g : bg_E} {b : Nat} {m : Int} (hb : bg_sta b) (hK : 0 ≤ g b 1 ∧ g b 1 < 67108864) (hm : isMa m) : bg_Si y 1 mX4_isKey [.inr b, .inl m] g (fun r g' => r = b2i (¬ kb (g b 1) m = 0) ∧ g' = g) := by
  obtain ⟨s1, s2, s3, s4, s5, s6, s7, s8, s9⟩ := id hb
  refine bg_enter pnX4 (Nat.le_of_ble_eq_true rfl) (fun κ X hR hg => ?_)
  have X1 : bg_X κ y cX4_isKey RX4 1 0 0 := X.1
  have hg : ∀ a k, R32 (g a k) := hg
  show bg_g κ y 0 [some (.inr b), some (.inl m)] [] g
  refine bg_iload1 (pc := 0) X1 dX4_isKey_0 ?_
  refine bo_N1i (pc := 1) X1 (c_X6_isMark) sX6_isMark hX4_32 rfl (by decide) dX4_isKey_1 (by exact Nat.le_of_ble_eq_true rfl) ?_
  rintro _ _ ⟨h9, h8⟩
  obtain rfl := h9.symm
  obtain rfl := h8.symm
  refine bo_ifeq_b (pc := 4) X1 (tgt := 22) dX4_isKey_4 (by decide) (fun u4 => ?_) (fun u4 => ?_)
  · exact absurd hm u4
  · refine bg_aload0 (pc := 7) X1 dX4_isKey_7 ?_
    refine bo_getI (pc := 8) X1 dX4_isKey_8 fX4_18 (by first | assumption | rfl) rfl ?_
    refine bg_iconst (pc := 11) X1 dX4_isKey_11 (by decide) ?_
    refine bg_iload1 (pc := 12) X1 dX4_isKey_12 ?_
    refine bg_ishl (pc := 13) X1 dX4_isKey_13 ?_
    refine bg_iand (pc := 14) X1 dX4_isKey_14 ?_
    refine bg_if_eq (pc := 15) X1 (tgt := 22) dX4_isKey_15 (by decide) (fun u15 => ?_) (fun u15 => ?_)
    · rw [kb_band hK hm] at u15
      refine bg_iconst (pc := 22) X1 dX4_isKey_22 (by decide) ?_
      exact bo_zret (pc := 23) X rfl (by first | exact Or.inl rfl | exact Or.inr rfl | exact b2i_01 _) dX4_isKey_23 (⟨by first | rfl | exact (b2i_t (by omega)).symm | exact (b2i_f (by omega)).symm, rfl⟩)
    · rw [kb_band hK hm] at u15
      refine bg_iconst (pc := 18) X1 dX4_isKey_18 (by decide) ?_
      refine bg_goto (pc := 19) X1 (tgt := 23) dX4_isKey_19 (by decide) ?_
      exact bo_zret (pc := 23) X rfl (by first | exact Or.inl rfl | exact Or.inr rfl | exact b2i_01 _) dX4_isKey_23 (⟨by first | rfl | exact (b2i_t (by omega)).symm | exact (b2i_f (by omega)).symm, rfl⟩)
theorem c_X4_putKey {y : bg_Y} {g : bg_E} {b : Nat} {m i : Int} {S : bm_S} (hb : bg_sta b) (hS : staR g b S) (hm : isMa m) (hi : i = 0 ∨ i = 1) : bg_Sv y 1 mX4_putKey [.inr b, .inl m, .inl i] g (fun g' => staR g' b (sKey S (kset S.2.1 m i)) ∧ frR b (b + 16) g g') := by
  obtain ⟨s1, s2, s3, s4, s5, s6, s7, s8, s9⟩ := id hb
  obtain ⟨h1, h2, h3, h4⟩ := id hS
  have fin : ∀ v, v = kset S.2.1 m i → staR (bg_up g b 1 v) b (sKey S (kset S.2.1 m i)) ∧ frR b (b + 16) g (bg_up g b 1 v) := fun v hv =>
    ⟨⟨fun k hk => by rw [bg_up_ne (by omega)]; exact h1 k hk, by rw [up_eq]; exact hv, fun h hh => ⟨by rw [bg_up_ne (by omega)]; exact (h3 h hh).1, (h3 h hh).2.up (by omega)⟩, fun a h5 h6 => by rw [bg_up_ne (by omega)]; exact h4 a h5 h6⟩, frR.rf.up (by omega) (by omega)⟩
  refine bg_enter pnX4 (Nat.le_of_ble_eq_true rfl) (fun κ X hR hg => ?_)
  have X1 : bg_X κ y cX4_putKey RX4 1 0 0 := X.1
  have hg : ∀ a k, R32 (g a k) := hg
  show bg_g κ y 0 [some (.inr b), some (.inl m), some (.inl i)] [] g
  refine bg_iload1 (pc := 0) X1 dX4_putKey_0 ?_
  refine bo_N1i (pc := 1) X1 (c_X6_isMark) sX6_isMark hX4_32 rfl (by decide) dX4_putKey_1 (by exact Nat.le_of_ble_eq_true rfl) ?_
  rintro _ _ ⟨h9, h8⟩
  obtain rfl := h9.symm
  obtain rfl := h8.symm
  refine bo_ifeq_b (pc := 4) X1 (tgt := 36) dX4_putKey_4 (by decide) (fun u4 => ?_) (fun u4 => ?_)
  · exact absurd hm u4
  · refine bg_aload0 (pc := 7) X1 dX4_putKey_7 ?_
    refine bg_iload2 (pc := 8) X1 dX4_putKey_8 ?_
    refine bg_if_eq (pc := 9) X1 (tgt := 23) dX4_putKey_9 (by decide) (fun u9 => ?_) (fun u9 => ?_)
    · refine bg_aload0 (pc := 23) X1 dX4_putKey_23 ?_
      refine bo_getI (pc := 24) X1 dX4_putKey_24 fX4_18 (by first | assumption | rfl) rfl ?_
      refine bg_iconst (pc := 27) X1 dX4_putKey_27 (by decide) ?_
      refine bg_iload1 (pc := 28) X1 dX4_putKey_28 ?_
      refine bg_ishl (pc := 29) X1 dX4_putKey_29 ?_
      refine bg_iconst (pc := 30) X1 dX4_putKey_30 (by decide) ?_
      refine bg_ixor (pc := 31) X1 dX4_putKey_31 ?_
      refine bg_iand (pc := 32) X1 dX4_putKey_32 ?_
      refine bo_putI (pc := 33) X1 dX4_putKey_33 fX4_18 (by first | assumption | rfl) rfl ?_
      refine bo_vret (pc := 36) X rfl dX4_putKey_36 (fun hg9 => fin _ ?_)
      rcases hi with rfl | rfl
      · first | exact absurd rfl u9 | (rw [kset_0 hm, h2])
      · first | exact absurd u9 (by decide) | (rw [kset_1, h2])
    · refine bg_aload0 (pc := 12) X1 dX4_putKey_12 ?_
      refine bo_getI (pc := 13) X1 dX4_putKey_13 fX4_18 (by first | assumption | rfl) rfl ?_
      refine bg_iconst (pc := 16) X1 dX4_putKey_16 (by decide) ?_
      refine bg_iload1 (pc := 17) X1 dX4_putKey_17 ?_
      refine bg_ishl (pc := 18) X1 dX4_putKey_18 ?_
      refine bg_ior (pc := 19) X1 dX4_putKey_19 ?_
      refine bg_goto (pc := 20) X1 (tgt := 33) dX4_putKey_20 (by decide) ?_
      refine bo_putI (pc := 33) X1 dX4_putKey_33 fX4_18 (by first | assumption | rfl) rfl ?_
      refine bo_vret (pc := 36) X rfl dX4_putKey_36 (fun hg9 => fin _ ?_)
      rcases hi with rfl | rfl
      · first | exact absurd rfl u9 | (rw [kset_0 hm, h2])
      · first | exact absurd u9 (by decide) | (rw [kset_1, h2])
theorem c_X4_keyMarkCount {y : bg_Y} {g : bg_E} {b : Nat} (hb : bg_sta b) (hK : 0 ≤ g b 1 ∧ g b 1 < 67108864) : bg_Si y 1 mX4_keyMarkCount [.inr b] g (fun r g' => r = (bsum (g b 1).toNat 26 : Int) ∧ g' = g) := by
  obtain ⟨s1, s2, s3, s4, s5, s6, s7, s8, s9⟩ := id hb
  refine bg_enter pnX4 (Nat.le_of_ble_eq_true rfl) (fun κ X hR hg => ?_)
  have X1 : bg_X κ y cX4_keyMarkCount RX4 1 0 0 := X.1
  have hg : ∀ a k, R32 (g a k) := hg
  show bg_g κ y 0 [some (.inr b)] [] g
  refine bg_aload0 (pc := 0) X1 dX4_keyMarkCount_0 ?_
  refine bo_getI (pc := 1) X1 dX4_keyMarkCount_1 fX4_18 (by first | assumption | rfl) rfl ?_
  refine bo_S1i (pc := 4) X1 (c_J6_bitCount_0f7a4 hK) sJ6_bitCount_0f7a4 lX4_36 rfl (by decide) dX4_keyMarkCount_4 (by exact Nat.le_of_ble_eq_true rfl) ?_
  rintro _ _ ⟨h9, h8⟩
  obtain rfl := h9.symm
  obtain rfl := h8.symm
  exact bo_iret (pc := 7) X rfl dX4_keyMarkCount_7 (fun hi => ⟨by first | rfl | omega, rfl⟩)
end
section
/-! the saved states: a ring of six -/
theorem bg_hist : ∀ p, p < 6 → bg_F 18 p = some (19 + 16 * p) ∧ bg_sta (19 + 16 * p) := by
  intro p hp
  have h1 : bg_F 18 p = some (19 + 16 * p) := by
    revert p
    decide +kernel
  refine ⟨h1, bg_stas _ ?_⟩
  have : p = 0 ∨ p = 1 ∨ p = 2 ∨ p = 3 ∨ p = 4 ∨ p = 5 := by omega
  rcases this with rfl | rfl | rfl | rfl | rfl | rfl <;> simp
/-- the ring holds these states, the oldest one first -/
def histR (g : bg_E) (hs : List bm_S) : Prop := g 17 1 = (hs.length : Int) ∧ hs.length ≤ 6 ∧ 0 ≤ g 17 2 ∧ g 17 2 < 6 ∧ ∀ (j : Nat) (S : bm_S), hs[j]? = some S → staR g (19 + 16 * (((g 17 2).toNat + 6 - hs.length + j) % 6)) S
def hPush (hs : List bm_S) (S : bm_S) : List bm_S := (if hs.length = 6 then hs.drop 1 else hs) ++ [S]
theorem histR.fr {g g' : bg_E} {hs : List bm_S} {lo hi : Nat} (h : histR g hs) (hf : frR lo hi g g') (hx : hi ≤ 17 ∨ 115 ≤ lo) : histR g' hs := by
  obtain ⟨h1, h2, h3, h4, h5⟩ := h
  unfold histR
  rw [hf 17 (by omega)]
  exact ⟨h1, h2, h3, h4, fun j S hj => (h5 j S hj).fr hf (by omega)⟩
theorem c_X1_size {y : bg_Y} {g : bg_E} : bg_Si y 0 mX1_size [.inr 17] g (fun r g' => r = g 17 1 ∧ g' = g) := by
  refine bg_enter pnX1 (Nat.le_of_ble_eq_true rfl) (fun κ X hR hg => ?_)
  have X1 : bg_X κ y cX1_size RX1 0 0 0 := X.1
  have hg : ∀ a k, R32 (g a k) := hg
  show bg_g κ y 0 [some (.inr 17)] [] g
  refine bg_aload0 (pc := 0) X1 dX1_size_0 ?_
  refine bo_getI (pc := 1) X1 dX1_size_1 fX1_18 (by first | assumption | rfl) rfl ?_
  exact bo_iret (pc := 4) X rfl dX1_size_4 (fun hi => ⟨by first | rfl | omega, rfl⟩)
theorem c_X1_save {y : bg_Y} {g : bg_E} {hs : List bm_S} {S : bm_S} (hh : histR g hs) (hS : staR g 1 S) : bg_Sv y 4 mX1_save [.inr 17, .inr 1] g (fun g' => histR g' (hPush hs S) ∧ frR 17 115 g g') := by
  obtain ⟨h1, h2, h3, h4, h5⟩ := hh
  have hn : (g 17 2).toNat < 6 := by omega
  obtain ⟨f1, f2⟩ := bg_hist _ hn
  have b1 : bg_sta 1 := bg_stas 1 (by simp)
  obtain ⟨s1, s2, s3, s4, s5, s6, s7, s8, s9⟩ := id f2
  refine bg_enter pnX1 (Nat.le_of_ble_eq_true rfl) (fun κ X hR hg => ?_)
  have X1 : bg_X κ y cX1_save RX1 4 0 0 := X.1
  have hg : ∀ a k, R32 (g a k) := hg
  show bg_g κ y 0 [some (.inr 17), some (.inr 1)] [] g
  have fin : ∀ (g1 : bg_E) (v w : Int), staR g1 (19 + 16 * (g 17 2).toNat) S → frR (19 + 16 * (g 17 2).toNat) (19 + 16 * (g 17 2).toNat + 16) g g1 → v = (if g 17 2 + 1 < 6 then g 17 2 + 1 else 0) → w = min ((hs.length : Int) + 1) 6 → histR (bg_up (bg_up g1 17 2 v) 17 1 w) (hPush hs S) ∧ frR 17 115 g (bg_up (bg_up g1 17 2 v) 17 1 w) := by
    intro g1 v w p1 p2 hv hw
    have hlen : ((hPush hs S).length : Int) = w := by
      unfold hPush
      split
      · simp only [List.length_append, List.length_drop, List.length_singleton]; omega
      · simp only [List.length_append, List.length_singleton]; omega
    have e2 : (bg_up (bg_up g1 17 2 v) 17 1 w) 17 2 = v := by rw [up_k (by decide), up_eq]
    have fr2 : frR 17 18 g1 (bg_up (bg_up g1 17 2 v) 17 1 w) := (frR.rf.up (by omega) (by omega)).up (by omega) (by omega)
    refine ⟨⟨?_, by omega, ?_, ?_, fun j T hj => ?_⟩, fun x hx => ?_⟩
    · rw [up_eq]; exact hlen.symm
    · rw [e2, hv]; split <;> omega
    · rw [e2, hv]; split <;> omega
    · rw [e2]
      have hj2 : j < (hPush hs S).length := (List.getElem?_eq_some_iff.mp hj).1
      refine staR.fr ?_ fr2 (by omega)
      unfold hPush at hj hj2 hlen ⊢
      by_cases h6 : hs.length = 6
      · simp only [h6, if_true] at hj hj2 hlen ⊢
        by_cases hjl : j = 5
        · subst hjl
          rw [List.getElem?_append_right (by simp [h6])] at hj
          simp [h6] at hj
          subst hj
          have e3 : (v.toNat + 6 - (hs.drop 1 ++ [S]).length + 5) % 6 = (g 17 2).toNat := by
            simp only [List.length_append, List.length_drop, List.length_singleton, h6]
            split at hv <;> omega
          rw [e3]
          exact p1
        · have hj3 : j < 5 := by simp [h6] at hj2; omega
          rw [List.getElem?_append_left (by simp [h6]; omega), List.getElem?_drop] at hj
          have h7 := h5 (1 + j) T hj
          rw [h6] at h7
          have e3 : (v.toNat + 6 - (hs.drop 1 ++ [S]).length + j) % 6 = ((g 17 2).toNat + 6 - 6 + (1 + j)) % 6 := by
            simp only [List.length_append, List.length_drop, List.length_singleton, h6]
            split at hv <;> omega
          rw [e3]
          exact h7.fr p2 (by omega)
      · simp only [h6, if_false] at hj hj2 hlen ⊢
        by_cases hjl : j = hs.length
        · subst hjl
          rw [List.getElem?_append_right (Nat.le_refl _)] at hj
          simp at hj
          subst hj
          have e3 : (v.toNat + 6 - (hs ++ [S]).length + hs.length) % 6 = (g 17 2).toNat := by
            simp only [List.length_append, List.length_singleton]
            split at hv <;> omega
          rw [e3]
          exact p1
        · have hj3 : j < hs.length := by simp at hj2; omega
          rw [List.getElem?_append_left hj3] at hj
          have h7 := h5 j T hj
          have e3 : (v.toNat + 6 - (hs ++ [S]).length + j) % 6 = ((g 17 2).toNat + 6 - hs.length + j) % 6 := by
            simp only [List.length_append, List.length_singleton]
            split at hv <;> omega
          rw [e3]
          exact h7.fr p2 (by omega)
    · rw [fr2 x (by omega), p2 x (by omega)]
  refine bg_aload0 (pc := 0) X1 dX1_save_0 ?_
  refine bo_getI (pc := 1) X1 dX1_save_1 fX1_22 (by first | assumption | rfl) rfl ?_
  refine bg_if_lt (pc := 4) X1 (tgt := 16) dX1_save_4 (by decide) (fun u4 => ?_) (fun u4 => ?_)
  · exfalso; omega
  · refine bg_aload0 (pc := 7) X1 dX1_save_7 ?_
    refine bo_getI (pc := 8) X1 dX1_save_8 fX1_22 (by first | assumption | rfl) rfl ?_
    refine bg_bipush (pc := 11) X1 dX1_save_11 rfl (by decide) ?_
    refine bg_icmp_lt (pc := 13) X1 (tgt := 21) dX1_save_13 (by decide) (fun u13 => ?_) (fun u13 => ?_)
    · refine bg_aload0 (pc := 21) X1 dX1_save_21 ?_
      refine bo_getR (pc := 22) X1 dX1_save_22 fX1_11 (by first | assumption | rfl) rfl (by first | assumption | rfl) ?_
      refine bg_aload0 (pc := 25) X1 dX1_save_25 ?_
      refine bo_getI (pc := 26) X1 dX1_save_26 fX1_22 (by first | assumption | rfl) rfl ?_
      refine bo_aaload (pc := 29) X1 dX1_save_29 (by first | assumption | rfl) (by decide) (by omega) f1 ?_
      refine bg_aload1 (pc := 30) X1 dX1_save_30 ?_
      refine bo_V1v (pc := 31) X1 (c_X4_copyFrom f2 b1 (by omega) hS) vX4_copyFrom lX1_25 rfl s1 (by decide) dX1_save_31 (by exact Nat.le_of_ble_eq_true rfl) ?_
      rintro g1 ⟨p1, p2⟩
      have n1 : g1 17 2 = g 17 2 := by rw [p2 17 (by omega)]
      have n2 : g1 17 1 = (hs.length : Int) := by rw [p2 17 (by omega)]; exact h1
      refine bg_aload0 (pc := 34) X1 dX1_save_34 ?_
      refine bg_aload0 (pc := 35) X1 dX1_save_35 ?_
      refine bo_getI (pc := 36) X1 dX1_save_36 fX1_22 (by first | assumption | rfl) rfl ?_
      refine bg_iconst (pc := 39) X1 dX1_save_39 (by decide) ?_
      refine bg_iadd (pc := 40) X1 dX1_save_40 (by omega) ?_
      refine bg_bipush (pc := 41) X1 dX1_save_41 rfl (by decide) ?_
      refine bg_icmp_ge (pc := 43) X1 (tgt := 55) dX1_save_43 (by decide) (fun u43 => ?_) (fun u43 => ?_)
      · refine bg_iconst (pc := 55) X1 dX1_save_55 (by decide) ?_
        refine bo_putI (pc := 56) X1 dX1_save_56 fX1_22 (by first | assumption | rfl) rfl ?_
        refine bg_aload0 (pc := 59) X1 dX1_save_59 ?_
        refine bg_aload0 (pc := 60) X1 dX1_save_60 ?_
        refine bo_getI (pc := 61) X1 dX1_save_61 fX1_18 (by first | assumption | rfl) rfl ?_
        refine bg_iconst (pc := 64) X1 dX1_save_64 (by decide) ?_
        refine bg_iadd (pc := 65) X1 dX1_save_65 (by rw [up_k (by decide), n2]; omega) ?_
        refine bg_bipush (pc := 66) X1 dX1_save_66 rfl (by decide) ?_
        refine bo_min (pc := 68) X1 lX1_29 (by decide) dX1_save_68 (by exact Nat.le_of_ble_eq_true rfl) ?_
        refine bo_putI (pc := 71) X1 dX1_save_71 fX1_18 (by first | assumption | rfl) rfl ?_
        exact bo_vret (pc := 74) X rfl dX1_save_74 (fun hg9 => fin _ _ _ p1 p2 (by first | (rw [n1, if_pos (by omega)]) | (rw [if_neg (by omega)])) (by rw [up_k (by decide), n2]))
      · refine bg_aload0 (pc := 46) X1 dX1_save_46 ?_
        refine bo_getI (pc := 47) X1 dX1_save_47 fX1_22 (by first | assumption | rfl) rfl ?_
        refine bg_iconst (pc := 50) X1 dX1_save_50 (by decide) ?_
        refine bg_iadd (pc := 51) X1 dX1_save_51 (by omega) ?_
        refine bg_goto (pc := 52) X1 (tgt := 56) dX1_save_52 (by decide) ?_
        refine bo_putI (pc := 56) X1 dX1_save_56 fX1_22 (by first | assumption | rfl) rfl ?_
        refine bg_aload0 (pc := 59) X1 dX1_save_59 ?_
        refine bg_aload0 (pc := 60) X1 dX1_save_60 ?_
        refine bo_getI (pc := 61) X1 dX1_save_61 fX1_18 (by first | assumption | rfl) rfl ?_
        refine bg_iconst (pc := 64) X1 dX1_save_64 (by decide) ?_
        refine bg_iadd (pc := 65) X1 dX1_save_65 (by rw [up_k (by decide), n2]; omega) ?_
        refine bg_bipush (pc := 66) X1 dX1_save_66 rfl (by decide) ?_
        refine bo_min (pc := 68) X1 lX1_29 (by decide) dX1_save_68 (by exact Nat.le_of_ble_eq_true rfl) ?_
        refine bo_putI (pc := 71) X1 dX1_save_71 fX1_18 (by first | assumption | rfl) rfl ?_
        exact bo_vret (pc := 74) X rfl dX1_save_74 (fun hg9 => fin _ _ _ p1 p2 (by first | (rw [n1, if_pos (by omega)]) | (rw [if_neg (by omega)])) (by rw [up_k (by decide), n2]))
    · exfalso; omega
theorem c_X1_restoreN {y : bg_Y} {g : bg_E} (h1 : g 17 1 = 0) : bg_Si y 4 mX1_restore [.inr 17, .inr 1] g (fun r g' => r = 0 ∧ g' = g) := by
  refine bg_enter pnX1 (Nat.le_of_ble_eq_true rfl) (fun κ X hR hg => ?_)
  have X1 : bg_X κ y cX1_restore RX1 4 0 0 := X.1
  have hg : ∀ a k, R32 (g a k) := hg
  show bg_g κ y 0 [some (.inr 17), some (.inr 1), none] [] g
  refine bg_aload0 (pc := 0) X1 dX1_restore_0 ?_
  refine bo_getI (pc := 1) X1 dX1_restore_1 fX1_18 (by first | assumption | rfl) rfl ?_
  refine bg_iconst (pc := 4) X1 dX1_restore_4 (by decide) ?_
  refine bg_icmp_ge (pc := 5) X1 (tgt := 10) dX1_restore_5 (by decide) (fun u5 => ?_) (fun u5 => ?_)
  · exfalso; omega
  · refine bg_iconst (pc := 8) X1 dX1_restore_8 (by decide) ?_
    exact bo_zret (pc := 9) X rfl (by first | exact Or.inl rfl | exact Or.inr rfl | exact b2i_01 _) dX1_restore_9 (⟨by first | rfl | exact (b2i_t (by omega)).symm | exact (b2i_f (by omega)).symm, rfl⟩)
theorem c_X1_restore {y : bg_Y} {g : bg_E} {hs : List bm_S} {S : bm_S} (hh : histR g (hs ++ [S])) : bg_Si y 4 mX1_restore [.inr 17, .inr 1] g (fun r g' => r = 1 ∧ histR g' hs ∧ staR g' 1 S ∧ frR 1 18 g g') := by
  obtain ⟨h1, h2, h3, h4, h5⟩ := hh
  rw [List.length_append, List.length_singleton] at h1 h2
  have b1 : bg_sta 1 := bg_stas 1 (by simp)
  obtain ⟨t1, -⟩ := id b1
  have key : ∀ a : Int, a = (if 0 < g 17 2 then g 17 2 - 1 else 5) → a.toNat < 6 ∧ 0 ≤ a ∧ staR g (19 + 16 * a.toNat) S := by
    intro a ha
    have ha2 : a.toNat < 6 := by split at ha <;> omega
    refine ⟨ha2, by split at ha <;> omega, ?_⟩
    have h7 := h5 hs.length S (by simp)
    rw [List.length_append, List.length_singleton] at h7
    have e3 : ((g 17 2).toNat + 6 - (hs.length + 1) + hs.length) % 6 = a.toNat := by split at ha <;> omega
    rw [e3] at h7
    exact h7
  refine bg_enter pnX1 (Nat.le_of_ble_eq_true rfl) (fun κ X hR hg => ?_)
  have X1 : bg_X κ y cX1_restore RX1 4 0 0 := X.1
  have hg : ∀ a k, R32 (g a k) := hg
  show bg_g κ y 0 [some (.inr 17), some (.inr 1), none] [] g
  have tail : ∀ (a : Int) (l : Option bg_V), a = (if 0 < g 17 2 then g 17 2 - 1 else 5) → bg_g κ y 36 [some (.inr 17), some (.inr 1), l] [.inl a] g := by
    intro a l ha
    obtain ⟨k1, k2, k3⟩ := key a ha
    obtain ⟨f1, f2⟩ := bg_hist _ k1
    refine bg_istore2 (pc := 36) X1 dX1_restore_36 ?_
    refine bg_aload1 (pc := 37) X1 dX1_restore_37 ?_
    refine bg_aload0 (pc := 38) X1 dX1_restore_38 ?_
    refine bo_getR (pc := 39) X1 dX1_restore_39 fX1_11 (by first | assumption | rfl) rfl (by first | assumption | rfl) ?_
    refine bg_iload2 (pc := 42) X1 dX1_restore_42 ?_
    refine bo_aaload (pc := 43) X1 dX1_restore_43 (by first | assumption | rfl) (by decide) (by omega) f1 ?_
    refine bo_V1v (pc := 44) X1 (c_X4_copyFrom b1 f2 (by omega) k3) vX4_copyFrom lX1_25 rfl (by first | assumption | rfl) (by decide) dX1_restore_44 (by exact Nat.le_of_ble_eq_true rfl) ?_
    rintro g1 ⟨p1, p2⟩
    have n2 : g1 17 1 = (hs.length : Int) + 1 := by rw [p2 17 (by omega)]; exact_mod_cast h1
    refine bg_aload0 (pc := 47) X1 dX1_restore_47 ?_
    refine bg_iload2 (pc := 48) X1 dX1_restore_48 ?_
    refine bo_putI (pc := 49) X1 dX1_restore_49 fX1_22 (by first | assumption | rfl) rfl ?_
    refine bg_aload0 (pc := 52) X1 dX1_restore_52 ?_
    refine bg_dup (pc := 53) X1 dX1_restore_53 ?_
    refine bo_getI (pc := 54) X1 dX1_restore_54 fX1_18 (by first | assumption | rfl) rfl ?_
    refine bg_iconst (pc := 57) X1 dX1_restore_57 (by decide) ?_
    refine bg_isub (pc := 58) X1 dX1_restore_58 (by rw [up_k (by decide), n2]; omega) ?_
    refine bo_putI (pc := 59) X1 dX1_restore_59 fX1_18 (by first | assumption | rfl) rfl ?_
    refine bg_iconst (pc := 62) X1 dX1_restore_62 (by decide) ?_
    exact bo_zret (pc := 63) X rfl (by first | exact Or.inl rfl | exact Or.inr rfl | exact b2i_01 _) dX1_restore_63 (by
        have fr2 : frR 17 18 g1 (bg_up (bg_up g1 17 2 a) 17 1 (bg_up g1 17 2 a 17 1 - 1)) := (frR.rf.up (by omega) (by omega)).up (by omega) (by omega)
        have e2 : (bg_up (bg_up g1 17 2 a) 17 1 (bg_up g1 17 2 a 17 1 - 1)) 17 2 = a := by rw [up_k (by decide), up_eq]
        refine ⟨rfl, ⟨?_, by omega, ?_, ?_, fun j T hj => ?_⟩, p1.fr fr2 (by omega), fun x hx => by rw [fr2 x (by omega), p2 x (by omega)]⟩
        · rw [up_eq, up_k (by decide), n2]; omega
        · rw [e2]; exact k2
        · rw [e2]; omega
        · rw [e2]
          have hj2 : j < hs.length := (List.getElem?_eq_some_iff.mp hj).1
          have h7 := h5 j T (by rw [List.getElem?_append_left hj2]; exact hj)
          rw [List.length_append, List.length_singleton] at h7
          have e3 : (a.toNat + 6 - hs.length + j) % 6 = ((g 17 2).toNat + 6 - (hs.length + 1) + j) % 6 := by split at ha <;> omega
          rw [e3]
          exact (h7.fr p2 (by omega)).fr fr2 (by omega))
  refine bg_aload0 (pc := 0) X1 dX1_restore_0 ?_
  refine bo_getI (pc := 1) X1 dX1_restore_1 fX1_18 (by first | assumption | rfl) rfl ?_
  refine bg_iconst (pc := 4) X1 dX1_restore_4 (by decide) ?_
  refine bg_icmp_ge (pc := 5) X1 (tgt := 10) dX1_restore_5 (by decide) (fun u5 => ?_) (fun u5 => ?_)
  · refine bg_aload0 (pc := 10) X1 dX1_restore_10 ?_
    refine bo_getI (pc := 11) X1 dX1_restore_11 fX1_22 (by first | assumption | rfl) rfl ?_
    refine bg_if_le (pc := 14) X1 (tgt := 35) dX1_restore_14 (by decide) (fun u14 => ?_) (fun u14 => ?_)
    · refine bg_iconst (pc := 35) X1 dX1_restore_35 (by decide) ?_
      exact tail _ _ (by first | (rw [if_pos (by omega)]) | (rw [if_neg (by omega)]))
    · refine bg_aload0 (pc := 17) X1 dX1_restore_17 ?_
      refine bo_getI (pc := 18) X1 dX1_restore_18 fX1_22 (by first | assumption | rfl) rfl ?_
      refine bg_bipush (pc := 21) X1 dX1_restore_21 rfl (by decide) ?_
      refine bg_icmp_ge (pc := 23) X1 (tgt := 35) dX1_restore_23 (by decide) (fun u23 => ?_) (fun u23 => ?_)
      · exfalso; omega
      · refine bg_aload0 (pc := 26) X1 dX1_restore_26 ?_
        refine bo_getI (pc := 27) X1 dX1_restore_27 fX1_22 (by first | assumption | rfl) rfl ?_
        refine bg_iconst (pc := 30) X1 dX1_restore_30 (by decide) ?_
        refine bg_isub (pc := 31) X1 dX1_restore_31 (by omega) ?_
        refine bg_goto (pc := 32) X1 (tgt := 36) dX1_restore_32 (by decide) ?_
        exact tail _ _ (by first | (rw [if_pos (by omega)]) | (rw [if_neg (by omega)]))
  · exfalso; omega
end
