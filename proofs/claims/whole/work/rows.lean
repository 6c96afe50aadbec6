section
-- ===== PART A: goes FIRST, ahead of the names: the tables' words, and 'selects' of the private methods out of them =====
/-- a private method of a class that the tables say can be made, by its rows of tables_1 -/
def lw_okq (q : MethodName × Nat) : Prop := (q.1.cls ≠ "java/lang/invoke/MethodHandle" ∧ q.1.cls ≠ "java/lang/invoke/VarHandle") ∧ Cond.instantiable q.1.cls q.2 ∈ tables_1 ∧ Cond.privateMethod q.1 ∈ tables_1 ∧ Cond.instanceMethod q.1 ∈ tables_1
theorem lw_p0 : lw_okq (⟨"AgainAgain", "cellFault", "(III)I"⟩, 10) := ⟨⟨by decide +kernel, by decide +kernel⟩, List.mem_of_getElem? (i := 14) (by decide +kernel), List.mem_of_getElem? (i := 315) (by decide +kernel), List.mem_of_getElem? (i := 316) (by decide +kernel)⟩
theorem lw_p1 : lw_okq (⟨"AgainAgain", "readMachine", "(III)I"⟩, 10) := ⟨⟨by decide +kernel, by decide +kernel⟩, List.mem_of_getElem? (i := 14) (by decide +kernel), List.mem_of_getElem? (i := 323) (by decide +kernel), List.mem_of_getElem? (i := 324) (by decide +kernel)⟩
theorem lw_p2 : lw_okq (⟨"AgainAgain", "areMachines", "(II)Z"⟩, 10) := ⟨⟨by decide +kernel, by decide +kernel⟩, List.mem_of_getElem? (i := 14) (by decide +kernel), List.mem_of_getElem? (i := 331) (by decide +kernel), List.mem_of_getElem? (i := 332) (by decide +kernel)⟩
theorem lw_p3 : lw_okq (⟨"AgainAgain", "playOut", "(II)V"⟩, 10) := ⟨⟨by decide +kernel, by decide +kernel⟩, List.mem_of_getElem? (i := 14) (by decide +kernel), List.mem_of_getElem? (i := 336) (by decide +kernel), List.mem_of_getElem? (i := 337) (by decide +kernel)⟩
theorem lw_p4 : lw_okq (⟨"AgainAgain$Walk", "gainsAlong", "(II)I"⟩, 6) := ⟨⟨by decide +kernel, by decide +kernel⟩, List.mem_of_getElem? (i := 94) (by decide +kernel), List.mem_of_getElem? (i := 386) (by decide +kernel), List.mem_of_getElem? (i := 387) (by decide +kernel)⟩
theorem lw_p5 : lw_okq (⟨"AgainAgain", "gainsOf", "(III)I"⟩, 10) := ⟨⟨by decide +kernel, by decide +kernel⟩, List.mem_of_getElem? (i := 14) (by decide +kernel), List.mem_of_getElem? (i := 398) (by decide +kernel), List.mem_of_getElem? (i := 399) (by decide +kernel)⟩
theorem lw_p6 : lw_okq (⟨"AgainAgain", "matchWorth", "(IILAgainAgain$Ratio;)V"⟩, 10) := ⟨⟨by decide +kernel, by decide +kernel⟩, List.mem_of_getElem? (i := 14) (by decide +kernel), List.mem_of_getElem? (i := 431) (by decide +kernel), List.mem_of_getElem? (i := 432) (by decide +kernel)⟩
theorem lw_p7 : lw_okq (⟨"AgainAgain$Walk", "weighedAlong", "(IIJJ)J"⟩, 6) := ⟨⟨by decide +kernel, by decide +kernel⟩, List.mem_of_getElem? (i := 94) (by decide +kernel), List.mem_of_getElem? (i := 450) (by decide +kernel), List.mem_of_getElem? (i := 451) (by decide +kernel)⟩
theorem lw_p8 : lw_okq (⟨"AgainAgain", "placeBehindSlip", "(III)I"⟩, 10) := ⟨⟨by decide +kernel, by decide +kernel⟩, List.mem_of_getElem? (i := 14) (by decide +kernel), List.mem_of_getElem? (i := 459) (by decide +kernel), List.mem_of_getElem? (i := 460) (by decide +kernel)⟩
theorem lw_p9 : lw_okq (⟨"AgainAgain$Likeness", "statesLike", "(LAgainAgain$Machines;IIII)Z"⟩, 1) := ⟨⟨by decide +kernel, by decide +kernel⟩, List.mem_of_getElem? (i := 78) (by decide +kernel), List.mem_of_getElem? (i := 479) (by decide +kernel), List.mem_of_getElem? (i := 480) (by decide +kernel)⟩
theorem lw_p10 : lw_okq (⟨"AgainAgain$Likeness", "isNewState", "(LAgainAgain$Machines;III)Z"⟩, 1) := ⟨⟨by decide +kernel, by decide +kernel⟩, List.mem_of_getElem? (i := 78) (by decide +kernel), List.mem_of_getElem? (i := 506) (by decide +kernel), List.mem_of_getElem? (i := 507) (by decide +kernel)⟩
theorem lw_p11 : lw_okq (⟨"AgainAgain$Plans", "keep", "(II)V"⟩, 5) := ⟨⟨by decide +kernel, by decide +kernel⟩, List.mem_of_getElem? (i := 88) (by decide +kernel), List.mem_of_getElem? (i := 531) (by decide +kernel), List.mem_of_getElem? (i := 532) (by decide +kernel)⟩
theorem lw_p12 : lw_okq (⟨"AgainAgain", "takeBothSides", "(II)V"⟩, 10) := ⟨⟨by decide +kernel, by decide +kernel⟩, List.mem_of_getElem? (i := 14) (by decide +kernel), List.mem_of_getElem? (i := 574) (by decide +kernel), List.mem_of_getElem? (i := 575) (by decide +kernel)⟩
theorem lw_p13 : lw_okq (⟨"AgainAgain", "restFrom", "(IIII)Z"⟩, 10) := ⟨⟨by decide +kernel, by decide +kernel⟩, List.mem_of_getElem? (i := 14) (by decide +kernel), List.mem_of_getElem? (i := 578) (by decide +kernel), List.mem_of_getElem? (i := 579) (by decide +kernel)⟩
theorem lw_p14 : lw_okq (⟨"AgainAgain", "gainsByPlan", "(LAgainAgain$Walk;III)Z"⟩, 10) := ⟨⟨by decide +kernel, by decide +kernel⟩, List.mem_of_getElem? (i := 14) (by decide +kernel), List.mem_of_getElem? (i := 582) (by decide +kernel), List.mem_of_getElem? (i := 583) (by decide +kernel)⟩
theorem lw_p15 : lw_okq (⟨"AgainAgain", "firstUnrest", "(II)I"⟩, 10) := ⟨⟨by decide +kernel, by decide +kernel⟩, List.mem_of_getElem? (i := 14) (by decide +kernel), List.mem_of_getElem? (i := 596) (by decide +kernel), List.mem_of_getElem? (i := 597) (by decide +kernel)⟩
def lw_privs_1 : List (MethodName × Nat) := [(⟨"AgainAgain", "cellFault", "(III)I"⟩, 10), (⟨"AgainAgain", "readMachine", "(III)I"⟩, 10), (⟨"AgainAgain", "areMachines", "(II)Z"⟩, 10), (⟨"AgainAgain", "playOut", "(II)V"⟩, 10), (⟨"AgainAgain$Walk", "gainsAlong", "(II)I"⟩, 6), (⟨"AgainAgain", "gainsOf", "(III)I"⟩, 10), (⟨"AgainAgain", "matchWorth", "(IILAgainAgain$Ratio;)V"⟩, 10), (⟨"AgainAgain$Walk", "weighedAlong", "(IIJJ)J"⟩, 6), (⟨"AgainAgain", "placeBehindSlip", "(III)I"⟩, 10), (⟨"AgainAgain$Likeness", "statesLike", "(LAgainAgain$Machines;IIII)Z"⟩, 1), (⟨"AgainAgain$Likeness", "isNewState", "(LAgainAgain$Machines;III)Z"⟩, 1), (⟨"AgainAgain$Plans", "keep", "(II)V"⟩, 5), (⟨"AgainAgain", "takeBothSides", "(II)V"⟩, 10), (⟨"AgainAgain", "restFrom", "(IIII)Z"⟩, 10), (⟨"AgainAgain", "gainsByPlan", "(LAgainAgain$Walk;III)Z"⟩, 10), (⟨"AgainAgain", "firstUnrest", "(II)I"⟩, 10)]
theorem lw_r1 : ∀ q ∈ lw_privs_1, lw_okq q := List.forall_mem_cons.mpr ⟨lw_p0, List.forall_mem_cons.mpr ⟨lw_p1, List.forall_mem_cons.mpr ⟨lw_p2, List.forall_mem_cons.mpr ⟨lw_p3, List.forall_mem_cons.mpr ⟨lw_p4, List.forall_mem_cons.mpr ⟨lw_p5, List.forall_mem_cons.mpr ⟨lw_p6, List.forall_mem_cons.mpr ⟨lw_p7, List.forall_mem_cons.mpr ⟨lw_p8, List.forall_mem_cons.mpr ⟨lw_p9, List.forall_mem_cons.mpr ⟨lw_p10, List.forall_mem_cons.mpr ⟨lw_p11, List.forall_mem_cons.mpr ⟨lw_p12, List.forall_mem_cons.mpr ⟨lw_p13, List.forall_mem_cons.mpr ⟨lw_p14, List.forall_mem_cons.mpr ⟨lw_p15, fun _ h => absurd h List.not_mem_nil⟩⟩⟩⟩⟩⟩⟩⟩⟩⟩⟩⟩⟩⟩⟩⟩
theorem lw_p16 : lw_okq (⟨"AgainAgain", "deviationFrom", "(IIIII)I"⟩, 10) := ⟨⟨by decide +kernel, by decide +kernel⟩, List.mem_of_getElem? (i := 14) (by decide +kernel), List.mem_of_getElem? (i := 604) (by decide +kernel), List.mem_of_getElem? (i := 605) (by decide +kernel)⟩
theorem lw_p17 : lw_okq (⟨"AgainAgain", "withstands", "(II)Z"⟩, 10) := ⟨⟨by decide +kernel, by decide +kernel⟩, List.mem_of_getElem? (i := 14) (by decide +kernel), List.mem_of_getElem? (i := 612) (by decide +kernel), List.mem_of_getElem? (i := 613) (by decide +kernel)⟩
theorem lw_p18 : lw_okq (⟨"AgainAgain", "compareWorths", "(IIII)I"⟩, 10) := ⟨⟨by decide +kernel, by decide +kernel⟩, List.mem_of_getElem? (i := 14) (by decide +kernel), List.mem_of_getElem? (i := 616) (by decide +kernel), List.mem_of_getElem? (i := 617) (by decide +kernel)⟩
theorem lw_p19 : lw_okq (⟨"AgainAgain", "gainsAgainstAll", "(II)I"⟩, 10) := ⟨⟨by decide +kernel, by decide +kernel⟩, List.mem_of_getElem? (i := 14) (by decide +kernel), List.mem_of_getElem? (i := 629) (by decide +kernel), List.mem_of_getElem? (i := 630) (by decide +kernel)⟩
theorem lw_p20 : lw_okq (⟨"AgainAgain", "machinesAheadOf", "(I)I"⟩, 10) := ⟨⟨by decide +kernel, by decide +kernel⟩, List.mem_of_getElem? (i := 14) (by decide +kernel), List.mem_of_getElem? (i := 637) (by decide +kernel), List.mem_of_getElem? (i := 638) (by decide +kernel)⟩
theorem lw_p21 : lw_okq (⟨"AgainAgain$Likeness", "isNew", "(LAgainAgain$Machines;I)Z"⟩, 1) := ⟨⟨by decide +kernel, by decide +kernel⟩, List.mem_of_getElem? (i := 78) (by decide +kernel), List.mem_of_getElem? (i := 650) (by decide +kernel), List.mem_of_getElem? (i := 651) (by decide +kernel)⟩
theorem lw_p22 : lw_okq (⟨"AgainAgain", "restingPairs", "()I"⟩, 10) := ⟨⟨by decide +kernel, by decide +kernel⟩, List.mem_of_getElem? (i := 14) (by decide +kernel), List.mem_of_getElem? (i := 655) (by decide +kernel), List.mem_of_getElem? (i := 656) (by decide +kernel)⟩
theorem lw_p23 : lw_okq (⟨"AgainAgainModel", "isState", "(II)Z"⟩, 21) := ⟨⟨by decide +kernel, by decide +kernel⟩, List.mem_of_getElem? (i := 663) (by decide +kernel), List.mem_of_getElem? (i := 757) (by decide +kernel), List.mem_of_getElem? (i := 758) (by decide +kernel)⟩
theorem lw_p24 : lw_okq (⟨"AgainAgainModel", "isMachine", "(I)Z"⟩, 21) := ⟨⟨by decide +kernel, by decide +kernel⟩, List.mem_of_getElem? (i := 663) (by decide +kernel), List.mem_of_getElem? (i := 761) (by decide +kernel), List.mem_of_getElem? (i := 762) (by decide +kernel)⟩
theorem lw_p25 : lw_okq (⟨"AgainAgainModel", "areBoth", "(II)Z"⟩, 21) := ⟨⟨by decide +kernel, by decide +kernel⟩, List.mem_of_getElem? (i := 663) (by decide +kernel), List.mem_of_getElem? (i := 798) (by decide +kernel), List.mem_of_getElem? (i := 799) (by decide +kernel)⟩
theorem lw_p26 : lw_okq (⟨"AgainAgainModel", "next", "(III)I"⟩, 21) := ⟨⟨by decide +kernel, by decide +kernel⟩, List.mem_of_getElem? (i := 663) (by decide +kernel), List.mem_of_getElem? (i := 803) (by decide +kernel), List.mem_of_getElem? (i := 804) (by decide +kernel)⟩
theorem lw_p27 : lw_okq (⟨"AgainAgainModel", "mine", "(II)I"⟩, 21) := ⟨⟨by decide +kernel, by decide +kernel⟩, List.mem_of_getElem? (i := 663) (by decide +kernel), List.mem_of_getElem? (i := 807) (by decide +kernel), List.mem_of_getElem? (i := 808) (by decide +kernel)⟩
theorem lw_p28 : lw_okq (⟨"AgainAgainModel", "theirs", "(II)I"⟩, 21) := ⟨⟨by decide +kernel, by decide +kernel⟩, List.mem_of_getElem? (i := 663) (by decide +kernel), List.mem_of_getElem? (i := 811) (by decide +kernel), List.mem_of_getElem? (i := 812) (by decide +kernel)⟩
theorem lw_p29 : lw_okq (⟨"AgainAgainModel", "after", "(IIIII)I"⟩, 21) := ⟨⟨by decide +kernel, by decide +kernel⟩, List.mem_of_getElem? (i := 663) (by decide +kernel), List.mem_of_getElem? (i := 815) (by decide +kernel), List.mem_of_getElem? (i := 816) (by decide +kernel)⟩
theorem lw_p30 : lw_okq (⟨"AgainAgainModel", "plays", "(III)V"⟩, 21) := ⟨⟨by decide +kernel, by decide +kernel⟩, List.mem_of_getElem? (i := 663) (by decide +kernel), List.mem_of_getElem? (i := 824) (by decide +kernel), List.mem_of_getElem? (i := 825) (by decide +kernel)⟩
theorem lw_p31 : lw_okq (⟨"AgainAgainModel", "payOf", "(III)I"⟩, 21) := ⟨⟨by decide +kernel, by decide +kernel⟩, List.mem_of_getElem? (i := 663) (by decide +kernel), List.mem_of_getElem? (i := 828) (by decide +kernel), List.mem_of_getElem? (i := 829) (by decide +kernel)⟩
def lw_privs_2 : List (MethodName × Nat) := [(⟨"AgainAgain", "deviationFrom", "(IIIII)I"⟩, 10), (⟨"AgainAgain", "withstands", "(II)Z"⟩, 10), (⟨"AgainAgain", "compareWorths", "(IIII)I"⟩, 10), (⟨"AgainAgain", "gainsAgainstAll", "(II)I"⟩, 10), (⟨"AgainAgain", "machinesAheadOf", "(I)I"⟩, 10), (⟨"AgainAgain$Likeness", "isNew", "(LAgainAgain$Machines;I)Z"⟩, 1), (⟨"AgainAgain", "restingPairs", "()I"⟩, 10), (⟨"AgainAgainModel", "isState", "(II)Z"⟩, 21), (⟨"AgainAgainModel", "isMachine", "(I)Z"⟩, 21), (⟨"AgainAgainModel", "areBoth", "(II)Z"⟩, 21), (⟨"AgainAgainModel", "next", "(III)I"⟩, 21), (⟨"AgainAgainModel", "mine", "(II)I"⟩, 21), (⟨"AgainAgainModel", "theirs", "(II)I"⟩, 21), (⟨"AgainAgainModel", "after", "(IIIII)I"⟩, 21), (⟨"AgainAgainModel", "plays", "(III)V"⟩, 21), (⟨"AgainAgainModel", "payOf", "(III)I"⟩, 21)]
theorem lw_r2 : ∀ q ∈ lw_privs_2, lw_okq q := List.forall_mem_cons.mpr ⟨lw_p16, List.forall_mem_cons.mpr ⟨lw_p17, List.forall_mem_cons.mpr ⟨lw_p18, List.forall_mem_cons.mpr ⟨lw_p19, List.forall_mem_cons.mpr ⟨lw_p20, List.forall_mem_cons.mpr ⟨lw_p21, List.forall_mem_cons.mpr ⟨lw_p22, List.forall_mem_cons.mpr ⟨lw_p23, List.forall_mem_cons.mpr ⟨lw_p24, List.forall_mem_cons.mpr ⟨lw_p25, List.forall_mem_cons.mpr ⟨lw_p26, List.forall_mem_cons.mpr ⟨lw_p27, List.forall_mem_cons.mpr ⟨lw_p28, List.forall_mem_cons.mpr ⟨lw_p29, List.forall_mem_cons.mpr ⟨lw_p30, List.forall_mem_cons.mpr ⟨lw_p31, fun _ h => absurd h List.not_mem_nil⟩⟩⟩⟩⟩⟩⟩⟩⟩⟩⟩⟩⟩⟩⟩⟩
theorem lw_p32 : lw_okq (⟨"AgainAgainModel", "sumOf", "(II)I"⟩, 21) := ⟨⟨by decide +kernel, by decide +kernel⟩, List.mem_of_getElem? (i := 663) (by decide +kernel), List.mem_of_getElem? (i := 832) (by decide +kernel), List.mem_of_getElem? (i := 833) (by decide +kernel)⟩
theorem lw_p33 : lw_okq (⟨"AgainAgainModel", "sumUp", "(III)I"⟩, 21) := ⟨⟨by decide +kernel, by decide +kernel⟩, List.mem_of_getElem? (i := 663) (by decide +kernel), List.mem_of_getElem? (i := 840) (by decide +kernel), List.mem_of_getElem? (i := 841) (by decide +kernel)⟩
theorem lw_p34 : lw_okq (⟨"AgainAgainModel", "lowest", "(JJ)V"⟩, 21) := ⟨⟨by decide +kernel, by decide +kernel⟩, List.mem_of_getElem? (i := 663) (by decide +kernel), List.mem_of_getElem? (i := 849) (by decide +kernel), List.mem_of_getElem? (i := 850) (by decide +kernel)⟩
theorem lw_p35 : lw_okq (⟨"AgainAgainModel", "part", "(I)J"⟩, 21) := ⟨⟨by decide +kernel, by decide +kernel⟩, List.mem_of_getElem? (i := 663) (by decide +kernel), List.mem_of_getElem? (i := 853) (by decide +kernel), List.mem_of_getElem? (i := 854) (by decide +kernel)⟩
theorem lw_p36 : lw_okq (⟨"AgainAgainModel", "findWorth", "(III)V"⟩, 21) := ⟨⟨by decide +kernel, by decide +kernel⟩, List.mem_of_getElem? (i := 663) (by decide +kernel), List.mem_of_getElem? (i := 861) (by decide +kernel), List.mem_of_getElem? (i := 862) (by decide +kernel)⟩
theorem lw_p37 : lw_okq (⟨"AgainAgainModel", "worthOfRow", "()V"⟩, 21) := ⟨⟨by decide +kernel, by decide +kernel⟩, List.mem_of_getElem? (i := 663) (by decide +kernel), List.mem_of_getElem? (i := 865) (by decide +kernel), List.mem_of_getElem? (i := 866) (by decide +kernel)⟩
theorem lw_p38 : lw_okq (⟨"AgainAgainModel", "areLike", "(II)Z"⟩, 21) := ⟨⟨by decide +kernel, by decide +kernel⟩, List.mem_of_getElem? (i := 663) (by decide +kernel), List.mem_of_getElem? (i := 881) (by decide +kernel), List.mem_of_getElem? (i := 882) (by decide +kernel)⟩
theorem lw_p39 : lw_okq (⟨"AgainAgainModel", "findUnlike", "(II)V"⟩, 21) := ⟨⟨by decide +kernel, by decide +kernel⟩, List.mem_of_getElem? (i := 663) (by decide +kernel), List.mem_of_getElem? (i := 885) (by decide +kernel), List.mem_of_getElem? (i := 886) (by decide +kernel)⟩
theorem lw_p40 : lw_okq (⟨"AgainAgainModel", "findBest", "(II)V"⟩, 21) := ⟨⟨by decide +kernel, by decide +kernel⟩, List.mem_of_getElem? (i := 663) (by decide +kernel), List.mem_of_getElem? (i := 897) (by decide +kernel), List.mem_of_getElem? (i := 898) (by decide +kernel)⟩
theorem lw_p41 : lw_okq (⟨"AgainAgainModel", "plans", "(I)I"⟩, 21) := ⟨⟨by decide +kernel, by decide +kernel⟩, List.mem_of_getElem? (i := 663) (by decide +kernel), List.mem_of_getElem? (i := 901) (by decide +kernel), List.mem_of_getElem? (i := 902) (by decide +kernel)⟩
theorem lw_p42 : lw_okq (⟨"AgainAgainModel", "findPlanWorth", "(III)V"⟩, 21) := ⟨⟨by decide +kernel, by decide +kernel⟩, List.mem_of_getElem? (i := 663) (by decide +kernel), List.mem_of_getElem? (i := 905) (by decide +kernel), List.mem_of_getElem? (i := 906) (by decide +kernel)⟩
theorem lw_p43 : lw_okq (⟨"AgainAgainModel", "rests", "(III)Z"⟩, 21) := ⟨⟨by decide +kernel, by decide +kernel⟩, List.mem_of_getElem? (i := 663) (by decide +kernel), List.mem_of_getElem? (i := 921) (by decide +kernel), List.mem_of_getElem? (i := 922) (by decide +kernel)⟩
theorem lw_p44 : lw_okq (⟨"AgainAgainModel", "isBest", "(III)Z"⟩, 21) := ⟨⟨by decide +kernel, by decide +kernel⟩, List.mem_of_getElem? (i := 663) (by decide +kernel), List.mem_of_getElem? (i := 925) (by decide +kernel), List.mem_of_getElem? (i := 926) (by decide +kernel)⟩
theorem lw_p45 : lw_okq (⟨"AgainAgainModel", "firstThatMoves", "(II)I"⟩, 21) := ⟨⟨by decide +kernel, by decide +kernel⟩, List.mem_of_getElem? (i := 663) (by decide +kernel), List.mem_of_getElem? (i := 936) (by decide +kernel), List.mem_of_getElem? (i := 937) (by decide +kernel)⟩
theorem lw_p46 : lw_okq (⟨"AgainAgainModel", "doesResist", "(II)Z"⟩, 21) := ⟨⟨by decide +kernel, by decide +kernel⟩, List.mem_of_getElem? (i := 663) (by decide +kernel), List.mem_of_getElem? (i := 948) (by decide +kernel), List.mem_of_getElem? (i := 949) (by decide +kernel)⟩
theorem lw_p47 : lw_okq (⟨"AgainAgainModel", "compare", "(IIII)I"⟩, 21) := ⟨⟨by decide +kernel, by decide +kernel⟩, List.mem_of_getElem? (i := 663) (by decide +kernel), List.mem_of_getElem? (i := 952) (by decide +kernel), List.mem_of_getElem? (i := 953) (by decide +kernel)⟩
def lw_privs_3 : List (MethodName × Nat) := [(⟨"AgainAgainModel", "sumOf", "(II)I"⟩, 21), (⟨"AgainAgainModel", "sumUp", "(III)I"⟩, 21), (⟨"AgainAgainModel", "lowest", "(JJ)V"⟩, 21), (⟨"AgainAgainModel", "part", "(I)J"⟩, 21), (⟨"AgainAgainModel", "findWorth", "(III)V"⟩, 21), (⟨"AgainAgainModel", "worthOfRow", "()V"⟩, 21), (⟨"AgainAgainModel", "areLike", "(II)Z"⟩, 21), (⟨"AgainAgainModel", "findUnlike", "(II)V"⟩, 21), (⟨"AgainAgainModel", "findBest", "(II)V"⟩, 21), (⟨"AgainAgainModel", "plans", "(I)I"⟩, 21), (⟨"AgainAgainModel", "findPlanWorth", "(III)V"⟩, 21), (⟨"AgainAgainModel", "rests", "(III)Z"⟩, 21), (⟨"AgainAgainModel", "isBest", "(III)Z"⟩, 21), (⟨"AgainAgainModel", "firstThatMoves", "(II)I"⟩, 21), (⟨"AgainAgainModel", "doesResist", "(II)Z"⟩, 21), (⟨"AgainAgainModel", "compare", "(IIII)I"⟩, 21)]
theorem lw_r3 : ∀ q ∈ lw_privs_3, lw_okq q := List.forall_mem_cons.mpr ⟨lw_p32, List.forall_mem_cons.mpr ⟨lw_p33, List.forall_mem_cons.mpr ⟨lw_p34, List.forall_mem_cons.mpr ⟨lw_p35, List.forall_mem_cons.mpr ⟨lw_p36, List.forall_mem_cons.mpr ⟨lw_p37, List.forall_mem_cons.mpr ⟨lw_p38, List.forall_mem_cons.mpr ⟨lw_p39, List.forall_mem_cons.mpr ⟨lw_p40, List.forall_mem_cons.mpr ⟨lw_p41, List.forall_mem_cons.mpr ⟨lw_p42, List.forall_mem_cons.mpr ⟨lw_p43, List.forall_mem_cons.mpr ⟨lw_p44, List.forall_mem_cons.mpr ⟨lw_p45, List.forall_mem_cons.mpr ⟨lw_p46, List.forall_mem_cons.mpr ⟨lw_p47, fun _ h => absurd h List.not_mem_nil⟩⟩⟩⟩⟩⟩⟩⟩⟩⟩⟩⟩⟩⟩⟩⟩
theorem lw_p48 : lw_okq (⟨"AgainAgainModel", "scoreOf", "(II)I"⟩, 21) := ⟨⟨by decide +kernel, by decide +kernel⟩, List.mem_of_getElem? (i := 663) (by decide +kernel), List.mem_of_getElem? (i := 964) (by decide +kernel), List.mem_of_getElem? (i := 965) (by decide +kernel)⟩
def lw_privs_4 : List (MethodName × Nat) := [(⟨"AgainAgainModel", "scoreOf", "(II)I"⟩, 21)]
theorem lw_r4 : ∀ q ∈ lw_privs_4, lw_okq q := List.forall_mem_cons.mpr ⟨lw_p48, fun _ h => absurd h List.not_mem_nil⟩
def lw_privs : List (MethodName × Nat) := lw_privs_1 ++ (lw_privs_2 ++ (lw_privs_3 ++ (lw_privs_4)))
def lw_tbl : List Cond := k2_sels lw_privs ++ tables_1
theorem lw_privs_ok : ∀ q ∈ lw_privs, lw_okq q := by
  show ∀ q ∈ lw_privs_1 ++ (lw_privs_2 ++ (lw_privs_3 ++ (lw_privs_4))), lw_okq q
  exact List.forall_mem_append.mpr ⟨lw_r1, List.forall_mem_append.mpr ⟨lw_r2, List.forall_mem_append.mpr ⟨lw_r3, lw_r4⟩⟩⟩
-- ===== end of PART A; then your names; then what follows =====
end
section
/-! ===== BEGIN words of one list among another's, by their places ===== -/
theorem goodIn_r {big : List Cond} (ws : List Cond) (ps : List Nat) (hp : ws = ps.filterMap (fun i => big[i]?)) (h : ws.all goodWord = true) : GoodIn big ws := by
  intro w hw
  have h1 := List.all_eq_true.mp h w hw
  rw [hp] at hw
  obtain ⟨i, -, hi⟩ := List.mem_filterMap.mp hw
  have hm : w ∈ big := by first | exact List.mem_of_getElem? hi | exact List.getElem?_mem hi
  exact ⟨hm, good_of_word h1⟩
theorem goodIn_app {big a b : List Cond} (ha : GoodIn big a) (hb : GoodIn big b) : GoodIn big (a ++ b) := fun w h => (List.mem_append.mp h).elim (ha w) (hb w)
theorem goodIn_ca {big a b : List Cond} {c : Cond} (ha : GoodIn big (c :: a)) (hb : GoodIn big b) : GoodIn big (c :: (a ++ b)) := fun w h => (List.mem_cons.mp h).elim (fun e => ha w (List.mem_cons.mpr (Or.inl e))) (fun h => (List.mem_append.mp h).elim (fun h => ha w (List.mem_cons.mpr (Or.inr h))) (hb w))
theorem goodIn_sub {big ws : List Cond} (hm : ∀ w ∈ ws, w ∈ big) (h : ws.all goodWord = true) : GoodIn big ws := fun w hw => ⟨hm w hw, good_of_word (List.all_eq_true.mp h w hw)⟩
/-! ===== END ===== -/

/-! ===== BEGIN printed: names, fields, word lists, decode rows ===== -/
def RX0 : String := "AgainAgain$Game"
def TX0 : u_T := fun k => match k with
  | 0 => ("AgainAgain$Game", "gains", "[I", true)
  | 1 => ("AgainAgain$Game", "over", "J", false)
  | _ => ("AgainAgain$Game", "under", "J", false)
def tyX0 : Nat → FieldType := fun k => match k with
  | 0 => .array .int
  | 1 => .long
  | _ => .long
abbrev wsX00 : List Cond := u_ws RX0 TX0 3
theorem nmX0 : ∀ a, a < 3 → ∀ b, b < 3 → a ≠ b → (TX0 a).2.1 ≠ (TX0 b).2.1 := by decide +kernel
theorem tyX0_ok : ∀ k, k < 3 → parseFieldDescriptor (TX0 k).2.2.1 = some (tyX0 k) := by decide +kernel
abbrev cX0_init : ByteArray := prog_2_method_1_code
def yX0_init : MethodName := ⟨RX0, "<init>", "()V"⟩
abbrev cX0_setGain : ByteArray := prog_2_method_2_code
def yX0_setGain : MethodName := ⟨RX0, "setGain", "(III)V"⟩
abbrev cX0_gain : ByteArray := prog_2_method_3_code
def yX0_gain : MethodName := ⟨RX0, "gain", "(II)I"⟩
abbrev cX0_setRate : ByteArray := prog_2_method_4_code
def yX0_setRate : MethodName := ⟨RX0, "setRate", "(II)V"⟩
abbrev cX0_rateOver : ByteArray := prog_2_method_5_code
def yX0_rateOver : MethodName := ⟨RX0, "rateOver", "()J"⟩
abbrev cX0_rateUnder : ByteArray := prog_2_method_6_code
def yX0_rateUnder : MethodName := ⟨RX0, "rateUnder", "()J"⟩
def RX1 : String := "AgainAgain$Likeness"
def TX1 : u_T := fun k => match k with
  | _ => ("AgainAgain$Likeness", "pairs", "[I", true)
def tyX1 : Nat → FieldType := fun k => match k with
  | _ => .array .int
abbrev wsX10 : List Cond := u_ws RX1 TX1 1
theorem nmX1 : ∀ a, a < 1 → ∀ b, b < 1 → a ≠ b → (TX1 a).2.1 ≠ (TX1 b).2.1 := by decide +kernel
theorem tyX1_ok : ∀ k, k < 1 → parseFieldDescriptor (TX1 k).2.2.1 = some (tyX1 k) := by decide +kernel
abbrev cX1_init : ByteArray := prog_3_method_1_code
def yX1_init : MethodName := ⟨RX1, "<init>", "()V"⟩
abbrev cX1_areLike : ByteArray := prog_3_method_2_code
def yX1_areLike : MethodName := ⟨RX1, "areLike", "(LAgainAgain$Machines;II)Z"⟩
abbrev cX1_unlikeMachines : ByteArray := prog_3_method_3_code
def yX1_unlikeMachines : MethodName := ⟨RX1, "unlikeMachines", "(LAgainAgain$Machines;)I"⟩
abbrev cX1_isNew : ByteArray := prog_3_method_4_code
def yX1_isNew : MethodName := ⟨RX1, "isNew", "(LAgainAgain$Machines;I)Z"⟩
abbrev cX1_unlikeStates : ByteArray := prog_3_method_5_code
def yX1_unlikeStates : MethodName := ⟨RX1, "unlikeStates", "(LAgainAgain$Machines;I)I"⟩
abbrev cX1_isNewState : ByteArray := prog_3_method_6_code
def yX1_isNewState : MethodName := ⟨RX1, "isNewState", "(LAgainAgain$Machines;III)Z"⟩
abbrev cX1_holds : ByteArray := prog_3_method_7_code
def yX1_holds : MethodName := ⟨RX1, "holds", "(II)Z"⟩
abbrev cX1_reachedStates : ByteArray := prog_3_method_8_code
def yX1_reachedStates : MethodName := ⟨RX1, "reachedStates", "(LAgainAgain$Machines;I)I"⟩
abbrev cX1_statesLike : ByteArray := prog_3_method_9_code
def yX1_statesLike : MethodName := ⟨RX1, "statesLike", "(LAgainAgain$Machines;IIII)Z"⟩
def RX2 : String := "AgainAgain$Machines"
def TX2 : u_T := fun k => match k with
  | 0 => ("AgainAgain$Machines", "sizes", "[I", true)
  | 1 => ("AgainAgain$Machines", "actions", "[I", true)
  | 2 => ("AgainAgain$Machines", "nexts", "[I", true)
  | _ => ("AgainAgain$Machines", "many", "I", false)
def tyX2 : Nat → FieldType := fun k => match k with
  | 0 => .array .int
  | 1 => .array .int
  | 2 => .array .int
  | _ => .int
abbrev wsX20 : List Cond := u_ws RX2 TX2 4
theorem nmX2 : ∀ a, a < 4 → ∀ b, b < 4 → a ≠ b → (TX2 a).2.1 ≠ (TX2 b).2.1 := by decide +kernel
theorem tyX2_ok : ∀ k, k < 4 → parseFieldDescriptor (TX2 k).2.2.1 = some (tyX2 k) := by decide +kernel
abbrev cX2_init : ByteArray := prog_4_method_1_code
def yX2_init : MethodName := ⟨RX2, "<init>", "()V"⟩
abbrev cX2_many : ByteArray := prog_4_method_2_code
def yX2_many : MethodName := ⟨RX2, "many", "()I"⟩
abbrev cX2_isFull : ByteArray := prog_4_method_3_code
def yX2_isFull : MethodName := ⟨RX2, "isFull", "()Z"⟩
abbrev cX2_has : ByteArray := prog_4_method_4_code
def yX2_has : MethodName := ⟨RX2, "has", "(I)Z"⟩
abbrev cX2_hasState : ByteArray := prog_4_method_5_code
def yX2_hasState : MethodName := ⟨RX2, "hasState", "(II)Z"⟩
abbrev cX2_statesOf : ByteArray := prog_4_method_6_code
def yX2_statesOf : MethodName := ⟨RX2, "statesOf", "(I)I"⟩
abbrev cX2_add : ByteArray := prog_4_method_7_code
def yX2_add : MethodName := ⟨RX2, "add", "(I)I"⟩
abbrev cX2_removeLatest : ByteArray := prog_4_method_8_code
def yX2_removeLatest : MethodName := ⟨RX2, "removeLatest", "()I"⟩
abbrev cX2_setAction : ByteArray := prog_4_method_9_code
def yX2_setAction : MethodName := ⟨RX2, "setAction", "(III)V"⟩
abbrev cX2_actionOf : ByteArray := prog_4_method_10_code
def yX2_actionOf : MethodName := ⟨RX2, "actionOf", "(II)I"⟩
abbrev cX2_setNext : ByteArray := prog_4_method_11_code
def yX2_setNext : MethodName := ⟨RX2, "setNext", "(IIII)V"⟩
abbrev cX2_nextOf : ByteArray := prog_4_method_12_code
def yX2_nextOf : MethodName := ⟨RX2, "nextOf", "(III)I"⟩
def RX3 : String := "AgainAgain$Plans"
def TX3 : u_T := fun k => match k with
  | 0 => ("AgainAgain$Plans", "plans", "[I", true)
  | 1 => ("AgainAgain$Plans", "tops", "[J", true)
  | 2 => ("AgainAgain$Plans", "bottoms", "[J", true)
  | 3 => ("AgainAgain$Plans", "walk", "LAgainAgain$Walk;", true)
  | _ => ("AgainAgain$Plans", "tried", "LAgainAgain$Ratio;", true)
def tyX3 : Nat → FieldType := fun k => match k with
  | 0 => .array .int
  | 1 => .array .long
  | 2 => .array .long
  | 3 => .object "AgainAgain$Walk"
  | _ => .object "AgainAgain$Ratio"
abbrev wsX30 : List Cond := u_ws RX3 TX3 5
theorem nmX3 : ∀ a, a < 5 → ∀ b, b < 5 → a ≠ b → (TX3 a).2.1 ≠ (TX3 b).2.1 := by decide +kernel
theorem tyX3_ok : ∀ k, k < 5 → parseFieldDescriptor (TX3 k).2.2.1 = some (tyX3 k) := by decide +kernel
abbrev cX3_init : ByteArray := prog_5_method_1_code
def yX3_init : MethodName := ⟨RX3, "<init>", "()V"⟩
abbrev cX3_plansAgainst : ByteArray := prog_5_method_2_code
def yX3_plansAgainst : MethodName := ⟨RX3, "plansAgainst", "(I)I"⟩
abbrev cX3_slotOf : ByteArray := prog_5_method_3_code
def yX3_slotOf : MethodName := ⟨RX3, "slotOf", "(II)I"⟩
abbrev cX3_weigh : ByteArray := prog_5_method_4_code
def yX3_weigh : MethodName := ⟨RX3, "weigh", "(LAgainAgain$Game;LAgainAgain$Machines;IIILAgainAgain$Ratio;)V"⟩
abbrev cX3_learn : ByteArray := prog_5_method_5_code
def yX3_learn : MethodName := ⟨RX3, "learn", "(LAgainAgain$Game;LAgainAgain$Machines;II)V"⟩
abbrev cX3_keep : ByteArray := prog_5_method_6_code
def yX3_keep : MethodName := ⟨RX3, "keep", "(II)V"⟩
abbrev cX3_learnAll : ByteArray := prog_5_method_7_code
def yX3_learnAll : MethodName := ⟨RX3, "learnAll", "(LAgainAgain$Game;LAgainAgain$Machines;I)V"⟩
abbrev cX3_bestPlan : ByteArray := prog_5_method_8_code
def yX3_bestPlan : MethodName := ⟨RX3, "bestPlan", "(II)I"⟩
abbrev cX3_bestPart : ByteArray := prog_5_method_9_code
def yX3_bestPart : MethodName := ⟨RX3, "bestPart", "(III)J"⟩
abbrev cX3_bestCompared : ByteArray := prog_5_method_10_code
def yX3_bestCompared : MethodName := ⟨RX3, "bestCompared", "(IILAgainAgain$Ratio;)I"⟩
def RX4 : String := "AgainAgain$Ratio"
def TX4 : u_T := fun k => match k with
  | 0 => ("AgainAgain$Ratio", "top", "J", false)
  | _ => ("AgainAgain$Ratio", "bottom", "J", false)
def tyX4 : Nat → FieldType := fun k => match k with
  | 0 => .long
  | _ => .long
abbrev wsX40 : List Cond := u_ws RX4 TX4 2
theorem nmX4 : ∀ a, a < 2 → ∀ b, b < 2 → a ≠ b → (TX4 a).2.1 ≠ (TX4 b).2.1 := by decide +kernel
theorem tyX4_ok : ∀ k, k < 2 → parseFieldDescriptor (TX4 k).2.2.1 = some (tyX4 k) := by decide +kernel
abbrev cX4_init : ByteArray := prog_6_method_1_code
def yX4_init : MethodName := ⟨RX4, "<init>", "()V"⟩
abbrev cX4_become : ByteArray := prog_6_method_2_code
def yX4_become : MethodName := ⟨RX4, "become", "(JJ)V"⟩
abbrev cX4_part : ByteArray := prog_6_method_3_code
def yX4_part : MethodName := ⟨RX4, "part", "(I)J"⟩
abbrev cX4_compareWith : ByteArray := prog_6_method_4_code
def yX4_compareWith : MethodName := ⟨RX4, "compareWith", "(JJ)I"⟩
abbrev cX4_greatestShared : ByteArray := prog_6_method_5_code
def yX4_greatestShared : MethodName := ⟨RX4, "greatestShared", "(JJ)J"⟩
def RX5 : String := "AgainAgain$Sheets"
def TX5 : u_T := fun k => match k with
  | 0 => ("AgainAgain$Sheets", "lanes", "[I", true)
  | 1 => ("AgainAgain$Sheets", "sizes", "[I", true)
  | _ => ("AgainAgain$Sheets", "cells", "[I", true)
def tyX5 : Nat → FieldType := fun k => match k with
  | 0 => .array .int
  | 1 => .array .int
  | _ => .array .int
abbrev wsX50 : List Cond := u_ws RX5 TX5 3
theorem nmX5 : ∀ a, a < 3 → ∀ b, b < 3 → a ≠ b → (TX5 a).2.1 ≠ (TX5 b).2.1 := by decide +kernel
theorem tyX5_ok : ∀ k, k < 3 → parseFieldDescriptor (TX5 k).2.2.1 = some (tyX5 k) := by decide +kernel
abbrev cX5_init : ByteArray := prog_7_method_1_code
def yX5_init : MethodName := ⟨RX5, "<init>", "()V"⟩
abbrev cX5_isSheet : ByteArray := prog_7_method_2_code
def yX5_isSheet : MethodName := ⟨RX5, "isSheet", "(I)Z"⟩
abbrev cX5_isLane : ByteArray := prog_7_method_3_code
def yX5_isLane : MethodName := ⟨RX5, "isLane", "(I)Z"⟩
abbrev cX5_isThere : ByteArray := prog_7_method_4_code
def yX5_isThere : MethodName := ⟨RX5, "isThere", "(I)Z"⟩
abbrev cX5_laneOf : ByteArray := prog_7_method_5_code
def yX5_laneOf : MethodName := ⟨RX5, "laneOf", "(I)I"⟩
abbrev cX5_cellsOf : ByteArray := prog_7_method_6_code
def yX5_cellsOf : MethodName := ⟨RX5, "cellsOf", "(I)I"⟩
abbrev cX5_layOut : ByteArray := prog_7_method_7_code
def yX5_layOut : MethodName := ⟨RX5, "layOut", "(III)V"⟩
abbrev cX5_hasCell : ByteArray := prog_7_method_8_code
def yX5_hasCell : MethodName := ⟨RX5, "hasCell", "(II)Z"⟩
abbrev cX5_cell : ByteArray := prog_7_method_9_code
def yX5_cell : MethodName := ⟨RX5, "cell", "(II)I"⟩
abbrev cX5_setCell : ByteArray := prog_7_method_10_code
def yX5_setCell : MethodName := ⟨RX5, "setCell", "(III)V"⟩
abbrev cX5_lowestBits : ByteArray := prog_7_method_11_code
def yX5_lowestBits : MethodName := ⟨RX5, "lowestBits", "(II)I"⟩
def RX6 : String := "AgainAgain$Walk"
def TX6 : u_T := fun k => match k with
  | 0 => ("AgainAgain$Walk", "nexts", "[I", true)
  | 1 => ("AgainAgain$Walk", "gains", "[I", true)
  | 2 => ("AgainAgain$Walk", "firstMet", "[I", true)
  | 3 => ("AgainAgain$Walk", "path", "[I", true)
  | 4 => ("AgainAgain$Walk", "tail", "I", false)
  | _ => ("AgainAgain$Walk", "ring", "I", false)
def tyX6 : Nat → FieldType := fun k => match k with
  | 0 => .array .int
  | 1 => .array .int
  | 2 => .array .int
  | 3 => .array .int
  | 4 => .int
  | _ => .int
abbrev wsX60 : List Cond := u_ws RX6 TX6 6
theorem nmX6 : ∀ a, a < 6 → ∀ b, b < 6 → a ≠ b → (TX6 a).2.1 ≠ (TX6 b).2.1 := by decide +kernel
theorem tyX6_ok : ∀ k, k < 6 → parseFieldDescriptor (TX6 k).2.2.1 = some (tyX6 k) := by decide +kernel
abbrev cX6_init : ByteArray := prog_8_method_1_code
def yX6_init : MethodName := ⟨RX6, "<init>", "()V"⟩
abbrev cX6_placeOf : ByteArray := prog_8_method_2_code
def yX6_placeOf : MethodName := ⟨RX6, "placeOf", "(II)I"⟩
abbrev cX6_mine : ByteArray := prog_8_method_3_code
def yX6_mine : MethodName := ⟨RX6, "mine", "(I)I"⟩
abbrev cX6_theirs : ByteArray := prog_8_method_4_code
def yX6_theirs : MethodName := ⟨RX6, "theirs", "(I)I"⟩
abbrev cX6_takeMatch : ByteArray := prog_8_method_5_code
def yX6_takeMatch : MethodName := ⟨RX6, "takeMatch", "(LAgainAgain$Game;LAgainAgain$Machines;II)V"⟩
abbrev cX6_takePlan : ByteArray := prog_8_method_6_code
def yX6_takePlan : MethodName := ⟨RX6, "takePlan", "(LAgainAgain$Game;LAgainAgain$Machines;II)V"⟩
abbrev cX6_startAt : ByteArray := prog_8_method_7_code
def yX6_startAt : MethodName := ⟨RX6, "startAt", "(I)V"⟩
abbrev cX6_tail : ByteArray := prog_8_method_8_code
def yX6_tail : MethodName := ⟨RX6, "tail", "()I"⟩
abbrev cX6_ring : ByteArray := prog_8_method_9_code
def yX6_ring : MethodName := ⟨RX6, "ring", "()I"⟩
abbrev cX6_placeIn : ByteArray := prog_8_method_10_code
def yX6_placeIn : MethodName := ⟨RX6, "placeIn", "(I)I"⟩
abbrev cX6_tailGains : ByteArray := prog_8_method_11_code
def yX6_tailGains : MethodName := ⟨RX6, "tailGains", "()I"⟩
abbrev cX6_ringGains : ByteArray := prog_8_method_12_code
def yX6_ringGains : MethodName := ⟨RX6, "ringGains", "()I"⟩
abbrev cX6_gainsOfFirst : ByteArray := prog_8_method_13_code
def yX6_gainsOfFirst : MethodName := ⟨RX6, "gainsOfFirst", "(I)I"⟩
abbrev cX6_gainsAlong : ByteArray := prog_8_method_14_code
def yX6_gainsAlong : MethodName := ⟨RX6, "gainsAlong", "(II)I"⟩
abbrev cX6_worthInto : ByteArray := prog_8_method_15_code
def yX6_worthInto : MethodName := ⟨RX6, "worthInto", "(LAgainAgain$Game;LAgainAgain$Ratio;)V"⟩
abbrev cX6_weighedAlong : ByteArray := prog_8_method_16_code
def yX6_weighedAlong : MethodName := ⟨RX6, "weighedAlong", "(IIJJ)J"⟩
abbrev cX6_power : ByteArray := prog_8_method_17_code
def yX6_power : MethodName := ⟨RX6, "power", "(JI)J"⟩
abbrev cX6_meeting : ByteArray := prog_8_method_18_code
def yX6_meeting : MethodName := ⟨RX6, "meeting", "(II)I"⟩
def RX7 : String := "AgainAgain"
def TX7 : u_T := fun k => match k with
  | 0 => ("AgainAgain", "game", "LAgainAgain$Game;", true)
  | 1 => ("AgainAgain", "machines", "LAgainAgain$Machines;", true)
  | 2 => ("AgainAgain", "sheets", "LAgainAgain$Sheets;", true)
  | 3 => ("AgainAgain", "likeness", "LAgainAgain$Likeness;", true)
  | 4 => ("AgainAgain", "plans", "LAgainAgain$Plans;", true)
  | 5 => ("AgainAgain", "walk", "LAgainAgain$Walk;", true)
  | 6 => ("AgainAgain", "back", "LAgainAgain$Walk;", true)
  | 7 => ("AgainAgain", "ratio", "LAgainAgain$Ratio;", true)
  | 8 => ("AgainAgain", "other", "LAgainAgain$Ratio;", true)
  | _ => ("AgainAgain", "scores", "[I", true)
def tyX7 : Nat → FieldType := fun k => match k with
  | 0 => .object "AgainAgain$Game"
  | 1 => .object "AgainAgain$Machines"
  | 2 => .object "AgainAgain$Sheets"
  | 3 => .object "AgainAgain$Likeness"
  | 4 => .object "AgainAgain$Plans"
  | 5 => .object "AgainAgain$Walk"
  | 6 => .object "AgainAgain$Walk"
  | 7 => .object "AgainAgain$Ratio"
  | 8 => .object "AgainAgain$Ratio"
  | _ => .array .int
abbrev wsX70 : List Cond := u_ws RX7 TX7 10
theorem nmX7 : ∀ a, a < 10 → ∀ b, b < 10 → a ≠ b → (TX7 a).2.1 ≠ (TX7 b).2.1 := by decide +kernel
theorem tyX7_ok : ∀ k, k < 10 → parseFieldDescriptor (TX7 k).2.2.1 = some (tyX7 k) := by decide +kernel
abbrev cX7_init : ByteArray := prog_1_method_1_code
def yX7_init : MethodName := ⟨RX7, "<init>", "()V"⟩
abbrev cX7_pay : ByteArray := prog_1_method_2_code
def yX7_pay : MethodName := ⟨RX7, "pay", "(III)I"⟩
abbrev cX7_discount : ByteArray := prog_1_method_3_code
def yX7_discount : MethodName := ⟨RX7, "discount", "(II)I"⟩
abbrev cX7_machine : ByteArray := prog_1_method_4_code
def yX7_machine : MethodName := ⟨RX7, "machine", "(I)I"⟩
abbrev cX7_does : ByteArray := prog_1_method_5_code
def yX7_does : MethodName := ⟨RX7, "does", "(III)I"⟩
abbrev cX7_goes : ByteArray := prog_1_method_6_code
def yX7_goes : MethodName := ⟨RX7, "goes", "(IIII)I"⟩
abbrev cX7_told : ByteArray := prog_1_method_7_code
def yX7_told : MethodName := ⟨RX7, "told", "(III)I"⟩
abbrev cX7_drop : ByteArray := prog_1_method_8_code
def yX7_drop : MethodName := ⟨RX7, "drop", "()I"⟩
abbrev cX7_sheet : ByteArray := prog_1_method_9_code
def yX7_sheet : MethodName := ⟨RX7, "sheet", "(III)I"⟩
abbrev cX7_lay : ByteArray := prog_1_method_10_code
def yX7_lay : MethodName := ⟨RX7, "lay", "(III)I"⟩
abbrev cX7_draw : ByteArray := prog_1_method_11_code
def yX7_draw : MethodName := ⟨RX7, "draw", "(IIII)I"⟩
abbrev cX7_action : ByteArray := prog_1_method_12_code
def yX7_action : MethodName := ⟨RX7, "action", "(III)I"⟩
abbrev cX7_match : ByteArray := prog_1_method_13_code
def yX7_match : MethodName := ⟨RX7, "match", "(III)I"⟩
abbrev cX7_sum : ByteArray := prog_1_method_14_code
def yX7_sum : MethodName := ⟨RX7, "sum", "(III)I"⟩
abbrev cX7_mean : ByteArray := prog_1_method_15_code
def yX7_mean : MethodName := ⟨RX7, "mean", "(III)J"⟩
abbrev cX7_worth : ByteArray := prog_1_method_16_code
def yX7_worth : MethodName := ⟨RX7, "worth", "(III)J"⟩
abbrev cX7_slip : ByteArray := prog_1_method_17_code
def yX7_slip : MethodName := ⟨RX7, "slip", "(III)I"⟩
abbrev cX7_like : ByteArray := prog_1_method_18_code
def yX7_like : MethodName := ⟨RX7, "like", "(II)I"⟩
abbrev cX7_smallest : ByteArray := prog_1_method_19_code
def yX7_smallest : MethodName := ⟨RX7, "smallest", "(I)I"⟩
abbrev cX7_best : ByteArray := prog_1_method_20_code
def yX7_best : MethodName := ⟨RX7, "best", "(II)I"⟩
abbrev cX7_bestWorth : ByteArray := prog_1_method_21_code
def yX7_bestWorth : MethodName := ⟨RX7, "bestWorth", "(III)J"⟩
abbrev cX7_planWorth : ByteArray := prog_1_method_22_code
def yX7_planWorth : MethodName := ⟨RX7, "planWorth", "(IIII)J"⟩
abbrev cX7_rest : ByteArray := prog_1_method_23_code
def yX7_rest : MethodName := ⟨RX7, "rest", "(II)I"⟩
abbrev cX7_everywhere : ByteArray := prog_1_method_24_code
def yX7_everywhere : MethodName := ⟨RX7, "everywhere", "(II)I"⟩
abbrev cX7_deviation : ByteArray := prog_1_method_25_code
def yX7_deviation : MethodName := ⟨RX7, "deviation", "(III)I"⟩
abbrev cX7_resists : ByteArray := prog_1_method_26_code
def yX7_resists : MethodName := ⟨RX7, "resists", "(II)I"⟩
abbrev cX7_invaders : ByteArray := prog_1_method_27_code
def yX7_invaders : MethodName := ⟨RX7, "invaders", "(I)I"⟩
abbrev cX7_score : ByteArray := prog_1_method_28_code
def yX7_score : MethodName := ⟨RX7, "score", "(II)I"⟩
abbrev cX7_place : ByteArray := prog_1_method_29_code
def yX7_place : MethodName := ⟨RX7, "place", "(II)I"⟩
abbrev cX7_count : ByteArray := prog_1_method_30_code
def yX7_count : MethodName := ⟨RX7, "count", "(I)I"⟩
abbrev cX7_within : ByteArray := prog_1_method_31_code
def yX7_within : MethodName := ⟨RX7, "within", "(III)Z"⟩
abbrev cX7_isAction : ByteArray := prog_1_method_32_code
def yX7_isAction : MethodName := ⟨RX7, "isAction", "(I)Z"⟩
abbrev cX7_oneIf : ByteArray := prog_1_method_33_code
def yX7_oneIf : MethodName := ⟨RX7, "oneIf", "(Z)I"⟩
abbrev cX7_areMachines : ByteArray := prog_1_method_34_code
def yX7_areMachines : MethodName := ⟨RX7, "areMachines", "(II)Z"⟩
abbrev cX7_cellFault : ByteArray := prog_1_method_35_code
def yX7_cellFault : MethodName := ⟨RX7, "cellFault", "(III)I"⟩
abbrev cX7_readMachine : ByteArray := prog_1_method_36_code
def yX7_readMachine : MethodName := ⟨RX7, "readMachine", "(III)I"⟩
abbrev cX7_playOut : ByteArray := prog_1_method_37_code
def yX7_playOut : MethodName := ⟨RX7, "playOut", "(II)V"⟩
abbrev cX7_gainsOf : ByteArray := prog_1_method_38_code
def yX7_gainsOf : MethodName := ⟨RX7, "gainsOf", "(III)I"⟩
abbrev cX7_matchWorth : ByteArray := prog_1_method_39_code
def yX7_matchWorth : MethodName := ⟨RX7, "matchWorth", "(IILAgainAgain$Ratio;)V"⟩
abbrev cX7_placeBehindSlip : ByteArray := prog_1_method_40_code
def yX7_placeBehindSlip : MethodName := ⟨RX7, "placeBehindSlip", "(III)I"⟩
abbrev cX7_takeBothSides : ByteArray := prog_1_method_41_code
def yX7_takeBothSides : MethodName := ⟨RX7, "takeBothSides", "(II)V"⟩
abbrev cX7_gainsByPlan : ByteArray := prog_1_method_42_code
def yX7_gainsByPlan : MethodName := ⟨RX7, "gainsByPlan", "(LAgainAgain$Walk;III)Z"⟩
abbrev cX7_restFrom : ByteArray := prog_1_method_43_code
def yX7_restFrom : MethodName := ⟨RX7, "restFrom", "(IIII)Z"⟩
abbrev cX7_deviationFrom : ByteArray := prog_1_method_44_code
def yX7_deviationFrom : MethodName := ⟨RX7, "deviationFrom", "(IIIII)I"⟩
abbrev cX7_firstUnrest : ByteArray := prog_1_method_45_code
def yX7_firstUnrest : MethodName := ⟨RX7, "firstUnrest", "(II)I"⟩
abbrev cX7_compareWorths : ByteArray := prog_1_method_46_code
def yX7_compareWorths : MethodName := ⟨RX7, "compareWorths", "(IIII)I"⟩
abbrev cX7_withstands : ByteArray := prog_1_method_47_code
def yX7_withstands : MethodName := ⟨RX7, "withstands", "(II)Z"⟩
abbrev cX7_gainsAgainstAll : ByteArray := prog_1_method_48_code
def yX7_gainsAgainstAll : MethodName := ⟨RX7, "gainsAgainstAll", "(II)I"⟩
abbrev cX7_machinesAheadOf : ByteArray := prog_1_method_49_code
def yX7_machinesAheadOf : MethodName := ⟨RX7, "machinesAheadOf", "(I)I"⟩
abbrev cX7_restingPairs : ByteArray := prog_1_method_50_code
def yX7_restingPairs : MethodName := ⟨RX7, "restingPairs", "()I"⟩
def RX8 : String := "AgainAgainModel"
def TX8 : u_T := fun k => match k with
  | 0 => ("AgainAgainModel", "pays", "[I", true)
  | 1 => ("AgainAgainModel", "up", "I", false)
  | 2 => ("AgainAgainModel", "by", "I", false)
  | 3 => ("AgainAgainModel", "machines", "I", false)
  | 4 => ("AgainAgainModel", "many", "[I", true)
  | 5 => ("AgainAgainModel", "acts", "[I", true)
  | 6 => ("AgainAgainModel", "nexts", "[I", true)
  | 7 => ("AgainAgainModel", "lanes", "[I", true)
  | 8 => ("AgainAgainModel", "sizes", "[I", true)
  | 9 => ("AgainAgainModel", "cells", "[I", true)
  | 10 => ("AgainAgainModel", "row", "[I", true)
  | 11 => ("AgainAgainModel", "seenAt", "[I", true)
  | 12 => ("AgainAgainModel", "tail", "I", false)
  | 13 => ("AgainAgainModel", "ring", "I", false)
  | 14 => ("AgainAgainModel", "over", "J", false)
  | 15 => ("AgainAgainModel", "under", "J", false)
  | 16 => ("AgainAgainModel", "unlike", "[Z", true)
  | 17 => ("AgainAgainModel", "bestPlan", "I", false)
  | 18 => ("AgainAgainModel", "bestOver", "J", false)
  | 19 => ("AgainAgainModel", "bestUnder", "J", false)
  | _ => ("AgainAgainModel", "scores", "[I", true)
def tyX8 : Nat → FieldType := fun k => match k with
  | 0 => .array .int
  | 1 => .int
  | 2 => .int
  | 3 => .int
  | 4 => .array .int
  | 5 => .array .int
  | 6 => .array .int
  | 7 => .array .int
  | 8 => .array .int
  | 9 => .array .int
  | 10 => .array .int
  | 11 => .array .int
  | 12 => .int
  | 13 => .int
  | 14 => .long
  | 15 => .long
  | 16 => .array .boolean
  | 17 => .int
  | 18 => .long
  | 19 => .long
  | _ => .array .int
abbrev wsX80 : List Cond := u_ws RX8 TX8 21
theorem nmX8 : ∀ a, a < 21 → ∀ b, b < 21 → a ≠ b → (TX8 a).2.1 ≠ (TX8 b).2.1 := by decide +kernel
theorem tyX8_ok : ∀ k, k < 21 → parseFieldDescriptor (TX8 k).2.2.1 = some (tyX8 k) := by decide +kernel
abbrev cX8_init : ByteArray := prog_10_method_1_code
def yX8_init : MethodName := ⟨RX8, "<init>", "()V"⟩
abbrev cX8_in : ByteArray := prog_10_method_3_code
def yX8_in : MethodName := ⟨RX8, "in", "(JJJ)Z"⟩
abbrev cX8_pay : ByteArray := prog_10_method_4_code
def yX8_pay : MethodName := ⟨RX8, "pay", "(III)I"⟩
abbrev cX8_discount : ByteArray := prog_10_method_5_code
def yX8_discount : MethodName := ⟨RX8, "discount", "(II)I"⟩
abbrev cX8_isMachine : ByteArray := prog_10_method_6_code
def yX8_isMachine : MethodName := ⟨RX8, "isMachine", "(I)Z"⟩
abbrev cX8_isState : ByteArray := prog_10_method_7_code
def yX8_isState : MethodName := ⟨RX8, "isState", "(II)Z"⟩
abbrev cX8_machine : ByteArray := prog_10_method_8_code
def yX8_machine : MethodName := ⟨RX8, "machine", "(I)I"⟩
abbrev cX8_does : ByteArray := prog_10_method_9_code
def yX8_does : MethodName := ⟨RX8, "does", "(III)I"⟩
abbrev cX8_goes : ByteArray := prog_10_method_10_code
def yX8_goes : MethodName := ⟨RX8, "goes", "(IIII)I"⟩
abbrev cX8_told : ByteArray := prog_10_method_11_code
def yX8_told : MethodName := ⟨RX8, "told", "(III)I"⟩
abbrev cX8_drop : ByteArray := prog_10_method_12_code
def yX8_drop : MethodName := ⟨RX8, "drop", "()I"⟩
abbrev cX8_isSheet : ByteArray := prog_10_method_13_code
def yX8_isSheet : MethodName := ⟨RX8, "isSheet", "(II)Z"⟩
abbrev cX8_sheet : ByteArray := prog_10_method_14_code
def yX8_sheet : MethodName := ⟨RX8, "sheet", "(III)I"⟩
abbrev cX8_lay : ByteArray := prog_10_method_15_code
def yX8_lay : MethodName := ⟨RX8, "lay", "(III)I"⟩
abbrev cX8_draw : ByteArray := prog_10_method_16_code
def yX8_draw : MethodName := ⟨RX8, "draw", "(IIII)I"⟩
abbrev cX8_after : ByteArray := prog_10_method_17_code
def yX8_after : MethodName := ⟨RX8, "after", "(IIIII)I"⟩
abbrev cX8_mine : ByteArray := prog_10_method_18_code
def yX8_mine : MethodName := ⟨RX8, "mine", "(II)I"⟩
abbrev cX8_theirs : ByteArray := prog_10_method_19_code
def yX8_theirs : MethodName := ⟨RX8, "theirs", "(II)I"⟩
abbrev cX8_next : ByteArray := prog_10_method_20_code
def yX8_next : MethodName := ⟨RX8, "next", "(III)I"⟩
abbrev cX8_payOf : ByteArray := prog_10_method_21_code
def yX8_payOf : MethodName := ⟨RX8, "payOf", "(III)I"⟩
abbrev cX8_plays : ByteArray := prog_10_method_22_code
def yX8_plays : MethodName := ⟨RX8, "plays", "(III)V"⟩
abbrev cX8_areBoth : ByteArray := prog_10_method_23_code
def yX8_areBoth : MethodName := ⟨RX8, "areBoth", "(II)Z"⟩
abbrev cX8_action : ByteArray := prog_10_method_24_code
def yX8_action : MethodName := ⟨RX8, "action", "(III)I"⟩
abbrev cX8_sumOf : ByteArray := prog_10_method_25_code
def yX8_sumOf : MethodName := ⟨RX8, "sumOf", "(II)I"⟩
abbrev cX8_match : ByteArray := prog_10_method_26_code
def yX8_match : MethodName := ⟨RX8, "match", "(III)I"⟩
abbrev cX8_sumUp : ByteArray := prog_10_method_27_code
def yX8_sumUp : MethodName := ⟨RX8, "sumUp", "(III)I"⟩
abbrev cX8_sum : ByteArray := prog_10_method_28_code
def yX8_sum : MethodName := ⟨RX8, "sum", "(III)I"⟩
abbrev cX8_lowest : ByteArray := prog_10_method_29_code
def yX8_lowest : MethodName := ⟨RX8, "lowest", "(JJ)V"⟩
abbrev cX8_power : ByteArray := prog_10_method_30_code
def yX8_power : MethodName := ⟨RX8, "power", "(JI)J"⟩
abbrev cX8_worthOfRow : ByteArray := prog_10_method_31_code
def yX8_worthOfRow : MethodName := ⟨RX8, "worthOfRow", "()V"⟩
abbrev cX8_part : ByteArray := prog_10_method_32_code
def yX8_part : MethodName := ⟨RX8, "part", "(I)J"⟩
abbrev cX8_mean : ByteArray := prog_10_method_33_code
def yX8_mean : MethodName := ⟨RX8, "mean", "(III)J"⟩
abbrev cX8_findWorth : ByteArray := prog_10_method_34_code
def yX8_findWorth : MethodName := ⟨RX8, "findWorth", "(III)V"⟩
abbrev cX8_worth : ByteArray := prog_10_method_35_code
def yX8_worth : MethodName := ⟨RX8, "worth", "(III)J"⟩
abbrev cX8_slip : ByteArray := prog_10_method_36_code
def yX8_slip : MethodName := ⟨RX8, "slip", "(III)I"⟩
abbrev cX8_findUnlike : ByteArray := prog_10_method_37_code
def yX8_findUnlike : MethodName := ⟨RX8, "findUnlike", "(II)V"⟩
abbrev cX8_areLike : ByteArray := prog_10_method_38_code
def yX8_areLike : MethodName := ⟨RX8, "areLike", "(II)Z"⟩
abbrev cX8_like : ByteArray := prog_10_method_39_code
def yX8_like : MethodName := ⟨RX8, "like", "(II)I"⟩
abbrev cX8_smallest : ByteArray := prog_10_method_40_code
def yX8_smallest : MethodName := ⟨RX8, "smallest", "(I)I"⟩
abbrev cX8_plans : ByteArray := prog_10_method_41_code
def yX8_plans : MethodName := ⟨RX8, "plans", "(I)I"⟩
abbrev cX8_findPlanWorth : ByteArray := prog_10_method_42_code
def yX8_findPlanWorth : MethodName := ⟨RX8, "findPlanWorth", "(III)V"⟩
abbrev cX8_findBest : ByteArray := prog_10_method_43_code
def yX8_findBest : MethodName := ⟨RX8, "findBest", "(II)V"⟩
abbrev cX8_best : ByteArray := prog_10_method_44_code
def yX8_best : MethodName := ⟨RX8, "best", "(II)I"⟩
abbrev cX8_bestWorth : ByteArray := prog_10_method_45_code
def yX8_bestWorth : MethodName := ⟨RX8, "bestWorth", "(III)J"⟩
abbrev cX8_planWorth : ByteArray := prog_10_method_46_code
def yX8_planWorth : MethodName := ⟨RX8, "planWorth", "(IIII)J"⟩
abbrev cX8_isBest : ByteArray := prog_10_method_47_code
def yX8_isBest : MethodName := ⟨RX8, "isBest", "(III)Z"⟩
abbrev cX8_turned : ByteArray := prog_10_method_48_code
def yX8_turned : MethodName := ⟨RX8, "turned", "(I)I"⟩
abbrev cX8_rests : ByteArray := prog_10_method_49_code
def yX8_rests : MethodName := ⟨RX8, "rests", "(III)Z"⟩
abbrev cX8_rest : ByteArray := prog_10_method_50_code
def yX8_rest : MethodName := ⟨RX8, "rest", "(II)I"⟩
abbrev cX8_firstThatMoves : ByteArray := prog_10_method_51_code
def yX8_firstThatMoves : MethodName := ⟨RX8, "firstThatMoves", "(II)I"⟩
abbrev cX8_everywhere : ByteArray := prog_10_method_52_code
def yX8_everywhere : MethodName := ⟨RX8, "everywhere", "(II)I"⟩
abbrev cX8_deviation : ByteArray := prog_10_method_53_code
def yX8_deviation : MethodName := ⟨RX8, "deviation", "(III)I"⟩
abbrev cX8_compare : ByteArray := prog_10_method_54_code
def yX8_compare : MethodName := ⟨RX8, "compare", "(IIII)I"⟩
abbrev cX8_doesResist : ByteArray := prog_10_method_55_code
def yX8_doesResist : MethodName := ⟨RX8, "doesResist", "(II)Z"⟩
abbrev cX8_resists : ByteArray := prog_10_method_56_code
def yX8_resists : MethodName := ⟨RX8, "resists", "(II)I"⟩
abbrev cX8_invaders : ByteArray := prog_10_method_57_code
def yX8_invaders : MethodName := ⟨RX8, "invaders", "(I)I"⟩
abbrev cX8_scoreOf : ByteArray := prog_10_method_58_code
def yX8_scoreOf : MethodName := ⟨RX8, "scoreOf", "(II)I"⟩
abbrev cX8_score : ByteArray := prog_10_method_59_code
def yX8_score : MethodName := ⟨RX8, "score", "(II)I"⟩
abbrev cX8_place : ByteArray := prog_10_method_60_code
def yX8_place : MethodName := ⟨RX8, "place", "(II)I"⟩
abbrev cX8_count : ByteArray := prog_10_method_61_code
def yX8_count : MethodName := ⟨RX8, "count", "(I)I"⟩
def RJ13 : String := "java/lang/Long"
def TJ13 : u_T := fun k => match k with
  | _ => ("", "", "", false)
def tyJ13 : Nat → FieldType := fun k => match k with
  | _ => .int
abbrev wsJ130 : List Cond := u_ws RJ13 TJ13 0
theorem nmJ13 : ∀ a, a < 0 → ∀ b, b < 0 → a ≠ b → (TJ13 a).2.1 ≠ (TJ13 b).2.1 := by decide +kernel
theorem tyJ13_ok : ∀ k, k < 0 → parseFieldDescriptor (TJ13 k).2.2.1 = some (tyJ13 k) := by decide +kernel
abbrev cJ13_compare_74951 : ByteArray := prog_11_method_42_code
def yJ13_compare_74951 : MethodName := ⟨RJ13, "compare", "(JJ)I"⟩
def RJ9 : String := "java/lang/Math"
def TJ9 : u_T := fun k => match k with
  | _ => ("", "", "", false)
def tyJ9 : Nat → FieldType := fun k => match k with
  | _ => .int
abbrev wsJ90 : List Cond := u_ws RJ9 TJ9 0
theorem nmJ9 : ∀ a, a < 0 → ∀ b, b < 0 → a ≠ b → (TJ9 a).2.1 ≠ (TJ9 b).2.1 := by decide +kernel
theorem tyJ9_ok : ∀ k, k < 0 → parseFieldDescriptor (TJ9 k).2.2.1 = some (tyJ9 k) := by decide +kernel
abbrev cJ9_abs_067f4 : ByteArray := prog_12_method_61_code
def yJ9_abs_067f4 : MethodName := ⟨RJ9, "abs", "(J)J"⟩
def RJ7 : String := "java/util/Arrays"
def TJ7 : u_T := fun k => match k with
  | _ => ("", "", "", false)
def tyJ7 : Nat → FieldType := fun k => match k with
  | _ => .int
abbrev wsJ70 : List Cond := u_ws RJ7 TJ7 0
theorem nmJ7 : ∀ a, a < 0 → ∀ b, b < 0 → a ≠ b → (TJ7 a).2.1 ≠ (TJ7 b).2.1 := by decide +kernel
theorem tyJ7_ok : ∀ k, k < 0 → parseFieldDescriptor (TJ7 k).2.2.1 = some (tyJ7 k) := by decide +kernel
abbrev cJ7_rangeCheck_23922 : ByteArray := prog_13_method_30_code
def yJ7_rangeCheck_23922 : MethodName := ⟨RJ7, "rangeCheck", "(III)V"⟩
abbrev cJ7_fill_53178 : ByteArray := prog_13_method_103_code
def yJ7_fill_53178 : MethodName := ⟨RJ7, "fill", "([II)V"⟩
abbrev cJ7_fill_fda19 : ByteArray := prog_13_method_104_code
def yJ7_fill_fda19 : MethodName := ⟨RJ7, "fill", "([IIII)V"⟩
def RL : String := "AgainAgainLaw"
abbrev cL_law : ByteArray := code
def yL_law : MethodName := ⟨RL, "law", "([I)Z"⟩
def wsX0_init : List Cond := .code yX0_init cX0_init 1 none :: ([.methodLink RX0 1 objectInit, .instanceMethod objectInit, .code objectInit ⟨#[0xb1]⟩ 1 none, .arrayClass .int, .fieldLink RX0 9 "AgainAgain$Game" "gains" "[I", .fieldLink RX0 13 "AgainAgain$Game" "over" "J", .constantLong RX0 17 (2), .fieldLink RX0 19 "AgainAgain$Game" "under" "J"] ++ wsX00)
def wsX0_setGain : List Cond := .code yX0_setGain cX0_setGain 4 none :: ([.fieldLink RX0 9 "AgainAgain$Game" "gains" "[I"] ++ wsX00)
def wsX0_gain : List Cond := .code yX0_gain cX0_gain 3 (some .int) :: ([.fieldLink RX0 9 "AgainAgain$Game" "gains" "[I"] ++ wsX00)
def wsX0_setRate : List Cond := .code yX0_setRate cX0_setRate 3 none :: ([.fieldLink RX0 13 "AgainAgain$Game" "over" "J", .fieldLink RX0 19 "AgainAgain$Game" "under" "J"] ++ wsX00)
def wsX0_rateOver : List Cond := .code yX0_rateOver cX0_rateOver 1 (some .long) :: ([.fieldLink RX0 13 "AgainAgain$Game" "over" "J"] ++ wsX00)
def wsX0_rateUnder : List Cond := .code yX0_rateUnder cX0_rateUnder 1 (some .long) :: ([.fieldLink RX0 19 "AgainAgain$Game" "under" "J"] ++ wsX00)
def wsX1_init : List Cond := .code yX1_init cX1_init 1 none :: ([.methodLink RX1 1 objectInit, .instanceMethod objectInit, .code objectInit ⟨#[0xb1]⟩ 1 none, .arrayClass .int, .fieldLink RX1 9 "AgainAgain$Likeness" "pairs" "[I"] ++ wsX10)
def wsX6_placeOf : List Cond := .code yX6_placeOf cX6_placeOf 2 (some .int) :: ([])
def wsX6_mine : List Cond := .code yX6_mine cX6_mine 1 (some .int) :: ([])
def wsX6_theirs : List Cond := .code yX6_theirs cX6_theirs 1 (some .int) :: ([])
def wsX2_actionOf : List Cond := .code yX2_actionOf cX2_actionOf 3 (some .int) :: ([.fieldLink RX2 13 "AgainAgain$Machines" "actions" "[I"] ++ wsX20)
def wsX2_nextOf : List Cond := .code yX2_nextOf cX2_nextOf 4 (some .int) :: ([.fieldLink RX2 18 "AgainAgain$Machines" "nexts" "[I"] ++ wsX20)
def wsX1_holds : List Cond := .code yX1_holds cX1_holds 2 (some .boolean) :: ([])
def wsX1_statesLike_r1 : List Cond := [Cond.fieldLink RX1 9 "AgainAgain$Likeness" "pairs" "[I", Cond.methodLink RX1 55 yX6_placeOf, Cond.static yX6_placeOf, Cond.initialized RX6, Cond.code yX6_placeOf cX6_placeOf 2 (some .int), Cond.methodLink RX1 59 yX6_mine, Cond.static yX6_mine, Cond.code yX6_mine cX6_mine 1 (some .int), Cond.methodLink RX1 62 yX6_theirs, Cond.static yX6_theirs, Cond.code yX6_theirs cX6_theirs 1 (some .int), Cond.methodLink RX1 65 yX2_actionOf, Cond.instanceMethod yX2_actionOf, Cond.selects RX2 yX2_actionOf yX2_actionOf, Cond.initialized RX2, Cond.code yX2_actionOf cX2_actionOf 3 (some .int), Cond.fieldLink RX2 13 "AgainAgain$Machines" "actions" "[I", Cond.methodLink RX1 51 yX2_nextOf, Cond.instanceMethod yX2_nextOf, Cond.selects RX2 yX2_nextOf yX2_nextOf, Cond.code yX2_nextOf cX2_nextOf 4 (some .int), Cond.fieldLink RX2 18 "AgainAgain$Machines" "nexts" "[I", Cond.methodLink RX1 41 yX1_holds, Cond.static yX1_holds]
def wsX1_statesLike_r2 : List Cond := [Cond.initialized RX1, Cond.code yX1_holds cX1_holds 2 (some .boolean)]
def wsX1_statesLike : List Cond := .code yX1_statesLike cX1_statesLike 13 (some .boolean) :: ((wsX1_statesLike_r1 ++ wsX1_statesLike_r2) ++ wsX10 ++ wsX20)
def wsX1_areLike_r1 : List Cond := [Cond.methodLink RX1 15 yX1_statesLike, Cond.instanceMethod yX1_statesLike, Cond.selects RX1 yX1_statesLike yX1_statesLike, Cond.initialized RX1, Cond.code yX1_statesLike cX1_statesLike 13 (some .boolean), Cond.fieldLink RX1 9 "AgainAgain$Likeness" "pairs" "[I", Cond.methodLink RX1 55 yX6_placeOf, Cond.static yX6_placeOf, Cond.initialized RX6, Cond.code yX6_placeOf cX6_placeOf 2 (some .int), Cond.methodLink RX1 59 yX6_mine, Cond.static yX6_mine, Cond.code yX6_mine cX6_mine 1 (some .int), Cond.methodLink RX1 62 yX6_theirs, Cond.static yX6_theirs, Cond.code yX6_theirs cX6_theirs 1 (some .int), Cond.methodLink RX1 65 yX2_actionOf, Cond.instanceMethod yX2_actionOf, Cond.selects RX2 yX2_actionOf yX2_actionOf, Cond.initialized RX2, Cond.code yX2_actionOf cX2_actionOf 3 (some .int), Cond.fieldLink RX2 13 "AgainAgain$Machines" "actions" "[I", Cond.methodLink RX1 51 yX2_nextOf, Cond.instanceMethod yX2_nextOf]
def wsX1_areLike_r2 : List Cond := [Cond.selects RX2 yX2_nextOf yX2_nextOf, Cond.code yX2_nextOf cX2_nextOf 4 (some .int), Cond.fieldLink RX2 18 "AgainAgain$Machines" "nexts" "[I", Cond.methodLink RX1 41 yX1_holds, Cond.static yX1_holds, Cond.code yX1_holds cX1_holds 2 (some .boolean)]
def wsX1_areLike : List Cond := .code yX1_areLike cX1_areLike 4 (some .boolean) :: ((wsX1_areLike_r1 ++ wsX1_areLike_r2) ++ wsX10 ++ wsX20)
def wsX2_many : List Cond := .code yX2_many cX2_many 1 (some .int) :: ([.fieldLink RX2 21 "AgainAgain$Machines" "many" "I"] ++ wsX20)
def wsX1_isNew_r1 : List Cond := [Cond.methodLink RX1 29 yX1_areLike, Cond.instanceMethod yX1_areLike, Cond.selects RX1 yX1_areLike yX1_areLike, Cond.initialized RX1, Cond.code yX1_areLike cX1_areLike 4 (some .boolean), Cond.methodLink RX1 15 yX1_statesLike, Cond.instanceMethod yX1_statesLike, Cond.selects RX1 yX1_statesLike yX1_statesLike, Cond.code yX1_statesLike cX1_statesLike 13 (some .boolean), Cond.fieldLink RX1 9 "AgainAgain$Likeness" "pairs" "[I", Cond.methodLink RX1 55 yX6_placeOf, Cond.static yX6_placeOf, Cond.initialized RX6, Cond.code yX6_placeOf cX6_placeOf 2 (some .int), Cond.methodLink RX1 59 yX6_mine, Cond.static yX6_mine, Cond.code yX6_mine cX6_mine 1 (some .int), Cond.methodLink RX1 62 yX6_theirs, Cond.static yX6_theirs, Cond.code yX6_theirs cX6_theirs 1 (some .int), Cond.methodLink RX1 65 yX2_actionOf, Cond.instanceMethod yX2_actionOf, Cond.selects RX2 yX2_actionOf yX2_actionOf, Cond.initialized RX2]
def wsX1_isNew_r2 : List Cond := [Cond.code yX2_actionOf cX2_actionOf 3 (some .int), Cond.fieldLink RX2 13 "AgainAgain$Machines" "actions" "[I", Cond.methodLink RX1 51 yX2_nextOf, Cond.instanceMethod yX2_nextOf, Cond.selects RX2 yX2_nextOf yX2_nextOf, Cond.code yX2_nextOf cX2_nextOf 4 (some .int), Cond.fieldLink RX2 18 "AgainAgain$Machines" "nexts" "[I", Cond.methodLink RX1 41 yX1_holds, Cond.static yX1_holds, Cond.code yX1_holds cX1_holds 2 (some .boolean)]
def wsX1_isNew : List Cond := .code yX1_isNew cX1_isNew 4 (some .boolean) :: ((wsX1_isNew_r1 ++ wsX1_isNew_r2) ++ wsX10 ++ wsX20)
def wsX1_unlikeMachines_r1 : List Cond := [Cond.methodLink RX1 19 yX2_many, Cond.instanceMethod yX2_many, Cond.selects RX2 yX2_many yX2_many, Cond.initialized RX2, Cond.code yX2_many cX2_many 1 (some .int), Cond.fieldLink RX2 21 "AgainAgain$Machines" "many" "I", Cond.methodLink RX1 25 yX1_isNew, Cond.instanceMethod yX1_isNew, Cond.selects RX1 yX1_isNew yX1_isNew, Cond.initialized RX1, Cond.code yX1_isNew cX1_isNew 4 (some .boolean), Cond.methodLink RX1 29 yX1_areLike, Cond.instanceMethod yX1_areLike, Cond.selects RX1 yX1_areLike yX1_areLike, Cond.code yX1_areLike cX1_areLike 4 (some .boolean), Cond.methodLink RX1 15 yX1_statesLike, Cond.instanceMethod yX1_statesLike, Cond.selects RX1 yX1_statesLike yX1_statesLike, Cond.code yX1_statesLike cX1_statesLike 13 (some .boolean), Cond.fieldLink RX1 9 "AgainAgain$Likeness" "pairs" "[I", Cond.methodLink RX1 55 yX6_placeOf, Cond.static yX6_placeOf, Cond.initialized RX6, Cond.code yX6_placeOf cX6_placeOf 2 (some .int)]
def wsX1_unlikeMachines_r2 : List Cond := [Cond.methodLink RX1 59 yX6_mine, Cond.static yX6_mine, Cond.code yX6_mine cX6_mine 1 (some .int), Cond.methodLink RX1 62 yX6_theirs, Cond.static yX6_theirs, Cond.code yX6_theirs cX6_theirs 1 (some .int), Cond.methodLink RX1 65 yX2_actionOf, Cond.instanceMethod yX2_actionOf, Cond.selects RX2 yX2_actionOf yX2_actionOf, Cond.code yX2_actionOf cX2_actionOf 3 (some .int), Cond.fieldLink RX2 13 "AgainAgain$Machines" "actions" "[I", Cond.methodLink RX1 51 yX2_nextOf, Cond.instanceMethod yX2_nextOf, Cond.selects RX2 yX2_nextOf yX2_nextOf, Cond.code yX2_nextOf cX2_nextOf 4 (some .int), Cond.fieldLink RX2 18 "AgainAgain$Machines" "nexts" "[I", Cond.methodLink RX1 41 yX1_holds, Cond.static yX1_holds, Cond.code yX1_holds cX1_holds 2 (some .boolean)]
def wsX1_unlikeMachines : List Cond := .code yX1_unlikeMachines cX1_unlikeMachines 4 (some .int) :: ((wsX1_unlikeMachines_r1 ++ wsX1_unlikeMachines_r2) ++ wsX20 ++ wsX10)
def wsX2_statesOf : List Cond := .code yX2_statesOf cX2_statesOf 2 (some .int) :: ([.fieldLink RX2 9 "AgainAgain$Machines" "sizes" "[I"] ++ wsX20)
def wsX1_reachedStates : List Cond := .code yX1_reachedStates cX1_reachedStates 6 (some .int) :: ([.methodLink RX1 37 yX2_statesOf, .instanceMethod yX2_statesOf, .selects RX2 yX2_statesOf yX2_statesOf, .initialized RX2, .code yX2_statesOf cX2_statesOf 2 (some .int), .fieldLink RX2 9 "AgainAgain$Machines" "sizes" "[I", .methodLink RX1 41 yX1_holds, .static yX1_holds, .initialized RX1, .code yX1_holds cX1_holds 2 (some .boolean), .methodLink RX1 51 yX2_nextOf, .instanceMethod yX2_nextOf, .selects RX2 yX2_nextOf yX2_nextOf, .code yX2_nextOf cX2_nextOf 4 (some .int), .fieldLink RX2 18 "AgainAgain$Machines" "nexts" "[I"] ++ wsX20)
def wsX1_isNewState_r1 : List Cond := [Cond.methodLink RX1 41 yX1_holds, Cond.static yX1_holds, Cond.initialized RX1, Cond.code yX1_holds cX1_holds 2 (some .boolean), Cond.methodLink RX1 15 yX1_statesLike, Cond.instanceMethod yX1_statesLike, Cond.selects RX1 yX1_statesLike yX1_statesLike, Cond.code yX1_statesLike cX1_statesLike 13 (some .boolean), Cond.fieldLink RX1 9 "AgainAgain$Likeness" "pairs" "[I", Cond.methodLink RX1 55 yX6_placeOf, Cond.static yX6_placeOf, Cond.initialized RX6, Cond.code yX6_placeOf cX6_placeOf 2 (some .int), Cond.methodLink RX1 59 yX6_mine, Cond.static yX6_mine, Cond.code yX6_mine cX6_mine 1 (some .int), Cond.methodLink RX1 62 yX6_theirs, Cond.static yX6_theirs, Cond.code yX6_theirs cX6_theirs 1 (some .int), Cond.methodLink RX1 65 yX2_actionOf, Cond.instanceMethod yX2_actionOf, Cond.selects RX2 yX2_actionOf yX2_actionOf, Cond.initialized RX2, Cond.code yX2_actionOf cX2_actionOf 3 (some .int)]
def wsX1_isNewState_r2 : List Cond := [Cond.fieldLink RX2 13 "AgainAgain$Machines" "actions" "[I", Cond.methodLink RX1 51 yX2_nextOf, Cond.instanceMethod yX2_nextOf, Cond.selects RX2 yX2_nextOf yX2_nextOf, Cond.code yX2_nextOf cX2_nextOf 4 (some .int), Cond.fieldLink RX2 18 "AgainAgain$Machines" "nexts" "[I"]
def wsX1_isNewState : List Cond := .code yX1_isNewState cX1_isNewState 6 (some .boolean) :: ((wsX1_isNewState_r1 ++ wsX1_isNewState_r2) ++ wsX10 ++ wsX20)
def wsX1_unlikeStates_r1 : List Cond := [Cond.methodLink RX1 33 yX1_reachedStates, Cond.static yX1_reachedStates, Cond.initialized RX1, Cond.code yX1_reachedStates cX1_reachedStates 6 (some .int), Cond.methodLink RX1 37 yX2_statesOf, Cond.instanceMethod yX2_statesOf, Cond.selects RX2 yX2_statesOf yX2_statesOf, Cond.initialized RX2, Cond.code yX2_statesOf cX2_statesOf 2 (some .int), Cond.fieldLink RX2 9 "AgainAgain$Machines" "sizes" "[I", Cond.methodLink RX1 41 yX1_holds, Cond.static yX1_holds, Cond.code yX1_holds cX1_holds 2 (some .boolean), Cond.methodLink RX1 51 yX2_nextOf, Cond.instanceMethod yX2_nextOf, Cond.selects RX2 yX2_nextOf yX2_nextOf, Cond.code yX2_nextOf cX2_nextOf 4 (some .int), Cond.fieldLink RX2 18 "AgainAgain$Machines" "nexts" "[I", Cond.methodLink RX1 45 yX1_isNewState, Cond.instanceMethod yX1_isNewState, Cond.selects RX1 yX1_isNewState yX1_isNewState, Cond.code yX1_isNewState cX1_isNewState 6 (some .boolean), Cond.methodLink RX1 15 yX1_statesLike, Cond.instanceMethod yX1_statesLike]
def wsX1_unlikeStates_r2 : List Cond := [Cond.selects RX1 yX1_statesLike yX1_statesLike, Cond.code yX1_statesLike cX1_statesLike 13 (some .boolean), Cond.fieldLink RX1 9 "AgainAgain$Likeness" "pairs" "[I", Cond.methodLink RX1 55 yX6_placeOf, Cond.static yX6_placeOf, Cond.initialized RX6, Cond.code yX6_placeOf cX6_placeOf 2 (some .int), Cond.methodLink RX1 59 yX6_mine, Cond.static yX6_mine, Cond.code yX6_mine cX6_mine 1 (some .int), Cond.methodLink RX1 62 yX6_theirs, Cond.static yX6_theirs, Cond.code yX6_theirs cX6_theirs 1 (some .int), Cond.methodLink RX1 65 yX2_actionOf, Cond.instanceMethod yX2_actionOf, Cond.selects RX2 yX2_actionOf yX2_actionOf, Cond.code yX2_actionOf cX2_actionOf 3 (some .int), Cond.fieldLink RX2 13 "AgainAgain$Machines" "actions" "[I"]
def wsX1_unlikeStates : List Cond := .code yX1_unlikeStates cX1_unlikeStates 6 (some .int) :: ((wsX1_unlikeStates_r1 ++ wsX1_unlikeStates_r2) ++ wsX20 ++ wsX10)
def wsX2_init : List Cond := .code yX2_init cX2_init 1 none :: ([.methodLink RX2 1 objectInit, .instanceMethod objectInit, .code objectInit ⟨#[0xb1]⟩ 1 none, .arrayClass .int, .fieldLink RX2 9 "AgainAgain$Machines" "sizes" "[I", .fieldLink RX2 13 "AgainAgain$Machines" "actions" "[I", .fieldLink RX2 18 "AgainAgain$Machines" "nexts" "[I", .fieldLink RX2 21 "AgainAgain$Machines" "many" "I"] ++ wsX20)
def wsX2_isFull : List Cond := .code yX2_isFull cX2_isFull 1 (some .boolean) :: ([.fieldLink RX2 21 "AgainAgain$Machines" "many" "I"] ++ wsX20)
def wsX2_has : List Cond := .code yX2_has cX2_has 2 (some .boolean) :: ([.fieldLink RX2 21 "AgainAgain$Machines" "many" "I"] ++ wsX20)
def wsX2_hasState : List Cond := .code yX2_hasState cX2_hasState 3 (some .boolean) :: ([.fieldLink RX2 9 "AgainAgain$Machines" "sizes" "[I", .methodLink RX2 25 yX2_has, .instanceMethod yX2_has, .selects RX2 yX2_has yX2_has, .initialized RX2, .code yX2_has cX2_has 2 (some .boolean), .fieldLink RX2 21 "AgainAgain$Machines" "many" "I"] ++ wsX20)
def wsX2_setAction : List Cond := .code yX2_setAction cX2_setAction 4 none :: ([.fieldLink RX2 13 "AgainAgain$Machines" "actions" "[I"] ++ wsX20)
def wsX2_setNext : List Cond := .code yX2_setNext cX2_setNext 5 none :: ([.fieldLink RX2 18 "AgainAgain$Machines" "nexts" "[I"] ++ wsX20)
def wsX2_add : List Cond := .code yX2_add cX2_add 5 (some .int) :: ([.fieldLink RX2 21 "AgainAgain$Machines" "many" "I", .fieldLink RX2 9 "AgainAgain$Machines" "sizes" "[I", .methodLink RX2 29 yX2_setAction, .instanceMethod yX2_setAction, .selects RX2 yX2_setAction yX2_setAction, .initialized RX2, .code yX2_setAction cX2_setAction 4 none, .fieldLink RX2 13 "AgainAgain$Machines" "actions" "[I", .methodLink RX2 33 yX2_setNext, .instanceMethod yX2_setNext, .selects RX2 yX2_setNext yX2_setNext, .code yX2_setNext cX2_setNext 5 none, .fieldLink RX2 18 "AgainAgain$Machines" "nexts" "[I"] ++ wsX20)
def wsX2_removeLatest : List Cond := .code yX2_removeLatest cX2_removeLatest 1 (some .int) :: ([.fieldLink RX2 21 "AgainAgain$Machines" "many" "I"] ++ wsX20)
def wsX6_init : List Cond := .code yX6_init cX6_init 1 none :: ([.methodLink RX6 5 objectInit, .instanceMethod objectInit, .code objectInit ⟨#[0xb1]⟩ 1 none, .arrayClass .int, .fieldLink RX6 11 "AgainAgain$Walk" "nexts" "[I", .fieldLink RX6 15 "AgainAgain$Walk" "gains" "[I", .fieldLink RX6 18 "AgainAgain$Walk" "firstMet" "[I", .fieldLink RX6 21 "AgainAgain$Walk" "path" "[I", .fieldLink RX6 24 "AgainAgain$Walk" "tail" "I", .fieldLink RX6 28 "AgainAgain$Walk" "ring" "I"] ++ wsX60)
def wsX4_init : List Cond := .code yX4_init cX4_init 1 none :: ([.methodLink RX4 1 objectInit, .instanceMethod objectInit, .code objectInit ⟨#[0xb1]⟩ 1 none, .fieldLink RX4 7 "AgainAgain$Ratio" "top" "J", .fieldLink RX4 13 "AgainAgain$Ratio" "bottom" "J"] ++ wsX40)
def wsX3_init_r1 : List Cond := [Cond.methodLink RX3 3 objectInit, Cond.instanceMethod objectInit, Cond.code objectInit ⟨#[0xb1]⟩ 1 none, Cond.arrayClass .int, Cond.fieldLink RX3 11 "AgainAgain$Plans" "plans" "[I", Cond.arrayClass .long, Cond.fieldLink RX3 15 "AgainAgain$Plans" "tops" "[J", Cond.fieldLink RX3 19 "AgainAgain$Plans" "bottoms" "[J", Cond.classLink RX3 22 RX6, Cond.instantiable RX6 6, Cond.initialized RX6, Cond.fieldLink RX3 25 "AgainAgain$Plans" "walk" "LAgainAgain$Walk;", Cond.classLink RX3 29 RX4, Cond.instantiable RX4 2, Cond.initialized RX4, Cond.fieldLink RX3 32 "AgainAgain$Plans" "tried" "LAgainAgain$Ratio;", Cond.instanceMethod yX6_init, Cond.code yX6_init cX6_init 1 none, Cond.methodLink RX6 5 objectInit, Cond.fieldLink RX6 11 "AgainAgain$Walk" "nexts" "[I", Cond.fieldLink RX6 15 "AgainAgain$Walk" "gains" "[I", Cond.fieldLink RX6 18 "AgainAgain$Walk" "firstMet" "[I", Cond.fieldLink RX6 21 "AgainAgain$Walk" "path" "[I", Cond.fieldLink RX6 24 "AgainAgain$Walk" "tail" "I"]
def wsX3_init_r2 : List Cond := [Cond.fieldLink RX6 28 "AgainAgain$Walk" "ring" "I", Cond.instanceMethod yX4_init, Cond.code yX4_init cX4_init 1 none, Cond.methodLink RX4 1 objectInit, Cond.fieldLink RX4 7 "AgainAgain$Ratio" "top" "J", Cond.fieldLink RX4 13 "AgainAgain$Ratio" "bottom" "J"]
def wsX3_init : List Cond := .code yX3_init cX3_init 1 none :: ((wsX3_init_r1 ++ wsX3_init_r2) ++ wsX30 ++ wsX60 ++ wsX40)
def wsX3_plansAgainst : List Cond := .code yX3_plansAgainst cX3_plansAgainst 3 (some .int) :: ([])
def wsX3_slotOf : List Cond := .code yX3_slotOf cX3_slotOf 2 (some .int) :: ([])
def wsX6_takePlan : List Cond := .code yX6_takePlan cX6_takePlan 8 none :: ([.fieldLink RX6 11 "AgainAgain$Walk" "nexts" "[I", .fieldLink RX6 15 "AgainAgain$Walk" "gains" "[I", .methodLink RX6 31 yX2_statesOf, .instanceMethod yX2_statesOf, .selects RX2 yX2_statesOf yX2_statesOf, .initialized RX2, .code yX2_statesOf cX2_statesOf 2 (some .int), .fieldLink RX2 9 "AgainAgain$Machines" "sizes" "[I", .methodLink RX6 42 yX2_nextOf, .instanceMethod yX2_nextOf, .selects RX2 yX2_nextOf yX2_nextOf, .code yX2_nextOf cX2_nextOf 4 (some .int), .fieldLink RX2 18 "AgainAgain$Machines" "nexts" "[I", .methodLink RX6 35 yX2_actionOf, .instanceMethod yX2_actionOf, .selects RX2 yX2_actionOf yX2_actionOf, .code yX2_actionOf cX2_actionOf 3 (some .int), .fieldLink RX2 13 "AgainAgain$Machines" "actions" "[I", .methodLink RX6 46 yX0_gain, .instanceMethod yX0_gain, .selects RX0 yX0_gain yX0_gain, .initialized RX0, .code yX0_gain cX0_gain 3 (some .int), .fieldLink RX0 9 "AgainAgain$Game" "gains" "[I"] ++ wsX60 ++ wsX20 ++ wsX00)
def wsJ7_fill_53178 : List Cond := .code yJ7_fill_53178 cJ7_fill_53178 4 none :: ([])
def wsX6_startAt : List Cond := .code yX6_startAt cX6_startAt 4 none :: ([.fieldLink RX6 18 "AgainAgain$Walk" "firstMet" "[I", .fieldLink RX6 21 "AgainAgain$Walk" "path" "[I", .fieldLink RX6 11 "AgainAgain$Walk" "nexts" "[I", .fieldLink RX6 24 "AgainAgain$Walk" "tail" "I", .fieldLink RX6 28 "AgainAgain$Walk" "ring" "I", .methodLink RX6 51 yJ7_fill_53178, .static yJ7_fill_53178, .initialized RJ7, .code yJ7_fill_53178 cJ7_fill_53178 4 none] ++ wsX60)
def wsX6_power : List Cond := .code yX6_power cX6_power 6 (some .long) :: ([])
def wsX6_weighedAlong : List Cond := .code yX6_weighedAlong cX6_weighedAlong 12 (some .long) :: ([.fieldLink RX6 15 "AgainAgain$Walk" "gains" "[I", .fieldLink RX6 21 "AgainAgain$Walk" "path" "[I"] ++ wsX60)
def wsX4_greatestShared : List Cond := .code yX4_greatestShared cX4_greatestShared 11 (some .long) :: ([])
def wsX4_become : List Cond := .code yX4_become cX4_become 7 none :: ([.methodLink RX4 16 Lib.MathLoose.abs_long.x, .static Lib.MathLoose.abs_long.x, .initialized "java/lang/Math", .code Lib.MathLoose.abs_long.x Lib.MathLoose.abs_long.code 2 (some .long), .fieldLink RX4 7 "AgainAgain$Ratio" "top" "J", .fieldLink RX4 13 "AgainAgain$Ratio" "bottom" "J", .methodLink RX4 22 yX4_greatestShared, .static yX4_greatestShared, .initialized RX4, .code yX4_greatestShared cX4_greatestShared 11 (some .long)] ++ wsX40)
def wsX6_worthInto_r1 : List Cond := [Cond.fieldLink RX6 28 "AgainAgain$Walk" "ring" "I", Cond.fieldLink RX6 24 "AgainAgain$Walk" "tail" "I", Cond.methodLink RX6 67 yX0_rateOver, Cond.instanceMethod yX0_rateOver, Cond.selects RX0 yX0_rateOver yX0_rateOver, Cond.initialized RX0, Cond.code yX0_rateOver cX0_rateOver 1 (some .long), Cond.fieldLink RX0 13 "AgainAgain$Game" "over" "J", Cond.methodLink RX6 71 yX0_rateUnder, Cond.instanceMethod yX0_rateUnder, Cond.selects RX0 yX0_rateUnder yX0_rateUnder, Cond.code yX0_rateUnder cX0_rateUnder 1 (some .long), Cond.fieldLink RX0 19 "AgainAgain$Game" "under" "J", Cond.methodLink RX6 74 yX6_power, Cond.static yX6_power, Cond.initialized RX6, Cond.code yX6_power cX6_power 6 (some .long), Cond.methodLink RX6 78 yX6_weighedAlong, Cond.instanceMethod yX6_weighedAlong, Cond.selects RX6 yX6_weighedAlong yX6_weighedAlong, Cond.code yX6_weighedAlong cX6_weighedAlong 12 (some .long), Cond.fieldLink RX6 15 "AgainAgain$Walk" "gains" "[I", Cond.fieldLink RX6 21 "AgainAgain$Walk" "path" "[I", Cond.methodLink RX6 82 yX4_become]
def wsX6_worthInto_r2 : List Cond := [Cond.instanceMethod yX4_become, Cond.selects RX4 yX4_become yX4_become, Cond.initialized RX4, Cond.code yX4_become cX4_become 7 none, Cond.methodLink RX4 16 Lib.MathLoose.abs_long.x, Cond.static Lib.MathLoose.abs_long.x, Cond.initialized "java/lang/Math", Cond.code Lib.MathLoose.abs_long.x Lib.MathLoose.abs_long.code 2 (some .long), Cond.fieldLink RX4 7 "AgainAgain$Ratio" "top" "J", Cond.fieldLink RX4 13 "AgainAgain$Ratio" "bottom" "J", Cond.methodLink RX4 22 yX4_greatestShared, Cond.static yX4_greatestShared, Cond.code yX4_greatestShared cX4_greatestShared 11 (some .long)]
def wsX6_worthInto : List Cond := .code yX6_worthInto cX6_worthInto 11 none :: ((wsX6_worthInto_r1 ++ wsX6_worthInto_r2) ++ wsX60 ++ wsX00 ++ wsX40)
def wsX3_weigh_r1 : List Cond := [Cond.fieldLink RX3 25 "AgainAgain$Plans" "walk" "LAgainAgain$Walk;", Cond.methodLink RX3 38 yX6_takePlan, Cond.instanceMethod yX6_takePlan, Cond.selects RX6 yX6_takePlan yX6_takePlan, Cond.initialized RX6, Cond.code yX6_takePlan cX6_takePlan 8 none, Cond.fieldLink RX6 11 "AgainAgain$Walk" "nexts" "[I", Cond.fieldLink RX6 15 "AgainAgain$Walk" "gains" "[I", Cond.methodLink RX6 31 yX2_statesOf, Cond.instanceMethod yX2_statesOf, Cond.selects RX2 yX2_statesOf yX2_statesOf, Cond.initialized RX2, Cond.code yX2_statesOf cX2_statesOf 2 (some .int), Cond.fieldLink RX2 9 "AgainAgain$Machines" "sizes" "[I", Cond.methodLink RX6 42 yX2_nextOf, Cond.instanceMethod yX2_nextOf, Cond.selects RX2 yX2_nextOf yX2_nextOf, Cond.code yX2_nextOf cX2_nextOf 4 (some .int), Cond.fieldLink RX2 18 "AgainAgain$Machines" "nexts" "[I", Cond.methodLink RX6 35 yX2_actionOf, Cond.instanceMethod yX2_actionOf, Cond.selects RX2 yX2_actionOf yX2_actionOf, Cond.code yX2_actionOf cX2_actionOf 3 (some .int), Cond.fieldLink RX2 13 "AgainAgain$Machines" "actions" "[I"]
def wsX3_weigh_r2 : List Cond := [Cond.methodLink RX6 46 yX0_gain, Cond.instanceMethod yX0_gain, Cond.selects RX0 yX0_gain yX0_gain, Cond.initialized RX0, Cond.code yX0_gain cX0_gain 3 (some .int), Cond.fieldLink RX0 9 "AgainAgain$Game" "gains" "[I", Cond.methodLink RX3 42 yX6_startAt, Cond.instanceMethod yX6_startAt, Cond.selects RX6 yX6_startAt yX6_startAt, Cond.code yX6_startAt cX6_startAt 4 none, Cond.fieldLink RX6 18 "AgainAgain$Walk" "firstMet" "[I", Cond.fieldLink RX6 21 "AgainAgain$Walk" "path" "[I", Cond.fieldLink RX6 24 "AgainAgain$Walk" "tail" "I", Cond.fieldLink RX6 28 "AgainAgain$Walk" "ring" "I", Cond.methodLink RX6 51 yJ7_fill_53178, Cond.static yJ7_fill_53178, Cond.initialized RJ7, Cond.code yJ7_fill_53178 cJ7_fill_53178 4 none, Cond.methodLink RX3 46 yX6_worthInto, Cond.instanceMethod yX6_worthInto, Cond.selects RX6 yX6_worthInto yX6_worthInto, Cond.code yX6_worthInto cX6_worthInto 11 none, Cond.methodLink RX6 67 yX0_rateOver, Cond.instanceMethod yX0_rateOver]
def wsX3_weigh_r3 : List Cond := [Cond.selects RX0 yX0_rateOver yX0_rateOver, Cond.code yX0_rateOver cX0_rateOver 1 (some .long), Cond.fieldLink RX0 13 "AgainAgain$Game" "over" "J", Cond.methodLink RX6 71 yX0_rateUnder, Cond.instanceMethod yX0_rateUnder, Cond.selects RX0 yX0_rateUnder yX0_rateUnder, Cond.code yX0_rateUnder cX0_rateUnder 1 (some .long), Cond.fieldLink RX0 19 "AgainAgain$Game" "under" "J", Cond.methodLink RX6 74 yX6_power, Cond.static yX6_power, Cond.code yX6_power cX6_power 6 (some .long), Cond.methodLink RX6 78 yX6_weighedAlong, Cond.instanceMethod yX6_weighedAlong, Cond.selects RX6 yX6_weighedAlong yX6_weighedAlong, Cond.code yX6_weighedAlong cX6_weighedAlong 12 (some .long), Cond.methodLink RX6 82 yX4_become, Cond.instanceMethod yX4_become, Cond.selects RX4 yX4_become yX4_become, Cond.initialized RX4, Cond.code yX4_become cX4_become 7 none, Cond.methodLink RX4 16 Lib.MathLoose.abs_long.x, Cond.static Lib.MathLoose.abs_long.x, Cond.initialized "java/lang/Math", Cond.code Lib.MathLoose.abs_long.x Lib.MathLoose.abs_long.code 2 (some .long)]
def wsX3_weigh_r4 : List Cond := [Cond.fieldLink RX4 7 "AgainAgain$Ratio" "top" "J", Cond.fieldLink RX4 13 "AgainAgain$Ratio" "bottom" "J", Cond.methodLink RX4 22 yX4_greatestShared, Cond.static yX4_greatestShared, Cond.code yX4_greatestShared cX4_greatestShared 11 (some .long)]
def wsX3_weigh : List Cond := .code yX3_weigh cX3_weigh 7 none :: ((wsX3_weigh_r1 ++ (wsX3_weigh_r2 ++ (wsX3_weigh_r3 ++ wsX3_weigh_r4))) ++ wsX30 ++ wsX60 ++ wsX20 ++ wsX00 ++ wsX40)
def wsX4_part : List Cond := .code yX4_part cX4_part 2 (some .long) :: ([.fieldLink RX4 7 "AgainAgain$Ratio" "top" "J", .fieldLink RX4 13 "AgainAgain$Ratio" "bottom" "J"] ++ wsX40)
def wsX3_keep : List Cond := .code yX3_keep cX3_keep 3 none :: ([.fieldLink RX3 11 "AgainAgain$Plans" "plans" "[I", .fieldLink RX3 15 "AgainAgain$Plans" "tops" "[J", .fieldLink RX3 32 "AgainAgain$Plans" "tried" "LAgainAgain$Ratio;", .fieldLink RX3 19 "AgainAgain$Plans" "bottoms" "[J", .methodLink RX3 73 yX4_part, .instanceMethod yX4_part, .selects RX4 yX4_part yX4_part, .initialized RX4, .code yX4_part cX4_part 2 (some .long), .fieldLink RX4 7 "AgainAgain$Ratio" "top" "J", .fieldLink RX4 13 "AgainAgain$Ratio" "bottom" "J"] ++ wsX30 ++ wsX40)
def wsJ13_compare_74951 : List Cond := .code yJ13_compare_74951 cJ13_compare_74951 4 (some .int) :: ([])
def wsX4_compareWith : List Cond := .code yX4_compareWith cX4_compareWith 5 (some .int) :: ([.fieldLink RX4 7 "AgainAgain$Ratio" "top" "J", .fieldLink RX4 13 "AgainAgain$Ratio" "bottom" "J", .methodLink RX4 26 yJ13_compare_74951, .static yJ13_compare_74951, .initialized RJ13, .code yJ13_compare_74951 cJ13_compare_74951 4 (some .int)] ++ wsX40)
def wsX3_bestCompared : List Cond := .code yX3_bestCompared cX3_bestCompared 4 (some .int) :: ([.fieldLink RX3 15 "AgainAgain$Plans" "tops" "[J", .fieldLink RX3 19 "AgainAgain$Plans" "bottoms" "[J", .methodLink RX3 54 yX3_slotOf, .static yX3_slotOf, .initialized RX3, .code yX3_slotOf cX3_slotOf 2 (some .int), .methodLink RX3 80 yX4_compareWith, .instanceMethod yX4_compareWith, .selects RX4 yX4_compareWith yX4_compareWith, .initialized RX4, .code yX4_compareWith cX4_compareWith 5 (some .int), .fieldLink RX4 7 "AgainAgain$Ratio" "top" "J", .fieldLink RX4 13 "AgainAgain$Ratio" "bottom" "J", .methodLink RX4 26 yJ13_compare_74951, .static yJ13_compare_74951, .initialized RJ13, .code yJ13_compare_74951 cJ13_compare_74951 4 (some .int)] ++ wsX30 ++ wsX40)
def wsX3_learn_r1 : List Cond := [Cond.fieldLink RX3 32 "AgainAgain$Plans" "tried" "LAgainAgain$Ratio;", Cond.methodLink RX3 50 yX3_weigh, Cond.instanceMethod yX3_weigh, Cond.selects RX3 yX3_weigh yX3_weigh, Cond.initialized RX3, Cond.code yX3_weigh cX3_weigh 7 none, Cond.fieldLink RX3 25 "AgainAgain$Plans" "walk" "LAgainAgain$Walk;", Cond.methodLink RX3 38 yX6_takePlan, Cond.instanceMethod yX6_takePlan, Cond.selects RX6 yX6_takePlan yX6_takePlan, Cond.initialized RX6, Cond.code yX6_takePlan cX6_takePlan 8 none, Cond.fieldLink RX6 11 "AgainAgain$Walk" "nexts" "[I", Cond.fieldLink RX6 15 "AgainAgain$Walk" "gains" "[I", Cond.methodLink RX6 31 yX2_statesOf, Cond.instanceMethod yX2_statesOf, Cond.selects RX2 yX2_statesOf yX2_statesOf, Cond.initialized RX2, Cond.code yX2_statesOf cX2_statesOf 2 (some .int), Cond.fieldLink RX2 9 "AgainAgain$Machines" "sizes" "[I", Cond.methodLink RX6 42 yX2_nextOf, Cond.instanceMethod yX2_nextOf, Cond.selects RX2 yX2_nextOf yX2_nextOf, Cond.code yX2_nextOf cX2_nextOf 4 (some .int)]
def wsX3_learn_r2 : List Cond := [Cond.fieldLink RX2 18 "AgainAgain$Machines" "nexts" "[I", Cond.methodLink RX6 35 yX2_actionOf, Cond.instanceMethod yX2_actionOf, Cond.selects RX2 yX2_actionOf yX2_actionOf, Cond.code yX2_actionOf cX2_actionOf 3 (some .int), Cond.fieldLink RX2 13 "AgainAgain$Machines" "actions" "[I", Cond.methodLink RX6 46 yX0_gain, Cond.instanceMethod yX0_gain, Cond.selects RX0 yX0_gain yX0_gain, Cond.initialized RX0, Cond.code yX0_gain cX0_gain 3 (some .int), Cond.fieldLink RX0 9 "AgainAgain$Game" "gains" "[I", Cond.methodLink RX3 42 yX6_startAt, Cond.instanceMethod yX6_startAt, Cond.selects RX6 yX6_startAt yX6_startAt, Cond.code yX6_startAt cX6_startAt 4 none, Cond.fieldLink RX6 18 "AgainAgain$Walk" "firstMet" "[I", Cond.fieldLink RX6 21 "AgainAgain$Walk" "path" "[I", Cond.fieldLink RX6 24 "AgainAgain$Walk" "tail" "I", Cond.fieldLink RX6 28 "AgainAgain$Walk" "ring" "I", Cond.methodLink RX6 51 yJ7_fill_53178, Cond.static yJ7_fill_53178, Cond.initialized RJ7, Cond.code yJ7_fill_53178 cJ7_fill_53178 4 none]
def wsX3_learn_r3 : List Cond := [Cond.methodLink RX3 46 yX6_worthInto, Cond.instanceMethod yX6_worthInto, Cond.selects RX6 yX6_worthInto yX6_worthInto, Cond.code yX6_worthInto cX6_worthInto 11 none, Cond.methodLink RX6 67 yX0_rateOver, Cond.instanceMethod yX0_rateOver, Cond.selects RX0 yX0_rateOver yX0_rateOver, Cond.code yX0_rateOver cX0_rateOver 1 (some .long), Cond.fieldLink RX0 13 "AgainAgain$Game" "over" "J", Cond.methodLink RX6 71 yX0_rateUnder, Cond.instanceMethod yX0_rateUnder, Cond.selects RX0 yX0_rateUnder yX0_rateUnder, Cond.code yX0_rateUnder cX0_rateUnder 1 (some .long), Cond.fieldLink RX0 19 "AgainAgain$Game" "under" "J", Cond.methodLink RX6 74 yX6_power, Cond.static yX6_power, Cond.code yX6_power cX6_power 6 (some .long), Cond.methodLink RX6 78 yX6_weighedAlong, Cond.instanceMethod yX6_weighedAlong, Cond.selects RX6 yX6_weighedAlong yX6_weighedAlong, Cond.code yX6_weighedAlong cX6_weighedAlong 12 (some .long), Cond.methodLink RX6 82 yX4_become, Cond.instanceMethod yX4_become, Cond.selects RX4 yX4_become yX4_become]
def wsX3_learn_r4 : List Cond := [Cond.initialized RX4, Cond.code yX4_become cX4_become 7 none, Cond.methodLink RX4 16 Lib.MathLoose.abs_long.x, Cond.static Lib.MathLoose.abs_long.x, Cond.initialized "java/lang/Math", Cond.code Lib.MathLoose.abs_long.x Lib.MathLoose.abs_long.code 2 (some .long), Cond.fieldLink RX4 7 "AgainAgain$Ratio" "top" "J", Cond.fieldLink RX4 13 "AgainAgain$Ratio" "bottom" "J", Cond.methodLink RX4 22 yX4_greatestShared, Cond.static yX4_greatestShared, Cond.code yX4_greatestShared cX4_greatestShared 11 (some .long), Cond.methodLink RX3 54 yX3_slotOf, Cond.static yX3_slotOf, Cond.code yX3_slotOf cX3_slotOf 2 (some .int), Cond.methodLink RX3 58 yX3_keep, Cond.instanceMethod yX3_keep, Cond.selects RX3 yX3_keep yX3_keep, Cond.code yX3_keep cX3_keep 3 none, Cond.fieldLink RX3 11 "AgainAgain$Plans" "plans" "[I", Cond.fieldLink RX3 15 "AgainAgain$Plans" "tops" "[J", Cond.fieldLink RX3 19 "AgainAgain$Plans" "bottoms" "[J", Cond.methodLink RX3 73 yX4_part, Cond.instanceMethod yX4_part, Cond.selects RX4 yX4_part yX4_part]
def wsX3_learn_r5 : List Cond := [Cond.code yX4_part cX4_part 2 (some .long), Cond.methodLink RX3 62 yX2_statesOf, Cond.methodLink RX3 66 yX3_plansAgainst, Cond.static yX3_plansAgainst, Cond.code yX3_plansAgainst cX3_plansAgainst 3 (some .int), Cond.methodLink RX3 69 yX3_bestCompared, Cond.instanceMethod yX3_bestCompared, Cond.selects RX3 yX3_bestCompared yX3_bestCompared, Cond.code yX3_bestCompared cX3_bestCompared 4 (some .int), Cond.methodLink RX3 80 yX4_compareWith, Cond.instanceMethod yX4_compareWith, Cond.selects RX4 yX4_compareWith yX4_compareWith, Cond.code yX4_compareWith cX4_compareWith 5 (some .int), Cond.methodLink RX4 26 yJ13_compare_74951, Cond.static yJ13_compare_74951, Cond.initialized RJ13, Cond.code yJ13_compare_74951 cJ13_compare_74951 4 (some .int)]
def wsX3_learn : List Cond := .code yX3_learn cX3_learn 6 none :: ((wsX3_learn_r1 ++ (wsX3_learn_r2 ++ (wsX3_learn_r3 ++ (wsX3_learn_r4 ++ wsX3_learn_r5)))) ++ wsX30 ++ wsX60 ++ wsX20 ++ wsX00 ++ wsX40)
def wsX3_learnAll_r1 : List Cond := [Cond.methodLink RX3 62 yX2_statesOf, Cond.instanceMethod yX2_statesOf, Cond.selects RX2 yX2_statesOf yX2_statesOf, Cond.initialized RX2, Cond.code yX2_statesOf cX2_statesOf 2 (some .int), Cond.fieldLink RX2 9 "AgainAgain$Machines" "sizes" "[I", Cond.methodLink RX3 77 yX3_learn, Cond.instanceMethod yX3_learn, Cond.selects RX3 yX3_learn yX3_learn, Cond.initialized RX3, Cond.code yX3_learn cX3_learn 6 none, Cond.fieldLink RX3 32 "AgainAgain$Plans" "tried" "LAgainAgain$Ratio;", Cond.methodLink RX3 50 yX3_weigh, Cond.instanceMethod yX3_weigh, Cond.selects RX3 yX3_weigh yX3_weigh, Cond.code yX3_weigh cX3_weigh 7 none, Cond.fieldLink RX3 25 "AgainAgain$Plans" "walk" "LAgainAgain$Walk;", Cond.methodLink RX3 38 yX6_takePlan, Cond.instanceMethod yX6_takePlan, Cond.selects RX6 yX6_takePlan yX6_takePlan, Cond.initialized RX6, Cond.code yX6_takePlan cX6_takePlan 8 none, Cond.fieldLink RX6 11 "AgainAgain$Walk" "nexts" "[I", Cond.fieldLink RX6 15 "AgainAgain$Walk" "gains" "[I"]
def wsX3_learnAll_r2 : List Cond := [Cond.methodLink RX6 31 yX2_statesOf, Cond.methodLink RX6 42 yX2_nextOf, Cond.instanceMethod yX2_nextOf, Cond.selects RX2 yX2_nextOf yX2_nextOf, Cond.code yX2_nextOf cX2_nextOf 4 (some .int), Cond.fieldLink RX2 18 "AgainAgain$Machines" "nexts" "[I", Cond.methodLink RX6 35 yX2_actionOf, Cond.instanceMethod yX2_actionOf, Cond.selects RX2 yX2_actionOf yX2_actionOf, Cond.code yX2_actionOf cX2_actionOf 3 (some .int), Cond.fieldLink RX2 13 "AgainAgain$Machines" "actions" "[I", Cond.methodLink RX6 46 yX0_gain, Cond.instanceMethod yX0_gain, Cond.selects RX0 yX0_gain yX0_gain, Cond.initialized RX0, Cond.code yX0_gain cX0_gain 3 (some .int), Cond.fieldLink RX0 9 "AgainAgain$Game" "gains" "[I", Cond.methodLink RX3 42 yX6_startAt, Cond.instanceMethod yX6_startAt, Cond.selects RX6 yX6_startAt yX6_startAt, Cond.code yX6_startAt cX6_startAt 4 none, Cond.fieldLink RX6 18 "AgainAgain$Walk" "firstMet" "[I", Cond.fieldLink RX6 21 "AgainAgain$Walk" "path" "[I", Cond.fieldLink RX6 24 "AgainAgain$Walk" "tail" "I"]
def wsX3_learnAll_r3 : List Cond := [Cond.fieldLink RX6 28 "AgainAgain$Walk" "ring" "I", Cond.methodLink RX6 51 yJ7_fill_53178, Cond.static yJ7_fill_53178, Cond.initialized RJ7, Cond.code yJ7_fill_53178 cJ7_fill_53178 4 none, Cond.methodLink RX3 46 yX6_worthInto, Cond.instanceMethod yX6_worthInto, Cond.selects RX6 yX6_worthInto yX6_worthInto, Cond.code yX6_worthInto cX6_worthInto 11 none, Cond.methodLink RX6 67 yX0_rateOver, Cond.instanceMethod yX0_rateOver, Cond.selects RX0 yX0_rateOver yX0_rateOver, Cond.code yX0_rateOver cX0_rateOver 1 (some .long), Cond.fieldLink RX0 13 "AgainAgain$Game" "over" "J", Cond.methodLink RX6 71 yX0_rateUnder, Cond.instanceMethod yX0_rateUnder, Cond.selects RX0 yX0_rateUnder yX0_rateUnder, Cond.code yX0_rateUnder cX0_rateUnder 1 (some .long), Cond.fieldLink RX0 19 "AgainAgain$Game" "under" "J", Cond.methodLink RX6 74 yX6_power, Cond.static yX6_power, Cond.code yX6_power cX6_power 6 (some .long), Cond.methodLink RX6 78 yX6_weighedAlong, Cond.instanceMethod yX6_weighedAlong]
def wsX3_learnAll_r4 : List Cond := [Cond.selects RX6 yX6_weighedAlong yX6_weighedAlong, Cond.code yX6_weighedAlong cX6_weighedAlong 12 (some .long), Cond.methodLink RX6 82 yX4_become, Cond.instanceMethod yX4_become, Cond.selects RX4 yX4_become yX4_become, Cond.initialized RX4, Cond.code yX4_become cX4_become 7 none, Cond.methodLink RX4 16 Lib.MathLoose.abs_long.x, Cond.static Lib.MathLoose.abs_long.x, Cond.initialized "java/lang/Math", Cond.code Lib.MathLoose.abs_long.x Lib.MathLoose.abs_long.code 2 (some .long), Cond.fieldLink RX4 7 "AgainAgain$Ratio" "top" "J", Cond.fieldLink RX4 13 "AgainAgain$Ratio" "bottom" "J", Cond.methodLink RX4 22 yX4_greatestShared, Cond.static yX4_greatestShared, Cond.code yX4_greatestShared cX4_greatestShared 11 (some .long), Cond.methodLink RX3 54 yX3_slotOf, Cond.static yX3_slotOf, Cond.code yX3_slotOf cX3_slotOf 2 (some .int), Cond.methodLink RX3 58 yX3_keep, Cond.instanceMethod yX3_keep, Cond.selects RX3 yX3_keep yX3_keep, Cond.code yX3_keep cX3_keep 3 none, Cond.fieldLink RX3 11 "AgainAgain$Plans" "plans" "[I"]
def wsX3_learnAll_r5 : List Cond := [Cond.fieldLink RX3 15 "AgainAgain$Plans" "tops" "[J", Cond.fieldLink RX3 19 "AgainAgain$Plans" "bottoms" "[J", Cond.methodLink RX3 73 yX4_part, Cond.instanceMethod yX4_part, Cond.selects RX4 yX4_part yX4_part, Cond.code yX4_part cX4_part 2 (some .long), Cond.methodLink RX3 66 yX3_plansAgainst, Cond.static yX3_plansAgainst, Cond.code yX3_plansAgainst cX3_plansAgainst 3 (some .int), Cond.methodLink RX3 69 yX3_bestCompared, Cond.instanceMethod yX3_bestCompared, Cond.selects RX3 yX3_bestCompared yX3_bestCompared, Cond.code yX3_bestCompared cX3_bestCompared 4 (some .int), Cond.methodLink RX3 80 yX4_compareWith, Cond.instanceMethod yX4_compareWith, Cond.selects RX4 yX4_compareWith yX4_compareWith, Cond.code yX4_compareWith cX4_compareWith 5 (some .int), Cond.methodLink RX4 26 yJ13_compare_74951, Cond.static yJ13_compare_74951, Cond.initialized RJ13, Cond.code yJ13_compare_74951 cJ13_compare_74951 4 (some .int)]
def wsX3_learnAll : List Cond := .code yX3_learnAll cX3_learnAll 5 none :: ((wsX3_learnAll_r1 ++ (wsX3_learnAll_r2 ++ (wsX3_learnAll_r3 ++ (wsX3_learnAll_r4 ++ wsX3_learnAll_r5)))) ++ wsX20 ++ wsX30 ++ wsX60 ++ wsX00 ++ wsX40)
def wsX3_bestPlan : List Cond := .code yX3_bestPlan cX3_bestPlan 3 (some .int) :: ([.fieldLink RX3 11 "AgainAgain$Plans" "plans" "[I", .methodLink RX3 54 yX3_slotOf, .static yX3_slotOf, .initialized RX3, .code yX3_slotOf cX3_slotOf 2 (some .int)] ++ wsX30)
def wsX3_bestPart : List Cond := .code yX3_bestPart cX3_bestPart 4 (some .long) :: ([.fieldLink RX3 15 "AgainAgain$Plans" "tops" "[J", .fieldLink RX3 19 "AgainAgain$Plans" "bottoms" "[J", .methodLink RX3 54 yX3_slotOf, .static yX3_slotOf, .initialized RX3, .code yX3_slotOf cX3_slotOf 2 (some .int)] ++ wsX30)
def wsX5_init : List Cond := .code yX5_init cX5_init 1 none :: ([.methodLink RX5 1 objectInit, .instanceMethod objectInit, .code objectInit ⟨#[0xb1]⟩ 1 none, .arrayClass .int, .fieldLink RX5 9 "AgainAgain$Sheets" "lanes" "[I", .fieldLink RX5 13 "AgainAgain$Sheets" "sizes" "[I", .fieldLink RX5 16 "AgainAgain$Sheets" "cells" "[I", .methodLink RX5 19 yJ7_fill_53178, .static yJ7_fill_53178, .initialized RJ7, .code yJ7_fill_53178 cJ7_fill_53178 4 none] ++ wsX50)
def wsX5_isSheet : List Cond := .code yX5_isSheet cX5_isSheet 1 (some .boolean) :: ([])
def wsX5_isLane : List Cond := .code yX5_isLane cX5_isLane 1 (some .boolean) :: ([])
def wsX5_isThere : List Cond := .code yX5_isThere cX5_isThere 2 (some .boolean) :: ([.fieldLink RX5 9 "AgainAgain$Sheets" "lanes" "[I"] ++ wsX50)
def wsX5_laneOf : List Cond := .code yX5_laneOf cX5_laneOf 2 (some .int) :: ([.fieldLink RX5 9 "AgainAgain$Sheets" "lanes" "[I"] ++ wsX50)
def wsX5_cellsOf : List Cond := .code yX5_cellsOf cX5_cellsOf 2 (some .int) :: ([.fieldLink RX5 13 "AgainAgain$Sheets" "sizes" "[I"] ++ wsX50)
def wsJ7_rangeCheck_23922 : List Cond := .code yJ7_rangeCheck_23922 cJ7_rangeCheck_23922 3 none :: ([])
def wsJ7_fill_fda19 : List Cond := .code yJ7_fill_fda19 cJ7_fill_fda19 5 none :: ([.methodLink RJ7 13 yJ7_rangeCheck_23922, .static yJ7_rangeCheck_23922, .initialized RJ7, .code yJ7_rangeCheck_23922 cJ7_rangeCheck_23922 3 none])
def wsX5_layOut : List Cond := .code yX5_layOut cX5_layOut 4 none :: ([.fieldLink RX5 9 "AgainAgain$Sheets" "lanes" "[I", .fieldLink RX5 13 "AgainAgain$Sheets" "sizes" "[I", .fieldLink RX5 16 "AgainAgain$Sheets" "cells" "[I", .methodLink RX5 25 yJ7_fill_fda19, .static yJ7_fill_fda19, .initialized RJ7, .code yJ7_fill_fda19 cJ7_fill_fda19 5 none, .methodLink RJ7 13 yJ7_rangeCheck_23922, .static yJ7_rangeCheck_23922, .code yJ7_rangeCheck_23922 cJ7_rangeCheck_23922 3 none] ++ wsX50)
def wsX5_hasCell : List Cond := .code yX5_hasCell cX5_hasCell 3 (some .boolean) :: ([.fieldLink RX5 13 "AgainAgain$Sheets" "sizes" "[I"] ++ wsX50)
def wsX5_cell : List Cond := .code yX5_cell cX5_cell 3 (some .int) :: ([.fieldLink RX5 16 "AgainAgain$Sheets" "cells" "[I"] ++ wsX50)
def wsX5_lowestBits : List Cond := .code yX5_lowestBits cX5_lowestBits 2 (some .int) :: ([])
def wsX5_setCell : List Cond := .code yX5_setCell cX5_setCell 4 none :: ([.fieldLink RX5 16 "AgainAgain$Sheets" "cells" "[I", .fieldLink RX5 9 "AgainAgain$Sheets" "lanes" "[I", .methodLink RX5 28 yX5_lowestBits, .static yX5_lowestBits, .initialized RX5, .code yX5_lowestBits cX5_lowestBits 2 (some .int)] ++ wsX50)
def wsX6_takeMatch_r1 : List Cond := [Cond.fieldLink RX6 11 "AgainAgain$Walk" "nexts" "[I", Cond.fieldLink RX6 15 "AgainAgain$Walk" "gains" "[I", Cond.methodLink RX6 31 yX2_statesOf, Cond.instanceMethod yX2_statesOf, Cond.selects RX2 yX2_statesOf yX2_statesOf, Cond.initialized RX2, Cond.code yX2_statesOf cX2_statesOf 2 (some .int), Cond.fieldLink RX2 9 "AgainAgain$Machines" "sizes" "[I", Cond.methodLink RX6 35 yX2_actionOf, Cond.instanceMethod yX2_actionOf, Cond.selects RX2 yX2_actionOf yX2_actionOf, Cond.code yX2_actionOf cX2_actionOf 3 (some .int), Cond.fieldLink RX2 13 "AgainAgain$Machines" "actions" "[I", Cond.methodLink RX6 39 yX6_placeOf, Cond.static yX6_placeOf, Cond.initialized RX6, Cond.code yX6_placeOf cX6_placeOf 2 (some .int), Cond.methodLink RX6 42 yX2_nextOf, Cond.instanceMethod yX2_nextOf, Cond.selects RX2 yX2_nextOf yX2_nextOf, Cond.code yX2_nextOf cX2_nextOf 4 (some .int), Cond.fieldLink RX2 18 "AgainAgain$Machines" "nexts" "[I", Cond.methodLink RX6 46 yX0_gain, Cond.instanceMethod yX0_gain]
def wsX6_takeMatch_r2 : List Cond := [Cond.selects RX0 yX0_gain yX0_gain, Cond.initialized RX0, Cond.code yX0_gain cX0_gain 3 (some .int), Cond.fieldLink RX0 9 "AgainAgain$Game" "gains" "[I"]
def wsX6_takeMatch : List Cond := .code yX6_takeMatch cX6_takeMatch 9 none :: ((wsX6_takeMatch_r1 ++ wsX6_takeMatch_r2) ++ wsX60 ++ wsX20 ++ wsX00)
def wsX6_tail : List Cond := .code yX6_tail cX6_tail 1 (some .int) :: ([.fieldLink RX6 24 "AgainAgain$Walk" "tail" "I"] ++ wsX60)
def wsX6_ring : List Cond := .code yX6_ring cX6_ring 1 (some .int) :: ([.fieldLink RX6 28 "AgainAgain$Walk" "ring" "I"] ++ wsX60)
def wsX6_placeIn : List Cond := .code yX6_placeIn cX6_placeIn 2 (some .int) :: ([.fieldLink RX6 21 "AgainAgain$Walk" "path" "[I", .fieldLink RX6 24 "AgainAgain$Walk" "tail" "I", .fieldLink RX6 28 "AgainAgain$Walk" "ring" "I"] ++ wsX60)
def wsX6_gainsAlong : List Cond := .code yX6_gainsAlong cX6_gainsAlong 5 (some .int) :: ([.fieldLink RX6 15 "AgainAgain$Walk" "gains" "[I", .fieldLink RX6 21 "AgainAgain$Walk" "path" "[I"] ++ wsX60)
def wsX6_tailGains : List Cond := .code yX6_tailGains cX6_tailGains 1 (some .int) :: ([.fieldLink RX6 24 "AgainAgain$Walk" "tail" "I", .methodLink RX6 57 yX6_gainsAlong, .instanceMethod yX6_gainsAlong, .selects RX6 yX6_gainsAlong yX6_gainsAlong, .initialized RX6, .code yX6_gainsAlong cX6_gainsAlong 5 (some .int), .fieldLink RX6 15 "AgainAgain$Walk" "gains" "[I", .fieldLink RX6 21 "AgainAgain$Walk" "path" "[I"] ++ wsX60)
def wsX6_ringGains : List Cond := .code yX6_ringGains cX6_ringGains 1 (some .int) :: ([.fieldLink RX6 24 "AgainAgain$Walk" "tail" "I", .fieldLink RX6 28 "AgainAgain$Walk" "ring" "I", .methodLink RX6 57 yX6_gainsAlong, .instanceMethod yX6_gainsAlong, .selects RX6 yX6_gainsAlong yX6_gainsAlong, .initialized RX6, .code yX6_gainsAlong cX6_gainsAlong 5 (some .int), .fieldLink RX6 15 "AgainAgain$Walk" "gains" "[I", .fieldLink RX6 21 "AgainAgain$Walk" "path" "[I"] ++ wsX60)
def wsX6_gainsOfFirst : List Cond := .code yX6_gainsOfFirst cX6_gainsOfFirst 3 (some .int) :: ([.fieldLink RX6 24 "AgainAgain$Walk" "tail" "I", .fieldLink RX6 28 "AgainAgain$Walk" "ring" "I", .methodLink RX6 57 yX6_gainsAlong, .instanceMethod yX6_gainsAlong, .selects RX6 yX6_gainsAlong yX6_gainsAlong, .initialized RX6, .code yX6_gainsAlong cX6_gainsAlong 5 (some .int), .fieldLink RX6 15 "AgainAgain$Walk" "gains" "[I", .fieldLink RX6 21 "AgainAgain$Walk" "path" "[I", .methodLink RX6 60 yX6_tailGains, .instanceMethod yX6_tailGains, .selects RX6 yX6_tailGains yX6_tailGains, .code yX6_tailGains cX6_tailGains 1 (some .int), .methodLink RX6 64 yX6_ringGains, .instanceMethod yX6_ringGains, .selects RX6 yX6_ringGains yX6_ringGains, .code yX6_ringGains cX6_ringGains 1 (some .int)] ++ wsX60)
def wsX6_meeting : List Cond := .code yX6_meeting cX6_meeting 6 (some .int) :: ([.fieldLink RX6 11 "AgainAgain$Walk" "nexts" "[I"] ++ wsX60)
def wsX7_init_r1 : List Cond := [Cond.methodLink RX7 3 objectInit, Cond.instanceMethod objectInit, Cond.code objectInit ⟨#[0xb1]⟩ 1 none, Cond.classLink RX7 1 RX0, Cond.instantiable RX0 3, Cond.initialized RX0, Cond.fieldLink RX7 10 "AgainAgain" "game" "LAgainAgain$Game;", Cond.classLink RX7 16 RX2, Cond.instantiable RX2 4, Cond.initialized RX2, Cond.fieldLink RX7 19 "AgainAgain" "machines" "LAgainAgain$Machines;", Cond.classLink RX7 23 RX5, Cond.instantiable RX5 3, Cond.initialized RX5, Cond.fieldLink RX7 26 "AgainAgain" "sheets" "LAgainAgain$Sheets;", Cond.classLink RX7 30 RX1, Cond.instantiable RX1 1, Cond.initialized RX1, Cond.fieldLink RX7 33 "AgainAgain" "likeness" "LAgainAgain$Likeness;", Cond.classLink RX7 37 RX3, Cond.instantiable RX3 5, Cond.initialized RX3, Cond.fieldLink RX7 40 "AgainAgain" "plans" "LAgainAgain$Plans;", Cond.classLink RX7 44 RX6]
def wsX7_init_r2 : List Cond := [Cond.instantiable RX6 6, Cond.initialized RX6, Cond.fieldLink RX7 47 "AgainAgain" "walk" "LAgainAgain$Walk;", Cond.fieldLink RX7 51 "AgainAgain" "back" "LAgainAgain$Walk;", Cond.classLink RX7 54 RX4, Cond.instantiable RX4 2, Cond.initialized RX4, Cond.fieldLink RX7 57 "AgainAgain" "ratio" "LAgainAgain$Ratio;", Cond.fieldLink RX7 61 "AgainAgain" "other" "LAgainAgain$Ratio;", Cond.arrayClass .int, Cond.fieldLink RX7 64 "AgainAgain" "scores" "[I", Cond.instanceMethod yX0_init, Cond.code yX0_init cX0_init 1 none, Cond.methodLink RX0 1 objectInit, Cond.fieldLink RX0 9 "AgainAgain$Game" "gains" "[I", Cond.fieldLink RX0 13 "AgainAgain$Game" "over" "J", Cond.constantLong RX0 17 (2), Cond.fieldLink RX0 19 "AgainAgain$Game" "under" "J", Cond.instanceMethod yX2_init, Cond.code yX2_init cX2_init 1 none, Cond.methodLink RX2 1 objectInit, Cond.fieldLink RX2 9 "AgainAgain$Machines" "sizes" "[I", Cond.fieldLink RX2 13 "AgainAgain$Machines" "actions" "[I", Cond.fieldLink RX2 18 "AgainAgain$Machines" "nexts" "[I"]
def wsX7_init_r3 : List Cond := [Cond.fieldLink RX2 21 "AgainAgain$Machines" "many" "I", Cond.methodLink RX7 25 yX5_init, Cond.instanceMethod yX5_init, Cond.code yX5_init cX5_init 1 none, Cond.methodLink RX5 1 objectInit, Cond.fieldLink RX5 9 "AgainAgain$Sheets" "lanes" "[I", Cond.fieldLink RX5 13 "AgainAgain$Sheets" "sizes" "[I", Cond.fieldLink RX5 16 "AgainAgain$Sheets" "cells" "[I", Cond.methodLink RX5 19 yJ7_fill_53178, Cond.static yJ7_fill_53178, Cond.initialized RJ7, Cond.code yJ7_fill_53178 cJ7_fill_53178 4 none, Cond.instanceMethod yX1_init, Cond.code yX1_init cX1_init 1 none, Cond.methodLink RX1 1 objectInit, Cond.fieldLink RX1 9 "AgainAgain$Likeness" "pairs" "[I", Cond.instanceMethod yX3_init, Cond.code yX3_init cX3_init 1 none, Cond.methodLink RX3 3 objectInit, Cond.fieldLink RX3 11 "AgainAgain$Plans" "plans" "[I", Cond.arrayClass .long, Cond.fieldLink RX3 15 "AgainAgain$Plans" "tops" "[J", Cond.fieldLink RX3 19 "AgainAgain$Plans" "bottoms" "[J", Cond.classLink RX3 22 RX6]
def wsX7_init_r4 : List Cond := [Cond.fieldLink RX3 25 "AgainAgain$Plans" "walk" "LAgainAgain$Walk;", Cond.classLink RX3 29 RX4, Cond.fieldLink RX3 32 "AgainAgain$Plans" "tried" "LAgainAgain$Ratio;", Cond.instanceMethod yX6_init, Cond.code yX6_init cX6_init 1 none, Cond.methodLink RX6 5 objectInit, Cond.fieldLink RX6 11 "AgainAgain$Walk" "nexts" "[I", Cond.fieldLink RX6 15 "AgainAgain$Walk" "gains" "[I", Cond.fieldLink RX6 18 "AgainAgain$Walk" "firstMet" "[I", Cond.fieldLink RX6 21 "AgainAgain$Walk" "path" "[I", Cond.fieldLink RX6 24 "AgainAgain$Walk" "tail" "I", Cond.fieldLink RX6 28 "AgainAgain$Walk" "ring" "I", Cond.instanceMethod yX4_init, Cond.code yX4_init cX4_init 1 none, Cond.methodLink RX4 1 objectInit, Cond.fieldLink RX4 7 "AgainAgain$Ratio" "top" "J", Cond.fieldLink RX4 13 "AgainAgain$Ratio" "bottom" "J"]
def wsX7_init : List Cond := .code yX7_init cX7_init 1 none :: ((wsX7_init_r1 ++ (wsX7_init_r2 ++ (wsX7_init_r3 ++ wsX7_init_r4))) ++ wsX00 ++ wsX70 ++ wsX20 ++ wsX50 ++ wsX10 ++ wsX30 ++ wsX60 ++ wsX40)
def wsX7_within : List Cond := .code yX7_within cX7_within 3 (some .boolean) :: ([])
def wsX7_isAction : List Cond := .code yX7_isAction cX7_isAction 1 (some .boolean) :: ([.methodLink RX7 72 yX7_within, .static yX7_within, .initialized RX7, .code yX7_within cX7_within 3 (some .boolean)])
def wsX7_pay : List Cond := .code yX7_pay cX7_pay 4 (some .int) :: ([.fieldLink RX7 10 "AgainAgain" "game" "LAgainAgain$Game;", .methodLink RX7 68 yX7_isAction, .static yX7_isAction, .initialized RX7, .code yX7_isAction cX7_isAction 1 (some .boolean), .methodLink RX7 72 yX7_within, .static yX7_within, .code yX7_within cX7_within 3 (some .boolean), .methodLink RX7 76 yX0_setGain, .instanceMethod yX0_setGain, .selects RX0 yX0_setGain yX0_setGain, .initialized RX0, .code yX0_setGain cX0_setGain 4 none, .fieldLink RX0 9 "AgainAgain$Game" "gains" "[I"] ++ wsX70 ++ wsX00)
def wsX7_discount : List Cond := .code yX7_discount cX7_discount 3 (some .int) :: ([.fieldLink RX7 10 "AgainAgain" "game" "LAgainAgain$Game;", .methodLink RX7 72 yX7_within, .static yX7_within, .initialized RX7, .code yX7_within cX7_within 3 (some .boolean), .methodLink RX7 80 yX0_setRate, .instanceMethod yX0_setRate, .selects RX0 yX0_setRate yX0_setRate, .initialized RX0, .code yX0_setRate cX0_setRate 3 none, .fieldLink RX0 13 "AgainAgain$Game" "over" "J", .fieldLink RX0 19 "AgainAgain$Game" "under" "J"] ++ wsX70 ++ wsX00)
def wsX7_machine_r1 : List Cond := [Cond.fieldLink RX7 19 "AgainAgain" "machines" "LAgainAgain$Machines;", Cond.methodLink RX7 72 yX7_within, Cond.static yX7_within, Cond.initialized RX7, Cond.code yX7_within cX7_within 3 (some .boolean), Cond.methodLink RX7 84 yX2_isFull, Cond.instanceMethod yX2_isFull, Cond.selects RX2 yX2_isFull yX2_isFull, Cond.initialized RX2, Cond.code yX2_isFull cX2_isFull 1 (some .boolean), Cond.fieldLink RX2 21 "AgainAgain$Machines" "many" "I", Cond.methodLink RX7 88 yX2_add, Cond.instanceMethod yX2_add, Cond.selects RX2 yX2_add yX2_add, Cond.code yX2_add cX2_add 5 (some .int), Cond.fieldLink RX2 9 "AgainAgain$Machines" "sizes" "[I", Cond.methodLink RX2 29 yX2_setAction, Cond.instanceMethod yX2_setAction, Cond.selects RX2 yX2_setAction yX2_setAction, Cond.code yX2_setAction cX2_setAction 4 none, Cond.fieldLink RX2 13 "AgainAgain$Machines" "actions" "[I", Cond.methodLink RX2 33 yX2_setNext, Cond.instanceMethod yX2_setNext, Cond.selects RX2 yX2_setNext yX2_setNext]
def wsX7_machine_r2 : List Cond := [Cond.code yX2_setNext cX2_setNext 5 none, Cond.fieldLink RX2 18 "AgainAgain$Machines" "nexts" "[I"]
def wsX7_machine : List Cond := .code yX7_machine cX7_machine 2 (some .int) :: ((wsX7_machine_r1 ++ wsX7_machine_r2) ++ wsX70 ++ wsX20)
def wsX7_does : List Cond := .code yX7_does cX7_does 4 (some .int) :: ([.fieldLink RX7 19 "AgainAgain" "machines" "LAgainAgain$Machines;", .methodLink RX7 92 yX2_hasState, .instanceMethod yX2_hasState, .selects RX2 yX2_hasState yX2_hasState, .initialized RX2, .code yX2_hasState cX2_hasState 3 (some .boolean), .fieldLink RX2 9 "AgainAgain$Machines" "sizes" "[I", .methodLink RX2 25 yX2_has, .instanceMethod yX2_has, .selects RX2 yX2_has yX2_has, .code yX2_has cX2_has 2 (some .boolean), .fieldLink RX2 21 "AgainAgain$Machines" "many" "I", .methodLink RX7 68 yX7_isAction, .static yX7_isAction, .initialized RX7, .code yX7_isAction cX7_isAction 1 (some .boolean), .methodLink RX7 72 yX7_within, .static yX7_within, .code yX7_within cX7_within 3 (some .boolean), .methodLink RX7 96 yX2_setAction, .instanceMethod yX2_setAction, .selects RX2 yX2_setAction yX2_setAction, .code yX2_setAction cX2_setAction 4 none, .fieldLink RX2 13 "AgainAgain$Machines" "actions" "[I"] ++ wsX70 ++ wsX20)
def wsX7_goes : List Cond := .code yX7_goes cX7_goes 5 (some .int) :: ([.fieldLink RX7 19 "AgainAgain" "machines" "LAgainAgain$Machines;", .methodLink RX7 92 yX2_hasState, .instanceMethod yX2_hasState, .selects RX2 yX2_hasState yX2_hasState, .initialized RX2, .code yX2_hasState cX2_hasState 3 (some .boolean), .fieldLink RX2 9 "AgainAgain$Machines" "sizes" "[I", .methodLink RX2 25 yX2_has, .instanceMethod yX2_has, .selects RX2 yX2_has yX2_has, .code yX2_has cX2_has 2 (some .boolean), .fieldLink RX2 21 "AgainAgain$Machines" "many" "I", .methodLink RX7 68 yX7_isAction, .static yX7_isAction, .initialized RX7, .code yX7_isAction cX7_isAction 1 (some .boolean), .methodLink RX7 72 yX7_within, .static yX7_within, .code yX7_within cX7_within 3 (some .boolean), .methodLink RX7 99 yX2_setNext, .instanceMethod yX2_setNext, .selects RX2 yX2_setNext yX2_setNext, .code yX2_setNext cX2_setNext 5 none, .fieldLink RX2 18 "AgainAgain$Machines" "nexts" "[I"] ++ wsX70 ++ wsX20)
def wsX7_told_r1 : List Cond := [Cond.fieldLink RX7 19 "AgainAgain" "machines" "LAgainAgain$Machines;", Cond.methodLink RX7 92 yX2_hasState, Cond.instanceMethod yX2_hasState, Cond.selects RX2 yX2_hasState yX2_hasState, Cond.initialized RX2, Cond.code yX2_hasState cX2_hasState 3 (some .boolean), Cond.fieldLink RX2 9 "AgainAgain$Machines" "sizes" "[I", Cond.methodLink RX2 25 yX2_has, Cond.instanceMethod yX2_has, Cond.selects RX2 yX2_has yX2_has, Cond.code yX2_has cX2_has 2 (some .boolean), Cond.fieldLink RX2 21 "AgainAgain$Machines" "many" "I", Cond.methodLink RX7 72 yX7_within, Cond.static yX7_within, Cond.initialized RX7, Cond.code yX7_within cX7_within 3 (some .boolean), Cond.methodLink RX7 103 yX2_actionOf, Cond.instanceMethod yX2_actionOf, Cond.selects RX2 yX2_actionOf yX2_actionOf, Cond.code yX2_actionOf cX2_actionOf 3 (some .int), Cond.fieldLink RX2 13 "AgainAgain$Machines" "actions" "[I", Cond.methodLink RX7 107 yX2_nextOf, Cond.instanceMethod yX2_nextOf, Cond.selects RX2 yX2_nextOf yX2_nextOf]
def wsX7_told_r2 : List Cond := [Cond.code yX2_nextOf cX2_nextOf 4 (some .int), Cond.fieldLink RX2 18 "AgainAgain$Machines" "nexts" "[I"]
def wsX7_told : List Cond := .code yX7_told cX7_told 4 (some .int) :: ((wsX7_told_r1 ++ wsX7_told_r2) ++ wsX70 ++ wsX20)
def wsX7_drop : List Cond := .code yX7_drop cX7_drop 1 (some .int) :: ([.fieldLink RX7 19 "AgainAgain" "machines" "LAgainAgain$Machines;", .methodLink RX7 111 yX2_many, .instanceMethod yX2_many, .selects RX2 yX2_many yX2_many, .initialized RX2, .code yX2_many cX2_many 1 (some .int), .fieldLink RX2 21 "AgainAgain$Machines" "many" "I", .methodLink RX7 115 yX2_removeLatest, .instanceMethod yX2_removeLatest, .selects RX2 yX2_removeLatest yX2_removeLatest, .code yX2_removeLatest cX2_removeLatest 1 (some .int)] ++ wsX70 ++ wsX20)
def wsX7_sheet : List Cond := .code yX7_sheet cX7_sheet 4 (some .int) :: ([.fieldLink RX7 26 "AgainAgain" "sheets" "LAgainAgain$Sheets;", .methodLink RX7 118 yX5_isSheet, .static yX5_isSheet, .initialized RX5, .code yX5_isSheet cX5_isSheet 1 (some .boolean), .methodLink RX7 121 yX5_isLane, .static yX5_isLane, .code yX5_isLane cX5_isLane 1 (some .boolean), .methodLink RX7 124 yX5_layOut, .instanceMethod yX5_layOut, .selects RX5 yX5_layOut yX5_layOut, .code yX5_layOut cX5_layOut 4 none, .fieldLink RX5 9 "AgainAgain$Sheets" "lanes" "[I", .fieldLink RX5 13 "AgainAgain$Sheets" "sizes" "[I", .fieldLink RX5 16 "AgainAgain$Sheets" "cells" "[I", .methodLink RX5 25 yJ7_fill_fda19, .static yJ7_fill_fda19, .initialized RJ7, .code yJ7_fill_fda19 cJ7_fill_fda19 5 none, .methodLink RJ7 13 yJ7_rangeCheck_23922, .static yJ7_rangeCheck_23922, .code yJ7_rangeCheck_23922 cJ7_rangeCheck_23922 3 none] ++ wsX70 ++ wsX50)
def wsX7_lay : List Cond := .code yX7_lay cX7_lay 4 (some .int) :: ([.fieldLink RX7 26 "AgainAgain" "sheets" "LAgainAgain$Sheets;", .methodLink RX7 118 yX5_isSheet, .static yX5_isSheet, .initialized RX5, .code yX5_isSheet cX5_isSheet 1 (some .boolean), .methodLink RX7 127 yX5_isThere, .instanceMethod yX5_isThere, .selects RX5 yX5_isThere yX5_isThere, .code yX5_isThere cX5_isThere 2 (some .boolean), .fieldLink RX5 9 "AgainAgain$Sheets" "lanes" "[I", .methodLink RX7 130 yX5_hasCell, .instanceMethod yX5_hasCell, .selects RX5 yX5_hasCell yX5_hasCell, .code yX5_hasCell cX5_hasCell 3 (some .boolean), .fieldLink RX5 13 "AgainAgain$Sheets" "sizes" "[I", .methodLink RX7 133 yX5_setCell, .instanceMethod yX5_setCell, .selects RX5 yX5_setCell yX5_setCell, .code yX5_setCell cX5_setCell 4 none, .fieldLink RX5 16 "AgainAgain$Sheets" "cells" "[I", .methodLink RX5 28 yX5_lowestBits, .static yX5_lowestBits, .code yX5_lowestBits cX5_lowestBits 2 (some .int)] ++ wsX70 ++ wsX50)
def wsX7_cellFault : List Cond := .code yX7_cellFault cX7_cellFault 6 (some .int) :: ([.fieldLink RX7 26 "AgainAgain" "sheets" "LAgainAgain$Sheets;", .methodLink RX7 130 yX5_hasCell, .instanceMethod yX5_hasCell, .selects RX5 yX5_hasCell yX5_hasCell, .initialized RX5, .code yX5_hasCell cX5_hasCell 3 (some .boolean), .fieldLink RX5 13 "AgainAgain$Sheets" "sizes" "[I", .methodLink RX7 269 yX5_cell, .instanceMethod yX5_cell, .selects RX5 yX5_cell yX5_cell, .code yX5_cell cX5_cell 3 (some .int), .fieldLink RX5 16 "AgainAgain$Sheets" "cells" "[I", .methodLink RX7 72 yX7_within, .static yX7_within, .initialized RX7, .code yX7_within cX7_within 3 (some .boolean)] ++ wsX70 ++ wsX50)
def wsX7_readMachine_r1 : List Cond := [Cond.fieldLink RX7 19 "AgainAgain" "machines" "LAgainAgain$Machines;", Cond.fieldLink RX7 26 "AgainAgain" "sheets" "LAgainAgain$Sheets;", Cond.methodLink RX7 88 yX2_add, Cond.instanceMethod yX2_add, Cond.selects RX2 yX2_add yX2_add, Cond.initialized RX2, Cond.code yX2_add cX2_add 5 (some .int), Cond.fieldLink RX2 21 "AgainAgain$Machines" "many" "I", Cond.fieldLink RX2 9 "AgainAgain$Machines" "sizes" "[I", Cond.methodLink RX2 29 yX2_setAction, Cond.instanceMethod yX2_setAction, Cond.selects RX2 yX2_setAction yX2_setAction, Cond.code yX2_setAction cX2_setAction 4 none, Cond.fieldLink RX2 13 "AgainAgain$Machines" "actions" "[I", Cond.methodLink RX2 33 yX2_setNext, Cond.instanceMethod yX2_setNext, Cond.selects RX2 yX2_setNext yX2_setNext, Cond.code yX2_setNext cX2_setNext 5 none, Cond.fieldLink RX2 18 "AgainAgain$Machines" "nexts" "[I", Cond.methodLink RX7 269 yX5_cell, Cond.instanceMethod yX5_cell, Cond.selects RX5 yX5_cell yX5_cell, Cond.initialized RX5, Cond.code yX5_cell cX5_cell 3 (some .int)]
def wsX7_readMachine_r2 : List Cond := [Cond.fieldLink RX5 16 "AgainAgain$Sheets" "cells" "[I", Cond.methodLink RX7 96 yX2_setAction, Cond.methodLink RX7 99 yX2_setNext]
def wsX7_readMachine : List Cond := .code yX7_readMachine cX7_readMachine 8 (some .int) :: ((wsX7_readMachine_r1 ++ wsX7_readMachine_r2) ++ wsX70 ++ wsX20 ++ wsX50)
def wsX7_draw_r1 : List Cond := [Cond.fieldLink RX7 26 "AgainAgain" "sheets" "LAgainAgain$Sheets;", Cond.fieldLink RX7 19 "AgainAgain" "machines" "LAgainAgain$Machines;", Cond.methodLink RX7 118 yX5_isSheet, Cond.static yX5_isSheet, Cond.initialized RX5, Cond.code yX5_isSheet cX5_isSheet 1 (some .boolean), Cond.methodLink RX7 121 yX5_isLane, Cond.static yX5_isLane, Cond.code yX5_isLane cX5_isLane 1 (some .boolean), Cond.methodLink RX7 72 yX7_within, Cond.static yX7_within, Cond.initialized RX7, Cond.code yX7_within cX7_within 3 (some .boolean), Cond.methodLink RX7 127 yX5_isThere, Cond.instanceMethod yX5_isThere, Cond.selects RX5 yX5_isThere yX5_isThere, Cond.code yX5_isThere cX5_isThere 2 (some .boolean), Cond.fieldLink RX5 9 "AgainAgain$Sheets" "lanes" "[I", Cond.methodLink RX7 136 yX5_laneOf, Cond.instanceMethod yX5_laneOf, Cond.selects RX5 yX5_laneOf yX5_laneOf, Cond.code yX5_laneOf cX5_laneOf 2 (some .int), Cond.methodLink RX7 139 yX7_cellFault, Cond.instanceMethod yX7_cellFault]
def wsX7_draw_r2 : List Cond := [Cond.selects RX7 yX7_cellFault yX7_cellFault, Cond.code yX7_cellFault cX7_cellFault 6 (some .int), Cond.methodLink RX7 130 yX5_hasCell, Cond.instanceMethod yX5_hasCell, Cond.selects RX5 yX5_hasCell yX5_hasCell, Cond.code yX5_hasCell cX5_hasCell 3 (some .boolean), Cond.fieldLink RX5 13 "AgainAgain$Sheets" "sizes" "[I", Cond.methodLink RX7 269 yX5_cell, Cond.instanceMethod yX5_cell, Cond.selects RX5 yX5_cell yX5_cell, Cond.code yX5_cell cX5_cell 3 (some .int), Cond.fieldLink RX5 16 "AgainAgain$Sheets" "cells" "[I", Cond.methodLink RX7 84 yX2_isFull, Cond.instanceMethod yX2_isFull, Cond.selects RX2 yX2_isFull yX2_isFull, Cond.initialized RX2, Cond.code yX2_isFull cX2_isFull 1 (some .boolean), Cond.fieldLink RX2 21 "AgainAgain$Machines" "many" "I", Cond.methodLink RX7 142 yX7_readMachine, Cond.instanceMethod yX7_readMachine, Cond.selects RX7 yX7_readMachine yX7_readMachine, Cond.code yX7_readMachine cX7_readMachine 8 (some .int), Cond.methodLink RX7 88 yX2_add, Cond.instanceMethod yX2_add]
def wsX7_draw_r3 : List Cond := [Cond.selects RX2 yX2_add yX2_add, Cond.code yX2_add cX2_add 5 (some .int), Cond.fieldLink RX2 9 "AgainAgain$Machines" "sizes" "[I", Cond.methodLink RX2 29 yX2_setAction, Cond.instanceMethod yX2_setAction, Cond.selects RX2 yX2_setAction yX2_setAction, Cond.code yX2_setAction cX2_setAction 4 none, Cond.fieldLink RX2 13 "AgainAgain$Machines" "actions" "[I", Cond.methodLink RX2 33 yX2_setNext, Cond.instanceMethod yX2_setNext, Cond.selects RX2 yX2_setNext yX2_setNext, Cond.code yX2_setNext cX2_setNext 5 none, Cond.fieldLink RX2 18 "AgainAgain$Machines" "nexts" "[I", Cond.methodLink RX7 96 yX2_setAction, Cond.methodLink RX7 99 yX2_setNext]
def wsX7_draw : List Cond := .code yX7_draw cX7_draw 6 (some .int) :: ((wsX7_draw_r1 ++ (wsX7_draw_r2 ++ wsX7_draw_r3)) ++ wsX70 ++ wsX50 ++ wsX20)
def wsX7_areMachines : List Cond := .code yX7_areMachines cX7_areMachines 3 (some .boolean) :: ([.fieldLink RX7 19 "AgainAgain" "machines" "LAgainAgain$Machines;", .methodLink RX7 201 yX2_has, .instanceMethod yX2_has, .selects RX2 yX2_has yX2_has, .initialized RX2, .code yX2_has cX2_has 2 (some .boolean), .fieldLink RX2 21 "AgainAgain$Machines" "many" "I"] ++ wsX70 ++ wsX20)
def wsX7_playOut_r1 : List Cond := [Cond.fieldLink RX7 47 "AgainAgain" "walk" "LAgainAgain$Walk;", Cond.fieldLink RX7 10 "AgainAgain" "game" "LAgainAgain$Game;", Cond.fieldLink RX7 19 "AgainAgain" "machines" "LAgainAgain$Machines;", Cond.methodLink RX7 272 yX6_takeMatch, Cond.instanceMethod yX6_takeMatch, Cond.selects RX6 yX6_takeMatch yX6_takeMatch, Cond.initialized RX6, Cond.code yX6_takeMatch cX6_takeMatch 9 none, Cond.fieldLink RX6 11 "AgainAgain$Walk" "nexts" "[I", Cond.fieldLink RX6 15 "AgainAgain$Walk" "gains" "[I", Cond.methodLink RX6 31 yX2_statesOf, Cond.instanceMethod yX2_statesOf, Cond.selects RX2 yX2_statesOf yX2_statesOf, Cond.initialized RX2, Cond.code yX2_statesOf cX2_statesOf 2 (some .int), Cond.fieldLink RX2 9 "AgainAgain$Machines" "sizes" "[I", Cond.methodLink RX6 35 yX2_actionOf, Cond.instanceMethod yX2_actionOf, Cond.selects RX2 yX2_actionOf yX2_actionOf, Cond.code yX2_actionOf cX2_actionOf 3 (some .int), Cond.fieldLink RX2 13 "AgainAgain$Machines" "actions" "[I", Cond.methodLink RX6 39 yX6_placeOf, Cond.static yX6_placeOf, Cond.code yX6_placeOf cX6_placeOf 2 (some .int)]
def wsX7_playOut_r2 : List Cond := [Cond.methodLink RX6 42 yX2_nextOf, Cond.instanceMethod yX2_nextOf, Cond.selects RX2 yX2_nextOf yX2_nextOf, Cond.code yX2_nextOf cX2_nextOf 4 (some .int), Cond.fieldLink RX2 18 "AgainAgain$Machines" "nexts" "[I", Cond.methodLink RX6 46 yX0_gain, Cond.instanceMethod yX0_gain, Cond.selects RX0 yX0_gain yX0_gain, Cond.initialized RX0, Cond.code yX0_gain cX0_gain 3 (some .int), Cond.fieldLink RX0 9 "AgainAgain$Game" "gains" "[I", Cond.methodLink RX7 275 yX6_startAt, Cond.instanceMethod yX6_startAt, Cond.selects RX6 yX6_startAt yX6_startAt, Cond.code yX6_startAt cX6_startAt 4 none, Cond.fieldLink RX6 18 "AgainAgain$Walk" "firstMet" "[I", Cond.fieldLink RX6 21 "AgainAgain$Walk" "path" "[I", Cond.fieldLink RX6 24 "AgainAgain$Walk" "tail" "I", Cond.fieldLink RX6 28 "AgainAgain$Walk" "ring" "I", Cond.methodLink RX6 51 yJ7_fill_53178, Cond.static yJ7_fill_53178, Cond.initialized RJ7, Cond.code yJ7_fill_53178 cJ7_fill_53178 4 none]
def wsX7_playOut : List Cond := .code yX7_playOut cX7_playOut 3 none :: ((wsX7_playOut_r1 ++ wsX7_playOut_r2) ++ wsX70 ++ wsX60 ++ wsX20 ++ wsX00)
def wsX7_action_r1 : List Cond := [Cond.fieldLink RX7 19 "AgainAgain" "machines" "LAgainAgain$Machines;", Cond.fieldLink RX7 47 "AgainAgain" "walk" "LAgainAgain$Walk;", Cond.methodLink RX7 145 yX7_areMachines, Cond.instanceMethod yX7_areMachines, Cond.selects RX7 yX7_areMachines yX7_areMachines, Cond.initialized RX7, Cond.code yX7_areMachines cX7_areMachines 3 (some .boolean), Cond.methodLink RX7 201 yX2_has, Cond.instanceMethod yX2_has, Cond.selects RX2 yX2_has yX2_has, Cond.initialized RX2, Cond.code yX2_has cX2_has 2 (some .boolean), Cond.fieldLink RX2 21 "AgainAgain$Machines" "many" "I", Cond.methodLink RX7 72 yX7_within, Cond.static yX7_within, Cond.code yX7_within cX7_within 3 (some .boolean), Cond.methodLink RX7 148 yX7_playOut, Cond.instanceMethod yX7_playOut, Cond.selects RX7 yX7_playOut yX7_playOut, Cond.code yX7_playOut cX7_playOut 3 none, Cond.fieldLink RX7 10 "AgainAgain" "game" "LAgainAgain$Game;", Cond.methodLink RX7 272 yX6_takeMatch, Cond.instanceMethod yX6_takeMatch, Cond.selects RX6 yX6_takeMatch yX6_takeMatch]
def wsX7_action_r2 : List Cond := [Cond.initialized RX6, Cond.code yX6_takeMatch cX6_takeMatch 9 none, Cond.fieldLink RX6 11 "AgainAgain$Walk" "nexts" "[I", Cond.fieldLink RX6 15 "AgainAgain$Walk" "gains" "[I", Cond.methodLink RX6 31 yX2_statesOf, Cond.instanceMethod yX2_statesOf, Cond.selects RX2 yX2_statesOf yX2_statesOf, Cond.code yX2_statesOf cX2_statesOf 2 (some .int), Cond.fieldLink RX2 9 "AgainAgain$Machines" "sizes" "[I", Cond.methodLink RX6 35 yX2_actionOf, Cond.instanceMethod yX2_actionOf, Cond.selects RX2 yX2_actionOf yX2_actionOf, Cond.code yX2_actionOf cX2_actionOf 3 (some .int), Cond.fieldLink RX2 13 "AgainAgain$Machines" "actions" "[I", Cond.methodLink RX6 39 yX6_placeOf, Cond.static yX6_placeOf, Cond.code yX6_placeOf cX6_placeOf 2 (some .int), Cond.methodLink RX6 42 yX2_nextOf, Cond.instanceMethod yX2_nextOf, Cond.selects RX2 yX2_nextOf yX2_nextOf, Cond.code yX2_nextOf cX2_nextOf 4 (some .int), Cond.fieldLink RX2 18 "AgainAgain$Machines" "nexts" "[I", Cond.methodLink RX6 46 yX0_gain, Cond.instanceMethod yX0_gain]
def wsX7_action_r3 : List Cond := [Cond.selects RX0 yX0_gain yX0_gain, Cond.initialized RX0, Cond.code yX0_gain cX0_gain 3 (some .int), Cond.fieldLink RX0 9 "AgainAgain$Game" "gains" "[I", Cond.methodLink RX7 275 yX6_startAt, Cond.instanceMethod yX6_startAt, Cond.selects RX6 yX6_startAt yX6_startAt, Cond.code yX6_startAt cX6_startAt 4 none, Cond.fieldLink RX6 18 "AgainAgain$Walk" "firstMet" "[I", Cond.fieldLink RX6 21 "AgainAgain$Walk" "path" "[I", Cond.fieldLink RX6 24 "AgainAgain$Walk" "tail" "I", Cond.fieldLink RX6 28 "AgainAgain$Walk" "ring" "I", Cond.methodLink RX6 51 yJ7_fill_53178, Cond.static yJ7_fill_53178, Cond.initialized RJ7, Cond.code yJ7_fill_53178 cJ7_fill_53178 4 none, Cond.methodLink RX7 151 yX6_placeIn, Cond.instanceMethod yX6_placeIn, Cond.selects RX6 yX6_placeIn yX6_placeIn, Cond.code yX6_placeIn cX6_placeIn 2 (some .int), Cond.methodLink RX7 154 yX6_mine, Cond.static yX6_mine, Cond.code yX6_mine cX6_mine 1 (some .int), Cond.methodLink RX7 103 yX2_actionOf]
def wsX7_action : List Cond := .code yX7_action cX7_action 4 (some .int) :: ((wsX7_action_r1 ++ (wsX7_action_r2 ++ wsX7_action_r3)) ++ wsX70 ++ wsX20 ++ wsX60 ++ wsX00)
def wsX7_match_r1 : List Cond := [Cond.constant RX7 157 (-1000000), Cond.fieldLink RX7 47 "AgainAgain" "walk" "LAgainAgain$Walk;", Cond.methodLink RX7 145 yX7_areMachines, Cond.instanceMethod yX7_areMachines, Cond.selects RX7 yX7_areMachines yX7_areMachines, Cond.initialized RX7, Cond.code yX7_areMachines cX7_areMachines 3 (some .boolean), Cond.fieldLink RX7 19 "AgainAgain" "machines" "LAgainAgain$Machines;", Cond.methodLink RX7 201 yX2_has, Cond.instanceMethod yX2_has, Cond.selects RX2 yX2_has yX2_has, Cond.initialized RX2, Cond.code yX2_has cX2_has 2 (some .boolean), Cond.fieldLink RX2 21 "AgainAgain$Machines" "many" "I", Cond.methodLink RX7 72 yX7_within, Cond.static yX7_within, Cond.code yX7_within cX7_within 3 (some .boolean), Cond.methodLink RX7 148 yX7_playOut, Cond.instanceMethod yX7_playOut, Cond.selects RX7 yX7_playOut yX7_playOut, Cond.code yX7_playOut cX7_playOut 3 none, Cond.fieldLink RX7 10 "AgainAgain" "game" "LAgainAgain$Game;", Cond.methodLink RX7 272 yX6_takeMatch, Cond.instanceMethod yX6_takeMatch]
def wsX7_match_r2 : List Cond := [Cond.selects RX6 yX6_takeMatch yX6_takeMatch, Cond.initialized RX6, Cond.code yX6_takeMatch cX6_takeMatch 9 none, Cond.fieldLink RX6 11 "AgainAgain$Walk" "nexts" "[I", Cond.fieldLink RX6 15 "AgainAgain$Walk" "gains" "[I", Cond.methodLink RX6 31 yX2_statesOf, Cond.instanceMethod yX2_statesOf, Cond.selects RX2 yX2_statesOf yX2_statesOf, Cond.code yX2_statesOf cX2_statesOf 2 (some .int), Cond.fieldLink RX2 9 "AgainAgain$Machines" "sizes" "[I", Cond.methodLink RX6 35 yX2_actionOf, Cond.instanceMethod yX2_actionOf, Cond.selects RX2 yX2_actionOf yX2_actionOf, Cond.code yX2_actionOf cX2_actionOf 3 (some .int), Cond.fieldLink RX2 13 "AgainAgain$Machines" "actions" "[I", Cond.methodLink RX6 39 yX6_placeOf, Cond.static yX6_placeOf, Cond.code yX6_placeOf cX6_placeOf 2 (some .int), Cond.methodLink RX6 42 yX2_nextOf, Cond.instanceMethod yX2_nextOf, Cond.selects RX2 yX2_nextOf yX2_nextOf, Cond.code yX2_nextOf cX2_nextOf 4 (some .int), Cond.fieldLink RX2 18 "AgainAgain$Machines" "nexts" "[I", Cond.methodLink RX6 46 yX0_gain]
def wsX7_match_r3 : List Cond := [Cond.instanceMethod yX0_gain, Cond.selects RX0 yX0_gain yX0_gain, Cond.initialized RX0, Cond.code yX0_gain cX0_gain 3 (some .int), Cond.fieldLink RX0 9 "AgainAgain$Game" "gains" "[I", Cond.methodLink RX7 275 yX6_startAt, Cond.instanceMethod yX6_startAt, Cond.selects RX6 yX6_startAt yX6_startAt, Cond.code yX6_startAt cX6_startAt 4 none, Cond.fieldLink RX6 18 "AgainAgain$Walk" "firstMet" "[I", Cond.fieldLink RX6 21 "AgainAgain$Walk" "path" "[I", Cond.fieldLink RX6 24 "AgainAgain$Walk" "tail" "I", Cond.fieldLink RX6 28 "AgainAgain$Walk" "ring" "I", Cond.methodLink RX6 51 yJ7_fill_53178, Cond.static yJ7_fill_53178, Cond.initialized RJ7, Cond.code yJ7_fill_53178 cJ7_fill_53178 4 none, Cond.methodLink RX7 158 yX6_tail, Cond.instanceMethod yX6_tail, Cond.selects RX6 yX6_tail yX6_tail, Cond.code yX6_tail cX6_tail 1 (some .int), Cond.methodLink RX7 161 yX6_ring, Cond.instanceMethod yX6_ring, Cond.selects RX6 yX6_ring yX6_ring]
def wsX7_match_r4 : List Cond := [Cond.code yX6_ring cX6_ring 1 (some .int), Cond.methodLink RX7 164 yX6_tailGains, Cond.instanceMethod yX6_tailGains, Cond.selects RX6 yX6_tailGains yX6_tailGains, Cond.code yX6_tailGains cX6_tailGains 1 (some .int), Cond.methodLink RX6 57 yX6_gainsAlong, Cond.instanceMethod yX6_gainsAlong, Cond.selects RX6 yX6_gainsAlong yX6_gainsAlong, Cond.code yX6_gainsAlong cX6_gainsAlong 5 (some .int), Cond.methodLink RX7 167 yX6_ringGains, Cond.instanceMethod yX6_ringGains, Cond.selects RX6 yX6_ringGains yX6_ringGains, Cond.code yX6_ringGains cX6_ringGains 1 (some .int)]
def wsX7_match : List Cond := .code yX7_match cX7_match 4 (some .int) :: ((wsX7_match_r1 ++ (wsX7_match_r2 ++ (wsX7_match_r3 ++ wsX7_match_r4))) ++ wsX70 ++ wsX20 ++ wsX60 ++ wsX00)
def wsX7_gainsOf_r1 : List Cond := [Cond.fieldLink RX7 47 "AgainAgain" "walk" "LAgainAgain$Walk;", Cond.methodLink RX7 148 yX7_playOut, Cond.instanceMethod yX7_playOut, Cond.selects RX7 yX7_playOut yX7_playOut, Cond.initialized RX7, Cond.code yX7_playOut cX7_playOut 3 none, Cond.fieldLink RX7 10 "AgainAgain" "game" "LAgainAgain$Game;", Cond.fieldLink RX7 19 "AgainAgain" "machines" "LAgainAgain$Machines;", Cond.methodLink RX7 272 yX6_takeMatch, Cond.instanceMethod yX6_takeMatch, Cond.selects RX6 yX6_takeMatch yX6_takeMatch, Cond.initialized RX6, Cond.code yX6_takeMatch cX6_takeMatch 9 none, Cond.fieldLink RX6 11 "AgainAgain$Walk" "nexts" "[I", Cond.fieldLink RX6 15 "AgainAgain$Walk" "gains" "[I", Cond.methodLink RX6 31 yX2_statesOf, Cond.instanceMethod yX2_statesOf, Cond.selects RX2 yX2_statesOf yX2_statesOf, Cond.initialized RX2, Cond.code yX2_statesOf cX2_statesOf 2 (some .int), Cond.fieldLink RX2 9 "AgainAgain$Machines" "sizes" "[I", Cond.methodLink RX6 35 yX2_actionOf, Cond.instanceMethod yX2_actionOf, Cond.selects RX2 yX2_actionOf yX2_actionOf]
def wsX7_gainsOf_r2 : List Cond := [Cond.code yX2_actionOf cX2_actionOf 3 (some .int), Cond.fieldLink RX2 13 "AgainAgain$Machines" "actions" "[I", Cond.methodLink RX6 39 yX6_placeOf, Cond.static yX6_placeOf, Cond.code yX6_placeOf cX6_placeOf 2 (some .int), Cond.methodLink RX6 42 yX2_nextOf, Cond.instanceMethod yX2_nextOf, Cond.selects RX2 yX2_nextOf yX2_nextOf, Cond.code yX2_nextOf cX2_nextOf 4 (some .int), Cond.fieldLink RX2 18 "AgainAgain$Machines" "nexts" "[I", Cond.methodLink RX6 46 yX0_gain, Cond.instanceMethod yX0_gain, Cond.selects RX0 yX0_gain yX0_gain, Cond.initialized RX0, Cond.code yX0_gain cX0_gain 3 (some .int), Cond.fieldLink RX0 9 "AgainAgain$Game" "gains" "[I", Cond.methodLink RX7 275 yX6_startAt, Cond.instanceMethod yX6_startAt, Cond.selects RX6 yX6_startAt yX6_startAt, Cond.code yX6_startAt cX6_startAt 4 none, Cond.fieldLink RX6 18 "AgainAgain$Walk" "firstMet" "[I", Cond.fieldLink RX6 21 "AgainAgain$Walk" "path" "[I", Cond.fieldLink RX6 24 "AgainAgain$Walk" "tail" "I", Cond.fieldLink RX6 28 "AgainAgain$Walk" "ring" "I"]
def wsX7_gainsOf_r3 : List Cond := [Cond.methodLink RX6 51 yJ7_fill_53178, Cond.static yJ7_fill_53178, Cond.initialized RJ7, Cond.code yJ7_fill_53178 cJ7_fill_53178 4 none, Cond.methodLink RX7 279 yX6_gainsOfFirst, Cond.instanceMethod yX6_gainsOfFirst, Cond.selects RX6 yX6_gainsOfFirst yX6_gainsOfFirst, Cond.code yX6_gainsOfFirst cX6_gainsOfFirst 3 (some .int), Cond.methodLink RX6 57 yX6_gainsAlong, Cond.instanceMethod yX6_gainsAlong, Cond.selects RX6 yX6_gainsAlong yX6_gainsAlong, Cond.code yX6_gainsAlong cX6_gainsAlong 5 (some .int), Cond.methodLink RX6 60 yX6_tailGains, Cond.instanceMethod yX6_tailGains, Cond.selects RX6 yX6_tailGains yX6_tailGains, Cond.code yX6_tailGains cX6_tailGains 1 (some .int), Cond.methodLink RX6 64 yX6_ringGains, Cond.instanceMethod yX6_ringGains, Cond.selects RX6 yX6_ringGains yX6_ringGains, Cond.code yX6_ringGains cX6_ringGains 1 (some .int)]
def wsX7_gainsOf : List Cond := .code yX7_gainsOf cX7_gainsOf 4 (some .int) :: ((wsX7_gainsOf_r1 ++ (wsX7_gainsOf_r2 ++ wsX7_gainsOf_r3)) ++ wsX70 ++ wsX60 ++ wsX20 ++ wsX00)
def wsX7_sum_r1 : List Cond := [Cond.constant RX7 157 (-1000000), Cond.methodLink RX7 145 yX7_areMachines, Cond.instanceMethod yX7_areMachines, Cond.selects RX7 yX7_areMachines yX7_areMachines, Cond.initialized RX7, Cond.code yX7_areMachines cX7_areMachines 3 (some .boolean), Cond.fieldLink RX7 19 "AgainAgain" "machines" "LAgainAgain$Machines;", Cond.methodLink RX7 201 yX2_has, Cond.instanceMethod yX2_has, Cond.selects RX2 yX2_has yX2_has, Cond.initialized RX2, Cond.code yX2_has cX2_has 2 (some .boolean), Cond.fieldLink RX2 21 "AgainAgain$Machines" "many" "I", Cond.methodLink RX7 72 yX7_within, Cond.static yX7_within, Cond.code yX7_within cX7_within 3 (some .boolean), Cond.methodLink RX7 170 yX7_gainsOf, Cond.instanceMethod yX7_gainsOf, Cond.selects RX7 yX7_gainsOf yX7_gainsOf, Cond.code yX7_gainsOf cX7_gainsOf 4 (some .int), Cond.fieldLink RX7 47 "AgainAgain" "walk" "LAgainAgain$Walk;", Cond.methodLink RX7 148 yX7_playOut, Cond.instanceMethod yX7_playOut, Cond.selects RX7 yX7_playOut yX7_playOut]
def wsX7_sum_r2 : List Cond := [Cond.code yX7_playOut cX7_playOut 3 none, Cond.fieldLink RX7 10 "AgainAgain" "game" "LAgainAgain$Game;", Cond.methodLink RX7 272 yX6_takeMatch, Cond.instanceMethod yX6_takeMatch, Cond.selects RX6 yX6_takeMatch yX6_takeMatch, Cond.initialized RX6, Cond.code yX6_takeMatch cX6_takeMatch 9 none, Cond.fieldLink RX6 11 "AgainAgain$Walk" "nexts" "[I", Cond.fieldLink RX6 15 "AgainAgain$Walk" "gains" "[I", Cond.methodLink RX6 31 yX2_statesOf, Cond.instanceMethod yX2_statesOf, Cond.selects RX2 yX2_statesOf yX2_statesOf, Cond.code yX2_statesOf cX2_statesOf 2 (some .int), Cond.fieldLink RX2 9 "AgainAgain$Machines" "sizes" "[I", Cond.methodLink RX6 35 yX2_actionOf, Cond.instanceMethod yX2_actionOf, Cond.selects RX2 yX2_actionOf yX2_actionOf, Cond.code yX2_actionOf cX2_actionOf 3 (some .int), Cond.fieldLink RX2 13 "AgainAgain$Machines" "actions" "[I", Cond.methodLink RX6 39 yX6_placeOf, Cond.static yX6_placeOf, Cond.code yX6_placeOf cX6_placeOf 2 (some .int), Cond.methodLink RX6 42 yX2_nextOf, Cond.instanceMethod yX2_nextOf]
def wsX7_sum_r3 : List Cond := [Cond.selects RX2 yX2_nextOf yX2_nextOf, Cond.code yX2_nextOf cX2_nextOf 4 (some .int), Cond.fieldLink RX2 18 "AgainAgain$Machines" "nexts" "[I", Cond.methodLink RX6 46 yX0_gain, Cond.instanceMethod yX0_gain, Cond.selects RX0 yX0_gain yX0_gain, Cond.initialized RX0, Cond.code yX0_gain cX0_gain 3 (some .int), Cond.fieldLink RX0 9 "AgainAgain$Game" "gains" "[I", Cond.methodLink RX7 275 yX6_startAt, Cond.instanceMethod yX6_startAt, Cond.selects RX6 yX6_startAt yX6_startAt, Cond.code yX6_startAt cX6_startAt 4 none, Cond.fieldLink RX6 18 "AgainAgain$Walk" "firstMet" "[I", Cond.fieldLink RX6 21 "AgainAgain$Walk" "path" "[I", Cond.fieldLink RX6 24 "AgainAgain$Walk" "tail" "I", Cond.fieldLink RX6 28 "AgainAgain$Walk" "ring" "I", Cond.methodLink RX6 51 yJ7_fill_53178, Cond.static yJ7_fill_53178, Cond.initialized RJ7, Cond.code yJ7_fill_53178 cJ7_fill_53178 4 none, Cond.methodLink RX7 279 yX6_gainsOfFirst, Cond.instanceMethod yX6_gainsOfFirst, Cond.selects RX6 yX6_gainsOfFirst yX6_gainsOfFirst]
def wsX7_sum_r4 : List Cond := [Cond.code yX6_gainsOfFirst cX6_gainsOfFirst 3 (some .int), Cond.methodLink RX6 57 yX6_gainsAlong, Cond.instanceMethod yX6_gainsAlong, Cond.selects RX6 yX6_gainsAlong yX6_gainsAlong, Cond.code yX6_gainsAlong cX6_gainsAlong 5 (some .int), Cond.methodLink RX6 60 yX6_tailGains, Cond.instanceMethod yX6_tailGains, Cond.selects RX6 yX6_tailGains yX6_tailGains, Cond.code yX6_tailGains cX6_tailGains 1 (some .int), Cond.methodLink RX6 64 yX6_ringGains, Cond.instanceMethod yX6_ringGains, Cond.selects RX6 yX6_ringGains yX6_ringGains, Cond.code yX6_ringGains cX6_ringGains 1 (some .int)]
def wsX7_sum : List Cond := .code yX7_sum cX7_sum 4 (some .int) :: ((wsX7_sum_r1 ++ (wsX7_sum_r2 ++ (wsX7_sum_r3 ++ wsX7_sum_r4))) ++ wsX70 ++ wsX20 ++ wsX60 ++ wsX00)
def wsX7_mean_r1 : List Cond := [Cond.constantLong RX7 173 (-1000000000000000), Cond.fieldLink RX7 57 "AgainAgain" "ratio" "LAgainAgain$Ratio;", Cond.fieldLink RX7 47 "AgainAgain" "walk" "LAgainAgain$Walk;", Cond.methodLink RX7 145 yX7_areMachines, Cond.instanceMethod yX7_areMachines, Cond.selects RX7 yX7_areMachines yX7_areMachines, Cond.initialized RX7, Cond.code yX7_areMachines cX7_areMachines 3 (some .boolean), Cond.fieldLink RX7 19 "AgainAgain" "machines" "LAgainAgain$Machines;", Cond.methodLink RX7 201 yX2_has, Cond.instanceMethod yX2_has, Cond.selects RX2 yX2_has yX2_has, Cond.initialized RX2, Cond.code yX2_has cX2_has 2 (some .boolean), Cond.fieldLink RX2 21 "AgainAgain$Machines" "many" "I", Cond.methodLink RX7 72 yX7_within, Cond.static yX7_within, Cond.code yX7_within cX7_within 3 (some .boolean), Cond.methodLink RX7 148 yX7_playOut, Cond.instanceMethod yX7_playOut, Cond.selects RX7 yX7_playOut yX7_playOut, Cond.code yX7_playOut cX7_playOut 3 none, Cond.fieldLink RX7 10 "AgainAgain" "game" "LAgainAgain$Game;", Cond.methodLink RX7 272 yX6_takeMatch]
def wsX7_mean_r2 : List Cond := [Cond.instanceMethod yX6_takeMatch, Cond.selects RX6 yX6_takeMatch yX6_takeMatch, Cond.initialized RX6, Cond.code yX6_takeMatch cX6_takeMatch 9 none, Cond.fieldLink RX6 11 "AgainAgain$Walk" "nexts" "[I", Cond.fieldLink RX6 15 "AgainAgain$Walk" "gains" "[I", Cond.methodLink RX6 31 yX2_statesOf, Cond.instanceMethod yX2_statesOf, Cond.selects RX2 yX2_statesOf yX2_statesOf, Cond.code yX2_statesOf cX2_statesOf 2 (some .int), Cond.fieldLink RX2 9 "AgainAgain$Machines" "sizes" "[I", Cond.methodLink RX6 35 yX2_actionOf, Cond.instanceMethod yX2_actionOf, Cond.selects RX2 yX2_actionOf yX2_actionOf, Cond.code yX2_actionOf cX2_actionOf 3 (some .int), Cond.fieldLink RX2 13 "AgainAgain$Machines" "actions" "[I", Cond.methodLink RX6 39 yX6_placeOf, Cond.static yX6_placeOf, Cond.code yX6_placeOf cX6_placeOf 2 (some .int), Cond.methodLink RX6 42 yX2_nextOf, Cond.instanceMethod yX2_nextOf, Cond.selects RX2 yX2_nextOf yX2_nextOf, Cond.code yX2_nextOf cX2_nextOf 4 (some .int), Cond.fieldLink RX2 18 "AgainAgain$Machines" "nexts" "[I"]
def wsX7_mean_r3 : List Cond := [Cond.methodLink RX6 46 yX0_gain, Cond.instanceMethod yX0_gain, Cond.selects RX0 yX0_gain yX0_gain, Cond.initialized RX0, Cond.code yX0_gain cX0_gain 3 (some .int), Cond.fieldLink RX0 9 "AgainAgain$Game" "gains" "[I", Cond.methodLink RX7 275 yX6_startAt, Cond.instanceMethod yX6_startAt, Cond.selects RX6 yX6_startAt yX6_startAt, Cond.code yX6_startAt cX6_startAt 4 none, Cond.fieldLink RX6 18 "AgainAgain$Walk" "firstMet" "[I", Cond.fieldLink RX6 21 "AgainAgain$Walk" "path" "[I", Cond.fieldLink RX6 24 "AgainAgain$Walk" "tail" "I", Cond.fieldLink RX6 28 "AgainAgain$Walk" "ring" "I", Cond.methodLink RX6 51 yJ7_fill_53178, Cond.static yJ7_fill_53178, Cond.initialized RJ7, Cond.code yJ7_fill_53178 cJ7_fill_53178 4 none, Cond.methodLink RX7 167 yX6_ringGains, Cond.instanceMethod yX6_ringGains, Cond.selects RX6 yX6_ringGains yX6_ringGains, Cond.code yX6_ringGains cX6_ringGains 1 (some .int), Cond.methodLink RX6 57 yX6_gainsAlong, Cond.instanceMethod yX6_gainsAlong]
def wsX7_mean_r4 : List Cond := [Cond.selects RX6 yX6_gainsAlong yX6_gainsAlong, Cond.code yX6_gainsAlong cX6_gainsAlong 5 (some .int), Cond.methodLink RX7 161 yX6_ring, Cond.instanceMethod yX6_ring, Cond.selects RX6 yX6_ring yX6_ring, Cond.code yX6_ring cX6_ring 1 (some .int), Cond.methodLink RX7 175 yX4_become, Cond.instanceMethod yX4_become, Cond.selects RX4 yX4_become yX4_become, Cond.initialized RX4, Cond.code yX4_become cX4_become 7 none, Cond.methodLink RX4 16 Lib.MathLoose.abs_long.x, Cond.static Lib.MathLoose.abs_long.x, Cond.initialized "java/lang/Math", Cond.code Lib.MathLoose.abs_long.x Lib.MathLoose.abs_long.code 2 (some .long), Cond.fieldLink RX4 7 "AgainAgain$Ratio" "top" "J", Cond.fieldLink RX4 13 "AgainAgain$Ratio" "bottom" "J", Cond.methodLink RX4 22 yX4_greatestShared, Cond.static yX4_greatestShared, Cond.code yX4_greatestShared cX4_greatestShared 11 (some .long), Cond.methodLink RX7 179 yX4_part, Cond.instanceMethod yX4_part, Cond.selects RX4 yX4_part yX4_part, Cond.code yX4_part cX4_part 2 (some .long)]
def wsX7_mean : List Cond := .code yX7_mean cX7_mean 4 (some .long) :: ((wsX7_mean_r1 ++ (wsX7_mean_r2 ++ (wsX7_mean_r3 ++ wsX7_mean_r4))) ++ wsX70 ++ wsX20 ++ wsX60 ++ wsX00 ++ wsX40)
def wsX7_matchWorth_r1 : List Cond := [Cond.fieldLink RX7 47 "AgainAgain" "walk" "LAgainAgain$Walk;", Cond.fieldLink RX7 10 "AgainAgain" "game" "LAgainAgain$Game;", Cond.methodLink RX7 148 yX7_playOut, Cond.instanceMethod yX7_playOut, Cond.selects RX7 yX7_playOut yX7_playOut, Cond.initialized RX7, Cond.code yX7_playOut cX7_playOut 3 none, Cond.fieldLink RX7 19 "AgainAgain" "machines" "LAgainAgain$Machines;", Cond.methodLink RX7 272 yX6_takeMatch, Cond.instanceMethod yX6_takeMatch, Cond.selects RX6 yX6_takeMatch yX6_takeMatch, Cond.initialized RX6, Cond.code yX6_takeMatch cX6_takeMatch 9 none, Cond.fieldLink RX6 11 "AgainAgain$Walk" "nexts" "[I", Cond.fieldLink RX6 15 "AgainAgain$Walk" "gains" "[I", Cond.methodLink RX6 31 yX2_statesOf, Cond.instanceMethod yX2_statesOf, Cond.selects RX2 yX2_statesOf yX2_statesOf, Cond.initialized RX2, Cond.code yX2_statesOf cX2_statesOf 2 (some .int), Cond.fieldLink RX2 9 "AgainAgain$Machines" "sizes" "[I", Cond.methodLink RX6 35 yX2_actionOf, Cond.instanceMethod yX2_actionOf, Cond.selects RX2 yX2_actionOf yX2_actionOf]
def wsX7_matchWorth_r2 : List Cond := [Cond.code yX2_actionOf cX2_actionOf 3 (some .int), Cond.fieldLink RX2 13 "AgainAgain$Machines" "actions" "[I", Cond.methodLink RX6 39 yX6_placeOf, Cond.static yX6_placeOf, Cond.code yX6_placeOf cX6_placeOf 2 (some .int), Cond.methodLink RX6 42 yX2_nextOf, Cond.instanceMethod yX2_nextOf, Cond.selects RX2 yX2_nextOf yX2_nextOf, Cond.code yX2_nextOf cX2_nextOf 4 (some .int), Cond.fieldLink RX2 18 "AgainAgain$Machines" "nexts" "[I", Cond.methodLink RX6 46 yX0_gain, Cond.instanceMethod yX0_gain, Cond.selects RX0 yX0_gain yX0_gain, Cond.initialized RX0, Cond.code yX0_gain cX0_gain 3 (some .int), Cond.fieldLink RX0 9 "AgainAgain$Game" "gains" "[I", Cond.methodLink RX7 275 yX6_startAt, Cond.instanceMethod yX6_startAt, Cond.selects RX6 yX6_startAt yX6_startAt, Cond.code yX6_startAt cX6_startAt 4 none, Cond.fieldLink RX6 18 "AgainAgain$Walk" "firstMet" "[I", Cond.fieldLink RX6 21 "AgainAgain$Walk" "path" "[I", Cond.fieldLink RX6 24 "AgainAgain$Walk" "tail" "I", Cond.fieldLink RX6 28 "AgainAgain$Walk" "ring" "I"]
def wsX7_matchWorth_r3 : List Cond := [Cond.methodLink RX6 51 yJ7_fill_53178, Cond.static yJ7_fill_53178, Cond.initialized RJ7, Cond.code yJ7_fill_53178 cJ7_fill_53178 4 none, Cond.methodLink RX7 282 yX6_worthInto, Cond.instanceMethod yX6_worthInto, Cond.selects RX6 yX6_worthInto yX6_worthInto, Cond.code yX6_worthInto cX6_worthInto 11 none, Cond.methodLink RX6 67 yX0_rateOver, Cond.instanceMethod yX0_rateOver, Cond.selects RX0 yX0_rateOver yX0_rateOver, Cond.code yX0_rateOver cX0_rateOver 1 (some .long), Cond.fieldLink RX0 13 "AgainAgain$Game" "over" "J", Cond.methodLink RX6 71 yX0_rateUnder, Cond.instanceMethod yX0_rateUnder, Cond.selects RX0 yX0_rateUnder yX0_rateUnder, Cond.code yX0_rateUnder cX0_rateUnder 1 (some .long), Cond.fieldLink RX0 19 "AgainAgain$Game" "under" "J", Cond.methodLink RX6 74 yX6_power, Cond.static yX6_power, Cond.code yX6_power cX6_power 6 (some .long), Cond.methodLink RX6 78 yX6_weighedAlong, Cond.instanceMethod yX6_weighedAlong, Cond.selects RX6 yX6_weighedAlong yX6_weighedAlong]
def wsX7_matchWorth_r4 : List Cond := [Cond.code yX6_weighedAlong cX6_weighedAlong 12 (some .long), Cond.methodLink RX6 82 yX4_become, Cond.instanceMethod yX4_become, Cond.selects RX4 yX4_become yX4_become, Cond.initialized RX4, Cond.code yX4_become cX4_become 7 none, Cond.methodLink RX4 16 Lib.MathLoose.abs_long.x, Cond.static Lib.MathLoose.abs_long.x, Cond.initialized "java/lang/Math", Cond.code Lib.MathLoose.abs_long.x Lib.MathLoose.abs_long.code 2 (some .long), Cond.fieldLink RX4 7 "AgainAgain$Ratio" "top" "J", Cond.fieldLink RX4 13 "AgainAgain$Ratio" "bottom" "J", Cond.methodLink RX4 22 yX4_greatestShared, Cond.static yX4_greatestShared, Cond.code yX4_greatestShared cX4_greatestShared 11 (some .long)]
def wsX7_matchWorth : List Cond := .code yX7_matchWorth cX7_matchWorth 4 none :: ((wsX7_matchWorth_r1 ++ (wsX7_matchWorth_r2 ++ (wsX7_matchWorth_r3 ++ wsX7_matchWorth_r4))) ++ wsX70 ++ wsX60 ++ wsX20 ++ wsX00 ++ wsX40)
def wsX7_worth_r1 : List Cond := [Cond.constantLong RX7 173 (-1000000000000000), Cond.fieldLink RX7 57 "AgainAgain" "ratio" "LAgainAgain$Ratio;", Cond.methodLink RX7 145 yX7_areMachines, Cond.instanceMethod yX7_areMachines, Cond.selects RX7 yX7_areMachines yX7_areMachines, Cond.initialized RX7, Cond.code yX7_areMachines cX7_areMachines 3 (some .boolean), Cond.fieldLink RX7 19 "AgainAgain" "machines" "LAgainAgain$Machines;", Cond.methodLink RX7 201 yX2_has, Cond.instanceMethod yX2_has, Cond.selects RX2 yX2_has yX2_has, Cond.initialized RX2, Cond.code yX2_has cX2_has 2 (some .boolean), Cond.fieldLink RX2 21 "AgainAgain$Machines" "many" "I", Cond.methodLink RX7 72 yX7_within, Cond.static yX7_within, Cond.code yX7_within cX7_within 3 (some .boolean), Cond.methodLink RX7 183 yX7_matchWorth, Cond.instanceMethod yX7_matchWorth, Cond.selects RX7 yX7_matchWorth yX7_matchWorth, Cond.code yX7_matchWorth cX7_matchWorth 4 none, Cond.fieldLink RX7 47 "AgainAgain" "walk" "LAgainAgain$Walk;", Cond.fieldLink RX7 10 "AgainAgain" "game" "LAgainAgain$Game;", Cond.methodLink RX7 148 yX7_playOut]
def wsX7_worth_r2 : List Cond := [Cond.instanceMethod yX7_playOut, Cond.selects RX7 yX7_playOut yX7_playOut, Cond.code yX7_playOut cX7_playOut 3 none, Cond.methodLink RX7 272 yX6_takeMatch, Cond.instanceMethod yX6_takeMatch, Cond.selects RX6 yX6_takeMatch yX6_takeMatch, Cond.initialized RX6, Cond.code yX6_takeMatch cX6_takeMatch 9 none, Cond.fieldLink RX6 11 "AgainAgain$Walk" "nexts" "[I", Cond.fieldLink RX6 15 "AgainAgain$Walk" "gains" "[I", Cond.methodLink RX6 31 yX2_statesOf, Cond.instanceMethod yX2_statesOf, Cond.selects RX2 yX2_statesOf yX2_statesOf, Cond.code yX2_statesOf cX2_statesOf 2 (some .int), Cond.fieldLink RX2 9 "AgainAgain$Machines" "sizes" "[I", Cond.methodLink RX6 35 yX2_actionOf, Cond.instanceMethod yX2_actionOf, Cond.selects RX2 yX2_actionOf yX2_actionOf, Cond.code yX2_actionOf cX2_actionOf 3 (some .int), Cond.fieldLink RX2 13 "AgainAgain$Machines" "actions" "[I", Cond.methodLink RX6 39 yX6_placeOf, Cond.static yX6_placeOf, Cond.code yX6_placeOf cX6_placeOf 2 (some .int), Cond.methodLink RX6 42 yX2_nextOf]
def wsX7_worth_r3 : List Cond := [Cond.instanceMethod yX2_nextOf, Cond.selects RX2 yX2_nextOf yX2_nextOf, Cond.code yX2_nextOf cX2_nextOf 4 (some .int), Cond.fieldLink RX2 18 "AgainAgain$Machines" "nexts" "[I", Cond.methodLink RX6 46 yX0_gain, Cond.instanceMethod yX0_gain, Cond.selects RX0 yX0_gain yX0_gain, Cond.initialized RX0, Cond.code yX0_gain cX0_gain 3 (some .int), Cond.fieldLink RX0 9 "AgainAgain$Game" "gains" "[I", Cond.methodLink RX7 275 yX6_startAt, Cond.instanceMethod yX6_startAt, Cond.selects RX6 yX6_startAt yX6_startAt, Cond.code yX6_startAt cX6_startAt 4 none, Cond.fieldLink RX6 18 "AgainAgain$Walk" "firstMet" "[I", Cond.fieldLink RX6 21 "AgainAgain$Walk" "path" "[I", Cond.fieldLink RX6 24 "AgainAgain$Walk" "tail" "I", Cond.fieldLink RX6 28 "AgainAgain$Walk" "ring" "I", Cond.methodLink RX6 51 yJ7_fill_53178, Cond.static yJ7_fill_53178, Cond.initialized RJ7, Cond.code yJ7_fill_53178 cJ7_fill_53178 4 none, Cond.methodLink RX7 282 yX6_worthInto, Cond.instanceMethod yX6_worthInto]
def wsX7_worth_r4 : List Cond := [Cond.selects RX6 yX6_worthInto yX6_worthInto, Cond.code yX6_worthInto cX6_worthInto 11 none, Cond.methodLink RX6 67 yX0_rateOver, Cond.instanceMethod yX0_rateOver, Cond.selects RX0 yX0_rateOver yX0_rateOver, Cond.code yX0_rateOver cX0_rateOver 1 (some .long), Cond.fieldLink RX0 13 "AgainAgain$Game" "over" "J", Cond.methodLink RX6 71 yX0_rateUnder, Cond.instanceMethod yX0_rateUnder, Cond.selects RX0 yX0_rateUnder yX0_rateUnder, Cond.code yX0_rateUnder cX0_rateUnder 1 (some .long), Cond.fieldLink RX0 19 "AgainAgain$Game" "under" "J", Cond.methodLink RX6 74 yX6_power, Cond.static yX6_power, Cond.code yX6_power cX6_power 6 (some .long), Cond.methodLink RX6 78 yX6_weighedAlong, Cond.instanceMethod yX6_weighedAlong, Cond.selects RX6 yX6_weighedAlong yX6_weighedAlong, Cond.code yX6_weighedAlong cX6_weighedAlong 12 (some .long), Cond.methodLink RX6 82 yX4_become, Cond.instanceMethod yX4_become, Cond.selects RX4 yX4_become yX4_become, Cond.initialized RX4, Cond.code yX4_become cX4_become 7 none]
def wsX7_worth_r5 : List Cond := [Cond.methodLink RX4 16 Lib.MathLoose.abs_long.x, Cond.static Lib.MathLoose.abs_long.x, Cond.initialized "java/lang/Math", Cond.code Lib.MathLoose.abs_long.x Lib.MathLoose.abs_long.code 2 (some .long), Cond.fieldLink RX4 7 "AgainAgain$Ratio" "top" "J", Cond.fieldLink RX4 13 "AgainAgain$Ratio" "bottom" "J", Cond.methodLink RX4 22 yX4_greatestShared, Cond.static yX4_greatestShared, Cond.code yX4_greatestShared cX4_greatestShared 11 (some .long), Cond.methodLink RX7 179 yX4_part, Cond.instanceMethod yX4_part, Cond.selects RX4 yX4_part yX4_part, Cond.code yX4_part cX4_part 2 (some .long)]
def wsX7_worth : List Cond := .code yX7_worth cX7_worth 4 (some .long) :: ((wsX7_worth_r1 ++ (wsX7_worth_r2 ++ (wsX7_worth_r3 ++ (wsX7_worth_r4 ++ wsX7_worth_r5)))) ++ wsX70 ++ wsX20 ++ wsX60 ++ wsX00 ++ wsX40)
def wsX7_placeBehindSlip : List Cond := .code yX7_placeBehindSlip cX7_placeBehindSlip 7 (some .int) :: ([.fieldLink RX7 19 "AgainAgain" "machines" "LAgainAgain$Machines;", .methodLink RX7 154 yX6_mine, .static yX6_mine, .initialized RX6, .code yX6_mine cX6_mine 1 (some .int), .methodLink RX7 243 yX6_theirs, .static yX6_theirs, .code yX6_theirs cX6_theirs 1 (some .int), .methodLink RX7 103 yX2_actionOf, .instanceMethod yX2_actionOf, .selects RX2 yX2_actionOf yX2_actionOf, .initialized RX2, .code yX2_actionOf cX2_actionOf 3 (some .int), .fieldLink RX2 13 "AgainAgain$Machines" "actions" "[I", .methodLink RX7 107 yX2_nextOf, .instanceMethod yX2_nextOf, .selects RX2 yX2_nextOf yX2_nextOf, .code yX2_nextOf cX2_nextOf 4 (some .int), .fieldLink RX2 18 "AgainAgain$Machines" "nexts" "[I", .methodLink RX7 286 yX6_placeOf, .static yX6_placeOf, .code yX6_placeOf cX6_placeOf 2 (some .int)] ++ wsX70 ++ wsX20)
def wsX7_slip_r1 : List Cond := [Cond.fieldLink RX7 47 "AgainAgain" "walk" "LAgainAgain$Walk;", Cond.methodLink RX7 145 yX7_areMachines, Cond.instanceMethod yX7_areMachines, Cond.selects RX7 yX7_areMachines yX7_areMachines, Cond.initialized RX7, Cond.code yX7_areMachines cX7_areMachines 3 (some .boolean), Cond.fieldLink RX7 19 "AgainAgain" "machines" "LAgainAgain$Machines;", Cond.methodLink RX7 201 yX2_has, Cond.instanceMethod yX2_has, Cond.selects RX2 yX2_has yX2_has, Cond.initialized RX2, Cond.code yX2_has cX2_has 2 (some .boolean), Cond.fieldLink RX2 21 "AgainAgain$Machines" "many" "I", Cond.methodLink RX7 72 yX7_within, Cond.static yX7_within, Cond.code yX7_within cX7_within 3 (some .boolean), Cond.methodLink RX7 148 yX7_playOut, Cond.instanceMethod yX7_playOut, Cond.selects RX7 yX7_playOut yX7_playOut, Cond.code yX7_playOut cX7_playOut 3 none, Cond.fieldLink RX7 10 "AgainAgain" "game" "LAgainAgain$Game;", Cond.methodLink RX7 272 yX6_takeMatch, Cond.instanceMethod yX6_takeMatch, Cond.selects RX6 yX6_takeMatch yX6_takeMatch]
def wsX7_slip_r2 : List Cond := [Cond.initialized RX6, Cond.code yX6_takeMatch cX6_takeMatch 9 none, Cond.fieldLink RX6 11 "AgainAgain$Walk" "nexts" "[I", Cond.fieldLink RX6 15 "AgainAgain$Walk" "gains" "[I", Cond.methodLink RX6 31 yX2_statesOf, Cond.instanceMethod yX2_statesOf, Cond.selects RX2 yX2_statesOf yX2_statesOf, Cond.code yX2_statesOf cX2_statesOf 2 (some .int), Cond.fieldLink RX2 9 "AgainAgain$Machines" "sizes" "[I", Cond.methodLink RX6 35 yX2_actionOf, Cond.instanceMethod yX2_actionOf, Cond.selects RX2 yX2_actionOf yX2_actionOf, Cond.code yX2_actionOf cX2_actionOf 3 (some .int), Cond.fieldLink RX2 13 "AgainAgain$Machines" "actions" "[I", Cond.methodLink RX6 39 yX6_placeOf, Cond.static yX6_placeOf, Cond.code yX6_placeOf cX6_placeOf 2 (some .int), Cond.methodLink RX6 42 yX2_nextOf, Cond.instanceMethod yX2_nextOf, Cond.selects RX2 yX2_nextOf yX2_nextOf, Cond.code yX2_nextOf cX2_nextOf 4 (some .int), Cond.fieldLink RX2 18 "AgainAgain$Machines" "nexts" "[I", Cond.methodLink RX6 46 yX0_gain, Cond.instanceMethod yX0_gain]
def wsX7_slip_r3 : List Cond := [Cond.selects RX0 yX0_gain yX0_gain, Cond.initialized RX0, Cond.code yX0_gain cX0_gain 3 (some .int), Cond.fieldLink RX0 9 "AgainAgain$Game" "gains" "[I", Cond.methodLink RX7 275 yX6_startAt, Cond.instanceMethod yX6_startAt, Cond.selects RX6 yX6_startAt yX6_startAt, Cond.code yX6_startAt cX6_startAt 4 none, Cond.fieldLink RX6 18 "AgainAgain$Walk" "firstMet" "[I", Cond.fieldLink RX6 21 "AgainAgain$Walk" "path" "[I", Cond.fieldLink RX6 24 "AgainAgain$Walk" "tail" "I", Cond.fieldLink RX6 28 "AgainAgain$Walk" "ring" "I", Cond.methodLink RX6 51 yJ7_fill_53178, Cond.static yJ7_fill_53178, Cond.initialized RJ7, Cond.code yJ7_fill_53178 cJ7_fill_53178 4 none, Cond.methodLink RX7 151 yX6_placeIn, Cond.instanceMethod yX6_placeIn, Cond.selects RX6 yX6_placeIn yX6_placeIn, Cond.code yX6_placeIn cX6_placeIn 2 (some .int), Cond.methodLink RX7 187 yX7_placeBehindSlip, Cond.instanceMethod yX7_placeBehindSlip, Cond.selects RX7 yX7_placeBehindSlip yX7_placeBehindSlip, Cond.code yX7_placeBehindSlip cX7_placeBehindSlip 7 (some .int)]
def wsX7_slip_r4 : List Cond := [Cond.methodLink RX7 154 yX6_mine, Cond.static yX6_mine, Cond.code yX6_mine cX6_mine 1 (some .int), Cond.methodLink RX7 243 yX6_theirs, Cond.static yX6_theirs, Cond.code yX6_theirs cX6_theirs 1 (some .int), Cond.methodLink RX7 103 yX2_actionOf, Cond.methodLink RX7 107 yX2_nextOf, Cond.methodLink RX7 286 yX6_placeOf, Cond.methodLink RX7 190 yX6_meeting, Cond.instanceMethod yX6_meeting, Cond.selects RX6 yX6_meeting yX6_meeting, Cond.code yX6_meeting cX6_meeting 6 (some .int)]
def wsX7_slip : List Cond := .code yX7_slip cX7_slip 5 (some .int) :: ((wsX7_slip_r1 ++ (wsX7_slip_r2 ++ (wsX7_slip_r3 ++ wsX7_slip_r4))) ++ wsX70 ++ wsX20 ++ wsX60 ++ wsX00)
def wsX7_oneIf : List Cond := .code yX7_oneIf cX7_oneIf 1 (some .int) :: ([])
def wsX7_like_r1 : List Cond := [Cond.fieldLink RX7 33 "AgainAgain" "likeness" "LAgainAgain$Likeness;", Cond.fieldLink RX7 19 "AgainAgain" "machines" "LAgainAgain$Machines;", Cond.methodLink RX7 145 yX7_areMachines, Cond.instanceMethod yX7_areMachines, Cond.selects RX7 yX7_areMachines yX7_areMachines, Cond.initialized RX7, Cond.code yX7_areMachines cX7_areMachines 3 (some .boolean), Cond.methodLink RX7 201 yX2_has, Cond.instanceMethod yX2_has, Cond.selects RX2 yX2_has yX2_has, Cond.initialized RX2, Cond.code yX2_has cX2_has 2 (some .boolean), Cond.fieldLink RX2 21 "AgainAgain$Machines" "many" "I", Cond.methodLink RX7 193 yX1_areLike, Cond.instanceMethod yX1_areLike, Cond.selects RX1 yX1_areLike yX1_areLike, Cond.initialized RX1, Cond.code yX1_areLike cX1_areLike 4 (some .boolean), Cond.methodLink RX1 15 yX1_statesLike, Cond.instanceMethod yX1_statesLike, Cond.selects RX1 yX1_statesLike yX1_statesLike, Cond.code yX1_statesLike cX1_statesLike 13 (some .boolean), Cond.fieldLink RX1 9 "AgainAgain$Likeness" "pairs" "[I", Cond.methodLink RX1 55 yX6_placeOf]
def wsX7_like_r2 : List Cond := [Cond.static yX6_placeOf, Cond.initialized RX6, Cond.code yX6_placeOf cX6_placeOf 2 (some .int), Cond.methodLink RX1 59 yX6_mine, Cond.static yX6_mine, Cond.code yX6_mine cX6_mine 1 (some .int), Cond.methodLink RX1 62 yX6_theirs, Cond.static yX6_theirs, Cond.code yX6_theirs cX6_theirs 1 (some .int), Cond.methodLink RX1 65 yX2_actionOf, Cond.instanceMethod yX2_actionOf, Cond.selects RX2 yX2_actionOf yX2_actionOf, Cond.code yX2_actionOf cX2_actionOf 3 (some .int), Cond.fieldLink RX2 13 "AgainAgain$Machines" "actions" "[I", Cond.methodLink RX1 51 yX2_nextOf, Cond.instanceMethod yX2_nextOf, Cond.selects RX2 yX2_nextOf yX2_nextOf, Cond.code yX2_nextOf cX2_nextOf 4 (some .int), Cond.fieldLink RX2 18 "AgainAgain$Machines" "nexts" "[I", Cond.methodLink RX1 41 yX1_holds, Cond.static yX1_holds, Cond.code yX1_holds cX1_holds 2 (some .boolean), Cond.methodLink RX7 197 yX7_oneIf, Cond.static yX7_oneIf]
def wsX7_like_r3 : List Cond := [Cond.code yX7_oneIf cX7_oneIf 1 (some .int)]
def wsX7_like : List Cond := .code yX7_like cX7_like 3 (some .int) :: ((wsX7_like_r1 ++ (wsX7_like_r2 ++ wsX7_like_r3)) ++ wsX70 ++ wsX20 ++ wsX10)
def wsX7_smallest_r1 : List Cond := [Cond.fieldLink RX7 19 "AgainAgain" "machines" "LAgainAgain$Machines;", Cond.fieldLink RX7 33 "AgainAgain" "likeness" "LAgainAgain$Likeness;", Cond.methodLink RX7 201 yX2_has, Cond.instanceMethod yX2_has, Cond.selects RX2 yX2_has yX2_has, Cond.initialized RX2, Cond.code yX2_has cX2_has 2 (some .boolean), Cond.fieldLink RX2 21 "AgainAgain$Machines" "many" "I", Cond.methodLink RX7 204 yX1_unlikeStates, Cond.instanceMethod yX1_unlikeStates, Cond.selects RX1 yX1_unlikeStates yX1_unlikeStates, Cond.initialized RX1, Cond.code yX1_unlikeStates cX1_unlikeStates 6 (some .int), Cond.methodLink RX1 33 yX1_reachedStates, Cond.static yX1_reachedStates, Cond.code yX1_reachedStates cX1_reachedStates 6 (some .int), Cond.methodLink RX1 37 yX2_statesOf, Cond.instanceMethod yX2_statesOf, Cond.selects RX2 yX2_statesOf yX2_statesOf, Cond.code yX2_statesOf cX2_statesOf 2 (some .int), Cond.fieldLink RX2 9 "AgainAgain$Machines" "sizes" "[I", Cond.methodLink RX1 41 yX1_holds, Cond.static yX1_holds, Cond.code yX1_holds cX1_holds 2 (some .boolean)]
def wsX7_smallest_r2 : List Cond := [Cond.methodLink RX1 51 yX2_nextOf, Cond.instanceMethod yX2_nextOf, Cond.selects RX2 yX2_nextOf yX2_nextOf, Cond.code yX2_nextOf cX2_nextOf 4 (some .int), Cond.fieldLink RX2 18 "AgainAgain$Machines" "nexts" "[I", Cond.methodLink RX1 45 yX1_isNewState, Cond.instanceMethod yX1_isNewState, Cond.selects RX1 yX1_isNewState yX1_isNewState, Cond.code yX1_isNewState cX1_isNewState 6 (some .boolean), Cond.methodLink RX1 15 yX1_statesLike, Cond.instanceMethod yX1_statesLike, Cond.selects RX1 yX1_statesLike yX1_statesLike, Cond.code yX1_statesLike cX1_statesLike 13 (some .boolean), Cond.fieldLink RX1 9 "AgainAgain$Likeness" "pairs" "[I", Cond.methodLink RX1 55 yX6_placeOf, Cond.static yX6_placeOf, Cond.initialized RX6, Cond.code yX6_placeOf cX6_placeOf 2 (some .int), Cond.methodLink RX1 59 yX6_mine, Cond.static yX6_mine, Cond.code yX6_mine cX6_mine 1 (some .int), Cond.methodLink RX1 62 yX6_theirs, Cond.static yX6_theirs, Cond.code yX6_theirs cX6_theirs 1 (some .int)]
def wsX7_smallest_r3 : List Cond := [Cond.methodLink RX1 65 yX2_actionOf, Cond.instanceMethod yX2_actionOf, Cond.selects RX2 yX2_actionOf yX2_actionOf, Cond.code yX2_actionOf cX2_actionOf 3 (some .int), Cond.fieldLink RX2 13 "AgainAgain$Machines" "actions" "[I"]
def wsX7_smallest : List Cond := .code yX7_smallest cX7_smallest 2 (some .int) :: ((wsX7_smallest_r1 ++ (wsX7_smallest_r2 ++ wsX7_smallest_r3)) ++ wsX70 ++ wsX20 ++ wsX10)
def wsX7_best_r1 : List Cond := [Cond.fieldLink RX7 19 "AgainAgain" "machines" "LAgainAgain$Machines;", Cond.fieldLink RX7 40 "AgainAgain" "plans" "LAgainAgain$Plans;", Cond.fieldLink RX7 10 "AgainAgain" "game" "LAgainAgain$Game;", Cond.methodLink RX7 92 yX2_hasState, Cond.instanceMethod yX2_hasState, Cond.selects RX2 yX2_hasState yX2_hasState, Cond.initialized RX2, Cond.code yX2_hasState cX2_hasState 3 (some .boolean), Cond.fieldLink RX2 9 "AgainAgain$Machines" "sizes" "[I", Cond.methodLink RX2 25 yX2_has, Cond.instanceMethod yX2_has, Cond.selects RX2 yX2_has yX2_has, Cond.code yX2_has cX2_has 2 (some .boolean), Cond.fieldLink RX2 21 "AgainAgain$Machines" "many" "I", Cond.methodLink RX7 208 yX3_learn, Cond.instanceMethod yX3_learn, Cond.selects RX3 yX3_learn yX3_learn, Cond.initialized RX3, Cond.code yX3_learn cX3_learn 6 none, Cond.fieldLink RX3 32 "AgainAgain$Plans" "tried" "LAgainAgain$Ratio;", Cond.methodLink RX3 50 yX3_weigh, Cond.instanceMethod yX3_weigh, Cond.selects RX3 yX3_weigh yX3_weigh, Cond.code yX3_weigh cX3_weigh 7 none]
def wsX7_best_r2 : List Cond := [Cond.fieldLink RX3 25 "AgainAgain$Plans" "walk" "LAgainAgain$Walk;", Cond.methodLink RX3 38 yX6_takePlan, Cond.instanceMethod yX6_takePlan, Cond.selects RX6 yX6_takePlan yX6_takePlan, Cond.initialized RX6, Cond.code yX6_takePlan cX6_takePlan 8 none, Cond.fieldLink RX6 11 "AgainAgain$Walk" "nexts" "[I", Cond.fieldLink RX6 15 "AgainAgain$Walk" "gains" "[I", Cond.methodLink RX6 31 yX2_statesOf, Cond.instanceMethod yX2_statesOf, Cond.selects RX2 yX2_statesOf yX2_statesOf, Cond.code yX2_statesOf cX2_statesOf 2 (some .int), Cond.methodLink RX6 42 yX2_nextOf, Cond.instanceMethod yX2_nextOf, Cond.selects RX2 yX2_nextOf yX2_nextOf, Cond.code yX2_nextOf cX2_nextOf 4 (some .int), Cond.fieldLink RX2 18 "AgainAgain$Machines" "nexts" "[I", Cond.methodLink RX6 35 yX2_actionOf, Cond.instanceMethod yX2_actionOf, Cond.selects RX2 yX2_actionOf yX2_actionOf, Cond.code yX2_actionOf cX2_actionOf 3 (some .int), Cond.fieldLink RX2 13 "AgainAgain$Machines" "actions" "[I", Cond.methodLink RX6 46 yX0_gain, Cond.instanceMethod yX0_gain]
def wsX7_best_r3 : List Cond := [Cond.selects RX0 yX0_gain yX0_gain, Cond.initialized RX0, Cond.code yX0_gain cX0_gain 3 (some .int), Cond.fieldLink RX0 9 "AgainAgain$Game" "gains" "[I", Cond.methodLink RX3 42 yX6_startAt, Cond.instanceMethod yX6_startAt, Cond.selects RX6 yX6_startAt yX6_startAt, Cond.code yX6_startAt cX6_startAt 4 none, Cond.fieldLink RX6 18 "AgainAgain$Walk" "firstMet" "[I", Cond.fieldLink RX6 21 "AgainAgain$Walk" "path" "[I", Cond.fieldLink RX6 24 "AgainAgain$Walk" "tail" "I", Cond.fieldLink RX6 28 "AgainAgain$Walk" "ring" "I", Cond.methodLink RX6 51 yJ7_fill_53178, Cond.static yJ7_fill_53178, Cond.initialized RJ7, Cond.code yJ7_fill_53178 cJ7_fill_53178 4 none, Cond.methodLink RX3 46 yX6_worthInto, Cond.instanceMethod yX6_worthInto, Cond.selects RX6 yX6_worthInto yX6_worthInto, Cond.code yX6_worthInto cX6_worthInto 11 none, Cond.methodLink RX6 67 yX0_rateOver, Cond.instanceMethod yX0_rateOver, Cond.selects RX0 yX0_rateOver yX0_rateOver, Cond.code yX0_rateOver cX0_rateOver 1 (some .long)]
def wsX7_best_r4 : List Cond := [Cond.fieldLink RX0 13 "AgainAgain$Game" "over" "J", Cond.methodLink RX6 71 yX0_rateUnder, Cond.instanceMethod yX0_rateUnder, Cond.selects RX0 yX0_rateUnder yX0_rateUnder, Cond.code yX0_rateUnder cX0_rateUnder 1 (some .long), Cond.fieldLink RX0 19 "AgainAgain$Game" "under" "J", Cond.methodLink RX6 74 yX6_power, Cond.static yX6_power, Cond.code yX6_power cX6_power 6 (some .long), Cond.methodLink RX6 78 yX6_weighedAlong, Cond.instanceMethod yX6_weighedAlong, Cond.selects RX6 yX6_weighedAlong yX6_weighedAlong, Cond.code yX6_weighedAlong cX6_weighedAlong 12 (some .long), Cond.methodLink RX6 82 yX4_become, Cond.instanceMethod yX4_become, Cond.selects RX4 yX4_become yX4_become, Cond.initialized RX4, Cond.code yX4_become cX4_become 7 none, Cond.methodLink RX4 16 Lib.MathLoose.abs_long.x, Cond.static Lib.MathLoose.abs_long.x, Cond.initialized "java/lang/Math", Cond.code Lib.MathLoose.abs_long.x Lib.MathLoose.abs_long.code 2 (some .long), Cond.fieldLink RX4 7 "AgainAgain$Ratio" "top" "J", Cond.fieldLink RX4 13 "AgainAgain$Ratio" "bottom" "J"]
def wsX7_best_r5 : List Cond := [Cond.methodLink RX4 22 yX4_greatestShared, Cond.static yX4_greatestShared, Cond.code yX4_greatestShared cX4_greatestShared 11 (some .long), Cond.methodLink RX3 54 yX3_slotOf, Cond.static yX3_slotOf, Cond.code yX3_slotOf cX3_slotOf 2 (some .int), Cond.methodLink RX3 58 yX3_keep, Cond.instanceMethod yX3_keep, Cond.selects RX3 yX3_keep yX3_keep, Cond.code yX3_keep cX3_keep 3 none, Cond.fieldLink RX3 11 "AgainAgain$Plans" "plans" "[I", Cond.fieldLink RX3 15 "AgainAgain$Plans" "tops" "[J", Cond.fieldLink RX3 19 "AgainAgain$Plans" "bottoms" "[J", Cond.methodLink RX3 73 yX4_part, Cond.instanceMethod yX4_part, Cond.selects RX4 yX4_part yX4_part, Cond.code yX4_part cX4_part 2 (some .long), Cond.methodLink RX3 62 yX2_statesOf, Cond.methodLink RX3 66 yX3_plansAgainst, Cond.static yX3_plansAgainst, Cond.code yX3_plansAgainst cX3_plansAgainst 3 (some .int), Cond.methodLink RX3 69 yX3_bestCompared, Cond.instanceMethod yX3_bestCompared, Cond.selects RX3 yX3_bestCompared yX3_bestCompared]
def wsX7_best_r6 : List Cond := [Cond.code yX3_bestCompared cX3_bestCompared 4 (some .int), Cond.methodLink RX3 80 yX4_compareWith, Cond.instanceMethod yX4_compareWith, Cond.selects RX4 yX4_compareWith yX4_compareWith, Cond.code yX4_compareWith cX4_compareWith 5 (some .int), Cond.methodLink RX4 26 yJ13_compare_74951, Cond.static yJ13_compare_74951, Cond.initialized RJ13, Cond.code yJ13_compare_74951 cJ13_compare_74951 4 (some .int), Cond.methodLink RX7 212 yX3_bestPlan, Cond.instanceMethod yX3_bestPlan, Cond.selects RX3 yX3_bestPlan yX3_bestPlan, Cond.code yX3_bestPlan cX3_bestPlan 3 (some .int)]
def wsX7_best : List Cond := .code yX7_best cX7_best 3 (some .int) :: ((wsX7_best_r1 ++ (wsX7_best_r2 ++ (wsX7_best_r3 ++ (wsX7_best_r4 ++ (wsX7_best_r5 ++ wsX7_best_r6))))) ++ wsX70 ++ wsX20 ++ wsX30 ++ wsX60 ++ wsX00 ++ wsX40)
def wsX7_bestWorth_r1 : List Cond := [Cond.fieldLink RX7 19 "AgainAgain" "machines" "LAgainAgain$Machines;", Cond.constantLong RX7 173 (-1000000000000000), Cond.fieldLink RX7 40 "AgainAgain" "plans" "LAgainAgain$Plans;", Cond.fieldLink RX7 10 "AgainAgain" "game" "LAgainAgain$Game;", Cond.methodLink RX7 92 yX2_hasState, Cond.instanceMethod yX2_hasState, Cond.selects RX2 yX2_hasState yX2_hasState, Cond.initialized RX2, Cond.code yX2_hasState cX2_hasState 3 (some .boolean), Cond.fieldLink RX2 9 "AgainAgain$Machines" "sizes" "[I", Cond.methodLink RX2 25 yX2_has, Cond.instanceMethod yX2_has, Cond.selects RX2 yX2_has yX2_has, Cond.code yX2_has cX2_has 2 (some .boolean), Cond.fieldLink RX2 21 "AgainAgain$Machines" "many" "I", Cond.methodLink RX7 72 yX7_within, Cond.static yX7_within, Cond.initialized RX7, Cond.code yX7_within cX7_within 3 (some .boolean), Cond.methodLink RX7 208 yX3_learn, Cond.instanceMethod yX3_learn, Cond.selects RX3 yX3_learn yX3_learn, Cond.initialized RX3, Cond.code yX3_learn cX3_learn 6 none]
def wsX7_bestWorth_r2 : List Cond := [Cond.fieldLink RX3 32 "AgainAgain$Plans" "tried" "LAgainAgain$Ratio;", Cond.methodLink RX3 50 yX3_weigh, Cond.instanceMethod yX3_weigh, Cond.selects RX3 yX3_weigh yX3_weigh, Cond.code yX3_weigh cX3_weigh 7 none, Cond.fieldLink RX3 25 "AgainAgain$Plans" "walk" "LAgainAgain$Walk;", Cond.methodLink RX3 38 yX6_takePlan, Cond.instanceMethod yX6_takePlan, Cond.selects RX6 yX6_takePlan yX6_takePlan, Cond.initialized RX6, Cond.code yX6_takePlan cX6_takePlan 8 none, Cond.fieldLink RX6 11 "AgainAgain$Walk" "nexts" "[I", Cond.fieldLink RX6 15 "AgainAgain$Walk" "gains" "[I", Cond.methodLink RX6 31 yX2_statesOf, Cond.instanceMethod yX2_statesOf, Cond.selects RX2 yX2_statesOf yX2_statesOf, Cond.code yX2_statesOf cX2_statesOf 2 (some .int), Cond.methodLink RX6 42 yX2_nextOf, Cond.instanceMethod yX2_nextOf, Cond.selects RX2 yX2_nextOf yX2_nextOf, Cond.code yX2_nextOf cX2_nextOf 4 (some .int), Cond.fieldLink RX2 18 "AgainAgain$Machines" "nexts" "[I", Cond.methodLink RX6 35 yX2_actionOf, Cond.instanceMethod yX2_actionOf]
def wsX7_bestWorth_r3 : List Cond := [Cond.selects RX2 yX2_actionOf yX2_actionOf, Cond.code yX2_actionOf cX2_actionOf 3 (some .int), Cond.fieldLink RX2 13 "AgainAgain$Machines" "actions" "[I", Cond.methodLink RX6 46 yX0_gain, Cond.instanceMethod yX0_gain, Cond.selects RX0 yX0_gain yX0_gain, Cond.initialized RX0, Cond.code yX0_gain cX0_gain 3 (some .int), Cond.fieldLink RX0 9 "AgainAgain$Game" "gains" "[I", Cond.methodLink RX3 42 yX6_startAt, Cond.instanceMethod yX6_startAt, Cond.selects RX6 yX6_startAt yX6_startAt, Cond.code yX6_startAt cX6_startAt 4 none, Cond.fieldLink RX6 18 "AgainAgain$Walk" "firstMet" "[I", Cond.fieldLink RX6 21 "AgainAgain$Walk" "path" "[I", Cond.fieldLink RX6 24 "AgainAgain$Walk" "tail" "I", Cond.fieldLink RX6 28 "AgainAgain$Walk" "ring" "I", Cond.methodLink RX6 51 yJ7_fill_53178, Cond.static yJ7_fill_53178, Cond.initialized RJ7, Cond.code yJ7_fill_53178 cJ7_fill_53178 4 none, Cond.methodLink RX3 46 yX6_worthInto, Cond.instanceMethod yX6_worthInto, Cond.selects RX6 yX6_worthInto yX6_worthInto]
def wsX7_bestWorth_r4 : List Cond := [Cond.code yX6_worthInto cX6_worthInto 11 none, Cond.methodLink RX6 67 yX0_rateOver, Cond.instanceMethod yX0_rateOver, Cond.selects RX0 yX0_rateOver yX0_rateOver, Cond.code yX0_rateOver cX0_rateOver 1 (some .long), Cond.fieldLink RX0 13 "AgainAgain$Game" "over" "J", Cond.methodLink RX6 71 yX0_rateUnder, Cond.instanceMethod yX0_rateUnder, Cond.selects RX0 yX0_rateUnder yX0_rateUnder, Cond.code yX0_rateUnder cX0_rateUnder 1 (some .long), Cond.fieldLink RX0 19 "AgainAgain$Game" "under" "J", Cond.methodLink RX6 74 yX6_power, Cond.static yX6_power, Cond.code yX6_power cX6_power 6 (some .long), Cond.methodLink RX6 78 yX6_weighedAlong, Cond.instanceMethod yX6_weighedAlong, Cond.selects RX6 yX6_weighedAlong yX6_weighedAlong, Cond.code yX6_weighedAlong cX6_weighedAlong 12 (some .long), Cond.methodLink RX6 82 yX4_become, Cond.instanceMethod yX4_become, Cond.selects RX4 yX4_become yX4_become, Cond.initialized RX4, Cond.code yX4_become cX4_become 7 none, Cond.methodLink RX4 16 Lib.MathLoose.abs_long.x]
def wsX7_bestWorth_r5 : List Cond := [Cond.static Lib.MathLoose.abs_long.x, Cond.initialized "java/lang/Math", Cond.code Lib.MathLoose.abs_long.x Lib.MathLoose.abs_long.code 2 (some .long), Cond.fieldLink RX4 7 "AgainAgain$Ratio" "top" "J", Cond.fieldLink RX4 13 "AgainAgain$Ratio" "bottom" "J", Cond.methodLink RX4 22 yX4_greatestShared, Cond.static yX4_greatestShared, Cond.code yX4_greatestShared cX4_greatestShared 11 (some .long), Cond.methodLink RX3 54 yX3_slotOf, Cond.static yX3_slotOf, Cond.code yX3_slotOf cX3_slotOf 2 (some .int), Cond.methodLink RX3 58 yX3_keep, Cond.instanceMethod yX3_keep, Cond.selects RX3 yX3_keep yX3_keep, Cond.code yX3_keep cX3_keep 3 none, Cond.fieldLink RX3 11 "AgainAgain$Plans" "plans" "[I", Cond.fieldLink RX3 15 "AgainAgain$Plans" "tops" "[J", Cond.fieldLink RX3 19 "AgainAgain$Plans" "bottoms" "[J", Cond.methodLink RX3 73 yX4_part, Cond.instanceMethod yX4_part, Cond.selects RX4 yX4_part yX4_part, Cond.code yX4_part cX4_part 2 (some .long), Cond.methodLink RX3 62 yX2_statesOf, Cond.methodLink RX3 66 yX3_plansAgainst]
def wsX7_bestWorth_r6 : List Cond := [Cond.static yX3_plansAgainst, Cond.code yX3_plansAgainst cX3_plansAgainst 3 (some .int), Cond.methodLink RX3 69 yX3_bestCompared, Cond.instanceMethod yX3_bestCompared, Cond.selects RX3 yX3_bestCompared yX3_bestCompared, Cond.code yX3_bestCompared cX3_bestCompared 4 (some .int), Cond.methodLink RX3 80 yX4_compareWith, Cond.instanceMethod yX4_compareWith, Cond.selects RX4 yX4_compareWith yX4_compareWith, Cond.code yX4_compareWith cX4_compareWith 5 (some .int), Cond.methodLink RX4 26 yJ13_compare_74951, Cond.static yJ13_compare_74951, Cond.initialized RJ13, Cond.code yJ13_compare_74951 cJ13_compare_74951 4 (some .int), Cond.methodLink RX7 215 yX3_bestPart, Cond.instanceMethod yX3_bestPart, Cond.selects RX3 yX3_bestPart yX3_bestPart, Cond.code yX3_bestPart cX3_bestPart 4 (some .long)]
def wsX7_bestWorth : List Cond := .code yX7_bestWorth cX7_bestWorth 4 (some .long) :: ((wsX7_bestWorth_r1 ++ (wsX7_bestWorth_r2 ++ (wsX7_bestWorth_r3 ++ (wsX7_bestWorth_r4 ++ (wsX7_bestWorth_r5 ++ wsX7_bestWorth_r6))))) ++ wsX70 ++ wsX20 ++ wsX30 ++ wsX60 ++ wsX00 ++ wsX40)
def wsX7_planWorth_r1 : List Cond := [Cond.fieldLink RX7 19 "AgainAgain" "machines" "LAgainAgain$Machines;", Cond.constantLong RX7 173 (-1000000000000000), Cond.fieldLink RX7 40 "AgainAgain" "plans" "LAgainAgain$Plans;", Cond.fieldLink RX7 10 "AgainAgain" "game" "LAgainAgain$Game;", Cond.fieldLink RX7 57 "AgainAgain" "ratio" "LAgainAgain$Ratio;", Cond.methodLink RX7 92 yX2_hasState, Cond.instanceMethod yX2_hasState, Cond.selects RX2 yX2_hasState yX2_hasState, Cond.initialized RX2, Cond.code yX2_hasState cX2_hasState 3 (some .boolean), Cond.fieldLink RX2 9 "AgainAgain$Machines" "sizes" "[I", Cond.methodLink RX2 25 yX2_has, Cond.instanceMethod yX2_has, Cond.selects RX2 yX2_has yX2_has, Cond.code yX2_has cX2_has 2 (some .boolean), Cond.fieldLink RX2 21 "AgainAgain$Machines" "many" "I", Cond.methodLink RX7 72 yX7_within, Cond.static yX7_within, Cond.initialized RX7, Cond.code yX7_within cX7_within 3 (some .boolean), Cond.methodLink RX7 219 yX2_statesOf, Cond.instanceMethod yX2_statesOf, Cond.selects RX2 yX2_statesOf yX2_statesOf, Cond.code yX2_statesOf cX2_statesOf 2 (some .int)]
def wsX7_planWorth_r2 : List Cond := [Cond.methodLink RX7 222 yX3_plansAgainst, Cond.static yX3_plansAgainst, Cond.initialized RX3, Cond.code yX3_plansAgainst cX3_plansAgainst 3 (some .int), Cond.methodLink RX7 225 yX3_weigh, Cond.instanceMethod yX3_weigh, Cond.selects RX3 yX3_weigh yX3_weigh, Cond.code yX3_weigh cX3_weigh 7 none, Cond.fieldLink RX3 25 "AgainAgain$Plans" "walk" "LAgainAgain$Walk;", Cond.methodLink RX3 38 yX6_takePlan, Cond.instanceMethod yX6_takePlan, Cond.selects RX6 yX6_takePlan yX6_takePlan, Cond.initialized RX6, Cond.code yX6_takePlan cX6_takePlan 8 none, Cond.fieldLink RX6 11 "AgainAgain$Walk" "nexts" "[I", Cond.fieldLink RX6 15 "AgainAgain$Walk" "gains" "[I", Cond.methodLink RX6 31 yX2_statesOf, Cond.methodLink RX6 42 yX2_nextOf, Cond.instanceMethod yX2_nextOf, Cond.selects RX2 yX2_nextOf yX2_nextOf, Cond.code yX2_nextOf cX2_nextOf 4 (some .int), Cond.fieldLink RX2 18 "AgainAgain$Machines" "nexts" "[I", Cond.methodLink RX6 35 yX2_actionOf, Cond.instanceMethod yX2_actionOf]
def wsX7_planWorth_r3 : List Cond := [Cond.selects RX2 yX2_actionOf yX2_actionOf, Cond.code yX2_actionOf cX2_actionOf 3 (some .int), Cond.fieldLink RX2 13 "AgainAgain$Machines" "actions" "[I", Cond.methodLink RX6 46 yX0_gain, Cond.instanceMethod yX0_gain, Cond.selects RX0 yX0_gain yX0_gain, Cond.initialized RX0, Cond.code yX0_gain cX0_gain 3 (some .int), Cond.fieldLink RX0 9 "AgainAgain$Game" "gains" "[I", Cond.methodLink RX3 42 yX6_startAt, Cond.instanceMethod yX6_startAt, Cond.selects RX6 yX6_startAt yX6_startAt, Cond.code yX6_startAt cX6_startAt 4 none, Cond.fieldLink RX6 18 "AgainAgain$Walk" "firstMet" "[I", Cond.fieldLink RX6 21 "AgainAgain$Walk" "path" "[I", Cond.fieldLink RX6 24 "AgainAgain$Walk" "tail" "I", Cond.fieldLink RX6 28 "AgainAgain$Walk" "ring" "I", Cond.methodLink RX6 51 yJ7_fill_53178, Cond.static yJ7_fill_53178, Cond.initialized RJ7, Cond.code yJ7_fill_53178 cJ7_fill_53178 4 none, Cond.methodLink RX3 46 yX6_worthInto, Cond.instanceMethod yX6_worthInto, Cond.selects RX6 yX6_worthInto yX6_worthInto]
def wsX7_planWorth_r4 : List Cond := [Cond.code yX6_worthInto cX6_worthInto 11 none, Cond.methodLink RX6 67 yX0_rateOver, Cond.instanceMethod yX0_rateOver, Cond.selects RX0 yX0_rateOver yX0_rateOver, Cond.code yX0_rateOver cX0_rateOver 1 (some .long), Cond.fieldLink RX0 13 "AgainAgain$Game" "over" "J", Cond.methodLink RX6 71 yX0_rateUnder, Cond.instanceMethod yX0_rateUnder, Cond.selects RX0 yX0_rateUnder yX0_rateUnder, Cond.code yX0_rateUnder cX0_rateUnder 1 (some .long), Cond.fieldLink RX0 19 "AgainAgain$Game" "under" "J", Cond.methodLink RX6 74 yX6_power, Cond.static yX6_power, Cond.code yX6_power cX6_power 6 (some .long), Cond.methodLink RX6 78 yX6_weighedAlong, Cond.instanceMethod yX6_weighedAlong, Cond.selects RX6 yX6_weighedAlong yX6_weighedAlong, Cond.code yX6_weighedAlong cX6_weighedAlong 12 (some .long), Cond.methodLink RX6 82 yX4_become, Cond.instanceMethod yX4_become, Cond.selects RX4 yX4_become yX4_become, Cond.initialized RX4, Cond.code yX4_become cX4_become 7 none, Cond.methodLink RX4 16 Lib.MathLoose.abs_long.x]
def wsX7_planWorth_r5 : List Cond := [Cond.static Lib.MathLoose.abs_long.x, Cond.initialized "java/lang/Math", Cond.code Lib.MathLoose.abs_long.x Lib.MathLoose.abs_long.code 2 (some .long), Cond.fieldLink RX4 7 "AgainAgain$Ratio" "top" "J", Cond.fieldLink RX4 13 "AgainAgain$Ratio" "bottom" "J", Cond.methodLink RX4 22 yX4_greatestShared, Cond.static yX4_greatestShared, Cond.code yX4_greatestShared cX4_greatestShared 11 (some .long), Cond.methodLink RX7 179 yX4_part, Cond.instanceMethod yX4_part, Cond.selects RX4 yX4_part yX4_part, Cond.code yX4_part cX4_part 2 (some .long)]
def wsX7_planWorth : List Cond := .code yX7_planWorth cX7_planWorth 5 (some .long) :: ((wsX7_planWorth_r1 ++ (wsX7_planWorth_r2 ++ (wsX7_planWorth_r3 ++ (wsX7_planWorth_r4 ++ wsX7_planWorth_r5)))) ++ wsX70 ++ wsX20 ++ wsX30 ++ wsX60 ++ wsX00 ++ wsX40)
def wsX7_takeBothSides_r1 : List Cond := [Cond.fieldLink RX7 47 "AgainAgain" "walk" "LAgainAgain$Walk;", Cond.fieldLink RX7 10 "AgainAgain" "game" "LAgainAgain$Game;", Cond.fieldLink RX7 19 "AgainAgain" "machines" "LAgainAgain$Machines;", Cond.fieldLink RX7 51 "AgainAgain" "back" "LAgainAgain$Walk;", Cond.methodLink RX7 272 yX6_takeMatch, Cond.instanceMethod yX6_takeMatch, Cond.selects RX6 yX6_takeMatch yX6_takeMatch, Cond.initialized RX6, Cond.code yX6_takeMatch cX6_takeMatch 9 none, Cond.fieldLink RX6 11 "AgainAgain$Walk" "nexts" "[I", Cond.fieldLink RX6 15 "AgainAgain$Walk" "gains" "[I", Cond.methodLink RX6 31 yX2_statesOf, Cond.instanceMethod yX2_statesOf, Cond.selects RX2 yX2_statesOf yX2_statesOf, Cond.initialized RX2, Cond.code yX2_statesOf cX2_statesOf 2 (some .int), Cond.fieldLink RX2 9 "AgainAgain$Machines" "sizes" "[I", Cond.methodLink RX6 35 yX2_actionOf, Cond.instanceMethod yX2_actionOf, Cond.selects RX2 yX2_actionOf yX2_actionOf, Cond.code yX2_actionOf cX2_actionOf 3 (some .int), Cond.fieldLink RX2 13 "AgainAgain$Machines" "actions" "[I", Cond.methodLink RX6 39 yX6_placeOf, Cond.static yX6_placeOf]
def wsX7_takeBothSides_r2 : List Cond := [Cond.code yX6_placeOf cX6_placeOf 2 (some .int), Cond.methodLink RX6 42 yX2_nextOf, Cond.instanceMethod yX2_nextOf, Cond.selects RX2 yX2_nextOf yX2_nextOf, Cond.code yX2_nextOf cX2_nextOf 4 (some .int), Cond.fieldLink RX2 18 "AgainAgain$Machines" "nexts" "[I", Cond.methodLink RX6 46 yX0_gain, Cond.instanceMethod yX0_gain, Cond.selects RX0 yX0_gain yX0_gain, Cond.initialized RX0, Cond.code yX0_gain cX0_gain 3 (some .int), Cond.fieldLink RX0 9 "AgainAgain$Game" "gains" "[I"]
def wsX7_takeBothSides : List Cond := .code yX7_takeBothSides cX7_takeBothSides 3 none :: ((wsX7_takeBothSides_r1 ++ wsX7_takeBothSides_r2) ++ wsX70 ++ wsX60 ++ wsX20 ++ wsX00)
def wsX7_gainsByPlan_r1 : List Cond := [Cond.fieldLink RX7 10 "AgainAgain" "game" "LAgainAgain$Game;", Cond.fieldLink RX7 57 "AgainAgain" "ratio" "LAgainAgain$Ratio;", Cond.fieldLink RX7 40 "AgainAgain" "plans" "LAgainAgain$Plans;", Cond.methodLink RX7 275 yX6_startAt, Cond.instanceMethod yX6_startAt, Cond.selects RX6 yX6_startAt yX6_startAt, Cond.initialized RX6, Cond.code yX6_startAt cX6_startAt 4 none, Cond.fieldLink RX6 18 "AgainAgain$Walk" "firstMet" "[I", Cond.fieldLink RX6 21 "AgainAgain$Walk" "path" "[I", Cond.fieldLink RX6 11 "AgainAgain$Walk" "nexts" "[I", Cond.fieldLink RX6 24 "AgainAgain$Walk" "tail" "I", Cond.fieldLink RX6 28 "AgainAgain$Walk" "ring" "I", Cond.methodLink RX6 51 yJ7_fill_53178, Cond.static yJ7_fill_53178, Cond.initialized RJ7, Cond.code yJ7_fill_53178 cJ7_fill_53178 4 none, Cond.methodLink RX7 282 yX6_worthInto, Cond.instanceMethod yX6_worthInto, Cond.selects RX6 yX6_worthInto yX6_worthInto, Cond.code yX6_worthInto cX6_worthInto 11 none, Cond.methodLink RX6 67 yX0_rateOver, Cond.instanceMethod yX0_rateOver, Cond.selects RX0 yX0_rateOver yX0_rateOver]
def wsX7_gainsByPlan_r2 : List Cond := [Cond.initialized RX0, Cond.code yX0_rateOver cX0_rateOver 1 (some .long), Cond.fieldLink RX0 13 "AgainAgain$Game" "over" "J", Cond.methodLink RX6 71 yX0_rateUnder, Cond.instanceMethod yX0_rateUnder, Cond.selects RX0 yX0_rateUnder yX0_rateUnder, Cond.code yX0_rateUnder cX0_rateUnder 1 (some .long), Cond.fieldLink RX0 19 "AgainAgain$Game" "under" "J", Cond.methodLink RX6 74 yX6_power, Cond.static yX6_power, Cond.code yX6_power cX6_power 6 (some .long), Cond.methodLink RX6 78 yX6_weighedAlong, Cond.instanceMethod yX6_weighedAlong, Cond.selects RX6 yX6_weighedAlong yX6_weighedAlong, Cond.code yX6_weighedAlong cX6_weighedAlong 12 (some .long), Cond.fieldLink RX6 15 "AgainAgain$Walk" "gains" "[I", Cond.methodLink RX6 82 yX4_become, Cond.instanceMethod yX4_become, Cond.selects RX4 yX4_become yX4_become, Cond.initialized RX4, Cond.code yX4_become cX4_become 7 none, Cond.methodLink RX4 16 Lib.MathLoose.abs_long.x, Cond.static Lib.MathLoose.abs_long.x, Cond.initialized "java/lang/Math"]
def wsX7_gainsByPlan_r3 : List Cond := [Cond.code Lib.MathLoose.abs_long.x Lib.MathLoose.abs_long.code 2 (some .long), Cond.fieldLink RX4 7 "AgainAgain$Ratio" "top" "J", Cond.fieldLink RX4 13 "AgainAgain$Ratio" "bottom" "J", Cond.methodLink RX4 22 yX4_greatestShared, Cond.static yX4_greatestShared, Cond.code yX4_greatestShared cX4_greatestShared 11 (some .long), Cond.methodLink RX7 289 yX3_bestCompared, Cond.instanceMethod yX3_bestCompared, Cond.selects RX3 yX3_bestCompared yX3_bestCompared, Cond.initialized RX3, Cond.code yX3_bestCompared cX3_bestCompared 4 (some .int), Cond.fieldLink RX3 15 "AgainAgain$Plans" "tops" "[J", Cond.fieldLink RX3 19 "AgainAgain$Plans" "bottoms" "[J", Cond.methodLink RX3 54 yX3_slotOf, Cond.static yX3_slotOf, Cond.code yX3_slotOf cX3_slotOf 2 (some .int), Cond.methodLink RX3 80 yX4_compareWith, Cond.instanceMethod yX4_compareWith, Cond.selects RX4 yX4_compareWith yX4_compareWith, Cond.code yX4_compareWith cX4_compareWith 5 (some .int), Cond.methodLink RX4 26 yJ13_compare_74951, Cond.static yJ13_compare_74951, Cond.initialized RJ13, Cond.code yJ13_compare_74951 cJ13_compare_74951 4 (some .int)]
def wsX7_gainsByPlan : List Cond := .code yX7_gainsByPlan cX7_gainsByPlan 5 (some .boolean) :: ((wsX7_gainsByPlan_r1 ++ (wsX7_gainsByPlan_r2 ++ wsX7_gainsByPlan_r3)) ++ wsX70 ++ wsX60 ++ wsX00 ++ wsX40 ++ wsX30)
def wsX7_restFrom_r1 : List Cond := [Cond.fieldLink RX7 47 "AgainAgain" "walk" "LAgainAgain$Walk;", Cond.fieldLink RX7 51 "AgainAgain" "back" "LAgainAgain$Walk;", Cond.methodLink RX7 286 yX6_placeOf, Cond.static yX6_placeOf, Cond.initialized RX6, Cond.code yX6_placeOf cX6_placeOf 2 (some .int), Cond.methodLink RX7 293 yX7_gainsByPlan, Cond.instanceMethod yX7_gainsByPlan, Cond.selects RX7 yX7_gainsByPlan yX7_gainsByPlan, Cond.initialized RX7, Cond.code yX7_gainsByPlan cX7_gainsByPlan 5 (some .boolean), Cond.fieldLink RX7 10 "AgainAgain" "game" "LAgainAgain$Game;", Cond.fieldLink RX7 57 "AgainAgain" "ratio" "LAgainAgain$Ratio;", Cond.fieldLink RX7 40 "AgainAgain" "plans" "LAgainAgain$Plans;", Cond.methodLink RX7 275 yX6_startAt, Cond.instanceMethod yX6_startAt, Cond.selects RX6 yX6_startAt yX6_startAt, Cond.code yX6_startAt cX6_startAt 4 none, Cond.fieldLink RX6 18 "AgainAgain$Walk" "firstMet" "[I", Cond.fieldLink RX6 21 "AgainAgain$Walk" "path" "[I", Cond.fieldLink RX6 11 "AgainAgain$Walk" "nexts" "[I", Cond.fieldLink RX6 24 "AgainAgain$Walk" "tail" "I", Cond.fieldLink RX6 28 "AgainAgain$Walk" "ring" "I", Cond.methodLink RX6 51 yJ7_fill_53178]
def wsX7_restFrom_r2 : List Cond := [Cond.static yJ7_fill_53178, Cond.initialized RJ7, Cond.code yJ7_fill_53178 cJ7_fill_53178 4 none, Cond.methodLink RX7 282 yX6_worthInto, Cond.instanceMethod yX6_worthInto, Cond.selects RX6 yX6_worthInto yX6_worthInto, Cond.code yX6_worthInto cX6_worthInto 11 none, Cond.methodLink RX6 67 yX0_rateOver, Cond.instanceMethod yX0_rateOver, Cond.selects RX0 yX0_rateOver yX0_rateOver, Cond.initialized RX0, Cond.code yX0_rateOver cX0_rateOver 1 (some .long), Cond.fieldLink RX0 13 "AgainAgain$Game" "over" "J", Cond.methodLink RX6 71 yX0_rateUnder, Cond.instanceMethod yX0_rateUnder, Cond.selects RX0 yX0_rateUnder yX0_rateUnder, Cond.code yX0_rateUnder cX0_rateUnder 1 (some .long), Cond.fieldLink RX0 19 "AgainAgain$Game" "under" "J", Cond.methodLink RX6 74 yX6_power, Cond.static yX6_power, Cond.code yX6_power cX6_power 6 (some .long), Cond.methodLink RX6 78 yX6_weighedAlong, Cond.instanceMethod yX6_weighedAlong, Cond.selects RX6 yX6_weighedAlong yX6_weighedAlong]
def wsX7_restFrom_r3 : List Cond := [Cond.code yX6_weighedAlong cX6_weighedAlong 12 (some .long), Cond.fieldLink RX6 15 "AgainAgain$Walk" "gains" "[I", Cond.methodLink RX6 82 yX4_become, Cond.instanceMethod yX4_become, Cond.selects RX4 yX4_become yX4_become, Cond.initialized RX4, Cond.code yX4_become cX4_become 7 none, Cond.methodLink RX4 16 Lib.MathLoose.abs_long.x, Cond.static Lib.MathLoose.abs_long.x, Cond.initialized "java/lang/Math", Cond.code Lib.MathLoose.abs_long.x Lib.MathLoose.abs_long.code 2 (some .long), Cond.fieldLink RX4 7 "AgainAgain$Ratio" "top" "J", Cond.fieldLink RX4 13 "AgainAgain$Ratio" "bottom" "J", Cond.methodLink RX4 22 yX4_greatestShared, Cond.static yX4_greatestShared, Cond.code yX4_greatestShared cX4_greatestShared 11 (some .long), Cond.methodLink RX7 289 yX3_bestCompared, Cond.instanceMethod yX3_bestCompared, Cond.selects RX3 yX3_bestCompared yX3_bestCompared, Cond.initialized RX3, Cond.code yX3_bestCompared cX3_bestCompared 4 (some .int), Cond.fieldLink RX3 15 "AgainAgain$Plans" "tops" "[J", Cond.fieldLink RX3 19 "AgainAgain$Plans" "bottoms" "[J", Cond.methodLink RX3 54 yX3_slotOf]
def wsX7_restFrom_r4 : List Cond := [Cond.static yX3_slotOf, Cond.code yX3_slotOf cX3_slotOf 2 (some .int), Cond.methodLink RX3 80 yX4_compareWith, Cond.instanceMethod yX4_compareWith, Cond.selects RX4 yX4_compareWith yX4_compareWith, Cond.code yX4_compareWith cX4_compareWith 5 (some .int), Cond.methodLink RX4 26 yJ13_compare_74951, Cond.static yJ13_compare_74951, Cond.initialized RJ13, Cond.code yJ13_compare_74951 cJ13_compare_74951 4 (some .int)]
def wsX7_restFrom : List Cond := .code yX7_restFrom cX7_restFrom 5 (some .boolean) :: ((wsX7_restFrom_r1 ++ (wsX7_restFrom_r2 ++ (wsX7_restFrom_r3 ++ wsX7_restFrom_r4))) ++ wsX70 ++ wsX60 ++ wsX00 ++ wsX40 ++ wsX30)
def wsX7_rest_r1 : List Cond := [Cond.fieldLink RX7 40 "AgainAgain" "plans" "LAgainAgain$Plans;", Cond.fieldLink RX7 10 "AgainAgain" "game" "LAgainAgain$Game;", Cond.fieldLink RX7 19 "AgainAgain" "machines" "LAgainAgain$Machines;", Cond.methodLink RX7 145 yX7_areMachines, Cond.instanceMethod yX7_areMachines, Cond.selects RX7 yX7_areMachines yX7_areMachines, Cond.initialized RX7, Cond.code yX7_areMachines cX7_areMachines 3 (some .boolean), Cond.methodLink RX7 201 yX2_has, Cond.instanceMethod yX2_has, Cond.selects RX2 yX2_has yX2_has, Cond.initialized RX2, Cond.code yX2_has cX2_has 2 (some .boolean), Cond.fieldLink RX2 21 "AgainAgain$Machines" "many" "I", Cond.methodLink RX7 208 yX3_learn, Cond.instanceMethod yX3_learn, Cond.selects RX3 yX3_learn yX3_learn, Cond.initialized RX3, Cond.code yX3_learn cX3_learn 6 none, Cond.fieldLink RX3 32 "AgainAgain$Plans" "tried" "LAgainAgain$Ratio;", Cond.methodLink RX3 50 yX3_weigh, Cond.instanceMethod yX3_weigh, Cond.selects RX3 yX3_weigh yX3_weigh, Cond.code yX3_weigh cX3_weigh 7 none]
def wsX7_rest_r2 : List Cond := [Cond.fieldLink RX3 25 "AgainAgain$Plans" "walk" "LAgainAgain$Walk;", Cond.methodLink RX3 38 yX6_takePlan, Cond.instanceMethod yX6_takePlan, Cond.selects RX6 yX6_takePlan yX6_takePlan, Cond.initialized RX6, Cond.code yX6_takePlan cX6_takePlan 8 none, Cond.fieldLink RX6 11 "AgainAgain$Walk" "nexts" "[I", Cond.fieldLink RX6 15 "AgainAgain$Walk" "gains" "[I", Cond.methodLink RX6 31 yX2_statesOf, Cond.instanceMethod yX2_statesOf, Cond.selects RX2 yX2_statesOf yX2_statesOf, Cond.code yX2_statesOf cX2_statesOf 2 (some .int), Cond.fieldLink RX2 9 "AgainAgain$Machines" "sizes" "[I", Cond.methodLink RX6 42 yX2_nextOf, Cond.instanceMethod yX2_nextOf, Cond.selects RX2 yX2_nextOf yX2_nextOf, Cond.code yX2_nextOf cX2_nextOf 4 (some .int), Cond.fieldLink RX2 18 "AgainAgain$Machines" "nexts" "[I", Cond.methodLink RX6 35 yX2_actionOf, Cond.instanceMethod yX2_actionOf, Cond.selects RX2 yX2_actionOf yX2_actionOf, Cond.code yX2_actionOf cX2_actionOf 3 (some .int), Cond.fieldLink RX2 13 "AgainAgain$Machines" "actions" "[I", Cond.methodLink RX6 46 yX0_gain]
def wsX7_rest_r3 : List Cond := [Cond.instanceMethod yX0_gain, Cond.selects RX0 yX0_gain yX0_gain, Cond.initialized RX0, Cond.code yX0_gain cX0_gain 3 (some .int), Cond.fieldLink RX0 9 "AgainAgain$Game" "gains" "[I", Cond.methodLink RX3 42 yX6_startAt, Cond.instanceMethod yX6_startAt, Cond.selects RX6 yX6_startAt yX6_startAt, Cond.code yX6_startAt cX6_startAt 4 none, Cond.fieldLink RX6 18 "AgainAgain$Walk" "firstMet" "[I", Cond.fieldLink RX6 21 "AgainAgain$Walk" "path" "[I", Cond.fieldLink RX6 24 "AgainAgain$Walk" "tail" "I", Cond.fieldLink RX6 28 "AgainAgain$Walk" "ring" "I", Cond.methodLink RX6 51 yJ7_fill_53178, Cond.static yJ7_fill_53178, Cond.initialized RJ7, Cond.code yJ7_fill_53178 cJ7_fill_53178 4 none, Cond.methodLink RX3 46 yX6_worthInto, Cond.instanceMethod yX6_worthInto, Cond.selects RX6 yX6_worthInto yX6_worthInto, Cond.code yX6_worthInto cX6_worthInto 11 none, Cond.methodLink RX6 67 yX0_rateOver, Cond.instanceMethod yX0_rateOver, Cond.selects RX0 yX0_rateOver yX0_rateOver]
def wsX7_rest_r4 : List Cond := [Cond.code yX0_rateOver cX0_rateOver 1 (some .long), Cond.fieldLink RX0 13 "AgainAgain$Game" "over" "J", Cond.methodLink RX6 71 yX0_rateUnder, Cond.instanceMethod yX0_rateUnder, Cond.selects RX0 yX0_rateUnder yX0_rateUnder, Cond.code yX0_rateUnder cX0_rateUnder 1 (some .long), Cond.fieldLink RX0 19 "AgainAgain$Game" "under" "J", Cond.methodLink RX6 74 yX6_power, Cond.static yX6_power, Cond.code yX6_power cX6_power 6 (some .long), Cond.methodLink RX6 78 yX6_weighedAlong, Cond.instanceMethod yX6_weighedAlong, Cond.selects RX6 yX6_weighedAlong yX6_weighedAlong, Cond.code yX6_weighedAlong cX6_weighedAlong 12 (some .long), Cond.methodLink RX6 82 yX4_become, Cond.instanceMethod yX4_become, Cond.selects RX4 yX4_become yX4_become, Cond.initialized RX4, Cond.code yX4_become cX4_become 7 none, Cond.methodLink RX4 16 Lib.MathLoose.abs_long.x, Cond.static Lib.MathLoose.abs_long.x, Cond.initialized "java/lang/Math", Cond.code Lib.MathLoose.abs_long.x Lib.MathLoose.abs_long.code 2 (some .long), Cond.fieldLink RX4 7 "AgainAgain$Ratio" "top" "J"]
def wsX7_rest_r5 : List Cond := [Cond.fieldLink RX4 13 "AgainAgain$Ratio" "bottom" "J", Cond.methodLink RX4 22 yX4_greatestShared, Cond.static yX4_greatestShared, Cond.code yX4_greatestShared cX4_greatestShared 11 (some .long), Cond.methodLink RX3 54 yX3_slotOf, Cond.static yX3_slotOf, Cond.code yX3_slotOf cX3_slotOf 2 (some .int), Cond.methodLink RX3 58 yX3_keep, Cond.instanceMethod yX3_keep, Cond.selects RX3 yX3_keep yX3_keep, Cond.code yX3_keep cX3_keep 3 none, Cond.fieldLink RX3 11 "AgainAgain$Plans" "plans" "[I", Cond.fieldLink RX3 15 "AgainAgain$Plans" "tops" "[J", Cond.fieldLink RX3 19 "AgainAgain$Plans" "bottoms" "[J", Cond.methodLink RX3 73 yX4_part, Cond.instanceMethod yX4_part, Cond.selects RX4 yX4_part yX4_part, Cond.code yX4_part cX4_part 2 (some .long), Cond.methodLink RX3 62 yX2_statesOf, Cond.methodLink RX3 66 yX3_plansAgainst, Cond.static yX3_plansAgainst, Cond.code yX3_plansAgainst cX3_plansAgainst 3 (some .int), Cond.methodLink RX3 69 yX3_bestCompared, Cond.instanceMethod yX3_bestCompared]
def wsX7_rest_r6 : List Cond := [Cond.selects RX3 yX3_bestCompared yX3_bestCompared, Cond.code yX3_bestCompared cX3_bestCompared 4 (some .int), Cond.methodLink RX3 80 yX4_compareWith, Cond.instanceMethod yX4_compareWith, Cond.selects RX4 yX4_compareWith yX4_compareWith, Cond.code yX4_compareWith cX4_compareWith 5 (some .int), Cond.methodLink RX4 26 yJ13_compare_74951, Cond.static yJ13_compare_74951, Cond.initialized RJ13, Cond.code yJ13_compare_74951 cJ13_compare_74951 4 (some .int), Cond.methodLink RX7 229 yX7_takeBothSides, Cond.instanceMethod yX7_takeBothSides, Cond.selects RX7 yX7_takeBothSides yX7_takeBothSides, Cond.code yX7_takeBothSides cX7_takeBothSides 3 none, Cond.fieldLink RX7 47 "AgainAgain" "walk" "LAgainAgain$Walk;", Cond.fieldLink RX7 51 "AgainAgain" "back" "LAgainAgain$Walk;", Cond.methodLink RX7 272 yX6_takeMatch, Cond.instanceMethod yX6_takeMatch, Cond.selects RX6 yX6_takeMatch yX6_takeMatch, Cond.code yX6_takeMatch cX6_takeMatch 9 none, Cond.methodLink RX6 39 yX6_placeOf, Cond.static yX6_placeOf, Cond.code yX6_placeOf cX6_placeOf 2 (some .int), Cond.methodLink RX7 232 yX7_restFrom]
def wsX7_rest_r7 : List Cond := [Cond.instanceMethod yX7_restFrom, Cond.selects RX7 yX7_restFrom yX7_restFrom, Cond.code yX7_restFrom cX7_restFrom 5 (some .boolean), Cond.methodLink RX7 286 yX6_placeOf, Cond.methodLink RX7 293 yX7_gainsByPlan, Cond.instanceMethod yX7_gainsByPlan, Cond.selects RX7 yX7_gainsByPlan yX7_gainsByPlan, Cond.code yX7_gainsByPlan cX7_gainsByPlan 5 (some .boolean), Cond.fieldLink RX7 57 "AgainAgain" "ratio" "LAgainAgain$Ratio;", Cond.methodLink RX7 275 yX6_startAt, Cond.methodLink RX7 282 yX6_worthInto, Cond.methodLink RX7 289 yX3_bestCompared, Cond.methodLink RX7 197 yX7_oneIf, Cond.static yX7_oneIf, Cond.code yX7_oneIf cX7_oneIf 1 (some .int)]
def wsX7_rest : List Cond := .code yX7_rest cX7_rest 3 (some .int) :: ((wsX7_rest_r1 ++ (wsX7_rest_r2 ++ (wsX7_rest_r3 ++ (wsX7_rest_r4 ++ (wsX7_rest_r5 ++ (wsX7_rest_r6 ++ wsX7_rest_r7)))))) ++ wsX70 ++ wsX20 ++ wsX30 ++ wsX60 ++ wsX00 ++ wsX40)
def wsX7_firstUnrest_r1 : List Cond := [Cond.fieldLink RX7 19 "AgainAgain" "machines" "LAgainAgain$Machines;", Cond.methodLink RX7 219 yX2_statesOf, Cond.instanceMethod yX2_statesOf, Cond.selects RX2 yX2_statesOf yX2_statesOf, Cond.initialized RX2, Cond.code yX2_statesOf cX2_statesOf 2 (some .int), Cond.fieldLink RX2 9 "AgainAgain$Machines" "sizes" "[I", Cond.methodLink RX7 232 yX7_restFrom, Cond.instanceMethod yX7_restFrom, Cond.selects RX7 yX7_restFrom yX7_restFrom, Cond.initialized RX7, Cond.code yX7_restFrom cX7_restFrom 5 (some .boolean), Cond.fieldLink RX7 47 "AgainAgain" "walk" "LAgainAgain$Walk;", Cond.fieldLink RX7 51 "AgainAgain" "back" "LAgainAgain$Walk;", Cond.methodLink RX7 286 yX6_placeOf, Cond.static yX6_placeOf, Cond.initialized RX6, Cond.code yX6_placeOf cX6_placeOf 2 (some .int), Cond.methodLink RX7 293 yX7_gainsByPlan, Cond.instanceMethod yX7_gainsByPlan, Cond.selects RX7 yX7_gainsByPlan yX7_gainsByPlan, Cond.code yX7_gainsByPlan cX7_gainsByPlan 5 (some .boolean), Cond.fieldLink RX7 10 "AgainAgain" "game" "LAgainAgain$Game;", Cond.fieldLink RX7 57 "AgainAgain" "ratio" "LAgainAgain$Ratio;"]
def wsX7_firstUnrest_r2 : List Cond := [Cond.fieldLink RX7 40 "AgainAgain" "plans" "LAgainAgain$Plans;", Cond.methodLink RX7 275 yX6_startAt, Cond.instanceMethod yX6_startAt, Cond.selects RX6 yX6_startAt yX6_startAt, Cond.code yX6_startAt cX6_startAt 4 none, Cond.fieldLink RX6 18 "AgainAgain$Walk" "firstMet" "[I", Cond.fieldLink RX6 21 "AgainAgain$Walk" "path" "[I", Cond.fieldLink RX6 11 "AgainAgain$Walk" "nexts" "[I", Cond.fieldLink RX6 24 "AgainAgain$Walk" "tail" "I", Cond.fieldLink RX6 28 "AgainAgain$Walk" "ring" "I", Cond.methodLink RX6 51 yJ7_fill_53178, Cond.static yJ7_fill_53178, Cond.initialized RJ7, Cond.code yJ7_fill_53178 cJ7_fill_53178 4 none, Cond.methodLink RX7 282 yX6_worthInto, Cond.instanceMethod yX6_worthInto, Cond.selects RX6 yX6_worthInto yX6_worthInto, Cond.code yX6_worthInto cX6_worthInto 11 none, Cond.methodLink RX6 67 yX0_rateOver, Cond.instanceMethod yX0_rateOver, Cond.selects RX0 yX0_rateOver yX0_rateOver, Cond.initialized RX0, Cond.code yX0_rateOver cX0_rateOver 1 (some .long), Cond.fieldLink RX0 13 "AgainAgain$Game" "over" "J"]
def wsX7_firstUnrest_r3 : List Cond := [Cond.methodLink RX6 71 yX0_rateUnder, Cond.instanceMethod yX0_rateUnder, Cond.selects RX0 yX0_rateUnder yX0_rateUnder, Cond.code yX0_rateUnder cX0_rateUnder 1 (some .long), Cond.fieldLink RX0 19 "AgainAgain$Game" "under" "J", Cond.methodLink RX6 74 yX6_power, Cond.static yX6_power, Cond.code yX6_power cX6_power 6 (some .long), Cond.methodLink RX6 78 yX6_weighedAlong, Cond.instanceMethod yX6_weighedAlong, Cond.selects RX6 yX6_weighedAlong yX6_weighedAlong, Cond.code yX6_weighedAlong cX6_weighedAlong 12 (some .long), Cond.fieldLink RX6 15 "AgainAgain$Walk" "gains" "[I", Cond.methodLink RX6 82 yX4_become, Cond.instanceMethod yX4_become, Cond.selects RX4 yX4_become yX4_become, Cond.initialized RX4, Cond.code yX4_become cX4_become 7 none, Cond.methodLink RX4 16 Lib.MathLoose.abs_long.x, Cond.static Lib.MathLoose.abs_long.x, Cond.initialized "java/lang/Math", Cond.code Lib.MathLoose.abs_long.x Lib.MathLoose.abs_long.code 2 (some .long), Cond.fieldLink RX4 7 "AgainAgain$Ratio" "top" "J", Cond.fieldLink RX4 13 "AgainAgain$Ratio" "bottom" "J"]
def wsX7_firstUnrest_r4 : List Cond := [Cond.methodLink RX4 22 yX4_greatestShared, Cond.static yX4_greatestShared, Cond.code yX4_greatestShared cX4_greatestShared 11 (some .long), Cond.methodLink RX7 289 yX3_bestCompared, Cond.instanceMethod yX3_bestCompared, Cond.selects RX3 yX3_bestCompared yX3_bestCompared, Cond.initialized RX3, Cond.code yX3_bestCompared cX3_bestCompared 4 (some .int), Cond.fieldLink RX3 15 "AgainAgain$Plans" "tops" "[J", Cond.fieldLink RX3 19 "AgainAgain$Plans" "bottoms" "[J", Cond.methodLink RX3 54 yX3_slotOf, Cond.static yX3_slotOf, Cond.code yX3_slotOf cX3_slotOf 2 (some .int), Cond.methodLink RX3 80 yX4_compareWith, Cond.instanceMethod yX4_compareWith, Cond.selects RX4 yX4_compareWith yX4_compareWith, Cond.code yX4_compareWith cX4_compareWith 5 (some .int), Cond.methodLink RX4 26 yJ13_compare_74951, Cond.static yJ13_compare_74951, Cond.initialized RJ13, Cond.code yJ13_compare_74951 cJ13_compare_74951 4 (some .int)]
def wsX7_firstUnrest : List Cond := .code yX7_firstUnrest cX7_firstUnrest 5 (some .int) :: ((wsX7_firstUnrest_r1 ++ (wsX7_firstUnrest_r2 ++ (wsX7_firstUnrest_r3 ++ wsX7_firstUnrest_r4))) ++ wsX70 ++ wsX20 ++ wsX60 ++ wsX00 ++ wsX40 ++ wsX30)
def wsX7_everywhere_r1 : List Cond := [Cond.fieldLink RX7 40 "AgainAgain" "plans" "LAgainAgain$Plans;", Cond.fieldLink RX7 10 "AgainAgain" "game" "LAgainAgain$Game;", Cond.fieldLink RX7 19 "AgainAgain" "machines" "LAgainAgain$Machines;", Cond.methodLink RX7 145 yX7_areMachines, Cond.instanceMethod yX7_areMachines, Cond.selects RX7 yX7_areMachines yX7_areMachines, Cond.initialized RX7, Cond.code yX7_areMachines cX7_areMachines 3 (some .boolean), Cond.methodLink RX7 201 yX2_has, Cond.instanceMethod yX2_has, Cond.selects RX2 yX2_has yX2_has, Cond.initialized RX2, Cond.code yX2_has cX2_has 2 (some .boolean), Cond.fieldLink RX2 21 "AgainAgain$Machines" "many" "I", Cond.methodLink RX7 236 yX3_learnAll, Cond.instanceMethod yX3_learnAll, Cond.selects RX3 yX3_learnAll yX3_learnAll, Cond.initialized RX3, Cond.code yX3_learnAll cX3_learnAll 5 none, Cond.methodLink RX3 62 yX2_statesOf, Cond.instanceMethod yX2_statesOf, Cond.selects RX2 yX2_statesOf yX2_statesOf, Cond.code yX2_statesOf cX2_statesOf 2 (some .int), Cond.fieldLink RX2 9 "AgainAgain$Machines" "sizes" "[I"]
def wsX7_everywhere_r2 : List Cond := [Cond.methodLink RX3 77 yX3_learn, Cond.instanceMethod yX3_learn, Cond.selects RX3 yX3_learn yX3_learn, Cond.code yX3_learn cX3_learn 6 none, Cond.fieldLink RX3 32 "AgainAgain$Plans" "tried" "LAgainAgain$Ratio;", Cond.methodLink RX3 50 yX3_weigh, Cond.instanceMethod yX3_weigh, Cond.selects RX3 yX3_weigh yX3_weigh, Cond.code yX3_weigh cX3_weigh 7 none, Cond.fieldLink RX3 25 "AgainAgain$Plans" "walk" "LAgainAgain$Walk;", Cond.methodLink RX3 38 yX6_takePlan, Cond.instanceMethod yX6_takePlan, Cond.selects RX6 yX6_takePlan yX6_takePlan, Cond.initialized RX6, Cond.code yX6_takePlan cX6_takePlan 8 none, Cond.fieldLink RX6 11 "AgainAgain$Walk" "nexts" "[I", Cond.fieldLink RX6 15 "AgainAgain$Walk" "gains" "[I", Cond.methodLink RX6 31 yX2_statesOf, Cond.methodLink RX6 42 yX2_nextOf, Cond.instanceMethod yX2_nextOf, Cond.selects RX2 yX2_nextOf yX2_nextOf, Cond.code yX2_nextOf cX2_nextOf 4 (some .int), Cond.fieldLink RX2 18 "AgainAgain$Machines" "nexts" "[I", Cond.methodLink RX6 35 yX2_actionOf]
def wsX7_everywhere_r3 : List Cond := [Cond.instanceMethod yX2_actionOf, Cond.selects RX2 yX2_actionOf yX2_actionOf, Cond.code yX2_actionOf cX2_actionOf 3 (some .int), Cond.fieldLink RX2 13 "AgainAgain$Machines" "actions" "[I", Cond.methodLink RX6 46 yX0_gain, Cond.instanceMethod yX0_gain, Cond.selects RX0 yX0_gain yX0_gain, Cond.initialized RX0, Cond.code yX0_gain cX0_gain 3 (some .int), Cond.fieldLink RX0 9 "AgainAgain$Game" "gains" "[I", Cond.methodLink RX3 42 yX6_startAt, Cond.instanceMethod yX6_startAt, Cond.selects RX6 yX6_startAt yX6_startAt, Cond.code yX6_startAt cX6_startAt 4 none, Cond.fieldLink RX6 18 "AgainAgain$Walk" "firstMet" "[I", Cond.fieldLink RX6 21 "AgainAgain$Walk" "path" "[I", Cond.fieldLink RX6 24 "AgainAgain$Walk" "tail" "I", Cond.fieldLink RX6 28 "AgainAgain$Walk" "ring" "I", Cond.methodLink RX6 51 yJ7_fill_53178, Cond.static yJ7_fill_53178, Cond.initialized RJ7, Cond.code yJ7_fill_53178 cJ7_fill_53178 4 none, Cond.methodLink RX3 46 yX6_worthInto, Cond.instanceMethod yX6_worthInto]
def wsX7_everywhere_r4 : List Cond := [Cond.selects RX6 yX6_worthInto yX6_worthInto, Cond.code yX6_worthInto cX6_worthInto 11 none, Cond.methodLink RX6 67 yX0_rateOver, Cond.instanceMethod yX0_rateOver, Cond.selects RX0 yX0_rateOver yX0_rateOver, Cond.code yX0_rateOver cX0_rateOver 1 (some .long), Cond.fieldLink RX0 13 "AgainAgain$Game" "over" "J", Cond.methodLink RX6 71 yX0_rateUnder, Cond.instanceMethod yX0_rateUnder, Cond.selects RX0 yX0_rateUnder yX0_rateUnder, Cond.code yX0_rateUnder cX0_rateUnder 1 (some .long), Cond.fieldLink RX0 19 "AgainAgain$Game" "under" "J", Cond.methodLink RX6 74 yX6_power, Cond.static yX6_power, Cond.code yX6_power cX6_power 6 (some .long), Cond.methodLink RX6 78 yX6_weighedAlong, Cond.instanceMethod yX6_weighedAlong, Cond.selects RX6 yX6_weighedAlong yX6_weighedAlong, Cond.code yX6_weighedAlong cX6_weighedAlong 12 (some .long), Cond.methodLink RX6 82 yX4_become, Cond.instanceMethod yX4_become, Cond.selects RX4 yX4_become yX4_become, Cond.initialized RX4, Cond.code yX4_become cX4_become 7 none]
def wsX7_everywhere_r5 : List Cond := [Cond.methodLink RX4 16 Lib.MathLoose.abs_long.x, Cond.static Lib.MathLoose.abs_long.x, Cond.initialized "java/lang/Math", Cond.code Lib.MathLoose.abs_long.x Lib.MathLoose.abs_long.code 2 (some .long), Cond.fieldLink RX4 7 "AgainAgain$Ratio" "top" "J", Cond.fieldLink RX4 13 "AgainAgain$Ratio" "bottom" "J", Cond.methodLink RX4 22 yX4_greatestShared, Cond.static yX4_greatestShared, Cond.code yX4_greatestShared cX4_greatestShared 11 (some .long), Cond.methodLink RX3 54 yX3_slotOf, Cond.static yX3_slotOf, Cond.code yX3_slotOf cX3_slotOf 2 (some .int), Cond.methodLink RX3 58 yX3_keep, Cond.instanceMethod yX3_keep, Cond.selects RX3 yX3_keep yX3_keep, Cond.code yX3_keep cX3_keep 3 none, Cond.fieldLink RX3 11 "AgainAgain$Plans" "plans" "[I", Cond.fieldLink RX3 15 "AgainAgain$Plans" "tops" "[J", Cond.fieldLink RX3 19 "AgainAgain$Plans" "bottoms" "[J", Cond.methodLink RX3 73 yX4_part, Cond.instanceMethod yX4_part, Cond.selects RX4 yX4_part yX4_part, Cond.code yX4_part cX4_part 2 (some .long), Cond.methodLink RX3 66 yX3_plansAgainst]
def wsX7_everywhere_r6 : List Cond := [Cond.static yX3_plansAgainst, Cond.code yX3_plansAgainst cX3_plansAgainst 3 (some .int), Cond.methodLink RX3 69 yX3_bestCompared, Cond.instanceMethod yX3_bestCompared, Cond.selects RX3 yX3_bestCompared yX3_bestCompared, Cond.code yX3_bestCompared cX3_bestCompared 4 (some .int), Cond.methodLink RX3 80 yX4_compareWith, Cond.instanceMethod yX4_compareWith, Cond.selects RX4 yX4_compareWith yX4_compareWith, Cond.code yX4_compareWith cX4_compareWith 5 (some .int), Cond.methodLink RX4 26 yJ13_compare_74951, Cond.static yJ13_compare_74951, Cond.initialized RJ13, Cond.code yJ13_compare_74951 cJ13_compare_74951 4 (some .int), Cond.methodLink RX7 229 yX7_takeBothSides, Cond.instanceMethod yX7_takeBothSides, Cond.selects RX7 yX7_takeBothSides yX7_takeBothSides, Cond.code yX7_takeBothSides cX7_takeBothSides 3 none, Cond.fieldLink RX7 47 "AgainAgain" "walk" "LAgainAgain$Walk;", Cond.fieldLink RX7 51 "AgainAgain" "back" "LAgainAgain$Walk;", Cond.methodLink RX7 272 yX6_takeMatch, Cond.instanceMethod yX6_takeMatch, Cond.selects RX6 yX6_takeMatch yX6_takeMatch, Cond.code yX6_takeMatch cX6_takeMatch 9 none]
def wsX7_everywhere_r7 : List Cond := [Cond.methodLink RX6 39 yX6_placeOf, Cond.static yX6_placeOf, Cond.code yX6_placeOf cX6_placeOf 2 (some .int), Cond.methodLink RX7 240 yX7_firstUnrest, Cond.instanceMethod yX7_firstUnrest, Cond.selects RX7 yX7_firstUnrest yX7_firstUnrest, Cond.code yX7_firstUnrest cX7_firstUnrest 5 (some .int), Cond.methodLink RX7 219 yX2_statesOf, Cond.methodLink RX7 232 yX7_restFrom, Cond.instanceMethod yX7_restFrom, Cond.selects RX7 yX7_restFrom yX7_restFrom, Cond.code yX7_restFrom cX7_restFrom 5 (some .boolean), Cond.methodLink RX7 286 yX6_placeOf, Cond.methodLink RX7 293 yX7_gainsByPlan, Cond.instanceMethod yX7_gainsByPlan, Cond.selects RX7 yX7_gainsByPlan yX7_gainsByPlan, Cond.code yX7_gainsByPlan cX7_gainsByPlan 5 (some .boolean), Cond.fieldLink RX7 57 "AgainAgain" "ratio" "LAgainAgain$Ratio;", Cond.methodLink RX7 275 yX6_startAt, Cond.methodLink RX7 282 yX6_worthInto, Cond.methodLink RX7 289 yX3_bestCompared, Cond.methodLink RX7 197 yX7_oneIf, Cond.static yX7_oneIf, Cond.code yX7_oneIf cX7_oneIf 1 (some .int)]
def wsX7_everywhere : List Cond := .code yX7_everywhere cX7_everywhere 3 (some .int) :: ((wsX7_everywhere_r1 ++ (wsX7_everywhere_r2 ++ (wsX7_everywhere_r3 ++ (wsX7_everywhere_r4 ++ (wsX7_everywhere_r5 ++ (wsX7_everywhere_r6 ++ wsX7_everywhere_r7)))))) ++ wsX70 ++ wsX20 ++ wsX30 ++ wsX60 ++ wsX00 ++ wsX40)
def wsX7_deviationFrom_r1 : List Cond := [Cond.fieldLink RX7 47 "AgainAgain" "walk" "LAgainAgain$Walk;", Cond.fieldLink RX7 40 "AgainAgain" "plans" "LAgainAgain$Plans;", Cond.methodLink RX7 286 yX6_placeOf, Cond.static yX6_placeOf, Cond.initialized RX6, Cond.code yX6_placeOf cX6_placeOf 2 (some .int), Cond.methodLink RX7 293 yX7_gainsByPlan, Cond.instanceMethod yX7_gainsByPlan, Cond.selects RX7 yX7_gainsByPlan yX7_gainsByPlan, Cond.initialized RX7, Cond.code yX7_gainsByPlan cX7_gainsByPlan 5 (some .boolean), Cond.fieldLink RX7 10 "AgainAgain" "game" "LAgainAgain$Game;", Cond.fieldLink RX7 57 "AgainAgain" "ratio" "LAgainAgain$Ratio;", Cond.methodLink RX7 275 yX6_startAt, Cond.instanceMethod yX6_startAt, Cond.selects RX6 yX6_startAt yX6_startAt, Cond.code yX6_startAt cX6_startAt 4 none, Cond.fieldLink RX6 18 "AgainAgain$Walk" "firstMet" "[I", Cond.fieldLink RX6 21 "AgainAgain$Walk" "path" "[I", Cond.fieldLink RX6 11 "AgainAgain$Walk" "nexts" "[I", Cond.fieldLink RX6 24 "AgainAgain$Walk" "tail" "I", Cond.fieldLink RX6 28 "AgainAgain$Walk" "ring" "I", Cond.methodLink RX6 51 yJ7_fill_53178, Cond.static yJ7_fill_53178]
def wsX7_deviationFrom_r2 : List Cond := [Cond.initialized RJ7, Cond.code yJ7_fill_53178 cJ7_fill_53178 4 none, Cond.methodLink RX7 282 yX6_worthInto, Cond.instanceMethod yX6_worthInto, Cond.selects RX6 yX6_worthInto yX6_worthInto, Cond.code yX6_worthInto cX6_worthInto 11 none, Cond.methodLink RX6 67 yX0_rateOver, Cond.instanceMethod yX0_rateOver, Cond.selects RX0 yX0_rateOver yX0_rateOver, Cond.initialized RX0, Cond.code yX0_rateOver cX0_rateOver 1 (some .long), Cond.fieldLink RX0 13 "AgainAgain$Game" "over" "J", Cond.methodLink RX6 71 yX0_rateUnder, Cond.instanceMethod yX0_rateUnder, Cond.selects RX0 yX0_rateUnder yX0_rateUnder, Cond.code yX0_rateUnder cX0_rateUnder 1 (some .long), Cond.fieldLink RX0 19 "AgainAgain$Game" "under" "J", Cond.methodLink RX6 74 yX6_power, Cond.static yX6_power, Cond.code yX6_power cX6_power 6 (some .long), Cond.methodLink RX6 78 yX6_weighedAlong, Cond.instanceMethod yX6_weighedAlong, Cond.selects RX6 yX6_weighedAlong yX6_weighedAlong, Cond.code yX6_weighedAlong cX6_weighedAlong 12 (some .long)]
def wsX7_deviationFrom_r3 : List Cond := [Cond.fieldLink RX6 15 "AgainAgain$Walk" "gains" "[I", Cond.methodLink RX6 82 yX4_become, Cond.instanceMethod yX4_become, Cond.selects RX4 yX4_become yX4_become, Cond.initialized RX4, Cond.code yX4_become cX4_become 7 none, Cond.methodLink RX4 16 Lib.MathLoose.abs_long.x, Cond.static Lib.MathLoose.abs_long.x, Cond.initialized "java/lang/Math", Cond.code Lib.MathLoose.abs_long.x Lib.MathLoose.abs_long.code 2 (some .long), Cond.fieldLink RX4 7 "AgainAgain$Ratio" "top" "J", Cond.fieldLink RX4 13 "AgainAgain$Ratio" "bottom" "J", Cond.methodLink RX4 22 yX4_greatestShared, Cond.static yX4_greatestShared, Cond.code yX4_greatestShared cX4_greatestShared 11 (some .long), Cond.methodLink RX7 289 yX3_bestCompared, Cond.instanceMethod yX3_bestCompared, Cond.selects RX3 yX3_bestCompared yX3_bestCompared, Cond.initialized RX3, Cond.code yX3_bestCompared cX3_bestCompared 4 (some .int), Cond.fieldLink RX3 15 "AgainAgain$Plans" "tops" "[J", Cond.fieldLink RX3 19 "AgainAgain$Plans" "bottoms" "[J", Cond.methodLink RX3 54 yX3_slotOf, Cond.static yX3_slotOf]
def wsX7_deviationFrom_r4 : List Cond := [Cond.code yX3_slotOf cX3_slotOf 2 (some .int), Cond.methodLink RX3 80 yX4_compareWith, Cond.instanceMethod yX4_compareWith, Cond.selects RX4 yX4_compareWith yX4_compareWith, Cond.code yX4_compareWith cX4_compareWith 5 (some .int), Cond.methodLink RX4 26 yJ13_compare_74951, Cond.static yJ13_compare_74951, Cond.initialized RJ13, Cond.code yJ13_compare_74951 cJ13_compare_74951 4 (some .int), Cond.methodLink RX7 212 yX3_bestPlan, Cond.instanceMethod yX3_bestPlan, Cond.selects RX3 yX3_bestPlan yX3_bestPlan, Cond.code yX3_bestPlan cX3_bestPlan 3 (some .int), Cond.fieldLink RX3 11 "AgainAgain$Plans" "plans" "[I"]
def wsX7_deviationFrom : List Cond := .code yX7_deviationFrom cX7_deviationFrom 7 (some .int) :: ((wsX7_deviationFrom_r1 ++ (wsX7_deviationFrom_r2 ++ (wsX7_deviationFrom_r3 ++ wsX7_deviationFrom_r4))) ++ wsX70 ++ wsX60 ++ wsX00 ++ wsX40 ++ wsX30)
def wsX7_deviation_r1 : List Cond := [Cond.fieldLink RX7 40 "AgainAgain" "plans" "LAgainAgain$Plans;", Cond.fieldLink RX7 10 "AgainAgain" "game" "LAgainAgain$Game;", Cond.fieldLink RX7 19 "AgainAgain" "machines" "LAgainAgain$Machines;", Cond.methodLink RX7 145 yX7_areMachines, Cond.instanceMethod yX7_areMachines, Cond.selects RX7 yX7_areMachines yX7_areMachines, Cond.initialized RX7, Cond.code yX7_areMachines cX7_areMachines 3 (some .boolean), Cond.methodLink RX7 201 yX2_has, Cond.instanceMethod yX2_has, Cond.selects RX2 yX2_has yX2_has, Cond.initialized RX2, Cond.code yX2_has cX2_has 2 (some .boolean), Cond.fieldLink RX2 21 "AgainAgain$Machines" "many" "I", Cond.methodLink RX7 72 yX7_within, Cond.static yX7_within, Cond.code yX7_within cX7_within 3 (some .boolean), Cond.methodLink RX7 236 yX3_learnAll, Cond.instanceMethod yX3_learnAll, Cond.selects RX3 yX3_learnAll yX3_learnAll, Cond.initialized RX3, Cond.code yX3_learnAll cX3_learnAll 5 none, Cond.methodLink RX3 62 yX2_statesOf, Cond.instanceMethod yX2_statesOf]
def wsX7_deviation_r2 : List Cond := [Cond.selects RX2 yX2_statesOf yX2_statesOf, Cond.code yX2_statesOf cX2_statesOf 2 (some .int), Cond.fieldLink RX2 9 "AgainAgain$Machines" "sizes" "[I", Cond.methodLink RX3 77 yX3_learn, Cond.instanceMethod yX3_learn, Cond.selects RX3 yX3_learn yX3_learn, Cond.code yX3_learn cX3_learn 6 none, Cond.fieldLink RX3 32 "AgainAgain$Plans" "tried" "LAgainAgain$Ratio;", Cond.methodLink RX3 50 yX3_weigh, Cond.instanceMethod yX3_weigh, Cond.selects RX3 yX3_weigh yX3_weigh, Cond.code yX3_weigh cX3_weigh 7 none, Cond.fieldLink RX3 25 "AgainAgain$Plans" "walk" "LAgainAgain$Walk;", Cond.methodLink RX3 38 yX6_takePlan, Cond.instanceMethod yX6_takePlan, Cond.selects RX6 yX6_takePlan yX6_takePlan, Cond.initialized RX6, Cond.code yX6_takePlan cX6_takePlan 8 none, Cond.fieldLink RX6 11 "AgainAgain$Walk" "nexts" "[I", Cond.fieldLink RX6 15 "AgainAgain$Walk" "gains" "[I", Cond.methodLink RX6 31 yX2_statesOf, Cond.methodLink RX6 42 yX2_nextOf, Cond.instanceMethod yX2_nextOf, Cond.selects RX2 yX2_nextOf yX2_nextOf]
def wsX7_deviation_r3 : List Cond := [Cond.code yX2_nextOf cX2_nextOf 4 (some .int), Cond.fieldLink RX2 18 "AgainAgain$Machines" "nexts" "[I", Cond.methodLink RX6 35 yX2_actionOf, Cond.instanceMethod yX2_actionOf, Cond.selects RX2 yX2_actionOf yX2_actionOf, Cond.code yX2_actionOf cX2_actionOf 3 (some .int), Cond.fieldLink RX2 13 "AgainAgain$Machines" "actions" "[I", Cond.methodLink RX6 46 yX0_gain, Cond.instanceMethod yX0_gain, Cond.selects RX0 yX0_gain yX0_gain, Cond.initialized RX0, Cond.code yX0_gain cX0_gain 3 (some .int), Cond.fieldLink RX0 9 "AgainAgain$Game" "gains" "[I", Cond.methodLink RX3 42 yX6_startAt, Cond.instanceMethod yX6_startAt, Cond.selects RX6 yX6_startAt yX6_startAt, Cond.code yX6_startAt cX6_startAt 4 none, Cond.fieldLink RX6 18 "AgainAgain$Walk" "firstMet" "[I", Cond.fieldLink RX6 21 "AgainAgain$Walk" "path" "[I", Cond.fieldLink RX6 24 "AgainAgain$Walk" "tail" "I", Cond.fieldLink RX6 28 "AgainAgain$Walk" "ring" "I", Cond.methodLink RX6 51 yJ7_fill_53178, Cond.static yJ7_fill_53178, Cond.initialized RJ7]
def wsX7_deviation_r4 : List Cond := [Cond.code yJ7_fill_53178 cJ7_fill_53178 4 none, Cond.methodLink RX3 46 yX6_worthInto, Cond.instanceMethod yX6_worthInto, Cond.selects RX6 yX6_worthInto yX6_worthInto, Cond.code yX6_worthInto cX6_worthInto 11 none, Cond.methodLink RX6 67 yX0_rateOver, Cond.instanceMethod yX0_rateOver, Cond.selects RX0 yX0_rateOver yX0_rateOver, Cond.code yX0_rateOver cX0_rateOver 1 (some .long), Cond.fieldLink RX0 13 "AgainAgain$Game" "over" "J", Cond.methodLink RX6 71 yX0_rateUnder, Cond.instanceMethod yX0_rateUnder, Cond.selects RX0 yX0_rateUnder yX0_rateUnder, Cond.code yX0_rateUnder cX0_rateUnder 1 (some .long), Cond.fieldLink RX0 19 "AgainAgain$Game" "under" "J", Cond.methodLink RX6 74 yX6_power, Cond.static yX6_power, Cond.code yX6_power cX6_power 6 (some .long), Cond.methodLink RX6 78 yX6_weighedAlong, Cond.instanceMethod yX6_weighedAlong, Cond.selects RX6 yX6_weighedAlong yX6_weighedAlong, Cond.code yX6_weighedAlong cX6_weighedAlong 12 (some .long), Cond.methodLink RX6 82 yX4_become, Cond.instanceMethod yX4_become]
def wsX7_deviation_r5 : List Cond := [Cond.selects RX4 yX4_become yX4_become, Cond.initialized RX4, Cond.code yX4_become cX4_become 7 none, Cond.methodLink RX4 16 Lib.MathLoose.abs_long.x, Cond.static Lib.MathLoose.abs_long.x, Cond.initialized "java/lang/Math", Cond.code Lib.MathLoose.abs_long.x Lib.MathLoose.abs_long.code 2 (some .long), Cond.fieldLink RX4 7 "AgainAgain$Ratio" "top" "J", Cond.fieldLink RX4 13 "AgainAgain$Ratio" "bottom" "J", Cond.methodLink RX4 22 yX4_greatestShared, Cond.static yX4_greatestShared, Cond.code yX4_greatestShared cX4_greatestShared 11 (some .long), Cond.methodLink RX3 54 yX3_slotOf, Cond.static yX3_slotOf, Cond.code yX3_slotOf cX3_slotOf 2 (some .int), Cond.methodLink RX3 58 yX3_keep, Cond.instanceMethod yX3_keep, Cond.selects RX3 yX3_keep yX3_keep, Cond.code yX3_keep cX3_keep 3 none, Cond.fieldLink RX3 11 "AgainAgain$Plans" "plans" "[I", Cond.fieldLink RX3 15 "AgainAgain$Plans" "tops" "[J", Cond.fieldLink RX3 19 "AgainAgain$Plans" "bottoms" "[J", Cond.methodLink RX3 73 yX4_part, Cond.instanceMethod yX4_part]
def wsX7_deviation_r6 : List Cond := [Cond.selects RX4 yX4_part yX4_part, Cond.code yX4_part cX4_part 2 (some .long), Cond.methodLink RX3 66 yX3_plansAgainst, Cond.static yX3_plansAgainst, Cond.code yX3_plansAgainst cX3_plansAgainst 3 (some .int), Cond.methodLink RX3 69 yX3_bestCompared, Cond.instanceMethod yX3_bestCompared, Cond.selects RX3 yX3_bestCompared yX3_bestCompared, Cond.code yX3_bestCompared cX3_bestCompared 4 (some .int), Cond.methodLink RX3 80 yX4_compareWith, Cond.instanceMethod yX4_compareWith, Cond.selects RX4 yX4_compareWith yX4_compareWith, Cond.code yX4_compareWith cX4_compareWith 5 (some .int), Cond.methodLink RX4 26 yJ13_compare_74951, Cond.static yJ13_compare_74951, Cond.initialized RJ13, Cond.code yJ13_compare_74951 cJ13_compare_74951 4 (some .int), Cond.methodLink RX7 229 yX7_takeBothSides, Cond.instanceMethod yX7_takeBothSides, Cond.selects RX7 yX7_takeBothSides yX7_takeBothSides, Cond.code yX7_takeBothSides cX7_takeBothSides 3 none, Cond.fieldLink RX7 47 "AgainAgain" "walk" "LAgainAgain$Walk;", Cond.fieldLink RX7 51 "AgainAgain" "back" "LAgainAgain$Walk;", Cond.methodLink RX7 272 yX6_takeMatch]
def wsX7_deviation_r7 : List Cond := [Cond.instanceMethod yX6_takeMatch, Cond.selects RX6 yX6_takeMatch yX6_takeMatch, Cond.code yX6_takeMatch cX6_takeMatch 9 none, Cond.methodLink RX6 39 yX6_placeOf, Cond.static yX6_placeOf, Cond.code yX6_placeOf cX6_placeOf 2 (some .int), Cond.methodLink RX7 240 yX7_firstUnrest, Cond.instanceMethod yX7_firstUnrest, Cond.selects RX7 yX7_firstUnrest yX7_firstUnrest, Cond.code yX7_firstUnrest cX7_firstUnrest 5 (some .int), Cond.methodLink RX7 219 yX2_statesOf, Cond.methodLink RX7 232 yX7_restFrom, Cond.instanceMethod yX7_restFrom, Cond.selects RX7 yX7_restFrom yX7_restFrom, Cond.code yX7_restFrom cX7_restFrom 5 (some .boolean), Cond.methodLink RX7 286 yX6_placeOf, Cond.methodLink RX7 293 yX7_gainsByPlan, Cond.instanceMethod yX7_gainsByPlan, Cond.selects RX7 yX7_gainsByPlan yX7_gainsByPlan, Cond.code yX7_gainsByPlan cX7_gainsByPlan 5 (some .boolean), Cond.fieldLink RX7 57 "AgainAgain" "ratio" "LAgainAgain$Ratio;", Cond.methodLink RX7 275 yX6_startAt, Cond.methodLink RX7 282 yX6_worthInto, Cond.methodLink RX7 289 yX3_bestCompared]
def wsX7_deviation_r8 : List Cond := [Cond.methodLink RX7 154 yX6_mine, Cond.static yX6_mine, Cond.code yX6_mine cX6_mine 1 (some .int), Cond.methodLink RX7 243 yX6_theirs, Cond.static yX6_theirs, Cond.code yX6_theirs cX6_theirs 1 (some .int), Cond.methodLink RX7 246 yX7_deviationFrom, Cond.instanceMethod yX7_deviationFrom, Cond.selects RX7 yX7_deviationFrom yX7_deviationFrom, Cond.code yX7_deviationFrom cX7_deviationFrom 7 (some .int), Cond.methodLink RX7 212 yX3_bestPlan, Cond.instanceMethod yX3_bestPlan, Cond.selects RX3 yX3_bestPlan yX3_bestPlan, Cond.code yX3_bestPlan cX3_bestPlan 3 (some .int)]
def wsX7_deviation : List Cond := .code yX7_deviation cX7_deviation 5 (some .int) :: ((wsX7_deviation_r1 ++ (wsX7_deviation_r2 ++ (wsX7_deviation_r3 ++ (wsX7_deviation_r4 ++ (wsX7_deviation_r5 ++ (wsX7_deviation_r6 ++ (wsX7_deviation_r7 ++ wsX7_deviation_r8))))))) ++ wsX70 ++ wsX20 ++ wsX30 ++ wsX60 ++ wsX00 ++ wsX40)
def wsX7_compareWorths_r1 : List Cond := [Cond.fieldLink RX7 57 "AgainAgain" "ratio" "LAgainAgain$Ratio;", Cond.fieldLink RX7 61 "AgainAgain" "other" "LAgainAgain$Ratio;", Cond.methodLink RX7 183 yX7_matchWorth, Cond.instanceMethod yX7_matchWorth, Cond.selects RX7 yX7_matchWorth yX7_matchWorth, Cond.initialized RX7, Cond.code yX7_matchWorth cX7_matchWorth 4 none, Cond.fieldLink RX7 47 "AgainAgain" "walk" "LAgainAgain$Walk;", Cond.fieldLink RX7 10 "AgainAgain" "game" "LAgainAgain$Game;", Cond.methodLink RX7 148 yX7_playOut, Cond.instanceMethod yX7_playOut, Cond.selects RX7 yX7_playOut yX7_playOut, Cond.code yX7_playOut cX7_playOut 3 none, Cond.fieldLink RX7 19 "AgainAgain" "machines" "LAgainAgain$Machines;", Cond.methodLink RX7 272 yX6_takeMatch, Cond.instanceMethod yX6_takeMatch, Cond.selects RX6 yX6_takeMatch yX6_takeMatch, Cond.initialized RX6, Cond.code yX6_takeMatch cX6_takeMatch 9 none, Cond.fieldLink RX6 11 "AgainAgain$Walk" "nexts" "[I", Cond.fieldLink RX6 15 "AgainAgain$Walk" "gains" "[I", Cond.methodLink RX6 31 yX2_statesOf, Cond.instanceMethod yX2_statesOf, Cond.selects RX2 yX2_statesOf yX2_statesOf]
def wsX7_compareWorths_r2 : List Cond := [Cond.initialized RX2, Cond.code yX2_statesOf cX2_statesOf 2 (some .int), Cond.fieldLink RX2 9 "AgainAgain$Machines" "sizes" "[I", Cond.methodLink RX6 35 yX2_actionOf, Cond.instanceMethod yX2_actionOf, Cond.selects RX2 yX2_actionOf yX2_actionOf, Cond.code yX2_actionOf cX2_actionOf 3 (some .int), Cond.fieldLink RX2 13 "AgainAgain$Machines" "actions" "[I", Cond.methodLink RX6 39 yX6_placeOf, Cond.static yX6_placeOf, Cond.code yX6_placeOf cX6_placeOf 2 (some .int), Cond.methodLink RX6 42 yX2_nextOf, Cond.instanceMethod yX2_nextOf, Cond.selects RX2 yX2_nextOf yX2_nextOf, Cond.code yX2_nextOf cX2_nextOf 4 (some .int), Cond.fieldLink RX2 18 "AgainAgain$Machines" "nexts" "[I", Cond.methodLink RX6 46 yX0_gain, Cond.instanceMethod yX0_gain, Cond.selects RX0 yX0_gain yX0_gain, Cond.initialized RX0, Cond.code yX0_gain cX0_gain 3 (some .int), Cond.fieldLink RX0 9 "AgainAgain$Game" "gains" "[I", Cond.methodLink RX7 275 yX6_startAt, Cond.instanceMethod yX6_startAt]
def wsX7_compareWorths_r3 : List Cond := [Cond.selects RX6 yX6_startAt yX6_startAt, Cond.code yX6_startAt cX6_startAt 4 none, Cond.fieldLink RX6 18 "AgainAgain$Walk" "firstMet" "[I", Cond.fieldLink RX6 21 "AgainAgain$Walk" "path" "[I", Cond.fieldLink RX6 24 "AgainAgain$Walk" "tail" "I", Cond.fieldLink RX6 28 "AgainAgain$Walk" "ring" "I", Cond.methodLink RX6 51 yJ7_fill_53178, Cond.static yJ7_fill_53178, Cond.initialized RJ7, Cond.code yJ7_fill_53178 cJ7_fill_53178 4 none, Cond.methodLink RX7 282 yX6_worthInto, Cond.instanceMethod yX6_worthInto, Cond.selects RX6 yX6_worthInto yX6_worthInto, Cond.code yX6_worthInto cX6_worthInto 11 none, Cond.methodLink RX6 67 yX0_rateOver, Cond.instanceMethod yX0_rateOver, Cond.selects RX0 yX0_rateOver yX0_rateOver, Cond.code yX0_rateOver cX0_rateOver 1 (some .long), Cond.fieldLink RX0 13 "AgainAgain$Game" "over" "J", Cond.methodLink RX6 71 yX0_rateUnder, Cond.instanceMethod yX0_rateUnder, Cond.selects RX0 yX0_rateUnder yX0_rateUnder, Cond.code yX0_rateUnder cX0_rateUnder 1 (some .long), Cond.fieldLink RX0 19 "AgainAgain$Game" "under" "J"]
def wsX7_compareWorths_r4 : List Cond := [Cond.methodLink RX6 74 yX6_power, Cond.static yX6_power, Cond.code yX6_power cX6_power 6 (some .long), Cond.methodLink RX6 78 yX6_weighedAlong, Cond.instanceMethod yX6_weighedAlong, Cond.selects RX6 yX6_weighedAlong yX6_weighedAlong, Cond.code yX6_weighedAlong cX6_weighedAlong 12 (some .long), Cond.methodLink RX6 82 yX4_become, Cond.instanceMethod yX4_become, Cond.selects RX4 yX4_become yX4_become, Cond.initialized RX4, Cond.code yX4_become cX4_become 7 none, Cond.methodLink RX4 16 Lib.MathLoose.abs_long.x, Cond.static Lib.MathLoose.abs_long.x, Cond.initialized "java/lang/Math", Cond.code Lib.MathLoose.abs_long.x Lib.MathLoose.abs_long.code 2 (some .long), Cond.fieldLink RX4 7 "AgainAgain$Ratio" "top" "J", Cond.fieldLink RX4 13 "AgainAgain$Ratio" "bottom" "J", Cond.methodLink RX4 22 yX4_greatestShared, Cond.static yX4_greatestShared, Cond.code yX4_greatestShared cX4_greatestShared 11 (some .long), Cond.methodLink RX7 179 yX4_part, Cond.instanceMethod yX4_part, Cond.selects RX4 yX4_part yX4_part]
def wsX7_compareWorths_r5 : List Cond := [Cond.code yX4_part cX4_part 2 (some .long), Cond.methodLink RX7 297 yX4_compareWith, Cond.instanceMethod yX4_compareWith, Cond.selects RX4 yX4_compareWith yX4_compareWith, Cond.code yX4_compareWith cX4_compareWith 5 (some .int), Cond.methodLink RX4 26 yJ13_compare_74951, Cond.static yJ13_compare_74951, Cond.initialized RJ13, Cond.code yJ13_compare_74951 cJ13_compare_74951 4 (some .int)]
def wsX7_compareWorths : List Cond := .code yX7_compareWorths cX7_compareWorths 5 (some .int) :: ((wsX7_compareWorths_r1 ++ (wsX7_compareWorths_r2 ++ (wsX7_compareWorths_r3 ++ (wsX7_compareWorths_r4 ++ wsX7_compareWorths_r5)))) ++ wsX70 ++ wsX60 ++ wsX20 ++ wsX00 ++ wsX40)
def wsX7_withstands_r1 : List Cond := [Cond.methodLink RX7 301 yX7_compareWorths, Cond.instanceMethod yX7_compareWorths, Cond.selects RX7 yX7_compareWorths yX7_compareWorths, Cond.initialized RX7, Cond.code yX7_compareWorths cX7_compareWorths 5 (some .int), Cond.fieldLink RX7 57 "AgainAgain" "ratio" "LAgainAgain$Ratio;", Cond.fieldLink RX7 61 "AgainAgain" "other" "LAgainAgain$Ratio;", Cond.methodLink RX7 183 yX7_matchWorth, Cond.instanceMethod yX7_matchWorth, Cond.selects RX7 yX7_matchWorth yX7_matchWorth, Cond.code yX7_matchWorth cX7_matchWorth 4 none, Cond.fieldLink RX7 47 "AgainAgain" "walk" "LAgainAgain$Walk;", Cond.fieldLink RX7 10 "AgainAgain" "game" "LAgainAgain$Game;", Cond.methodLink RX7 148 yX7_playOut, Cond.instanceMethod yX7_playOut, Cond.selects RX7 yX7_playOut yX7_playOut, Cond.code yX7_playOut cX7_playOut 3 none, Cond.fieldLink RX7 19 "AgainAgain" "machines" "LAgainAgain$Machines;", Cond.methodLink RX7 272 yX6_takeMatch, Cond.instanceMethod yX6_takeMatch, Cond.selects RX6 yX6_takeMatch yX6_takeMatch, Cond.initialized RX6, Cond.code yX6_takeMatch cX6_takeMatch 9 none, Cond.fieldLink RX6 11 "AgainAgain$Walk" "nexts" "[I"]
def wsX7_withstands_r2 : List Cond := [Cond.fieldLink RX6 15 "AgainAgain$Walk" "gains" "[I", Cond.methodLink RX6 31 yX2_statesOf, Cond.instanceMethod yX2_statesOf, Cond.selects RX2 yX2_statesOf yX2_statesOf, Cond.initialized RX2, Cond.code yX2_statesOf cX2_statesOf 2 (some .int), Cond.fieldLink RX2 9 "AgainAgain$Machines" "sizes" "[I", Cond.methodLink RX6 35 yX2_actionOf, Cond.instanceMethod yX2_actionOf, Cond.selects RX2 yX2_actionOf yX2_actionOf, Cond.code yX2_actionOf cX2_actionOf 3 (some .int), Cond.fieldLink RX2 13 "AgainAgain$Machines" "actions" "[I", Cond.methodLink RX6 39 yX6_placeOf, Cond.static yX6_placeOf, Cond.code yX6_placeOf cX6_placeOf 2 (some .int), Cond.methodLink RX6 42 yX2_nextOf, Cond.instanceMethod yX2_nextOf, Cond.selects RX2 yX2_nextOf yX2_nextOf, Cond.code yX2_nextOf cX2_nextOf 4 (some .int), Cond.fieldLink RX2 18 "AgainAgain$Machines" "nexts" "[I", Cond.methodLink RX6 46 yX0_gain, Cond.instanceMethod yX0_gain, Cond.selects RX0 yX0_gain yX0_gain, Cond.initialized RX0]
def wsX7_withstands_r3 : List Cond := [Cond.code yX0_gain cX0_gain 3 (some .int), Cond.fieldLink RX0 9 "AgainAgain$Game" "gains" "[I", Cond.methodLink RX7 275 yX6_startAt, Cond.instanceMethod yX6_startAt, Cond.selects RX6 yX6_startAt yX6_startAt, Cond.code yX6_startAt cX6_startAt 4 none, Cond.fieldLink RX6 18 "AgainAgain$Walk" "firstMet" "[I", Cond.fieldLink RX6 21 "AgainAgain$Walk" "path" "[I", Cond.fieldLink RX6 24 "AgainAgain$Walk" "tail" "I", Cond.fieldLink RX6 28 "AgainAgain$Walk" "ring" "I", Cond.methodLink RX6 51 yJ7_fill_53178, Cond.static yJ7_fill_53178, Cond.initialized RJ7, Cond.code yJ7_fill_53178 cJ7_fill_53178 4 none, Cond.methodLink RX7 282 yX6_worthInto, Cond.instanceMethod yX6_worthInto, Cond.selects RX6 yX6_worthInto yX6_worthInto, Cond.code yX6_worthInto cX6_worthInto 11 none, Cond.methodLink RX6 67 yX0_rateOver, Cond.instanceMethod yX0_rateOver, Cond.selects RX0 yX0_rateOver yX0_rateOver, Cond.code yX0_rateOver cX0_rateOver 1 (some .long), Cond.fieldLink RX0 13 "AgainAgain$Game" "over" "J", Cond.methodLink RX6 71 yX0_rateUnder]
def wsX7_withstands_r4 : List Cond := [Cond.instanceMethod yX0_rateUnder, Cond.selects RX0 yX0_rateUnder yX0_rateUnder, Cond.code yX0_rateUnder cX0_rateUnder 1 (some .long), Cond.fieldLink RX0 19 "AgainAgain$Game" "under" "J", Cond.methodLink RX6 74 yX6_power, Cond.static yX6_power, Cond.code yX6_power cX6_power 6 (some .long), Cond.methodLink RX6 78 yX6_weighedAlong, Cond.instanceMethod yX6_weighedAlong, Cond.selects RX6 yX6_weighedAlong yX6_weighedAlong, Cond.code yX6_weighedAlong cX6_weighedAlong 12 (some .long), Cond.methodLink RX6 82 yX4_become, Cond.instanceMethod yX4_become, Cond.selects RX4 yX4_become yX4_become, Cond.initialized RX4, Cond.code yX4_become cX4_become 7 none, Cond.methodLink RX4 16 Lib.MathLoose.abs_long.x, Cond.static Lib.MathLoose.abs_long.x, Cond.initialized "java/lang/Math", Cond.code Lib.MathLoose.abs_long.x Lib.MathLoose.abs_long.code 2 (some .long), Cond.fieldLink RX4 7 "AgainAgain$Ratio" "top" "J", Cond.fieldLink RX4 13 "AgainAgain$Ratio" "bottom" "J", Cond.methodLink RX4 22 yX4_greatestShared, Cond.static yX4_greatestShared]
def wsX7_withstands_r5 : List Cond := [Cond.code yX4_greatestShared cX4_greatestShared 11 (some .long), Cond.methodLink RX7 179 yX4_part, Cond.instanceMethod yX4_part, Cond.selects RX4 yX4_part yX4_part, Cond.code yX4_part cX4_part 2 (some .long), Cond.methodLink RX7 297 yX4_compareWith, Cond.instanceMethod yX4_compareWith, Cond.selects RX4 yX4_compareWith yX4_compareWith, Cond.code yX4_compareWith cX4_compareWith 5 (some .int), Cond.methodLink RX4 26 yJ13_compare_74951, Cond.static yJ13_compare_74951, Cond.initialized RJ13, Cond.code yJ13_compare_74951 cJ13_compare_74951 4 (some .int)]
def wsX7_withstands : List Cond := .code yX7_withstands cX7_withstands 4 (some .boolean) :: ((wsX7_withstands_r1 ++ (wsX7_withstands_r2 ++ (wsX7_withstands_r3 ++ (wsX7_withstands_r4 ++ wsX7_withstands_r5)))) ++ wsX70 ++ wsX60 ++ wsX20 ++ wsX00 ++ wsX40)
def wsX7_resists_r1 : List Cond := [Cond.methodLink RX7 145 yX7_areMachines, Cond.instanceMethod yX7_areMachines, Cond.selects RX7 yX7_areMachines yX7_areMachines, Cond.initialized RX7, Cond.code yX7_areMachines cX7_areMachines 3 (some .boolean), Cond.fieldLink RX7 19 "AgainAgain" "machines" "LAgainAgain$Machines;", Cond.methodLink RX7 201 yX2_has, Cond.instanceMethod yX2_has, Cond.selects RX2 yX2_has yX2_has, Cond.initialized RX2, Cond.code yX2_has cX2_has 2 (some .boolean), Cond.fieldLink RX2 21 "AgainAgain$Machines" "many" "I", Cond.methodLink RX7 250 yX7_withstands, Cond.instanceMethod yX7_withstands, Cond.selects RX7 yX7_withstands yX7_withstands, Cond.code yX7_withstands cX7_withstands 4 (some .boolean), Cond.methodLink RX7 301 yX7_compareWorths, Cond.instanceMethod yX7_compareWorths, Cond.selects RX7 yX7_compareWorths yX7_compareWorths, Cond.code yX7_compareWorths cX7_compareWorths 5 (some .int), Cond.fieldLink RX7 57 "AgainAgain" "ratio" "LAgainAgain$Ratio;", Cond.fieldLink RX7 61 "AgainAgain" "other" "LAgainAgain$Ratio;", Cond.methodLink RX7 183 yX7_matchWorth, Cond.instanceMethod yX7_matchWorth]
def wsX7_resists_r2 : List Cond := [Cond.selects RX7 yX7_matchWorth yX7_matchWorth, Cond.code yX7_matchWorth cX7_matchWorth 4 none, Cond.fieldLink RX7 47 "AgainAgain" "walk" "LAgainAgain$Walk;", Cond.fieldLink RX7 10 "AgainAgain" "game" "LAgainAgain$Game;", Cond.methodLink RX7 148 yX7_playOut, Cond.instanceMethod yX7_playOut, Cond.selects RX7 yX7_playOut yX7_playOut, Cond.code yX7_playOut cX7_playOut 3 none, Cond.methodLink RX7 272 yX6_takeMatch, Cond.instanceMethod yX6_takeMatch, Cond.selects RX6 yX6_takeMatch yX6_takeMatch, Cond.initialized RX6, Cond.code yX6_takeMatch cX6_takeMatch 9 none, Cond.fieldLink RX6 11 "AgainAgain$Walk" "nexts" "[I", Cond.fieldLink RX6 15 "AgainAgain$Walk" "gains" "[I", Cond.methodLink RX6 31 yX2_statesOf, Cond.instanceMethod yX2_statesOf, Cond.selects RX2 yX2_statesOf yX2_statesOf, Cond.code yX2_statesOf cX2_statesOf 2 (some .int), Cond.fieldLink RX2 9 "AgainAgain$Machines" "sizes" "[I", Cond.methodLink RX6 35 yX2_actionOf, Cond.instanceMethod yX2_actionOf, Cond.selects RX2 yX2_actionOf yX2_actionOf, Cond.code yX2_actionOf cX2_actionOf 3 (some .int)]
def wsX7_resists_r3 : List Cond := [Cond.fieldLink RX2 13 "AgainAgain$Machines" "actions" "[I", Cond.methodLink RX6 39 yX6_placeOf, Cond.static yX6_placeOf, Cond.code yX6_placeOf cX6_placeOf 2 (some .int), Cond.methodLink RX6 42 yX2_nextOf, Cond.instanceMethod yX2_nextOf, Cond.selects RX2 yX2_nextOf yX2_nextOf, Cond.code yX2_nextOf cX2_nextOf 4 (some .int), Cond.fieldLink RX2 18 "AgainAgain$Machines" "nexts" "[I", Cond.methodLink RX6 46 yX0_gain, Cond.instanceMethod yX0_gain, Cond.selects RX0 yX0_gain yX0_gain, Cond.initialized RX0, Cond.code yX0_gain cX0_gain 3 (some .int), Cond.fieldLink RX0 9 "AgainAgain$Game" "gains" "[I", Cond.methodLink RX7 275 yX6_startAt, Cond.instanceMethod yX6_startAt, Cond.selects RX6 yX6_startAt yX6_startAt, Cond.code yX6_startAt cX6_startAt 4 none, Cond.fieldLink RX6 18 "AgainAgain$Walk" "firstMet" "[I", Cond.fieldLink RX6 21 "AgainAgain$Walk" "path" "[I", Cond.fieldLink RX6 24 "AgainAgain$Walk" "tail" "I", Cond.fieldLink RX6 28 "AgainAgain$Walk" "ring" "I", Cond.methodLink RX6 51 yJ7_fill_53178]
def wsX7_resists_r4 : List Cond := [Cond.static yJ7_fill_53178, Cond.initialized RJ7, Cond.code yJ7_fill_53178 cJ7_fill_53178 4 none, Cond.methodLink RX7 282 yX6_worthInto, Cond.instanceMethod yX6_worthInto, Cond.selects RX6 yX6_worthInto yX6_worthInto, Cond.code yX6_worthInto cX6_worthInto 11 none, Cond.methodLink RX6 67 yX0_rateOver, Cond.instanceMethod yX0_rateOver, Cond.selects RX0 yX0_rateOver yX0_rateOver, Cond.code yX0_rateOver cX0_rateOver 1 (some .long), Cond.fieldLink RX0 13 "AgainAgain$Game" "over" "J", Cond.methodLink RX6 71 yX0_rateUnder, Cond.instanceMethod yX0_rateUnder, Cond.selects RX0 yX0_rateUnder yX0_rateUnder, Cond.code yX0_rateUnder cX0_rateUnder 1 (some .long), Cond.fieldLink RX0 19 "AgainAgain$Game" "under" "J", Cond.methodLink RX6 74 yX6_power, Cond.static yX6_power, Cond.code yX6_power cX6_power 6 (some .long), Cond.methodLink RX6 78 yX6_weighedAlong, Cond.instanceMethod yX6_weighedAlong, Cond.selects RX6 yX6_weighedAlong yX6_weighedAlong, Cond.code yX6_weighedAlong cX6_weighedAlong 12 (some .long)]
def wsX7_resists_r5 : List Cond := [Cond.methodLink RX6 82 yX4_become, Cond.instanceMethod yX4_become, Cond.selects RX4 yX4_become yX4_become, Cond.initialized RX4, Cond.code yX4_become cX4_become 7 none, Cond.methodLink RX4 16 Lib.MathLoose.abs_long.x, Cond.static Lib.MathLoose.abs_long.x, Cond.initialized "java/lang/Math", Cond.code Lib.MathLoose.abs_long.x Lib.MathLoose.abs_long.code 2 (some .long), Cond.fieldLink RX4 7 "AgainAgain$Ratio" "top" "J", Cond.fieldLink RX4 13 "AgainAgain$Ratio" "bottom" "J", Cond.methodLink RX4 22 yX4_greatestShared, Cond.static yX4_greatestShared, Cond.code yX4_greatestShared cX4_greatestShared 11 (some .long), Cond.methodLink RX7 179 yX4_part, Cond.instanceMethod yX4_part, Cond.selects RX4 yX4_part yX4_part, Cond.code yX4_part cX4_part 2 (some .long), Cond.methodLink RX7 297 yX4_compareWith, Cond.instanceMethod yX4_compareWith, Cond.selects RX4 yX4_compareWith yX4_compareWith, Cond.code yX4_compareWith cX4_compareWith 5 (some .int), Cond.methodLink RX4 26 yJ13_compare_74951, Cond.static yJ13_compare_74951]
def wsX7_resists_r6 : List Cond := [Cond.initialized RJ13, Cond.code yJ13_compare_74951 cJ13_compare_74951 4 (some .int), Cond.methodLink RX7 197 yX7_oneIf, Cond.static yX7_oneIf, Cond.code yX7_oneIf cX7_oneIf 1 (some .int)]
def wsX7_resists : List Cond := .code yX7_resists cX7_resists 3 (some .int) :: ((wsX7_resists_r1 ++ (wsX7_resists_r2 ++ (wsX7_resists_r3 ++ (wsX7_resists_r4 ++ (wsX7_resists_r5 ++ wsX7_resists_r6))))) ++ wsX70 ++ wsX20 ++ wsX60 ++ wsX00 ++ wsX40)
def wsX7_invaders_r1 : List Cond := [Cond.fieldLink RX7 19 "AgainAgain" "machines" "LAgainAgain$Machines;", Cond.methodLink RX7 201 yX2_has, Cond.instanceMethod yX2_has, Cond.selects RX2 yX2_has yX2_has, Cond.initialized RX2, Cond.code yX2_has cX2_has 2 (some .boolean), Cond.fieldLink RX2 21 "AgainAgain$Machines" "many" "I", Cond.methodLink RX7 111 yX2_many, Cond.instanceMethod yX2_many, Cond.selects RX2 yX2_many yX2_many, Cond.code yX2_many cX2_many 1 (some .int), Cond.methodLink RX7 250 yX7_withstands, Cond.instanceMethod yX7_withstands, Cond.selects RX7 yX7_withstands yX7_withstands, Cond.initialized RX7, Cond.code yX7_withstands cX7_withstands 4 (some .boolean), Cond.methodLink RX7 301 yX7_compareWorths, Cond.instanceMethod yX7_compareWorths, Cond.selects RX7 yX7_compareWorths yX7_compareWorths, Cond.code yX7_compareWorths cX7_compareWorths 5 (some .int), Cond.fieldLink RX7 57 "AgainAgain" "ratio" "LAgainAgain$Ratio;", Cond.fieldLink RX7 61 "AgainAgain" "other" "LAgainAgain$Ratio;", Cond.methodLink RX7 183 yX7_matchWorth, Cond.instanceMethod yX7_matchWorth]
def wsX7_invaders_r2 : List Cond := [Cond.selects RX7 yX7_matchWorth yX7_matchWorth, Cond.code yX7_matchWorth cX7_matchWorth 4 none, Cond.fieldLink RX7 47 "AgainAgain" "walk" "LAgainAgain$Walk;", Cond.fieldLink RX7 10 "AgainAgain" "game" "LAgainAgain$Game;", Cond.methodLink RX7 148 yX7_playOut, Cond.instanceMethod yX7_playOut, Cond.selects RX7 yX7_playOut yX7_playOut, Cond.code yX7_playOut cX7_playOut 3 none, Cond.methodLink RX7 272 yX6_takeMatch, Cond.instanceMethod yX6_takeMatch, Cond.selects RX6 yX6_takeMatch yX6_takeMatch, Cond.initialized RX6, Cond.code yX6_takeMatch cX6_takeMatch 9 none, Cond.fieldLink RX6 11 "AgainAgain$Walk" "nexts" "[I", Cond.fieldLink RX6 15 "AgainAgain$Walk" "gains" "[I", Cond.methodLink RX6 31 yX2_statesOf, Cond.instanceMethod yX2_statesOf, Cond.selects RX2 yX2_statesOf yX2_statesOf, Cond.code yX2_statesOf cX2_statesOf 2 (some .int), Cond.fieldLink RX2 9 "AgainAgain$Machines" "sizes" "[I", Cond.methodLink RX6 35 yX2_actionOf, Cond.instanceMethod yX2_actionOf, Cond.selects RX2 yX2_actionOf yX2_actionOf, Cond.code yX2_actionOf cX2_actionOf 3 (some .int)]
def wsX7_invaders_r3 : List Cond := [Cond.fieldLink RX2 13 "AgainAgain$Machines" "actions" "[I", Cond.methodLink RX6 39 yX6_placeOf, Cond.static yX6_placeOf, Cond.code yX6_placeOf cX6_placeOf 2 (some .int), Cond.methodLink RX6 42 yX2_nextOf, Cond.instanceMethod yX2_nextOf, Cond.selects RX2 yX2_nextOf yX2_nextOf, Cond.code yX2_nextOf cX2_nextOf 4 (some .int), Cond.fieldLink RX2 18 "AgainAgain$Machines" "nexts" "[I", Cond.methodLink RX6 46 yX0_gain, Cond.instanceMethod yX0_gain, Cond.selects RX0 yX0_gain yX0_gain, Cond.initialized RX0, Cond.code yX0_gain cX0_gain 3 (some .int), Cond.fieldLink RX0 9 "AgainAgain$Game" "gains" "[I", Cond.methodLink RX7 275 yX6_startAt, Cond.instanceMethod yX6_startAt, Cond.selects RX6 yX6_startAt yX6_startAt, Cond.code yX6_startAt cX6_startAt 4 none, Cond.fieldLink RX6 18 "AgainAgain$Walk" "firstMet" "[I", Cond.fieldLink RX6 21 "AgainAgain$Walk" "path" "[I", Cond.fieldLink RX6 24 "AgainAgain$Walk" "tail" "I", Cond.fieldLink RX6 28 "AgainAgain$Walk" "ring" "I", Cond.methodLink RX6 51 yJ7_fill_53178]
def wsX7_invaders_r4 : List Cond := [Cond.static yJ7_fill_53178, Cond.initialized RJ7, Cond.code yJ7_fill_53178 cJ7_fill_53178 4 none, Cond.methodLink RX7 282 yX6_worthInto, Cond.instanceMethod yX6_worthInto, Cond.selects RX6 yX6_worthInto yX6_worthInto, Cond.code yX6_worthInto cX6_worthInto 11 none, Cond.methodLink RX6 67 yX0_rateOver, Cond.instanceMethod yX0_rateOver, Cond.selects RX0 yX0_rateOver yX0_rateOver, Cond.code yX0_rateOver cX0_rateOver 1 (some .long), Cond.fieldLink RX0 13 "AgainAgain$Game" "over" "J", Cond.methodLink RX6 71 yX0_rateUnder, Cond.instanceMethod yX0_rateUnder, Cond.selects RX0 yX0_rateUnder yX0_rateUnder, Cond.code yX0_rateUnder cX0_rateUnder 1 (some .long), Cond.fieldLink RX0 19 "AgainAgain$Game" "under" "J", Cond.methodLink RX6 74 yX6_power, Cond.static yX6_power, Cond.code yX6_power cX6_power 6 (some .long), Cond.methodLink RX6 78 yX6_weighedAlong, Cond.instanceMethod yX6_weighedAlong, Cond.selects RX6 yX6_weighedAlong yX6_weighedAlong, Cond.code yX6_weighedAlong cX6_weighedAlong 12 (some .long)]
def wsX7_invaders_r5 : List Cond := [Cond.methodLink RX6 82 yX4_become, Cond.instanceMethod yX4_become, Cond.selects RX4 yX4_become yX4_become, Cond.initialized RX4, Cond.code yX4_become cX4_become 7 none, Cond.methodLink RX4 16 Lib.MathLoose.abs_long.x, Cond.static Lib.MathLoose.abs_long.x, Cond.initialized "java/lang/Math", Cond.code Lib.MathLoose.abs_long.x Lib.MathLoose.abs_long.code 2 (some .long), Cond.fieldLink RX4 7 "AgainAgain$Ratio" "top" "J", Cond.fieldLink RX4 13 "AgainAgain$Ratio" "bottom" "J", Cond.methodLink RX4 22 yX4_greatestShared, Cond.static yX4_greatestShared, Cond.code yX4_greatestShared cX4_greatestShared 11 (some .long), Cond.methodLink RX7 179 yX4_part, Cond.instanceMethod yX4_part, Cond.selects RX4 yX4_part yX4_part, Cond.code yX4_part cX4_part 2 (some .long), Cond.methodLink RX7 297 yX4_compareWith, Cond.instanceMethod yX4_compareWith, Cond.selects RX4 yX4_compareWith yX4_compareWith, Cond.code yX4_compareWith cX4_compareWith 5 (some .int), Cond.methodLink RX4 26 yJ13_compare_74951, Cond.static yJ13_compare_74951]
def wsX7_invaders_r6 : List Cond := [Cond.initialized RJ13, Cond.code yJ13_compare_74951 cJ13_compare_74951 4 (some .int)]
def wsX7_invaders : List Cond := .code yX7_invaders cX7_invaders 4 (some .int) :: ((wsX7_invaders_r1 ++ (wsX7_invaders_r2 ++ (wsX7_invaders_r3 ++ (wsX7_invaders_r4 ++ (wsX7_invaders_r5 ++ wsX7_invaders_r6))))) ++ wsX70 ++ wsX20 ++ wsX60 ++ wsX00 ++ wsX40)
def wsX7_gainsAgainstAll_r1 : List Cond := [Cond.fieldLink RX7 19 "AgainAgain" "machines" "LAgainAgain$Machines;", Cond.methodLink RX7 111 yX2_many, Cond.instanceMethod yX2_many, Cond.selects RX2 yX2_many yX2_many, Cond.initialized RX2, Cond.code yX2_many cX2_many 1 (some .int), Cond.fieldLink RX2 21 "AgainAgain$Machines" "many" "I", Cond.methodLink RX7 170 yX7_gainsOf, Cond.instanceMethod yX7_gainsOf, Cond.selects RX7 yX7_gainsOf yX7_gainsOf, Cond.initialized RX7, Cond.code yX7_gainsOf cX7_gainsOf 4 (some .int), Cond.fieldLink RX7 47 "AgainAgain" "walk" "LAgainAgain$Walk;", Cond.methodLink RX7 148 yX7_playOut, Cond.instanceMethod yX7_playOut, Cond.selects RX7 yX7_playOut yX7_playOut, Cond.code yX7_playOut cX7_playOut 3 none, Cond.fieldLink RX7 10 "AgainAgain" "game" "LAgainAgain$Game;", Cond.methodLink RX7 272 yX6_takeMatch, Cond.instanceMethod yX6_takeMatch, Cond.selects RX6 yX6_takeMatch yX6_takeMatch, Cond.initialized RX6, Cond.code yX6_takeMatch cX6_takeMatch 9 none, Cond.fieldLink RX6 11 "AgainAgain$Walk" "nexts" "[I"]
def wsX7_gainsAgainstAll_r2 : List Cond := [Cond.fieldLink RX6 15 "AgainAgain$Walk" "gains" "[I", Cond.methodLink RX6 31 yX2_statesOf, Cond.instanceMethod yX2_statesOf, Cond.selects RX2 yX2_statesOf yX2_statesOf, Cond.code yX2_statesOf cX2_statesOf 2 (some .int), Cond.fieldLink RX2 9 "AgainAgain$Machines" "sizes" "[I", Cond.methodLink RX6 35 yX2_actionOf, Cond.instanceMethod yX2_actionOf, Cond.selects RX2 yX2_actionOf yX2_actionOf, Cond.code yX2_actionOf cX2_actionOf 3 (some .int), Cond.fieldLink RX2 13 "AgainAgain$Machines" "actions" "[I", Cond.methodLink RX6 39 yX6_placeOf, Cond.static yX6_placeOf, Cond.code yX6_placeOf cX6_placeOf 2 (some .int), Cond.methodLink RX6 42 yX2_nextOf, Cond.instanceMethod yX2_nextOf, Cond.selects RX2 yX2_nextOf yX2_nextOf, Cond.code yX2_nextOf cX2_nextOf 4 (some .int), Cond.fieldLink RX2 18 "AgainAgain$Machines" "nexts" "[I", Cond.methodLink RX6 46 yX0_gain, Cond.instanceMethod yX0_gain, Cond.selects RX0 yX0_gain yX0_gain, Cond.initialized RX0, Cond.code yX0_gain cX0_gain 3 (some .int)]
def wsX7_gainsAgainstAll_r3 : List Cond := [Cond.fieldLink RX0 9 "AgainAgain$Game" "gains" "[I", Cond.methodLink RX7 275 yX6_startAt, Cond.instanceMethod yX6_startAt, Cond.selects RX6 yX6_startAt yX6_startAt, Cond.code yX6_startAt cX6_startAt 4 none, Cond.fieldLink RX6 18 "AgainAgain$Walk" "firstMet" "[I", Cond.fieldLink RX6 21 "AgainAgain$Walk" "path" "[I", Cond.fieldLink RX6 24 "AgainAgain$Walk" "tail" "I", Cond.fieldLink RX6 28 "AgainAgain$Walk" "ring" "I", Cond.methodLink RX6 51 yJ7_fill_53178, Cond.static yJ7_fill_53178, Cond.initialized RJ7, Cond.code yJ7_fill_53178 cJ7_fill_53178 4 none, Cond.methodLink RX7 279 yX6_gainsOfFirst, Cond.instanceMethod yX6_gainsOfFirst, Cond.selects RX6 yX6_gainsOfFirst yX6_gainsOfFirst, Cond.code yX6_gainsOfFirst cX6_gainsOfFirst 3 (some .int), Cond.methodLink RX6 57 yX6_gainsAlong, Cond.instanceMethod yX6_gainsAlong, Cond.selects RX6 yX6_gainsAlong yX6_gainsAlong, Cond.code yX6_gainsAlong cX6_gainsAlong 5 (some .int), Cond.methodLink RX6 60 yX6_tailGains, Cond.instanceMethod yX6_tailGains, Cond.selects RX6 yX6_tailGains yX6_tailGains]
def wsX7_gainsAgainstAll_r4 : List Cond := [Cond.code yX6_tailGains cX6_tailGains 1 (some .int), Cond.methodLink RX6 64 yX6_ringGains, Cond.instanceMethod yX6_ringGains, Cond.selects RX6 yX6_ringGains yX6_ringGains, Cond.code yX6_ringGains cX6_ringGains 1 (some .int)]
def wsX7_gainsAgainstAll : List Cond := .code yX7_gainsAgainstAll cX7_gainsAgainstAll 5 (some .int) :: ((wsX7_gainsAgainstAll_r1 ++ (wsX7_gainsAgainstAll_r2 ++ (wsX7_gainsAgainstAll_r3 ++ wsX7_gainsAgainstAll_r4))) ++ wsX70 ++ wsX20 ++ wsX60 ++ wsX00)
def wsX7_score_r1 : List Cond := [Cond.fieldLink RX7 19 "AgainAgain" "machines" "LAgainAgain$Machines;", Cond.constant RX7 157 (-1000000), Cond.methodLink RX7 201 yX2_has, Cond.instanceMethod yX2_has, Cond.selects RX2 yX2_has yX2_has, Cond.initialized RX2, Cond.code yX2_has cX2_has 2 (some .boolean), Cond.fieldLink RX2 21 "AgainAgain$Machines" "many" "I", Cond.methodLink RX7 72 yX7_within, Cond.static yX7_within, Cond.initialized RX7, Cond.code yX7_within cX7_within 3 (some .boolean), Cond.methodLink RX7 253 yX7_gainsAgainstAll, Cond.instanceMethod yX7_gainsAgainstAll, Cond.selects RX7 yX7_gainsAgainstAll yX7_gainsAgainstAll, Cond.code yX7_gainsAgainstAll cX7_gainsAgainstAll 5 (some .int), Cond.methodLink RX7 111 yX2_many, Cond.instanceMethod yX2_many, Cond.selects RX2 yX2_many yX2_many, Cond.code yX2_many cX2_many 1 (some .int), Cond.methodLink RX7 170 yX7_gainsOf, Cond.instanceMethod yX7_gainsOf, Cond.selects RX7 yX7_gainsOf yX7_gainsOf, Cond.code yX7_gainsOf cX7_gainsOf 4 (some .int)]
def wsX7_score_r2 : List Cond := [Cond.fieldLink RX7 47 "AgainAgain" "walk" "LAgainAgain$Walk;", Cond.methodLink RX7 148 yX7_playOut, Cond.instanceMethod yX7_playOut, Cond.selects RX7 yX7_playOut yX7_playOut, Cond.code yX7_playOut cX7_playOut 3 none, Cond.fieldLink RX7 10 "AgainAgain" "game" "LAgainAgain$Game;", Cond.methodLink RX7 272 yX6_takeMatch, Cond.instanceMethod yX6_takeMatch, Cond.selects RX6 yX6_takeMatch yX6_takeMatch, Cond.initialized RX6, Cond.code yX6_takeMatch cX6_takeMatch 9 none, Cond.fieldLink RX6 11 "AgainAgain$Walk" "nexts" "[I", Cond.fieldLink RX6 15 "AgainAgain$Walk" "gains" "[I", Cond.methodLink RX6 31 yX2_statesOf, Cond.instanceMethod yX2_statesOf, Cond.selects RX2 yX2_statesOf yX2_statesOf, Cond.code yX2_statesOf cX2_statesOf 2 (some .int), Cond.fieldLink RX2 9 "AgainAgain$Machines" "sizes" "[I", Cond.methodLink RX6 35 yX2_actionOf, Cond.instanceMethod yX2_actionOf, Cond.selects RX2 yX2_actionOf yX2_actionOf, Cond.code yX2_actionOf cX2_actionOf 3 (some .int), Cond.fieldLink RX2 13 "AgainAgain$Machines" "actions" "[I", Cond.methodLink RX6 39 yX6_placeOf]
def wsX7_score_r3 : List Cond := [Cond.static yX6_placeOf, Cond.code yX6_placeOf cX6_placeOf 2 (some .int), Cond.methodLink RX6 42 yX2_nextOf, Cond.instanceMethod yX2_nextOf, Cond.selects RX2 yX2_nextOf yX2_nextOf, Cond.code yX2_nextOf cX2_nextOf 4 (some .int), Cond.fieldLink RX2 18 "AgainAgain$Machines" "nexts" "[I", Cond.methodLink RX6 46 yX0_gain, Cond.instanceMethod yX0_gain, Cond.selects RX0 yX0_gain yX0_gain, Cond.initialized RX0, Cond.code yX0_gain cX0_gain 3 (some .int), Cond.fieldLink RX0 9 "AgainAgain$Game" "gains" "[I", Cond.methodLink RX7 275 yX6_startAt, Cond.instanceMethod yX6_startAt, Cond.selects RX6 yX6_startAt yX6_startAt, Cond.code yX6_startAt cX6_startAt 4 none, Cond.fieldLink RX6 18 "AgainAgain$Walk" "firstMet" "[I", Cond.fieldLink RX6 21 "AgainAgain$Walk" "path" "[I", Cond.fieldLink RX6 24 "AgainAgain$Walk" "tail" "I", Cond.fieldLink RX6 28 "AgainAgain$Walk" "ring" "I", Cond.methodLink RX6 51 yJ7_fill_53178, Cond.static yJ7_fill_53178, Cond.initialized RJ7]
def wsX7_score_r4 : List Cond := [Cond.code yJ7_fill_53178 cJ7_fill_53178 4 none, Cond.methodLink RX7 279 yX6_gainsOfFirst, Cond.instanceMethod yX6_gainsOfFirst, Cond.selects RX6 yX6_gainsOfFirst yX6_gainsOfFirst, Cond.code yX6_gainsOfFirst cX6_gainsOfFirst 3 (some .int), Cond.methodLink RX6 57 yX6_gainsAlong, Cond.instanceMethod yX6_gainsAlong, Cond.selects RX6 yX6_gainsAlong yX6_gainsAlong, Cond.code yX6_gainsAlong cX6_gainsAlong 5 (some .int), Cond.methodLink RX6 60 yX6_tailGains, Cond.instanceMethod yX6_tailGains, Cond.selects RX6 yX6_tailGains yX6_tailGains, Cond.code yX6_tailGains cX6_tailGains 1 (some .int), Cond.methodLink RX6 64 yX6_ringGains, Cond.instanceMethod yX6_ringGains, Cond.selects RX6 yX6_ringGains yX6_ringGains, Cond.code yX6_ringGains cX6_ringGains 1 (some .int)]
def wsX7_score : List Cond := .code yX7_score cX7_score 3 (some .int) :: ((wsX7_score_r1 ++ (wsX7_score_r2 ++ (wsX7_score_r3 ++ wsX7_score_r4))) ++ wsX70 ++ wsX20 ++ wsX60 ++ wsX00)
def wsX7_machinesAheadOf : List Cond := .code yX7_machinesAheadOf cX7_machinesAheadOf 4 (some .int) :: ([.fieldLink RX7 19 "AgainAgain" "machines" "LAgainAgain$Machines;", .fieldLink RX7 64 "AgainAgain" "scores" "[I", .methodLink RX7 111 yX2_many, .instanceMethod yX2_many, .selects RX2 yX2_many yX2_many, .initialized RX2, .code yX2_many cX2_many 1 (some .int), .fieldLink RX2 21 "AgainAgain$Machines" "many" "I"] ++ wsX70 ++ wsX20)
def wsX7_place_r1 : List Cond := [Cond.fieldLink RX7 19 "AgainAgain" "machines" "LAgainAgain$Machines;", Cond.fieldLink RX7 64 "AgainAgain" "scores" "[I", Cond.methodLink RX7 72 yX7_within, Cond.static yX7_within, Cond.initialized RX7, Cond.code yX7_within cX7_within 3 (some .boolean), Cond.methodLink RX7 111 yX2_many, Cond.instanceMethod yX2_many, Cond.selects RX2 yX2_many yX2_many, Cond.initialized RX2, Cond.code yX2_many cX2_many 1 (some .int), Cond.fieldLink RX2 21 "AgainAgain$Machines" "many" "I", Cond.methodLink RX7 253 yX7_gainsAgainstAll, Cond.instanceMethod yX7_gainsAgainstAll, Cond.selects RX7 yX7_gainsAgainstAll yX7_gainsAgainstAll, Cond.code yX7_gainsAgainstAll cX7_gainsAgainstAll 5 (some .int), Cond.methodLink RX7 170 yX7_gainsOf, Cond.instanceMethod yX7_gainsOf, Cond.selects RX7 yX7_gainsOf yX7_gainsOf, Cond.code yX7_gainsOf cX7_gainsOf 4 (some .int), Cond.fieldLink RX7 47 "AgainAgain" "walk" "LAgainAgain$Walk;", Cond.methodLink RX7 148 yX7_playOut, Cond.instanceMethod yX7_playOut, Cond.selects RX7 yX7_playOut yX7_playOut]
def wsX7_place_r2 : List Cond := [Cond.code yX7_playOut cX7_playOut 3 none, Cond.fieldLink RX7 10 "AgainAgain" "game" "LAgainAgain$Game;", Cond.methodLink RX7 272 yX6_takeMatch, Cond.instanceMethod yX6_takeMatch, Cond.selects RX6 yX6_takeMatch yX6_takeMatch, Cond.initialized RX6, Cond.code yX6_takeMatch cX6_takeMatch 9 none, Cond.fieldLink RX6 11 "AgainAgain$Walk" "nexts" "[I", Cond.fieldLink RX6 15 "AgainAgain$Walk" "gains" "[I", Cond.methodLink RX6 31 yX2_statesOf, Cond.instanceMethod yX2_statesOf, Cond.selects RX2 yX2_statesOf yX2_statesOf, Cond.code yX2_statesOf cX2_statesOf 2 (some .int), Cond.fieldLink RX2 9 "AgainAgain$Machines" "sizes" "[I", Cond.methodLink RX6 35 yX2_actionOf, Cond.instanceMethod yX2_actionOf, Cond.selects RX2 yX2_actionOf yX2_actionOf, Cond.code yX2_actionOf cX2_actionOf 3 (some .int), Cond.fieldLink RX2 13 "AgainAgain$Machines" "actions" "[I", Cond.methodLink RX6 39 yX6_placeOf, Cond.static yX6_placeOf, Cond.code yX6_placeOf cX6_placeOf 2 (some .int), Cond.methodLink RX6 42 yX2_nextOf, Cond.instanceMethod yX2_nextOf]
def wsX7_place_r3 : List Cond := [Cond.selects RX2 yX2_nextOf yX2_nextOf, Cond.code yX2_nextOf cX2_nextOf 4 (some .int), Cond.fieldLink RX2 18 "AgainAgain$Machines" "nexts" "[I", Cond.methodLink RX6 46 yX0_gain, Cond.instanceMethod yX0_gain, Cond.selects RX0 yX0_gain yX0_gain, Cond.initialized RX0, Cond.code yX0_gain cX0_gain 3 (some .int), Cond.fieldLink RX0 9 "AgainAgain$Game" "gains" "[I", Cond.methodLink RX7 275 yX6_startAt, Cond.instanceMethod yX6_startAt, Cond.selects RX6 yX6_startAt yX6_startAt, Cond.code yX6_startAt cX6_startAt 4 none, Cond.fieldLink RX6 18 "AgainAgain$Walk" "firstMet" "[I", Cond.fieldLink RX6 21 "AgainAgain$Walk" "path" "[I", Cond.fieldLink RX6 24 "AgainAgain$Walk" "tail" "I", Cond.fieldLink RX6 28 "AgainAgain$Walk" "ring" "I", Cond.methodLink RX6 51 yJ7_fill_53178, Cond.static yJ7_fill_53178, Cond.initialized RJ7, Cond.code yJ7_fill_53178 cJ7_fill_53178 4 none, Cond.methodLink RX7 279 yX6_gainsOfFirst, Cond.instanceMethod yX6_gainsOfFirst, Cond.selects RX6 yX6_gainsOfFirst yX6_gainsOfFirst]
def wsX7_place_r4 : List Cond := [Cond.code yX6_gainsOfFirst cX6_gainsOfFirst 3 (some .int), Cond.methodLink RX6 57 yX6_gainsAlong, Cond.instanceMethod yX6_gainsAlong, Cond.selects RX6 yX6_gainsAlong yX6_gainsAlong, Cond.code yX6_gainsAlong cX6_gainsAlong 5 (some .int), Cond.methodLink RX6 60 yX6_tailGains, Cond.instanceMethod yX6_tailGains, Cond.selects RX6 yX6_tailGains yX6_tailGains, Cond.code yX6_tailGains cX6_tailGains 1 (some .int), Cond.methodLink RX6 64 yX6_ringGains, Cond.instanceMethod yX6_ringGains, Cond.selects RX6 yX6_ringGains yX6_ringGains, Cond.code yX6_ringGains cX6_ringGains 1 (some .int), Cond.methodLink RX7 256 yX7_machinesAheadOf, Cond.instanceMethod yX7_machinesAheadOf, Cond.selects RX7 yX7_machinesAheadOf yX7_machinesAheadOf, Cond.code yX7_machinesAheadOf cX7_machinesAheadOf 4 (some .int)]
def wsX7_place : List Cond := .code yX7_place cX7_place 4 (some .int) :: ((wsX7_place_r1 ++ (wsX7_place_r2 ++ (wsX7_place_r3 ++ wsX7_place_r4))) ++ wsX70 ++ wsX20 ++ wsX60 ++ wsX00)
def wsX7_restingPairs_r1 : List Cond := [Cond.fieldLink RX7 19 "AgainAgain" "machines" "LAgainAgain$Machines;", Cond.fieldLink RX7 40 "AgainAgain" "plans" "LAgainAgain$Plans;", Cond.fieldLink RX7 10 "AgainAgain" "game" "LAgainAgain$Game;", Cond.methodLink RX7 111 yX2_many, Cond.instanceMethod yX2_many, Cond.selects RX2 yX2_many yX2_many, Cond.initialized RX2, Cond.code yX2_many cX2_many 1 (some .int), Cond.fieldLink RX2 21 "AgainAgain$Machines" "many" "I", Cond.methodLink RX7 208 yX3_learn, Cond.instanceMethod yX3_learn, Cond.selects RX3 yX3_learn yX3_learn, Cond.initialized RX3, Cond.code yX3_learn cX3_learn 6 none, Cond.fieldLink RX3 32 "AgainAgain$Plans" "tried" "LAgainAgain$Ratio;", Cond.methodLink RX3 50 yX3_weigh, Cond.instanceMethod yX3_weigh, Cond.selects RX3 yX3_weigh yX3_weigh, Cond.code yX3_weigh cX3_weigh 7 none, Cond.fieldLink RX3 25 "AgainAgain$Plans" "walk" "LAgainAgain$Walk;", Cond.methodLink RX3 38 yX6_takePlan, Cond.instanceMethod yX6_takePlan, Cond.selects RX6 yX6_takePlan yX6_takePlan, Cond.initialized RX6]
def wsX7_restingPairs_r2 : List Cond := [Cond.code yX6_takePlan cX6_takePlan 8 none, Cond.fieldLink RX6 11 "AgainAgain$Walk" "nexts" "[I", Cond.fieldLink RX6 15 "AgainAgain$Walk" "gains" "[I", Cond.methodLink RX6 31 yX2_statesOf, Cond.instanceMethod yX2_statesOf, Cond.selects RX2 yX2_statesOf yX2_statesOf, Cond.code yX2_statesOf cX2_statesOf 2 (some .int), Cond.fieldLink RX2 9 "AgainAgain$Machines" "sizes" "[I", Cond.methodLink RX6 42 yX2_nextOf, Cond.instanceMethod yX2_nextOf, Cond.selects RX2 yX2_nextOf yX2_nextOf, Cond.code yX2_nextOf cX2_nextOf 4 (some .int), Cond.fieldLink RX2 18 "AgainAgain$Machines" "nexts" "[I", Cond.methodLink RX6 35 yX2_actionOf, Cond.instanceMethod yX2_actionOf, Cond.selects RX2 yX2_actionOf yX2_actionOf, Cond.code yX2_actionOf cX2_actionOf 3 (some .int), Cond.fieldLink RX2 13 "AgainAgain$Machines" "actions" "[I", Cond.methodLink RX6 46 yX0_gain, Cond.instanceMethod yX0_gain, Cond.selects RX0 yX0_gain yX0_gain, Cond.initialized RX0, Cond.code yX0_gain cX0_gain 3 (some .int), Cond.fieldLink RX0 9 "AgainAgain$Game" "gains" "[I"]
def wsX7_restingPairs_r3 : List Cond := [Cond.methodLink RX3 42 yX6_startAt, Cond.instanceMethod yX6_startAt, Cond.selects RX6 yX6_startAt yX6_startAt, Cond.code yX6_startAt cX6_startAt 4 none, Cond.fieldLink RX6 18 "AgainAgain$Walk" "firstMet" "[I", Cond.fieldLink RX6 21 "AgainAgain$Walk" "path" "[I", Cond.fieldLink RX6 24 "AgainAgain$Walk" "tail" "I", Cond.fieldLink RX6 28 "AgainAgain$Walk" "ring" "I", Cond.methodLink RX6 51 yJ7_fill_53178, Cond.static yJ7_fill_53178, Cond.initialized RJ7, Cond.code yJ7_fill_53178 cJ7_fill_53178 4 none, Cond.methodLink RX3 46 yX6_worthInto, Cond.instanceMethod yX6_worthInto, Cond.selects RX6 yX6_worthInto yX6_worthInto, Cond.code yX6_worthInto cX6_worthInto 11 none, Cond.methodLink RX6 67 yX0_rateOver, Cond.instanceMethod yX0_rateOver, Cond.selects RX0 yX0_rateOver yX0_rateOver, Cond.code yX0_rateOver cX0_rateOver 1 (some .long), Cond.fieldLink RX0 13 "AgainAgain$Game" "over" "J", Cond.methodLink RX6 71 yX0_rateUnder, Cond.instanceMethod yX0_rateUnder, Cond.selects RX0 yX0_rateUnder yX0_rateUnder]
def wsX7_restingPairs_r4 : List Cond := [Cond.code yX0_rateUnder cX0_rateUnder 1 (some .long), Cond.fieldLink RX0 19 "AgainAgain$Game" "under" "J", Cond.methodLink RX6 74 yX6_power, Cond.static yX6_power, Cond.code yX6_power cX6_power 6 (some .long), Cond.methodLink RX6 78 yX6_weighedAlong, Cond.instanceMethod yX6_weighedAlong, Cond.selects RX6 yX6_weighedAlong yX6_weighedAlong, Cond.code yX6_weighedAlong cX6_weighedAlong 12 (some .long), Cond.methodLink RX6 82 yX4_become, Cond.instanceMethod yX4_become, Cond.selects RX4 yX4_become yX4_become, Cond.initialized RX4, Cond.code yX4_become cX4_become 7 none, Cond.methodLink RX4 16 Lib.MathLoose.abs_long.x, Cond.static Lib.MathLoose.abs_long.x, Cond.initialized "java/lang/Math", Cond.code Lib.MathLoose.abs_long.x Lib.MathLoose.abs_long.code 2 (some .long), Cond.fieldLink RX4 7 "AgainAgain$Ratio" "top" "J", Cond.fieldLink RX4 13 "AgainAgain$Ratio" "bottom" "J", Cond.methodLink RX4 22 yX4_greatestShared, Cond.static yX4_greatestShared, Cond.code yX4_greatestShared cX4_greatestShared 11 (some .long), Cond.methodLink RX3 54 yX3_slotOf]
def wsX7_restingPairs_r5 : List Cond := [Cond.static yX3_slotOf, Cond.code yX3_slotOf cX3_slotOf 2 (some .int), Cond.methodLink RX3 58 yX3_keep, Cond.instanceMethod yX3_keep, Cond.selects RX3 yX3_keep yX3_keep, Cond.code yX3_keep cX3_keep 3 none, Cond.fieldLink RX3 11 "AgainAgain$Plans" "plans" "[I", Cond.fieldLink RX3 15 "AgainAgain$Plans" "tops" "[J", Cond.fieldLink RX3 19 "AgainAgain$Plans" "bottoms" "[J", Cond.methodLink RX3 73 yX4_part, Cond.instanceMethod yX4_part, Cond.selects RX4 yX4_part yX4_part, Cond.code yX4_part cX4_part 2 (some .long), Cond.methodLink RX3 62 yX2_statesOf, Cond.methodLink RX3 66 yX3_plansAgainst, Cond.static yX3_plansAgainst, Cond.code yX3_plansAgainst cX3_plansAgainst 3 (some .int), Cond.methodLink RX3 69 yX3_bestCompared, Cond.instanceMethod yX3_bestCompared, Cond.selects RX3 yX3_bestCompared yX3_bestCompared, Cond.code yX3_bestCompared cX3_bestCompared 4 (some .int), Cond.methodLink RX3 80 yX4_compareWith, Cond.instanceMethod yX4_compareWith, Cond.selects RX4 yX4_compareWith yX4_compareWith]
def wsX7_restingPairs_r6 : List Cond := [Cond.code yX4_compareWith cX4_compareWith 5 (some .int), Cond.methodLink RX4 26 yJ13_compare_74951, Cond.static yJ13_compare_74951, Cond.initialized RJ13, Cond.code yJ13_compare_74951 cJ13_compare_74951 4 (some .int), Cond.methodLink RX7 229 yX7_takeBothSides, Cond.instanceMethod yX7_takeBothSides, Cond.selects RX7 yX7_takeBothSides yX7_takeBothSides, Cond.initialized RX7, Cond.code yX7_takeBothSides cX7_takeBothSides 3 none, Cond.fieldLink RX7 47 "AgainAgain" "walk" "LAgainAgain$Walk;", Cond.fieldLink RX7 51 "AgainAgain" "back" "LAgainAgain$Walk;", Cond.methodLink RX7 272 yX6_takeMatch, Cond.instanceMethod yX6_takeMatch, Cond.selects RX6 yX6_takeMatch yX6_takeMatch, Cond.code yX6_takeMatch cX6_takeMatch 9 none, Cond.methodLink RX6 39 yX6_placeOf, Cond.static yX6_placeOf, Cond.code yX6_placeOf cX6_placeOf 2 (some .int), Cond.methodLink RX7 232 yX7_restFrom, Cond.instanceMethod yX7_restFrom, Cond.selects RX7 yX7_restFrom yX7_restFrom, Cond.code yX7_restFrom cX7_restFrom 5 (some .boolean), Cond.methodLink RX7 286 yX6_placeOf]
def wsX7_restingPairs_r7 : List Cond := [Cond.methodLink RX7 293 yX7_gainsByPlan, Cond.instanceMethod yX7_gainsByPlan, Cond.selects RX7 yX7_gainsByPlan yX7_gainsByPlan, Cond.code yX7_gainsByPlan cX7_gainsByPlan 5 (some .boolean), Cond.fieldLink RX7 57 "AgainAgain" "ratio" "LAgainAgain$Ratio;", Cond.methodLink RX7 275 yX6_startAt, Cond.methodLink RX7 282 yX6_worthInto, Cond.methodLink RX7 289 yX3_bestCompared]
def wsX7_restingPairs : List Cond := .code yX7_restingPairs cX7_restingPairs 4 (some .int) :: ((wsX7_restingPairs_r1 ++ (wsX7_restingPairs_r2 ++ (wsX7_restingPairs_r3 ++ (wsX7_restingPairs_r4 ++ (wsX7_restingPairs_r5 ++ (wsX7_restingPairs_r6 ++ wsX7_restingPairs_r7)))))) ++ wsX70 ++ wsX20 ++ wsX30 ++ wsX60 ++ wsX00 ++ wsX40)
def wsX7_count_r1 : List Cond := [Cond.fieldLink RX7 19 "AgainAgain" "machines" "LAgainAgain$Machines;", Cond.fieldLink RX7 33 "AgainAgain" "likeness" "LAgainAgain$Likeness;", Cond.fieldLink RX7 26 "AgainAgain" "sheets" "LAgainAgain$Sheets;", Cond.methodLink RX7 111 yX2_many, Cond.instanceMethod yX2_many, Cond.selects RX2 yX2_many yX2_many, Cond.initialized RX2, Cond.code yX2_many cX2_many 1 (some .int), Cond.fieldLink RX2 21 "AgainAgain$Machines" "many" "I", Cond.methodLink RX7 259 yX1_unlikeMachines, Cond.instanceMethod yX1_unlikeMachines, Cond.selects RX1 yX1_unlikeMachines yX1_unlikeMachines, Cond.initialized RX1, Cond.code yX1_unlikeMachines cX1_unlikeMachines 4 (some .int), Cond.methodLink RX1 19 yX2_many, Cond.methodLink RX1 25 yX1_isNew, Cond.instanceMethod yX1_isNew, Cond.selects RX1 yX1_isNew yX1_isNew, Cond.code yX1_isNew cX1_isNew 4 (some .boolean), Cond.methodLink RX1 29 yX1_areLike, Cond.instanceMethod yX1_areLike, Cond.selects RX1 yX1_areLike yX1_areLike, Cond.code yX1_areLike cX1_areLike 4 (some .boolean), Cond.methodLink RX1 15 yX1_statesLike]
def wsX7_count_r2 : List Cond := [Cond.instanceMethod yX1_statesLike, Cond.selects RX1 yX1_statesLike yX1_statesLike, Cond.code yX1_statesLike cX1_statesLike 13 (some .boolean), Cond.fieldLink RX1 9 "AgainAgain$Likeness" "pairs" "[I", Cond.methodLink RX1 55 yX6_placeOf, Cond.static yX6_placeOf, Cond.initialized RX6, Cond.code yX6_placeOf cX6_placeOf 2 (some .int), Cond.methodLink RX1 59 yX6_mine, Cond.static yX6_mine, Cond.code yX6_mine cX6_mine 1 (some .int), Cond.methodLink RX1 62 yX6_theirs, Cond.static yX6_theirs, Cond.code yX6_theirs cX6_theirs 1 (some .int), Cond.methodLink RX1 65 yX2_actionOf, Cond.instanceMethod yX2_actionOf, Cond.selects RX2 yX2_actionOf yX2_actionOf, Cond.code yX2_actionOf cX2_actionOf 3 (some .int), Cond.fieldLink RX2 13 "AgainAgain$Machines" "actions" "[I", Cond.methodLink RX1 51 yX2_nextOf, Cond.instanceMethod yX2_nextOf, Cond.selects RX2 yX2_nextOf yX2_nextOf, Cond.code yX2_nextOf cX2_nextOf 4 (some .int), Cond.fieldLink RX2 18 "AgainAgain$Machines" "nexts" "[I"]
def wsX7_count_r3 : List Cond := [Cond.methodLink RX1 41 yX1_holds, Cond.static yX1_holds, Cond.code yX1_holds cX1_holds 2 (some .boolean), Cond.methodLink RX7 263 yX7_restingPairs, Cond.instanceMethod yX7_restingPairs, Cond.selects RX7 yX7_restingPairs yX7_restingPairs, Cond.initialized RX7, Cond.code yX7_restingPairs cX7_restingPairs 4 (some .int), Cond.fieldLink RX7 40 "AgainAgain" "plans" "LAgainAgain$Plans;", Cond.fieldLink RX7 10 "AgainAgain" "game" "LAgainAgain$Game;", Cond.methodLink RX7 208 yX3_learn, Cond.instanceMethod yX3_learn, Cond.selects RX3 yX3_learn yX3_learn, Cond.initialized RX3, Cond.code yX3_learn cX3_learn 6 none, Cond.fieldLink RX3 32 "AgainAgain$Plans" "tried" "LAgainAgain$Ratio;", Cond.methodLink RX3 50 yX3_weigh, Cond.instanceMethod yX3_weigh, Cond.selects RX3 yX3_weigh yX3_weigh, Cond.code yX3_weigh cX3_weigh 7 none, Cond.fieldLink RX3 25 "AgainAgain$Plans" "walk" "LAgainAgain$Walk;", Cond.methodLink RX3 38 yX6_takePlan, Cond.instanceMethod yX6_takePlan, Cond.selects RX6 yX6_takePlan yX6_takePlan]
def wsX7_count_r4 : List Cond := [Cond.code yX6_takePlan cX6_takePlan 8 none, Cond.fieldLink RX6 11 "AgainAgain$Walk" "nexts" "[I", Cond.fieldLink RX6 15 "AgainAgain$Walk" "gains" "[I", Cond.methodLink RX6 31 yX2_statesOf, Cond.instanceMethod yX2_statesOf, Cond.selects RX2 yX2_statesOf yX2_statesOf, Cond.code yX2_statesOf cX2_statesOf 2 (some .int), Cond.fieldLink RX2 9 "AgainAgain$Machines" "sizes" "[I", Cond.methodLink RX6 42 yX2_nextOf, Cond.methodLink RX6 35 yX2_actionOf, Cond.methodLink RX6 46 yX0_gain, Cond.instanceMethod yX0_gain, Cond.selects RX0 yX0_gain yX0_gain, Cond.initialized RX0, Cond.code yX0_gain cX0_gain 3 (some .int), Cond.fieldLink RX0 9 "AgainAgain$Game" "gains" "[I", Cond.methodLink RX3 42 yX6_startAt, Cond.instanceMethod yX6_startAt, Cond.selects RX6 yX6_startAt yX6_startAt, Cond.code yX6_startAt cX6_startAt 4 none, Cond.fieldLink RX6 18 "AgainAgain$Walk" "firstMet" "[I", Cond.fieldLink RX6 21 "AgainAgain$Walk" "path" "[I", Cond.fieldLink RX6 24 "AgainAgain$Walk" "tail" "I", Cond.fieldLink RX6 28 "AgainAgain$Walk" "ring" "I"]
def wsX7_count_r5 : List Cond := [Cond.methodLink RX6 51 yJ7_fill_53178, Cond.static yJ7_fill_53178, Cond.initialized RJ7, Cond.code yJ7_fill_53178 cJ7_fill_53178 4 none, Cond.methodLink RX3 46 yX6_worthInto, Cond.instanceMethod yX6_worthInto, Cond.selects RX6 yX6_worthInto yX6_worthInto, Cond.code yX6_worthInto cX6_worthInto 11 none, Cond.methodLink RX6 67 yX0_rateOver, Cond.instanceMethod yX0_rateOver, Cond.selects RX0 yX0_rateOver yX0_rateOver, Cond.code yX0_rateOver cX0_rateOver 1 (some .long), Cond.fieldLink RX0 13 "AgainAgain$Game" "over" "J", Cond.methodLink RX6 71 yX0_rateUnder, Cond.instanceMethod yX0_rateUnder, Cond.selects RX0 yX0_rateUnder yX0_rateUnder, Cond.code yX0_rateUnder cX0_rateUnder 1 (some .long), Cond.fieldLink RX0 19 "AgainAgain$Game" "under" "J", Cond.methodLink RX6 74 yX6_power, Cond.static yX6_power, Cond.code yX6_power cX6_power 6 (some .long), Cond.methodLink RX6 78 yX6_weighedAlong, Cond.instanceMethod yX6_weighedAlong, Cond.selects RX6 yX6_weighedAlong yX6_weighedAlong]
def wsX7_count_r6 : List Cond := [Cond.code yX6_weighedAlong cX6_weighedAlong 12 (some .long), Cond.methodLink RX6 82 yX4_become, Cond.instanceMethod yX4_become, Cond.selects RX4 yX4_become yX4_become, Cond.initialized RX4, Cond.code yX4_become cX4_become 7 none, Cond.methodLink RX4 16 Lib.MathLoose.abs_long.x, Cond.static Lib.MathLoose.abs_long.x, Cond.initialized "java/lang/Math", Cond.code Lib.MathLoose.abs_long.x Lib.MathLoose.abs_long.code 2 (some .long), Cond.fieldLink RX4 7 "AgainAgain$Ratio" "top" "J", Cond.fieldLink RX4 13 "AgainAgain$Ratio" "bottom" "J", Cond.methodLink RX4 22 yX4_greatestShared, Cond.static yX4_greatestShared, Cond.code yX4_greatestShared cX4_greatestShared 11 (some .long), Cond.methodLink RX3 54 yX3_slotOf, Cond.static yX3_slotOf, Cond.code yX3_slotOf cX3_slotOf 2 (some .int), Cond.methodLink RX3 58 yX3_keep, Cond.instanceMethod yX3_keep, Cond.selects RX3 yX3_keep yX3_keep, Cond.code yX3_keep cX3_keep 3 none, Cond.fieldLink RX3 11 "AgainAgain$Plans" "plans" "[I", Cond.fieldLink RX3 15 "AgainAgain$Plans" "tops" "[J"]
def wsX7_count_r7 : List Cond := [Cond.fieldLink RX3 19 "AgainAgain$Plans" "bottoms" "[J", Cond.methodLink RX3 73 yX4_part, Cond.instanceMethod yX4_part, Cond.selects RX4 yX4_part yX4_part, Cond.code yX4_part cX4_part 2 (some .long), Cond.methodLink RX3 62 yX2_statesOf, Cond.methodLink RX3 66 yX3_plansAgainst, Cond.static yX3_plansAgainst, Cond.code yX3_plansAgainst cX3_plansAgainst 3 (some .int), Cond.methodLink RX3 69 yX3_bestCompared, Cond.instanceMethod yX3_bestCompared, Cond.selects RX3 yX3_bestCompared yX3_bestCompared, Cond.code yX3_bestCompared cX3_bestCompared 4 (some .int), Cond.methodLink RX3 80 yX4_compareWith, Cond.instanceMethod yX4_compareWith, Cond.selects RX4 yX4_compareWith yX4_compareWith, Cond.code yX4_compareWith cX4_compareWith 5 (some .int), Cond.methodLink RX4 26 yJ13_compare_74951, Cond.static yJ13_compare_74951, Cond.initialized RJ13, Cond.code yJ13_compare_74951 cJ13_compare_74951 4 (some .int), Cond.methodLink RX7 229 yX7_takeBothSides, Cond.instanceMethod yX7_takeBothSides, Cond.selects RX7 yX7_takeBothSides yX7_takeBothSides]
def wsX7_count_r8 : List Cond := [Cond.code yX7_takeBothSides cX7_takeBothSides 3 none, Cond.fieldLink RX7 47 "AgainAgain" "walk" "LAgainAgain$Walk;", Cond.fieldLink RX7 51 "AgainAgain" "back" "LAgainAgain$Walk;", Cond.methodLink RX7 272 yX6_takeMatch, Cond.instanceMethod yX6_takeMatch, Cond.selects RX6 yX6_takeMatch yX6_takeMatch, Cond.code yX6_takeMatch cX6_takeMatch 9 none, Cond.methodLink RX6 39 yX6_placeOf, Cond.methodLink RX7 232 yX7_restFrom, Cond.instanceMethod yX7_restFrom, Cond.selects RX7 yX7_restFrom yX7_restFrom, Cond.code yX7_restFrom cX7_restFrom 5 (some .boolean), Cond.methodLink RX7 286 yX6_placeOf, Cond.methodLink RX7 293 yX7_gainsByPlan, Cond.instanceMethod yX7_gainsByPlan, Cond.selects RX7 yX7_gainsByPlan yX7_gainsByPlan, Cond.code yX7_gainsByPlan cX7_gainsByPlan 5 (some .boolean), Cond.fieldLink RX7 57 "AgainAgain" "ratio" "LAgainAgain$Ratio;", Cond.methodLink RX7 275 yX6_startAt, Cond.methodLink RX7 282 yX6_worthInto, Cond.methodLink RX7 289 yX3_bestCompared, Cond.methodLink RX7 127 yX5_isThere, Cond.instanceMethod yX5_isThere, Cond.selects RX5 yX5_isThere yX5_isThere]
def wsX7_count_r9 : List Cond := [Cond.initialized RX5, Cond.code yX5_isThere cX5_isThere 2 (some .boolean), Cond.fieldLink RX5 9 "AgainAgain$Sheets" "lanes" "[I", Cond.methodLink RX7 266 yX5_cellsOf, Cond.instanceMethod yX5_cellsOf, Cond.selects RX5 yX5_cellsOf yX5_cellsOf, Cond.code yX5_cellsOf cX5_cellsOf 2 (some .int), Cond.fieldLink RX5 13 "AgainAgain$Sheets" "sizes" "[I"]
def wsX7_count : List Cond := .code yX7_count cX7_count 2 (some .int) :: ((wsX7_count_r1 ++ (wsX7_count_r2 ++ (wsX7_count_r3 ++ (wsX7_count_r4 ++ (wsX7_count_r5 ++ (wsX7_count_r6 ++ (wsX7_count_r7 ++ (wsX7_count_r8 ++ wsX7_count_r9)))))))) ++ wsX70 ++ wsX20 ++ wsX10 ++ wsX30 ++ wsX60 ++ wsX00 ++ wsX40 ++ wsX50)
def wsX8_init : List Cond := .code yX8_init cX8_init 2 none :: ([.methodLink RX8 1 objectInit, .instanceMethod objectInit, .code objectInit ⟨#[0xb1]⟩ 1 none, .arrayClass .int, .fieldLink RX8 7 "AgainAgainModel" "pays" "[I", .fieldLink RX8 13 "AgainAgainModel" "up" "I", .fieldLink RX8 17 "AgainAgainModel" "by" "I", .fieldLink RX8 20 "AgainAgainModel" "many" "[I", .fieldLink RX8 23 "AgainAgainModel" "acts" "[I", .fieldLink RX8 26 "AgainAgainModel" "nexts" "[I", .fieldLink RX8 29 "AgainAgainModel" "lanes" "[I", .fieldLink RX8 32 "AgainAgainModel" "sizes" "[I", .fieldLink RX8 35 "AgainAgainModel" "cells" "[I", .fieldLink RX8 38 "AgainAgainModel" "row" "[I", .fieldLink RX8 41 "AgainAgainModel" "seenAt" "[I", .arrayClass .boolean, .fieldLink RX8 44 "AgainAgainModel" "unlike" "[Z", .fieldLink RX8 48 "AgainAgainModel" "scores" "[I"] ++ wsX80)
def wsX8_in : List Cond := .code yX8_in cX8_in 6 (some .boolean) :: ([])
def wsX8_pay : List Cond := .code yX8_pay cX8_pay 4 (some .int) :: ([.constantLong RX8 51 (2), .constantLong RX8 57 (-50), .constantLong RX8 59 (50), .fieldLink RX8 7 "AgainAgainModel" "pays" "[I", .methodLink RX8 53 yX8_in, .static yX8_in, .initialized RX8, .code yX8_in cX8_in 6 (some .boolean)] ++ wsX80)
def wsX8_discount : List Cond := .code yX8_discount cX8_discount 3 (some .int) :: ([.constantLong RX8 51 (2), .constantLong RX8 61 (4), .fieldLink RX8 13 "AgainAgainModel" "up" "I", .fieldLink RX8 17 "AgainAgainModel" "by" "I", .methodLink RX8 53 yX8_in, .static yX8_in, .initialized RX8, .code yX8_in cX8_in 6 (some .boolean)] ++ wsX80)
def wsX8_isMachine : List Cond := .code yX8_isMachine cX8_isMachine 2 (some .boolean) :: ([.fieldLink RX8 63 "AgainAgainModel" "machines" "I", .methodLink RX8 53 yX8_in, .static yX8_in, .initialized RX8, .code yX8_in cX8_in 6 (some .boolean)] ++ wsX80)
def wsX8_isState : List Cond := .code yX8_isState cX8_isState 3 (some .boolean) :: ([.fieldLink RX8 20 "AgainAgainModel" "many" "[I", .methodLink RX8 66 yX8_isMachine, .instanceMethod yX8_isMachine, .selects RX8 yX8_isMachine yX8_isMachine, .initialized RX8, .code yX8_isMachine cX8_isMachine 2 (some .boolean), .fieldLink RX8 63 "AgainAgainModel" "machines" "I", .methodLink RX8 53 yX8_in, .static yX8_in, .code yX8_in cX8_in 6 (some .boolean)] ++ wsX80)
def wsX8_machine : List Cond := .code yX8_machine cX8_machine 4 (some .int) :: ([.constantLong RX8 61 (4), .fieldLink RX8 63 "AgainAgainModel" "machines" "I", .fieldLink RX8 20 "AgainAgainModel" "many" "[I", .fieldLink RX8 23 "AgainAgainModel" "acts" "[I", .fieldLink RX8 26 "AgainAgainModel" "nexts" "[I", .methodLink RX8 53 yX8_in, .static yX8_in, .initialized RX8, .code yX8_in cX8_in 6 (some .boolean)] ++ wsX80)
def wsX8_does : List Cond := .code yX8_does cX8_does 4 (some .int) :: ([.constantLong RX8 51 (2), .fieldLink RX8 23 "AgainAgainModel" "acts" "[I", .methodLink RX8 70 yX8_isState, .instanceMethod yX8_isState, .selects RX8 yX8_isState yX8_isState, .initialized RX8, .code yX8_isState cX8_isState 3 (some .boolean), .fieldLink RX8 20 "AgainAgainModel" "many" "[I", .methodLink RX8 66 yX8_isMachine, .instanceMethod yX8_isMachine, .selects RX8 yX8_isMachine yX8_isMachine, .code yX8_isMachine cX8_isMachine 2 (some .boolean), .fieldLink RX8 63 "AgainAgainModel" "machines" "I", .methodLink RX8 53 yX8_in, .static yX8_in, .code yX8_in cX8_in 6 (some .boolean)] ++ wsX80)
def wsX8_goes : List Cond := .code yX8_goes cX8_goes 5 (some .int) :: ([.constantLong RX8 51 (2), .fieldLink RX8 26 "AgainAgainModel" "nexts" "[I", .methodLink RX8 70 yX8_isState, .instanceMethod yX8_isState, .selects RX8 yX8_isState yX8_isState, .initialized RX8, .code yX8_isState cX8_isState 3 (some .boolean), .fieldLink RX8 20 "AgainAgainModel" "many" "[I", .methodLink RX8 66 yX8_isMachine, .instanceMethod yX8_isMachine, .selects RX8 yX8_isMachine yX8_isMachine, .code yX8_isMachine cX8_isMachine 2 (some .boolean), .fieldLink RX8 63 "AgainAgainModel" "machines" "I", .methodLink RX8 53 yX8_in, .static yX8_in, .code yX8_in cX8_in 6 (some .boolean)] ++ wsX80)
def wsX8_told : List Cond := .code yX8_told cX8_told 4 (some .int) :: ([.constantLong RX8 74 (3), .fieldLink RX8 23 "AgainAgainModel" "acts" "[I", .fieldLink RX8 26 "AgainAgainModel" "nexts" "[I", .methodLink RX8 70 yX8_isState, .instanceMethod yX8_isState, .selects RX8 yX8_isState yX8_isState, .initialized RX8, .code yX8_isState cX8_isState 3 (some .boolean), .fieldLink RX8 20 "AgainAgainModel" "many" "[I", .methodLink RX8 66 yX8_isMachine, .instanceMethod yX8_isMachine, .selects RX8 yX8_isMachine yX8_isMachine, .code yX8_isMachine cX8_isMachine 2 (some .boolean), .fieldLink RX8 63 "AgainAgainModel" "machines" "I", .methodLink RX8 53 yX8_in, .static yX8_in, .code yX8_in cX8_in 6 (some .boolean)] ++ wsX80)
def wsX8_drop : List Cond := .code yX8_drop cX8_drop 1 (some .int) :: ([.fieldLink RX8 63 "AgainAgainModel" "machines" "I"] ++ wsX80)
def wsX8_isSheet : List Cond := .code yX8_isSheet cX8_isSheet 2 (some .boolean) :: ([.constantLong RX8 74 (3), .constantLong RX8 51 (2), .methodLink RX8 53 yX8_in, .static yX8_in, .initialized RX8, .code yX8_in cX8_in 6 (some .boolean)])
def wsX8_sheet : List Cond := .code yX8_sheet cX8_sheet 5 (some .int) :: ([.fieldLink RX8 29 "AgainAgainModel" "lanes" "[I", .fieldLink RX8 32 "AgainAgainModel" "sizes" "[I", .fieldLink RX8 35 "AgainAgainModel" "cells" "[I", .methodLink RX8 76 yX8_isSheet, .static yX8_isSheet, .initialized RX8, .code yX8_isSheet cX8_isSheet 2 (some .boolean), .constantLong RX8 74 (3), .constantLong RX8 51 (2), .methodLink RX8 53 yX8_in, .static yX8_in, .code yX8_in cX8_in 6 (some .boolean)] ++ wsX80)
def wsX8_lay : List Cond := .code yX8_lay cX8_lay 4 (some .int) :: ([.fieldLink RX8 29 "AgainAgainModel" "lanes" "[I", .fieldLink RX8 32 "AgainAgainModel" "sizes" "[I", .fieldLink RX8 35 "AgainAgainModel" "cells" "[I", .methodLink RX8 76 yX8_isSheet, .static yX8_isSheet, .initialized RX8, .code yX8_isSheet cX8_isSheet 2 (some .boolean), .constantLong RX8 74 (3), .constantLong RX8 51 (2), .methodLink RX8 53 yX8_in, .static yX8_in, .code yX8_in cX8_in 6 (some .boolean)] ++ wsX80)
def wsX8_draw : List Cond := .code yX8_draw cX8_draw 8 (some .int) :: ([.constantLong RX8 61 (4), .fieldLink RX8 29 "AgainAgainModel" "lanes" "[I", .fieldLink RX8 32 "AgainAgainModel" "sizes" "[I", .fieldLink RX8 35 "AgainAgainModel" "cells" "[I", .constantLong RX8 51 (2), .fieldLink RX8 23 "AgainAgainModel" "acts" "[I", .fieldLink RX8 26 "AgainAgainModel" "nexts" "[I", .methodLink RX8 76 yX8_isSheet, .static yX8_isSheet, .initialized RX8, .code yX8_isSheet cX8_isSheet 2 (some .boolean), .constantLong RX8 74 (3), .methodLink RX8 53 yX8_in, .static yX8_in, .code yX8_in cX8_in 6 (some .boolean), .methodLink RX8 79 yX8_machine, .instanceMethod yX8_machine, .selects RX8 yX8_machine yX8_machine, .code yX8_machine cX8_machine 4 (some .int), .fieldLink RX8 63 "AgainAgainModel" "machines" "I", .fieldLink RX8 20 "AgainAgainModel" "many" "[I"] ++ wsX80)
def wsX8_after : List Cond := .code yX8_after cX8_after 6 (some .int) :: ([.fieldLink RX8 26 "AgainAgainModel" "nexts" "[I"] ++ wsX80)
def wsX8_mine : List Cond := .code yX8_mine cX8_mine 3 (some .int) :: ([.fieldLink RX8 23 "AgainAgainModel" "acts" "[I"] ++ wsX80)
def wsX8_theirs : List Cond := .code yX8_theirs cX8_theirs 3 (some .int) :: ([.fieldLink RX8 23 "AgainAgainModel" "acts" "[I"] ++ wsX80)
def wsX8_next : List Cond := .code yX8_next cX8_next 4 (some .int) :: ([.methodLink RX8 83 yX8_mine, .instanceMethod yX8_mine, .selects RX8 yX8_mine yX8_mine, .initialized RX8, .code yX8_mine cX8_mine 3 (some .int), .fieldLink RX8 23 "AgainAgainModel" "acts" "[I", .methodLink RX8 87 yX8_theirs, .instanceMethod yX8_theirs, .selects RX8 yX8_theirs yX8_theirs, .code yX8_theirs cX8_theirs 3 (some .int), .methodLink RX8 90 yX8_after, .instanceMethod yX8_after, .selects RX8 yX8_after yX8_after, .code yX8_after cX8_after 6 (some .int), .fieldLink RX8 26 "AgainAgainModel" "nexts" "[I"] ++ wsX80)
def wsX8_payOf : List Cond := .code yX8_payOf cX8_payOf 4 (some .int) :: ([.fieldLink RX8 7 "AgainAgainModel" "pays" "[I", .methodLink RX8 83 yX8_mine, .instanceMethod yX8_mine, .selects RX8 yX8_mine yX8_mine, .initialized RX8, .code yX8_mine cX8_mine 3 (some .int), .fieldLink RX8 23 "AgainAgainModel" "acts" "[I", .methodLink RX8 87 yX8_theirs, .instanceMethod yX8_theirs, .selects RX8 yX8_theirs yX8_theirs, .code yX8_theirs cX8_theirs 3 (some .int)] ++ wsX80)
def wsX8_plays_r1 : List Cond := [Cond.fieldLink RX8 41 "AgainAgainModel" "seenAt" "[I", Cond.fieldLink RX8 38 "AgainAgainModel" "row" "[I", Cond.fieldLink RX8 101 "AgainAgainModel" "tail" "I", Cond.fieldLink RX8 104 "AgainAgainModel" "ring" "I", Cond.methodLink RX8 94 yX8_payOf, Cond.instanceMethod yX8_payOf, Cond.selects RX8 yX8_payOf yX8_payOf, Cond.initialized RX8, Cond.code yX8_payOf cX8_payOf 4 (some .int), Cond.fieldLink RX8 7 "AgainAgainModel" "pays" "[I", Cond.methodLink RX8 83 yX8_mine, Cond.instanceMethod yX8_mine, Cond.selects RX8 yX8_mine yX8_mine, Cond.code yX8_mine cX8_mine 3 (some .int), Cond.fieldLink RX8 23 "AgainAgainModel" "acts" "[I", Cond.methodLink RX8 87 yX8_theirs, Cond.instanceMethod yX8_theirs, Cond.selects RX8 yX8_theirs yX8_theirs, Cond.code yX8_theirs cX8_theirs 3 (some .int), Cond.methodLink RX8 98 yX8_next, Cond.instanceMethod yX8_next, Cond.selects RX8 yX8_next yX8_next, Cond.code yX8_next cX8_next 4 (some .int), Cond.methodLink RX8 90 yX8_after]
def wsX8_plays_r2 : List Cond := [Cond.instanceMethod yX8_after, Cond.selects RX8 yX8_after yX8_after, Cond.code yX8_after cX8_after 6 (some .int), Cond.fieldLink RX8 26 "AgainAgainModel" "nexts" "[I"]
def wsX8_plays : List Cond := .code yX8_plays cX8_plays 6 none :: ((wsX8_plays_r1 ++ wsX8_plays_r2) ++ wsX80)
def wsX8_areBoth : List Cond := .code yX8_areBoth cX8_areBoth 3 (some .boolean) :: ([.methodLink RX8 66 yX8_isMachine, .instanceMethod yX8_isMachine, .selects RX8 yX8_isMachine yX8_isMachine, .initialized RX8, .code yX8_isMachine cX8_isMachine 2 (some .boolean), .fieldLink RX8 63 "AgainAgainModel" "machines" "I", .methodLink RX8 53 yX8_in, .static yX8_in, .code yX8_in cX8_in 6 (some .boolean)] ++ wsX80)
def wsX8_action_r1 : List Cond := [Cond.constantLong RX8 110 (1000), Cond.methodLink RX8 107 yX8_areBoth, Cond.instanceMethod yX8_areBoth, Cond.selects RX8 yX8_areBoth yX8_areBoth, Cond.initialized RX8, Cond.code yX8_areBoth cX8_areBoth 3 (some .boolean), Cond.methodLink RX8 66 yX8_isMachine, Cond.instanceMethod yX8_isMachine, Cond.selects RX8 yX8_isMachine yX8_isMachine, Cond.code yX8_isMachine cX8_isMachine 2 (some .boolean), Cond.fieldLink RX8 63 "AgainAgainModel" "machines" "I", Cond.methodLink RX8 53 yX8_in, Cond.static yX8_in, Cond.code yX8_in cX8_in 6 (some .boolean), Cond.methodLink RX8 98 yX8_next, Cond.instanceMethod yX8_next, Cond.selects RX8 yX8_next yX8_next, Cond.code yX8_next cX8_next 4 (some .int), Cond.methodLink RX8 83 yX8_mine, Cond.instanceMethod yX8_mine, Cond.selects RX8 yX8_mine yX8_mine, Cond.code yX8_mine cX8_mine 3 (some .int), Cond.fieldLink RX8 23 "AgainAgainModel" "acts" "[I", Cond.methodLink RX8 87 yX8_theirs]
def wsX8_action_r2 : List Cond := [Cond.instanceMethod yX8_theirs, Cond.selects RX8 yX8_theirs yX8_theirs, Cond.code yX8_theirs cX8_theirs 3 (some .int), Cond.methodLink RX8 90 yX8_after, Cond.instanceMethod yX8_after, Cond.selects RX8 yX8_after yX8_after, Cond.code yX8_after cX8_after 6 (some .int), Cond.fieldLink RX8 26 "AgainAgainModel" "nexts" "[I"]
def wsX8_action : List Cond := .code yX8_action cX8_action 6 (some .int) :: ((wsX8_action_r1 ++ wsX8_action_r2) ++ wsX80)
def wsX8_sumOf : List Cond := .code yX8_sumOf cX8_sumOf 5 (some .int) :: ([.fieldLink RX8 38 "AgainAgainModel" "row" "[I"] ++ wsX80)
def wsX8_match_r1 : List Cond := [Cond.constantLong RX8 74 (3), Cond.constant RX8 112 (-1000000), Cond.fieldLink RX8 101 "AgainAgainModel" "tail" "I", Cond.fieldLink RX8 104 "AgainAgainModel" "ring" "I", Cond.methodLink RX8 107 yX8_areBoth, Cond.instanceMethod yX8_areBoth, Cond.selects RX8 yX8_areBoth yX8_areBoth, Cond.initialized RX8, Cond.code yX8_areBoth cX8_areBoth 3 (some .boolean), Cond.methodLink RX8 66 yX8_isMachine, Cond.instanceMethod yX8_isMachine, Cond.selects RX8 yX8_isMachine yX8_isMachine, Cond.code yX8_isMachine cX8_isMachine 2 (some .boolean), Cond.fieldLink RX8 63 "AgainAgainModel" "machines" "I", Cond.methodLink RX8 53 yX8_in, Cond.static yX8_in, Cond.code yX8_in cX8_in 6 (some .boolean), Cond.methodLink RX8 113 yX8_plays, Cond.instanceMethod yX8_plays, Cond.selects RX8 yX8_plays yX8_plays, Cond.code yX8_plays cX8_plays 6 none, Cond.fieldLink RX8 41 "AgainAgainModel" "seenAt" "[I", Cond.fieldLink RX8 38 "AgainAgainModel" "row" "[I", Cond.methodLink RX8 94 yX8_payOf]
def wsX8_match_r2 : List Cond := [Cond.instanceMethod yX8_payOf, Cond.selects RX8 yX8_payOf yX8_payOf, Cond.code yX8_payOf cX8_payOf 4 (some .int), Cond.fieldLink RX8 7 "AgainAgainModel" "pays" "[I", Cond.methodLink RX8 83 yX8_mine, Cond.instanceMethod yX8_mine, Cond.selects RX8 yX8_mine yX8_mine, Cond.code yX8_mine cX8_mine 3 (some .int), Cond.fieldLink RX8 23 "AgainAgainModel" "acts" "[I", Cond.methodLink RX8 87 yX8_theirs, Cond.instanceMethod yX8_theirs, Cond.selects RX8 yX8_theirs yX8_theirs, Cond.code yX8_theirs cX8_theirs 3 (some .int), Cond.methodLink RX8 98 yX8_next, Cond.instanceMethod yX8_next, Cond.selects RX8 yX8_next yX8_next, Cond.code yX8_next cX8_next 4 (some .int), Cond.methodLink RX8 90 yX8_after, Cond.instanceMethod yX8_after, Cond.selects RX8 yX8_after yX8_after, Cond.code yX8_after cX8_after 6 (some .int), Cond.fieldLink RX8 26 "AgainAgainModel" "nexts" "[I", Cond.methodLink RX8 117 yX8_sumOf, Cond.instanceMethod yX8_sumOf]
def wsX8_match_r3 : List Cond := [Cond.selects RX8 yX8_sumOf yX8_sumOf, Cond.code yX8_sumOf cX8_sumOf 5 (some .int)]
def wsX8_match : List Cond := .code yX8_match cX8_match 4 (some .int) :: ((wsX8_match_r1 ++ (wsX8_match_r2 ++ wsX8_match_r3)) ++ wsX80)
def wsX8_sumUp : List Cond := .code yX8_sumUp cX8_sumUp 7 (some .int) :: ([.methodLink RX8 94 yX8_payOf, .instanceMethod yX8_payOf, .selects RX8 yX8_payOf yX8_payOf, .initialized RX8, .code yX8_payOf cX8_payOf 4 (some .int), .fieldLink RX8 7 "AgainAgainModel" "pays" "[I", .methodLink RX8 83 yX8_mine, .instanceMethod yX8_mine, .selects RX8 yX8_mine yX8_mine, .code yX8_mine cX8_mine 3 (some .int), .fieldLink RX8 23 "AgainAgainModel" "acts" "[I", .methodLink RX8 87 yX8_theirs, .instanceMethod yX8_theirs, .selects RX8 yX8_theirs yX8_theirs, .code yX8_theirs cX8_theirs 3 (some .int), .methodLink RX8 98 yX8_next, .instanceMethod yX8_next, .selects RX8 yX8_next yX8_next, .code yX8_next cX8_next 4 (some .int), .methodLink RX8 90 yX8_after, .instanceMethod yX8_after, .selects RX8 yX8_after yX8_after, .code yX8_after cX8_after 6 (some .int), .fieldLink RX8 26 "AgainAgainModel" "nexts" "[I"] ++ wsX80)
def wsX8_sum_r1 : List Cond := [Cond.constantLong RX8 110 (1000), Cond.constant RX8 112 (-1000000), Cond.methodLink RX8 107 yX8_areBoth, Cond.instanceMethod yX8_areBoth, Cond.selects RX8 yX8_areBoth yX8_areBoth, Cond.initialized RX8, Cond.code yX8_areBoth cX8_areBoth 3 (some .boolean), Cond.methodLink RX8 66 yX8_isMachine, Cond.instanceMethod yX8_isMachine, Cond.selects RX8 yX8_isMachine yX8_isMachine, Cond.code yX8_isMachine cX8_isMachine 2 (some .boolean), Cond.fieldLink RX8 63 "AgainAgainModel" "machines" "I", Cond.methodLink RX8 53 yX8_in, Cond.static yX8_in, Cond.code yX8_in cX8_in 6 (some .boolean), Cond.methodLink RX8 120 yX8_sumUp, Cond.instanceMethod yX8_sumUp, Cond.selects RX8 yX8_sumUp yX8_sumUp, Cond.code yX8_sumUp cX8_sumUp 7 (some .int), Cond.methodLink RX8 94 yX8_payOf, Cond.instanceMethod yX8_payOf, Cond.selects RX8 yX8_payOf yX8_payOf, Cond.code yX8_payOf cX8_payOf 4 (some .int), Cond.fieldLink RX8 7 "AgainAgainModel" "pays" "[I"]
def wsX8_sum_r2 : List Cond := [Cond.methodLink RX8 83 yX8_mine, Cond.instanceMethod yX8_mine, Cond.selects RX8 yX8_mine yX8_mine, Cond.code yX8_mine cX8_mine 3 (some .int), Cond.fieldLink RX8 23 "AgainAgainModel" "acts" "[I", Cond.methodLink RX8 87 yX8_theirs, Cond.instanceMethod yX8_theirs, Cond.selects RX8 yX8_theirs yX8_theirs, Cond.code yX8_theirs cX8_theirs 3 (some .int), Cond.methodLink RX8 98 yX8_next, Cond.instanceMethod yX8_next, Cond.selects RX8 yX8_next yX8_next, Cond.code yX8_next cX8_next 4 (some .int), Cond.methodLink RX8 90 yX8_after, Cond.instanceMethod yX8_after, Cond.selects RX8 yX8_after yX8_after, Cond.code yX8_after cX8_after 6 (some .int), Cond.fieldLink RX8 26 "AgainAgainModel" "nexts" "[I"]
def wsX8_sum : List Cond := .code yX8_sum cX8_sum 4 (some .int) :: ((wsX8_sum_r1 ++ wsX8_sum_r2) ++ wsX80)
def wsX8_lowest : List Cond := .code yX8_lowest cX8_lowest 11 none :: ([.fieldLink RX8 123 "AgainAgainModel" "over" "J", .fieldLink RX8 127 "AgainAgainModel" "under" "J"] ++ wsX80)
def wsX8_power : List Cond := .code yX8_power cX8_power 6 (some .long) :: ([])
def wsX8_worthOfRow : List Cond := .code yX8_worthOfRow cX8_worthOfRow 7 none :: ([.fieldLink RX8 101 "AgainAgainModel" "tail" "I", .fieldLink RX8 38 "AgainAgainModel" "row" "[I", .fieldLink RX8 13 "AgainAgainModel" "up" "I", .fieldLink RX8 17 "AgainAgainModel" "by" "I", .fieldLink RX8 104 "AgainAgainModel" "ring" "I", .methodLink RX8 130 yX8_power, .static yX8_power, .initialized RX8, .code yX8_power cX8_power 6 (some .long), .methodLink RX8 134 yX8_lowest, .instanceMethod yX8_lowest, .selects RX8 yX8_lowest yX8_lowest, .code yX8_lowest cX8_lowest 11 none, .fieldLink RX8 123 "AgainAgainModel" "over" "J", .fieldLink RX8 127 "AgainAgainModel" "under" "J"] ++ wsX80)
def wsX8_part : List Cond := .code yX8_part cX8_part 2 (some .long) :: ([.fieldLink RX8 123 "AgainAgainModel" "over" "J", .fieldLink RX8 127 "AgainAgainModel" "under" "J"] ++ wsX80)
def wsX8_mean_r1 : List Cond := [Cond.constantLong RX8 138 (-1000000000000000), Cond.fieldLink RX8 101 "AgainAgainModel" "tail" "I", Cond.fieldLink RX8 104 "AgainAgainModel" "ring" "I", Cond.methodLink RX8 107 yX8_areBoth, Cond.instanceMethod yX8_areBoth, Cond.selects RX8 yX8_areBoth yX8_areBoth, Cond.initialized RX8, Cond.code yX8_areBoth cX8_areBoth 3 (some .boolean), Cond.methodLink RX8 66 yX8_isMachine, Cond.instanceMethod yX8_isMachine, Cond.selects RX8 yX8_isMachine yX8_isMachine, Cond.code yX8_isMachine cX8_isMachine 2 (some .boolean), Cond.fieldLink RX8 63 "AgainAgainModel" "machines" "I", Cond.methodLink RX8 53 yX8_in, Cond.static yX8_in, Cond.code yX8_in cX8_in 6 (some .boolean), Cond.methodLink RX8 113 yX8_plays, Cond.instanceMethod yX8_plays, Cond.selects RX8 yX8_plays yX8_plays, Cond.code yX8_plays cX8_plays 6 none, Cond.fieldLink RX8 41 "AgainAgainModel" "seenAt" "[I", Cond.fieldLink RX8 38 "AgainAgainModel" "row" "[I", Cond.methodLink RX8 94 yX8_payOf, Cond.instanceMethod yX8_payOf]
def wsX8_mean_r2 : List Cond := [Cond.selects RX8 yX8_payOf yX8_payOf, Cond.code yX8_payOf cX8_payOf 4 (some .int), Cond.fieldLink RX8 7 "AgainAgainModel" "pays" "[I", Cond.methodLink RX8 83 yX8_mine, Cond.instanceMethod yX8_mine, Cond.selects RX8 yX8_mine yX8_mine, Cond.code yX8_mine cX8_mine 3 (some .int), Cond.fieldLink RX8 23 "AgainAgainModel" "acts" "[I", Cond.methodLink RX8 87 yX8_theirs, Cond.instanceMethod yX8_theirs, Cond.selects RX8 yX8_theirs yX8_theirs, Cond.code yX8_theirs cX8_theirs 3 (some .int), Cond.methodLink RX8 98 yX8_next, Cond.instanceMethod yX8_next, Cond.selects RX8 yX8_next yX8_next, Cond.code yX8_next cX8_next 4 (some .int), Cond.methodLink RX8 90 yX8_after, Cond.instanceMethod yX8_after, Cond.selects RX8 yX8_after yX8_after, Cond.code yX8_after cX8_after 6 (some .int), Cond.fieldLink RX8 26 "AgainAgainModel" "nexts" "[I", Cond.methodLink RX8 117 yX8_sumOf, Cond.instanceMethod yX8_sumOf, Cond.selects RX8 yX8_sumOf yX8_sumOf]
def wsX8_mean_r3 : List Cond := [Cond.code yX8_sumOf cX8_sumOf 5 (some .int), Cond.methodLink RX8 134 yX8_lowest, Cond.instanceMethod yX8_lowest, Cond.selects RX8 yX8_lowest yX8_lowest, Cond.code yX8_lowest cX8_lowest 11 none, Cond.fieldLink RX8 123 "AgainAgainModel" "over" "J", Cond.fieldLink RX8 127 "AgainAgainModel" "under" "J", Cond.methodLink RX8 140 yX8_part, Cond.instanceMethod yX8_part, Cond.selects RX8 yX8_part yX8_part, Cond.code yX8_part cX8_part 2 (some .long)]
def wsX8_mean : List Cond := .code yX8_mean cX8_mean 4 (some .long) :: ((wsX8_mean_r1 ++ (wsX8_mean_r2 ++ wsX8_mean_r3)) ++ wsX80)
def wsX8_findWorth_r1 : List Cond := [Cond.methodLink RX8 113 yX8_plays, Cond.instanceMethod yX8_plays, Cond.selects RX8 yX8_plays yX8_plays, Cond.initialized RX8, Cond.code yX8_plays cX8_plays 6 none, Cond.fieldLink RX8 41 "AgainAgainModel" "seenAt" "[I", Cond.fieldLink RX8 38 "AgainAgainModel" "row" "[I", Cond.fieldLink RX8 101 "AgainAgainModel" "tail" "I", Cond.fieldLink RX8 104 "AgainAgainModel" "ring" "I", Cond.methodLink RX8 94 yX8_payOf, Cond.instanceMethod yX8_payOf, Cond.selects RX8 yX8_payOf yX8_payOf, Cond.code yX8_payOf cX8_payOf 4 (some .int), Cond.fieldLink RX8 7 "AgainAgainModel" "pays" "[I", Cond.methodLink RX8 83 yX8_mine, Cond.instanceMethod yX8_mine, Cond.selects RX8 yX8_mine yX8_mine, Cond.code yX8_mine cX8_mine 3 (some .int), Cond.fieldLink RX8 23 "AgainAgainModel" "acts" "[I", Cond.methodLink RX8 87 yX8_theirs, Cond.instanceMethod yX8_theirs, Cond.selects RX8 yX8_theirs yX8_theirs, Cond.code yX8_theirs cX8_theirs 3 (some .int), Cond.methodLink RX8 98 yX8_next]
def wsX8_findWorth_r2 : List Cond := [Cond.instanceMethod yX8_next, Cond.selects RX8 yX8_next yX8_next, Cond.code yX8_next cX8_next 4 (some .int), Cond.methodLink RX8 90 yX8_after, Cond.instanceMethod yX8_after, Cond.selects RX8 yX8_after yX8_after, Cond.code yX8_after cX8_after 6 (some .int), Cond.fieldLink RX8 26 "AgainAgainModel" "nexts" "[I", Cond.methodLink RX8 144 yX8_worthOfRow, Cond.instanceMethod yX8_worthOfRow, Cond.selects RX8 yX8_worthOfRow yX8_worthOfRow, Cond.code yX8_worthOfRow cX8_worthOfRow 7 none, Cond.fieldLink RX8 13 "AgainAgainModel" "up" "I", Cond.fieldLink RX8 17 "AgainAgainModel" "by" "I", Cond.methodLink RX8 130 yX8_power, Cond.static yX8_power, Cond.code yX8_power cX8_power 6 (some .long), Cond.methodLink RX8 134 yX8_lowest, Cond.instanceMethod yX8_lowest, Cond.selects RX8 yX8_lowest yX8_lowest, Cond.code yX8_lowest cX8_lowest 11 none, Cond.fieldLink RX8 123 "AgainAgainModel" "over" "J", Cond.fieldLink RX8 127 "AgainAgainModel" "under" "J"]
def wsX8_findWorth : List Cond := .code yX8_findWorth cX8_findWorth 4 none :: ((wsX8_findWorth_r1 ++ wsX8_findWorth_r2) ++ wsX80)
def wsX8_worth_r1 : List Cond := [Cond.constantLong RX8 138 (-1000000000000000), Cond.methodLink RX8 107 yX8_areBoth, Cond.instanceMethod yX8_areBoth, Cond.selects RX8 yX8_areBoth yX8_areBoth, Cond.initialized RX8, Cond.code yX8_areBoth cX8_areBoth 3 (some .boolean), Cond.methodLink RX8 66 yX8_isMachine, Cond.instanceMethod yX8_isMachine, Cond.selects RX8 yX8_isMachine yX8_isMachine, Cond.code yX8_isMachine cX8_isMachine 2 (some .boolean), Cond.fieldLink RX8 63 "AgainAgainModel" "machines" "I", Cond.methodLink RX8 53 yX8_in, Cond.static yX8_in, Cond.code yX8_in cX8_in 6 (some .boolean), Cond.methodLink RX8 147 yX8_findWorth, Cond.instanceMethod yX8_findWorth, Cond.selects RX8 yX8_findWorth yX8_findWorth, Cond.code yX8_findWorth cX8_findWorth 4 none, Cond.methodLink RX8 113 yX8_plays, Cond.instanceMethod yX8_plays, Cond.selects RX8 yX8_plays yX8_plays, Cond.code yX8_plays cX8_plays 6 none, Cond.fieldLink RX8 41 "AgainAgainModel" "seenAt" "[I", Cond.fieldLink RX8 38 "AgainAgainModel" "row" "[I"]
def wsX8_worth_r2 : List Cond := [Cond.fieldLink RX8 101 "AgainAgainModel" "tail" "I", Cond.fieldLink RX8 104 "AgainAgainModel" "ring" "I", Cond.methodLink RX8 94 yX8_payOf, Cond.instanceMethod yX8_payOf, Cond.selects RX8 yX8_payOf yX8_payOf, Cond.code yX8_payOf cX8_payOf 4 (some .int), Cond.fieldLink RX8 7 "AgainAgainModel" "pays" "[I", Cond.methodLink RX8 83 yX8_mine, Cond.instanceMethod yX8_mine, Cond.selects RX8 yX8_mine yX8_mine, Cond.code yX8_mine cX8_mine 3 (some .int), Cond.fieldLink RX8 23 "AgainAgainModel" "acts" "[I", Cond.methodLink RX8 87 yX8_theirs, Cond.instanceMethod yX8_theirs, Cond.selects RX8 yX8_theirs yX8_theirs, Cond.code yX8_theirs cX8_theirs 3 (some .int), Cond.methodLink RX8 98 yX8_next, Cond.instanceMethod yX8_next, Cond.selects RX8 yX8_next yX8_next, Cond.code yX8_next cX8_next 4 (some .int), Cond.methodLink RX8 90 yX8_after, Cond.instanceMethod yX8_after, Cond.selects RX8 yX8_after yX8_after, Cond.code yX8_after cX8_after 6 (some .int)]
def wsX8_worth_r3 : List Cond := [Cond.fieldLink RX8 26 "AgainAgainModel" "nexts" "[I", Cond.methodLink RX8 144 yX8_worthOfRow, Cond.instanceMethod yX8_worthOfRow, Cond.selects RX8 yX8_worthOfRow yX8_worthOfRow, Cond.code yX8_worthOfRow cX8_worthOfRow 7 none, Cond.fieldLink RX8 13 "AgainAgainModel" "up" "I", Cond.fieldLink RX8 17 "AgainAgainModel" "by" "I", Cond.methodLink RX8 130 yX8_power, Cond.static yX8_power, Cond.code yX8_power cX8_power 6 (some .long), Cond.methodLink RX8 134 yX8_lowest, Cond.instanceMethod yX8_lowest, Cond.selects RX8 yX8_lowest yX8_lowest, Cond.code yX8_lowest cX8_lowest 11 none, Cond.fieldLink RX8 123 "AgainAgainModel" "over" "J", Cond.fieldLink RX8 127 "AgainAgainModel" "under" "J", Cond.methodLink RX8 140 yX8_part, Cond.instanceMethod yX8_part, Cond.selects RX8 yX8_part yX8_part, Cond.code yX8_part cX8_part 2 (some .long)]
def wsX8_worth : List Cond := .code yX8_worth cX8_worth 4 (some .long) :: ((wsX8_worth_r1 ++ (wsX8_worth_r2 ++ wsX8_worth_r3)) ++ wsX80)
def wsX8_slip_r1 : List Cond := [Cond.constantLong RX8 150 (100), Cond.methodLink RX8 107 yX8_areBoth, Cond.instanceMethod yX8_areBoth, Cond.selects RX8 yX8_areBoth yX8_areBoth, Cond.initialized RX8, Cond.code yX8_areBoth cX8_areBoth 3 (some .boolean), Cond.methodLink RX8 66 yX8_isMachine, Cond.instanceMethod yX8_isMachine, Cond.selects RX8 yX8_isMachine yX8_isMachine, Cond.code yX8_isMachine cX8_isMachine 2 (some .boolean), Cond.fieldLink RX8 63 "AgainAgainModel" "machines" "I", Cond.methodLink RX8 53 yX8_in, Cond.static yX8_in, Cond.code yX8_in cX8_in 6 (some .boolean), Cond.methodLink RX8 98 yX8_next, Cond.instanceMethod yX8_next, Cond.selects RX8 yX8_next yX8_next, Cond.code yX8_next cX8_next 4 (some .int), Cond.methodLink RX8 83 yX8_mine, Cond.instanceMethod yX8_mine, Cond.selects RX8 yX8_mine yX8_mine, Cond.code yX8_mine cX8_mine 3 (some .int), Cond.fieldLink RX8 23 "AgainAgainModel" "acts" "[I", Cond.methodLink RX8 87 yX8_theirs]
def wsX8_slip_r2 : List Cond := [Cond.instanceMethod yX8_theirs, Cond.selects RX8 yX8_theirs yX8_theirs, Cond.code yX8_theirs cX8_theirs 3 (some .int), Cond.methodLink RX8 90 yX8_after, Cond.instanceMethod yX8_after, Cond.selects RX8 yX8_after yX8_after, Cond.code yX8_after cX8_after 6 (some .int), Cond.fieldLink RX8 26 "AgainAgainModel" "nexts" "[I"]
def wsX8_slip : List Cond := .code yX8_slip cX8_slip 7 (some .int) :: ((wsX8_slip_r1 ++ wsX8_slip_r2) ++ wsX80)
def wsX8_findUnlike : List Cond := .code yX8_findUnlike cX8_findUnlike 7 none :: ([.fieldLink RX8 20 "AgainAgainModel" "many" "[I", .fieldLink RX8 44 "AgainAgainModel" "unlike" "[Z", .fieldLink RX8 23 "AgainAgainModel" "acts" "[I", .fieldLink RX8 26 "AgainAgainModel" "nexts" "[I"] ++ wsX80)
def wsX8_areLike : List Cond := .code yX8_areLike cX8_areLike 3 (some .boolean) :: ([.fieldLink RX8 44 "AgainAgainModel" "unlike" "[Z", .methodLink RX8 152 yX8_findUnlike, .instanceMethod yX8_findUnlike, .selects RX8 yX8_findUnlike yX8_findUnlike, .initialized RX8, .code yX8_findUnlike cX8_findUnlike 7 none, .fieldLink RX8 20 "AgainAgainModel" "many" "[I", .fieldLink RX8 23 "AgainAgainModel" "acts" "[I", .fieldLink RX8 26 "AgainAgainModel" "nexts" "[I"] ++ wsX80)
def wsX8_like_r1 : List Cond := [Cond.methodLink RX8 107 yX8_areBoth, Cond.instanceMethod yX8_areBoth, Cond.selects RX8 yX8_areBoth yX8_areBoth, Cond.initialized RX8, Cond.code yX8_areBoth cX8_areBoth 3 (some .boolean), Cond.methodLink RX8 66 yX8_isMachine, Cond.instanceMethod yX8_isMachine, Cond.selects RX8 yX8_isMachine yX8_isMachine, Cond.code yX8_isMachine cX8_isMachine 2 (some .boolean), Cond.fieldLink RX8 63 "AgainAgainModel" "machines" "I", Cond.methodLink RX8 53 yX8_in, Cond.static yX8_in, Cond.code yX8_in cX8_in 6 (some .boolean), Cond.methodLink RX8 156 yX8_areLike, Cond.instanceMethod yX8_areLike, Cond.selects RX8 yX8_areLike yX8_areLike, Cond.code yX8_areLike cX8_areLike 3 (some .boolean), Cond.fieldLink RX8 44 "AgainAgainModel" "unlike" "[Z", Cond.methodLink RX8 152 yX8_findUnlike, Cond.instanceMethod yX8_findUnlike, Cond.selects RX8 yX8_findUnlike yX8_findUnlike, Cond.code yX8_findUnlike cX8_findUnlike 7 none, Cond.fieldLink RX8 20 "AgainAgainModel" "many" "[I", Cond.fieldLink RX8 23 "AgainAgainModel" "acts" "[I"]
def wsX8_like_r2 : List Cond := [Cond.fieldLink RX8 26 "AgainAgainModel" "nexts" "[I"]
def wsX8_like : List Cond := .code yX8_like cX8_like 3 (some .int) :: ((wsX8_like_r1 ++ wsX8_like_r2) ++ wsX80)
def wsX8_smallest : List Cond := .code yX8_smallest cX8_smallest 7 (some .int) :: ([.fieldLink RX8 20 "AgainAgainModel" "many" "[I", .fieldLink RX8 26 "AgainAgainModel" "nexts" "[I", .fieldLink RX8 44 "AgainAgainModel" "unlike" "[Z", .methodLink RX8 66 yX8_isMachine, .instanceMethod yX8_isMachine, .selects RX8 yX8_isMachine yX8_isMachine, .initialized RX8, .code yX8_isMachine cX8_isMachine 2 (some .boolean), .fieldLink RX8 63 "AgainAgainModel" "machines" "I", .methodLink RX8 53 yX8_in, .static yX8_in, .code yX8_in cX8_in 6 (some .boolean), .methodLink RX8 152 yX8_findUnlike, .instanceMethod yX8_findUnlike, .selects RX8 yX8_findUnlike yX8_findUnlike, .code yX8_findUnlike cX8_findUnlike 7 none, .fieldLink RX8 23 "AgainAgainModel" "acts" "[I"] ++ wsX80)
def wsX8_plans : List Cond := .code yX8_plans cX8_plans 2 (some .int) :: ([.constantLong RX8 74 (3), .fieldLink RX8 20 "AgainAgainModel" "many" "[I", .methodLink RX8 130 yX8_power, .static yX8_power, .initialized RX8, .code yX8_power cX8_power 6 (some .long)] ++ wsX80)
def wsX8_findPlanWorth : List Cond := .code yX8_findPlanWorth cX8_findPlanWorth 7 none :: ([.fieldLink RX8 41 "AgainAgainModel" "seenAt" "[I", .constantLong RX8 74 (3), .fieldLink RX8 38 "AgainAgainModel" "row" "[I", .fieldLink RX8 7 "AgainAgainModel" "pays" "[I", .fieldLink RX8 23 "AgainAgainModel" "acts" "[I", .fieldLink RX8 26 "AgainAgainModel" "nexts" "[I", .fieldLink RX8 101 "AgainAgainModel" "tail" "I", .fieldLink RX8 104 "AgainAgainModel" "ring" "I", .methodLink RX8 130 yX8_power, .static yX8_power, .initialized RX8, .code yX8_power cX8_power 6 (some .long), .methodLink RX8 144 yX8_worthOfRow, .instanceMethod yX8_worthOfRow, .selects RX8 yX8_worthOfRow yX8_worthOfRow, .code yX8_worthOfRow cX8_worthOfRow 7 none, .fieldLink RX8 13 "AgainAgainModel" "up" "I", .fieldLink RX8 17 "AgainAgainModel" "by" "I", .methodLink RX8 134 yX8_lowest, .instanceMethod yX8_lowest, .selects RX8 yX8_lowest yX8_lowest, .code yX8_lowest cX8_lowest 11 none, .fieldLink RX8 123 "AgainAgainModel" "over" "J", .fieldLink RX8 127 "AgainAgainModel" "under" "J"] ++ wsX80)
def wsX8_findBest_r1 : List Cond := [Cond.fieldLink RX8 159 "AgainAgainModel" "bestPlan" "I", Cond.fieldLink RX8 123 "AgainAgainModel" "over" "J", Cond.fieldLink RX8 168 "AgainAgainModel" "bestUnder" "J", Cond.fieldLink RX8 171 "AgainAgainModel" "bestOver" "J", Cond.fieldLink RX8 127 "AgainAgainModel" "under" "J", Cond.methodLink RX8 162 yX8_plans, Cond.instanceMethod yX8_plans, Cond.selects RX8 yX8_plans yX8_plans, Cond.initialized RX8, Cond.code yX8_plans cX8_plans 2 (some .int), Cond.constantLong RX8 74 (3), Cond.fieldLink RX8 20 "AgainAgainModel" "many" "[I", Cond.methodLink RX8 130 yX8_power, Cond.static yX8_power, Cond.code yX8_power cX8_power 6 (some .long), Cond.methodLink RX8 165 yX8_findPlanWorth, Cond.instanceMethod yX8_findPlanWorth, Cond.selects RX8 yX8_findPlanWorth yX8_findPlanWorth, Cond.code yX8_findPlanWorth cX8_findPlanWorth 7 none, Cond.fieldLink RX8 41 "AgainAgainModel" "seenAt" "[I", Cond.fieldLink RX8 38 "AgainAgainModel" "row" "[I", Cond.fieldLink RX8 7 "AgainAgainModel" "pays" "[I", Cond.fieldLink RX8 23 "AgainAgainModel" "acts" "[I", Cond.fieldLink RX8 26 "AgainAgainModel" "nexts" "[I"]
def wsX8_findBest_r2 : List Cond := [Cond.fieldLink RX8 101 "AgainAgainModel" "tail" "I", Cond.fieldLink RX8 104 "AgainAgainModel" "ring" "I", Cond.methodLink RX8 144 yX8_worthOfRow, Cond.instanceMethod yX8_worthOfRow, Cond.selects RX8 yX8_worthOfRow yX8_worthOfRow, Cond.code yX8_worthOfRow cX8_worthOfRow 7 none, Cond.fieldLink RX8 13 "AgainAgainModel" "up" "I", Cond.fieldLink RX8 17 "AgainAgainModel" "by" "I", Cond.methodLink RX8 134 yX8_lowest, Cond.instanceMethod yX8_lowest, Cond.selects RX8 yX8_lowest yX8_lowest, Cond.code yX8_lowest cX8_lowest 11 none]
def wsX8_findBest : List Cond := .code yX8_findBest cX8_findBest 4 none :: ((wsX8_findBest_r1 ++ wsX8_findBest_r2) ++ wsX80)
def wsX8_best_r1 : List Cond := [Cond.fieldLink RX8 159 "AgainAgainModel" "bestPlan" "I", Cond.methodLink RX8 70 yX8_isState, Cond.instanceMethod yX8_isState, Cond.selects RX8 yX8_isState yX8_isState, Cond.initialized RX8, Cond.code yX8_isState cX8_isState 3 (some .boolean), Cond.fieldLink RX8 20 "AgainAgainModel" "many" "[I", Cond.methodLink RX8 66 yX8_isMachine, Cond.instanceMethod yX8_isMachine, Cond.selects RX8 yX8_isMachine yX8_isMachine, Cond.code yX8_isMachine cX8_isMachine 2 (some .boolean), Cond.fieldLink RX8 63 "AgainAgainModel" "machines" "I", Cond.methodLink RX8 53 yX8_in, Cond.static yX8_in, Cond.code yX8_in cX8_in 6 (some .boolean), Cond.methodLink RX8 174 yX8_findBest, Cond.instanceMethod yX8_findBest, Cond.selects RX8 yX8_findBest yX8_findBest, Cond.code yX8_findBest cX8_findBest 4 none, Cond.fieldLink RX8 123 "AgainAgainModel" "over" "J", Cond.fieldLink RX8 168 "AgainAgainModel" "bestUnder" "J", Cond.fieldLink RX8 171 "AgainAgainModel" "bestOver" "J", Cond.fieldLink RX8 127 "AgainAgainModel" "under" "J", Cond.methodLink RX8 162 yX8_plans]
def wsX8_best_r2 : List Cond := [Cond.instanceMethod yX8_plans, Cond.selects RX8 yX8_plans yX8_plans, Cond.code yX8_plans cX8_plans 2 (some .int), Cond.constantLong RX8 74 (3), Cond.methodLink RX8 130 yX8_power, Cond.static yX8_power, Cond.code yX8_power cX8_power 6 (some .long), Cond.methodLink RX8 165 yX8_findPlanWorth, Cond.instanceMethod yX8_findPlanWorth, Cond.selects RX8 yX8_findPlanWorth yX8_findPlanWorth, Cond.code yX8_findPlanWorth cX8_findPlanWorth 7 none, Cond.fieldLink RX8 41 "AgainAgainModel" "seenAt" "[I", Cond.fieldLink RX8 38 "AgainAgainModel" "row" "[I", Cond.fieldLink RX8 7 "AgainAgainModel" "pays" "[I", Cond.fieldLink RX8 23 "AgainAgainModel" "acts" "[I", Cond.fieldLink RX8 26 "AgainAgainModel" "nexts" "[I", Cond.fieldLink RX8 101 "AgainAgainModel" "tail" "I", Cond.fieldLink RX8 104 "AgainAgainModel" "ring" "I", Cond.methodLink RX8 144 yX8_worthOfRow, Cond.instanceMethod yX8_worthOfRow, Cond.selects RX8 yX8_worthOfRow yX8_worthOfRow, Cond.code yX8_worthOfRow cX8_worthOfRow 7 none, Cond.fieldLink RX8 13 "AgainAgainModel" "up" "I", Cond.fieldLink RX8 17 "AgainAgainModel" "by" "I"]
def wsX8_best_r3 : List Cond := [Cond.methodLink RX8 134 yX8_lowest, Cond.instanceMethod yX8_lowest, Cond.selects RX8 yX8_lowest yX8_lowest, Cond.code yX8_lowest cX8_lowest 11 none]
def wsX8_best : List Cond := .code yX8_best cX8_best 3 (some .int) :: ((wsX8_best_r1 ++ (wsX8_best_r2 ++ wsX8_best_r3)) ++ wsX80)
def wsX8_bestWorth_r1 : List Cond := [Cond.constantLong RX8 138 (-1000000000000000), Cond.fieldLink RX8 171 "AgainAgainModel" "bestOver" "J", Cond.fieldLink RX8 168 "AgainAgainModel" "bestUnder" "J", Cond.methodLink RX8 70 yX8_isState, Cond.instanceMethod yX8_isState, Cond.selects RX8 yX8_isState yX8_isState, Cond.initialized RX8, Cond.code yX8_isState cX8_isState 3 (some .boolean), Cond.fieldLink RX8 20 "AgainAgainModel" "many" "[I", Cond.methodLink RX8 66 yX8_isMachine, Cond.instanceMethod yX8_isMachine, Cond.selects RX8 yX8_isMachine yX8_isMachine, Cond.code yX8_isMachine cX8_isMachine 2 (some .boolean), Cond.fieldLink RX8 63 "AgainAgainModel" "machines" "I", Cond.methodLink RX8 53 yX8_in, Cond.static yX8_in, Cond.code yX8_in cX8_in 6 (some .boolean), Cond.methodLink RX8 174 yX8_findBest, Cond.instanceMethod yX8_findBest, Cond.selects RX8 yX8_findBest yX8_findBest, Cond.code yX8_findBest cX8_findBest 4 none, Cond.fieldLink RX8 159 "AgainAgainModel" "bestPlan" "I", Cond.fieldLink RX8 123 "AgainAgainModel" "over" "J", Cond.fieldLink RX8 127 "AgainAgainModel" "under" "J"]
def wsX8_bestWorth_r2 : List Cond := [Cond.methodLink RX8 162 yX8_plans, Cond.instanceMethod yX8_plans, Cond.selects RX8 yX8_plans yX8_plans, Cond.code yX8_plans cX8_plans 2 (some .int), Cond.constantLong RX8 74 (3), Cond.methodLink RX8 130 yX8_power, Cond.static yX8_power, Cond.code yX8_power cX8_power 6 (some .long), Cond.methodLink RX8 165 yX8_findPlanWorth, Cond.instanceMethod yX8_findPlanWorth, Cond.selects RX8 yX8_findPlanWorth yX8_findPlanWorth, Cond.code yX8_findPlanWorth cX8_findPlanWorth 7 none, Cond.fieldLink RX8 41 "AgainAgainModel" "seenAt" "[I", Cond.fieldLink RX8 38 "AgainAgainModel" "row" "[I", Cond.fieldLink RX8 7 "AgainAgainModel" "pays" "[I", Cond.fieldLink RX8 23 "AgainAgainModel" "acts" "[I", Cond.fieldLink RX8 26 "AgainAgainModel" "nexts" "[I", Cond.fieldLink RX8 101 "AgainAgainModel" "tail" "I", Cond.fieldLink RX8 104 "AgainAgainModel" "ring" "I", Cond.methodLink RX8 144 yX8_worthOfRow, Cond.instanceMethod yX8_worthOfRow, Cond.selects RX8 yX8_worthOfRow yX8_worthOfRow, Cond.code yX8_worthOfRow cX8_worthOfRow 7 none, Cond.fieldLink RX8 13 "AgainAgainModel" "up" "I"]
def wsX8_bestWorth_r3 : List Cond := [Cond.fieldLink RX8 17 "AgainAgainModel" "by" "I", Cond.methodLink RX8 134 yX8_lowest, Cond.instanceMethod yX8_lowest, Cond.selects RX8 yX8_lowest yX8_lowest, Cond.code yX8_lowest cX8_lowest 11 none]
def wsX8_bestWorth : List Cond := .code yX8_bestWorth cX8_bestWorth 4 (some .long) :: ((wsX8_bestWorth_r1 ++ (wsX8_bestWorth_r2 ++ wsX8_bestWorth_r3)) ++ wsX80)
def wsX8_planWorth_r1 : List Cond := [Cond.constantLong RX8 138 (-1000000000000000), Cond.methodLink RX8 70 yX8_isState, Cond.instanceMethod yX8_isState, Cond.selects RX8 yX8_isState yX8_isState, Cond.initialized RX8, Cond.code yX8_isState cX8_isState 3 (some .boolean), Cond.fieldLink RX8 20 "AgainAgainModel" "many" "[I", Cond.methodLink RX8 66 yX8_isMachine, Cond.instanceMethod yX8_isMachine, Cond.selects RX8 yX8_isMachine yX8_isMachine, Cond.code yX8_isMachine cX8_isMachine 2 (some .boolean), Cond.fieldLink RX8 63 "AgainAgainModel" "machines" "I", Cond.methodLink RX8 53 yX8_in, Cond.static yX8_in, Cond.code yX8_in cX8_in 6 (some .boolean), Cond.methodLink RX8 162 yX8_plans, Cond.instanceMethod yX8_plans, Cond.selects RX8 yX8_plans yX8_plans, Cond.code yX8_plans cX8_plans 2 (some .int), Cond.constantLong RX8 74 (3), Cond.methodLink RX8 130 yX8_power, Cond.static yX8_power, Cond.code yX8_power cX8_power 6 (some .long), Cond.methodLink RX8 165 yX8_findPlanWorth]
def wsX8_planWorth_r2 : List Cond := [Cond.instanceMethod yX8_findPlanWorth, Cond.selects RX8 yX8_findPlanWorth yX8_findPlanWorth, Cond.code yX8_findPlanWorth cX8_findPlanWorth 7 none, Cond.fieldLink RX8 41 "AgainAgainModel" "seenAt" "[I", Cond.fieldLink RX8 38 "AgainAgainModel" "row" "[I", Cond.fieldLink RX8 7 "AgainAgainModel" "pays" "[I", Cond.fieldLink RX8 23 "AgainAgainModel" "acts" "[I", Cond.fieldLink RX8 26 "AgainAgainModel" "nexts" "[I", Cond.fieldLink RX8 101 "AgainAgainModel" "tail" "I", Cond.fieldLink RX8 104 "AgainAgainModel" "ring" "I", Cond.methodLink RX8 144 yX8_worthOfRow, Cond.instanceMethod yX8_worthOfRow, Cond.selects RX8 yX8_worthOfRow yX8_worthOfRow, Cond.code yX8_worthOfRow cX8_worthOfRow 7 none, Cond.fieldLink RX8 13 "AgainAgainModel" "up" "I", Cond.fieldLink RX8 17 "AgainAgainModel" "by" "I", Cond.methodLink RX8 134 yX8_lowest, Cond.instanceMethod yX8_lowest, Cond.selects RX8 yX8_lowest yX8_lowest, Cond.code yX8_lowest cX8_lowest 11 none, Cond.fieldLink RX8 123 "AgainAgainModel" "over" "J", Cond.fieldLink RX8 127 "AgainAgainModel" "under" "J", Cond.methodLink RX8 140 yX8_part, Cond.instanceMethod yX8_part]
def wsX8_planWorth_r3 : List Cond := [Cond.selects RX8 yX8_part yX8_part, Cond.code yX8_part cX8_part 2 (some .long)]
def wsX8_planWorth : List Cond := .code yX8_planWorth cX8_planWorth 5 (some .long) :: ((wsX8_planWorth_r1 ++ (wsX8_planWorth_r2 ++ wsX8_planWorth_r3)) ++ wsX80)
def wsX8_isBest_r1 : List Cond := [Cond.fieldLink RX8 123 "AgainAgainModel" "over" "J", Cond.fieldLink RX8 171 "AgainAgainModel" "bestOver" "J", Cond.fieldLink RX8 127 "AgainAgainModel" "under" "J", Cond.fieldLink RX8 168 "AgainAgainModel" "bestUnder" "J", Cond.methodLink RX8 174 yX8_findBest, Cond.instanceMethod yX8_findBest, Cond.selects RX8 yX8_findBest yX8_findBest, Cond.initialized RX8, Cond.code yX8_findBest cX8_findBest 4 none, Cond.fieldLink RX8 159 "AgainAgainModel" "bestPlan" "I", Cond.methodLink RX8 162 yX8_plans, Cond.instanceMethod yX8_plans, Cond.selects RX8 yX8_plans yX8_plans, Cond.code yX8_plans cX8_plans 2 (some .int), Cond.constantLong RX8 74 (3), Cond.fieldLink RX8 20 "AgainAgainModel" "many" "[I", Cond.methodLink RX8 130 yX8_power, Cond.static yX8_power, Cond.code yX8_power cX8_power 6 (some .long), Cond.methodLink RX8 165 yX8_findPlanWorth, Cond.instanceMethod yX8_findPlanWorth, Cond.selects RX8 yX8_findPlanWorth yX8_findPlanWorth, Cond.code yX8_findPlanWorth cX8_findPlanWorth 7 none, Cond.fieldLink RX8 41 "AgainAgainModel" "seenAt" "[I"]
def wsX8_isBest_r2 : List Cond := [Cond.fieldLink RX8 38 "AgainAgainModel" "row" "[I", Cond.fieldLink RX8 7 "AgainAgainModel" "pays" "[I", Cond.fieldLink RX8 23 "AgainAgainModel" "acts" "[I", Cond.fieldLink RX8 26 "AgainAgainModel" "nexts" "[I", Cond.fieldLink RX8 101 "AgainAgainModel" "tail" "I", Cond.fieldLink RX8 104 "AgainAgainModel" "ring" "I", Cond.methodLink RX8 144 yX8_worthOfRow, Cond.instanceMethod yX8_worthOfRow, Cond.selects RX8 yX8_worthOfRow yX8_worthOfRow, Cond.code yX8_worthOfRow cX8_worthOfRow 7 none, Cond.fieldLink RX8 13 "AgainAgainModel" "up" "I", Cond.fieldLink RX8 17 "AgainAgainModel" "by" "I", Cond.methodLink RX8 134 yX8_lowest, Cond.instanceMethod yX8_lowest, Cond.selects RX8 yX8_lowest yX8_lowest, Cond.code yX8_lowest cX8_lowest 11 none, Cond.methodLink RX8 147 yX8_findWorth, Cond.instanceMethod yX8_findWorth, Cond.selects RX8 yX8_findWorth yX8_findWorth, Cond.code yX8_findWorth cX8_findWorth 4 none, Cond.methodLink RX8 113 yX8_plays, Cond.instanceMethod yX8_plays, Cond.selects RX8 yX8_plays yX8_plays, Cond.code yX8_plays cX8_plays 6 none]
def wsX8_isBest_r3 : List Cond := [Cond.methodLink RX8 94 yX8_payOf, Cond.instanceMethod yX8_payOf, Cond.selects RX8 yX8_payOf yX8_payOf, Cond.code yX8_payOf cX8_payOf 4 (some .int), Cond.methodLink RX8 83 yX8_mine, Cond.instanceMethod yX8_mine, Cond.selects RX8 yX8_mine yX8_mine, Cond.code yX8_mine cX8_mine 3 (some .int), Cond.methodLink RX8 87 yX8_theirs, Cond.instanceMethod yX8_theirs, Cond.selects RX8 yX8_theirs yX8_theirs, Cond.code yX8_theirs cX8_theirs 3 (some .int), Cond.methodLink RX8 98 yX8_next, Cond.instanceMethod yX8_next, Cond.selects RX8 yX8_next yX8_next, Cond.code yX8_next cX8_next 4 (some .int), Cond.methodLink RX8 90 yX8_after, Cond.instanceMethod yX8_after, Cond.selects RX8 yX8_after yX8_after, Cond.code yX8_after cX8_after 6 (some .int)]
def wsX8_isBest : List Cond := .code yX8_isBest cX8_isBest 4 (some .boolean) :: ((wsX8_isBest_r1 ++ (wsX8_isBest_r2 ++ wsX8_isBest_r3)) ++ wsX80)
def wsX8_turned : List Cond := .code yX8_turned cX8_turned 1 (some .int) :: ([])
def wsX8_rests_r1 : List Cond := [Cond.methodLink RX8 177 yX8_isBest, Cond.instanceMethod yX8_isBest, Cond.selects RX8 yX8_isBest yX8_isBest, Cond.initialized RX8, Cond.code yX8_isBest cX8_isBest 4 (some .boolean), Cond.fieldLink RX8 123 "AgainAgainModel" "over" "J", Cond.fieldLink RX8 171 "AgainAgainModel" "bestOver" "J", Cond.fieldLink RX8 127 "AgainAgainModel" "under" "J", Cond.fieldLink RX8 168 "AgainAgainModel" "bestUnder" "J", Cond.methodLink RX8 174 yX8_findBest, Cond.instanceMethod yX8_findBest, Cond.selects RX8 yX8_findBest yX8_findBest, Cond.code yX8_findBest cX8_findBest 4 none, Cond.fieldLink RX8 159 "AgainAgainModel" "bestPlan" "I", Cond.methodLink RX8 162 yX8_plans, Cond.instanceMethod yX8_plans, Cond.selects RX8 yX8_plans yX8_plans, Cond.code yX8_plans cX8_plans 2 (some .int), Cond.constantLong RX8 74 (3), Cond.fieldLink RX8 20 "AgainAgainModel" "many" "[I", Cond.methodLink RX8 130 yX8_power, Cond.static yX8_power, Cond.code yX8_power cX8_power 6 (some .long), Cond.methodLink RX8 165 yX8_findPlanWorth]
def wsX8_rests_r2 : List Cond := [Cond.instanceMethod yX8_findPlanWorth, Cond.selects RX8 yX8_findPlanWorth yX8_findPlanWorth, Cond.code yX8_findPlanWorth cX8_findPlanWorth 7 none, Cond.fieldLink RX8 41 "AgainAgainModel" "seenAt" "[I", Cond.fieldLink RX8 38 "AgainAgainModel" "row" "[I", Cond.fieldLink RX8 7 "AgainAgainModel" "pays" "[I", Cond.fieldLink RX8 23 "AgainAgainModel" "acts" "[I", Cond.fieldLink RX8 26 "AgainAgainModel" "nexts" "[I", Cond.fieldLink RX8 101 "AgainAgainModel" "tail" "I", Cond.fieldLink RX8 104 "AgainAgainModel" "ring" "I", Cond.methodLink RX8 144 yX8_worthOfRow, Cond.instanceMethod yX8_worthOfRow, Cond.selects RX8 yX8_worthOfRow yX8_worthOfRow, Cond.code yX8_worthOfRow cX8_worthOfRow 7 none, Cond.fieldLink RX8 13 "AgainAgainModel" "up" "I", Cond.fieldLink RX8 17 "AgainAgainModel" "by" "I", Cond.methodLink RX8 134 yX8_lowest, Cond.instanceMethod yX8_lowest, Cond.selects RX8 yX8_lowest yX8_lowest, Cond.code yX8_lowest cX8_lowest 11 none, Cond.methodLink RX8 147 yX8_findWorth, Cond.instanceMethod yX8_findWorth, Cond.selects RX8 yX8_findWorth yX8_findWorth, Cond.code yX8_findWorth cX8_findWorth 4 none]
def wsX8_rests_r3 : List Cond := [Cond.methodLink RX8 113 yX8_plays, Cond.instanceMethod yX8_plays, Cond.selects RX8 yX8_plays yX8_plays, Cond.code yX8_plays cX8_plays 6 none, Cond.methodLink RX8 94 yX8_payOf, Cond.instanceMethod yX8_payOf, Cond.selects RX8 yX8_payOf yX8_payOf, Cond.code yX8_payOf cX8_payOf 4 (some .int), Cond.methodLink RX8 83 yX8_mine, Cond.instanceMethod yX8_mine, Cond.selects RX8 yX8_mine yX8_mine, Cond.code yX8_mine cX8_mine 3 (some .int), Cond.methodLink RX8 87 yX8_theirs, Cond.instanceMethod yX8_theirs, Cond.selects RX8 yX8_theirs yX8_theirs, Cond.code yX8_theirs cX8_theirs 3 (some .int), Cond.methodLink RX8 98 yX8_next, Cond.instanceMethod yX8_next, Cond.selects RX8 yX8_next yX8_next, Cond.code yX8_next cX8_next 4 (some .int), Cond.methodLink RX8 90 yX8_after, Cond.instanceMethod yX8_after, Cond.selects RX8 yX8_after yX8_after, Cond.code yX8_after cX8_after 6 (some .int)]
def wsX8_rests_r4 : List Cond := [Cond.methodLink RX8 181 yX8_turned, Cond.static yX8_turned, Cond.code yX8_turned cX8_turned 1 (some .int)]
def wsX8_rests : List Cond := .code yX8_rests cX8_rests 4 (some .boolean) :: ((wsX8_rests_r1 ++ (wsX8_rests_r2 ++ (wsX8_rests_r3 ++ wsX8_rests_r4))) ++ wsX80)
def wsX8_rest_r1 : List Cond := [Cond.methodLink RX8 107 yX8_areBoth, Cond.instanceMethod yX8_areBoth, Cond.selects RX8 yX8_areBoth yX8_areBoth, Cond.initialized RX8, Cond.code yX8_areBoth cX8_areBoth 3 (some .boolean), Cond.methodLink RX8 66 yX8_isMachine, Cond.instanceMethod yX8_isMachine, Cond.selects RX8 yX8_isMachine yX8_isMachine, Cond.code yX8_isMachine cX8_isMachine 2 (some .boolean), Cond.fieldLink RX8 63 "AgainAgainModel" "machines" "I", Cond.methodLink RX8 53 yX8_in, Cond.static yX8_in, Cond.code yX8_in cX8_in 6 (some .boolean), Cond.methodLink RX8 184 yX8_rests, Cond.instanceMethod yX8_rests, Cond.selects RX8 yX8_rests yX8_rests, Cond.code yX8_rests cX8_rests 4 (some .boolean), Cond.methodLink RX8 177 yX8_isBest, Cond.instanceMethod yX8_isBest, Cond.selects RX8 yX8_isBest yX8_isBest, Cond.code yX8_isBest cX8_isBest 4 (some .boolean), Cond.fieldLink RX8 123 "AgainAgainModel" "over" "J", Cond.fieldLink RX8 171 "AgainAgainModel" "bestOver" "J", Cond.fieldLink RX8 127 "AgainAgainModel" "under" "J"]
def wsX8_rest_r2 : List Cond := [Cond.fieldLink RX8 168 "AgainAgainModel" "bestUnder" "J", Cond.methodLink RX8 174 yX8_findBest, Cond.instanceMethod yX8_findBest, Cond.selects RX8 yX8_findBest yX8_findBest, Cond.code yX8_findBest cX8_findBest 4 none, Cond.fieldLink RX8 159 "AgainAgainModel" "bestPlan" "I", Cond.methodLink RX8 162 yX8_plans, Cond.instanceMethod yX8_plans, Cond.selects RX8 yX8_plans yX8_plans, Cond.code yX8_plans cX8_plans 2 (some .int), Cond.constantLong RX8 74 (3), Cond.fieldLink RX8 20 "AgainAgainModel" "many" "[I", Cond.methodLink RX8 130 yX8_power, Cond.static yX8_power, Cond.code yX8_power cX8_power 6 (some .long), Cond.methodLink RX8 165 yX8_findPlanWorth, Cond.instanceMethod yX8_findPlanWorth, Cond.selects RX8 yX8_findPlanWorth yX8_findPlanWorth, Cond.code yX8_findPlanWorth cX8_findPlanWorth 7 none, Cond.fieldLink RX8 41 "AgainAgainModel" "seenAt" "[I", Cond.fieldLink RX8 38 "AgainAgainModel" "row" "[I", Cond.fieldLink RX8 7 "AgainAgainModel" "pays" "[I", Cond.fieldLink RX8 23 "AgainAgainModel" "acts" "[I", Cond.fieldLink RX8 26 "AgainAgainModel" "nexts" "[I"]
def wsX8_rest_r3 : List Cond := [Cond.fieldLink RX8 101 "AgainAgainModel" "tail" "I", Cond.fieldLink RX8 104 "AgainAgainModel" "ring" "I", Cond.methodLink RX8 144 yX8_worthOfRow, Cond.instanceMethod yX8_worthOfRow, Cond.selects RX8 yX8_worthOfRow yX8_worthOfRow, Cond.code yX8_worthOfRow cX8_worthOfRow 7 none, Cond.fieldLink RX8 13 "AgainAgainModel" "up" "I", Cond.fieldLink RX8 17 "AgainAgainModel" "by" "I", Cond.methodLink RX8 134 yX8_lowest, Cond.instanceMethod yX8_lowest, Cond.selects RX8 yX8_lowest yX8_lowest, Cond.code yX8_lowest cX8_lowest 11 none, Cond.methodLink RX8 147 yX8_findWorth, Cond.instanceMethod yX8_findWorth, Cond.selects RX8 yX8_findWorth yX8_findWorth, Cond.code yX8_findWorth cX8_findWorth 4 none, Cond.methodLink RX8 113 yX8_plays, Cond.instanceMethod yX8_plays, Cond.selects RX8 yX8_plays yX8_plays, Cond.code yX8_plays cX8_plays 6 none, Cond.methodLink RX8 94 yX8_payOf, Cond.instanceMethod yX8_payOf, Cond.selects RX8 yX8_payOf yX8_payOf, Cond.code yX8_payOf cX8_payOf 4 (some .int)]
def wsX8_rest_r4 : List Cond := [Cond.methodLink RX8 83 yX8_mine, Cond.instanceMethod yX8_mine, Cond.selects RX8 yX8_mine yX8_mine, Cond.code yX8_mine cX8_mine 3 (some .int), Cond.methodLink RX8 87 yX8_theirs, Cond.instanceMethod yX8_theirs, Cond.selects RX8 yX8_theirs yX8_theirs, Cond.code yX8_theirs cX8_theirs 3 (some .int), Cond.methodLink RX8 98 yX8_next, Cond.instanceMethod yX8_next, Cond.selects RX8 yX8_next yX8_next, Cond.code yX8_next cX8_next 4 (some .int), Cond.methodLink RX8 90 yX8_after, Cond.instanceMethod yX8_after, Cond.selects RX8 yX8_after yX8_after, Cond.code yX8_after cX8_after 6 (some .int), Cond.methodLink RX8 181 yX8_turned, Cond.static yX8_turned, Cond.code yX8_turned cX8_turned 1 (some .int)]
def wsX8_rest : List Cond := .code yX8_rest cX8_rest 3 (some .int) :: ((wsX8_rest_r1 ++ (wsX8_rest_r2 ++ (wsX8_rest_r3 ++ wsX8_rest_r4))) ++ wsX80)
def wsX8_firstThatMoves_r1 : List Cond := [Cond.fieldLink RX8 20 "AgainAgainModel" "many" "[I", Cond.methodLink RX8 184 yX8_rests, Cond.instanceMethod yX8_rests, Cond.selects RX8 yX8_rests yX8_rests, Cond.initialized RX8, Cond.code yX8_rests cX8_rests 4 (some .boolean), Cond.methodLink RX8 177 yX8_isBest, Cond.instanceMethod yX8_isBest, Cond.selects RX8 yX8_isBest yX8_isBest, Cond.code yX8_isBest cX8_isBest 4 (some .boolean), Cond.fieldLink RX8 123 "AgainAgainModel" "over" "J", Cond.fieldLink RX8 171 "AgainAgainModel" "bestOver" "J", Cond.fieldLink RX8 127 "AgainAgainModel" "under" "J", Cond.fieldLink RX8 168 "AgainAgainModel" "bestUnder" "J", Cond.methodLink RX8 174 yX8_findBest, Cond.instanceMethod yX8_findBest, Cond.selects RX8 yX8_findBest yX8_findBest, Cond.code yX8_findBest cX8_findBest 4 none, Cond.fieldLink RX8 159 "AgainAgainModel" "bestPlan" "I", Cond.methodLink RX8 162 yX8_plans, Cond.instanceMethod yX8_plans, Cond.selects RX8 yX8_plans yX8_plans, Cond.code yX8_plans cX8_plans 2 (some .int), Cond.constantLong RX8 74 (3)]
def wsX8_firstThatMoves_r2 : List Cond := [Cond.methodLink RX8 130 yX8_power, Cond.static yX8_power, Cond.code yX8_power cX8_power 6 (some .long), Cond.methodLink RX8 165 yX8_findPlanWorth, Cond.instanceMethod yX8_findPlanWorth, Cond.selects RX8 yX8_findPlanWorth yX8_findPlanWorth, Cond.code yX8_findPlanWorth cX8_findPlanWorth 7 none, Cond.fieldLink RX8 41 "AgainAgainModel" "seenAt" "[I", Cond.fieldLink RX8 38 "AgainAgainModel" "row" "[I", Cond.fieldLink RX8 7 "AgainAgainModel" "pays" "[I", Cond.fieldLink RX8 23 "AgainAgainModel" "acts" "[I", Cond.fieldLink RX8 26 "AgainAgainModel" "nexts" "[I", Cond.fieldLink RX8 101 "AgainAgainModel" "tail" "I", Cond.fieldLink RX8 104 "AgainAgainModel" "ring" "I", Cond.methodLink RX8 144 yX8_worthOfRow, Cond.instanceMethod yX8_worthOfRow, Cond.selects RX8 yX8_worthOfRow yX8_worthOfRow, Cond.code yX8_worthOfRow cX8_worthOfRow 7 none, Cond.fieldLink RX8 13 "AgainAgainModel" "up" "I", Cond.fieldLink RX8 17 "AgainAgainModel" "by" "I", Cond.methodLink RX8 134 yX8_lowest, Cond.instanceMethod yX8_lowest, Cond.selects RX8 yX8_lowest yX8_lowest, Cond.code yX8_lowest cX8_lowest 11 none]
def wsX8_firstThatMoves_r3 : List Cond := [Cond.methodLink RX8 147 yX8_findWorth, Cond.instanceMethod yX8_findWorth, Cond.selects RX8 yX8_findWorth yX8_findWorth, Cond.code yX8_findWorth cX8_findWorth 4 none, Cond.methodLink RX8 113 yX8_plays, Cond.instanceMethod yX8_plays, Cond.selects RX8 yX8_plays yX8_plays, Cond.code yX8_plays cX8_plays 6 none, Cond.methodLink RX8 94 yX8_payOf, Cond.instanceMethod yX8_payOf, Cond.selects RX8 yX8_payOf yX8_payOf, Cond.code yX8_payOf cX8_payOf 4 (some .int), Cond.methodLink RX8 83 yX8_mine, Cond.instanceMethod yX8_mine, Cond.selects RX8 yX8_mine yX8_mine, Cond.code yX8_mine cX8_mine 3 (some .int), Cond.methodLink RX8 87 yX8_theirs, Cond.instanceMethod yX8_theirs, Cond.selects RX8 yX8_theirs yX8_theirs, Cond.code yX8_theirs cX8_theirs 3 (some .int), Cond.methodLink RX8 98 yX8_next, Cond.instanceMethod yX8_next, Cond.selects RX8 yX8_next yX8_next, Cond.code yX8_next cX8_next 4 (some .int)]
def wsX8_firstThatMoves_r4 : List Cond := [Cond.methodLink RX8 90 yX8_after, Cond.instanceMethod yX8_after, Cond.selects RX8 yX8_after yX8_after, Cond.code yX8_after cX8_after 6 (some .int), Cond.methodLink RX8 181 yX8_turned, Cond.static yX8_turned, Cond.code yX8_turned cX8_turned 1 (some .int)]
def wsX8_firstThatMoves : List Cond := .code yX8_firstThatMoves cX8_firstThatMoves 5 (some .int) :: ((wsX8_firstThatMoves_r1 ++ (wsX8_firstThatMoves_r2 ++ (wsX8_firstThatMoves_r3 ++ wsX8_firstThatMoves_r4))) ++ wsX80)
def wsX8_everywhere_r1 : List Cond := [Cond.methodLink RX8 107 yX8_areBoth, Cond.instanceMethod yX8_areBoth, Cond.selects RX8 yX8_areBoth yX8_areBoth, Cond.initialized RX8, Cond.code yX8_areBoth cX8_areBoth 3 (some .boolean), Cond.methodLink RX8 66 yX8_isMachine, Cond.instanceMethod yX8_isMachine, Cond.selects RX8 yX8_isMachine yX8_isMachine, Cond.code yX8_isMachine cX8_isMachine 2 (some .boolean), Cond.fieldLink RX8 63 "AgainAgainModel" "machines" "I", Cond.methodLink RX8 53 yX8_in, Cond.static yX8_in, Cond.code yX8_in cX8_in 6 (some .boolean), Cond.methodLink RX8 187 yX8_firstThatMoves, Cond.instanceMethod yX8_firstThatMoves, Cond.selects RX8 yX8_firstThatMoves yX8_firstThatMoves, Cond.code yX8_firstThatMoves cX8_firstThatMoves 5 (some .int), Cond.fieldLink RX8 20 "AgainAgainModel" "many" "[I", Cond.methodLink RX8 184 yX8_rests, Cond.instanceMethod yX8_rests, Cond.selects RX8 yX8_rests yX8_rests, Cond.code yX8_rests cX8_rests 4 (some .boolean), Cond.methodLink RX8 177 yX8_isBest, Cond.instanceMethod yX8_isBest]
def wsX8_everywhere_r2 : List Cond := [Cond.selects RX8 yX8_isBest yX8_isBest, Cond.code yX8_isBest cX8_isBest 4 (some .boolean), Cond.fieldLink RX8 123 "AgainAgainModel" "over" "J", Cond.fieldLink RX8 171 "AgainAgainModel" "bestOver" "J", Cond.fieldLink RX8 127 "AgainAgainModel" "under" "J", Cond.fieldLink RX8 168 "AgainAgainModel" "bestUnder" "J", Cond.methodLink RX8 174 yX8_findBest, Cond.instanceMethod yX8_findBest, Cond.selects RX8 yX8_findBest yX8_findBest, Cond.code yX8_findBest cX8_findBest 4 none, Cond.fieldLink RX8 159 "AgainAgainModel" "bestPlan" "I", Cond.methodLink RX8 162 yX8_plans, Cond.instanceMethod yX8_plans, Cond.selects RX8 yX8_plans yX8_plans, Cond.code yX8_plans cX8_plans 2 (some .int), Cond.constantLong RX8 74 (3), Cond.methodLink RX8 130 yX8_power, Cond.static yX8_power, Cond.code yX8_power cX8_power 6 (some .long), Cond.methodLink RX8 165 yX8_findPlanWorth, Cond.instanceMethod yX8_findPlanWorth, Cond.selects RX8 yX8_findPlanWorth yX8_findPlanWorth, Cond.code yX8_findPlanWorth cX8_findPlanWorth 7 none, Cond.fieldLink RX8 41 "AgainAgainModel" "seenAt" "[I"]
def wsX8_everywhere_r3 : List Cond := [Cond.fieldLink RX8 38 "AgainAgainModel" "row" "[I", Cond.fieldLink RX8 7 "AgainAgainModel" "pays" "[I", Cond.fieldLink RX8 23 "AgainAgainModel" "acts" "[I", Cond.fieldLink RX8 26 "AgainAgainModel" "nexts" "[I", Cond.fieldLink RX8 101 "AgainAgainModel" "tail" "I", Cond.fieldLink RX8 104 "AgainAgainModel" "ring" "I", Cond.methodLink RX8 144 yX8_worthOfRow, Cond.instanceMethod yX8_worthOfRow, Cond.selects RX8 yX8_worthOfRow yX8_worthOfRow, Cond.code yX8_worthOfRow cX8_worthOfRow 7 none, Cond.fieldLink RX8 13 "AgainAgainModel" "up" "I", Cond.fieldLink RX8 17 "AgainAgainModel" "by" "I", Cond.methodLink RX8 134 yX8_lowest, Cond.instanceMethod yX8_lowest, Cond.selects RX8 yX8_lowest yX8_lowest, Cond.code yX8_lowest cX8_lowest 11 none, Cond.methodLink RX8 147 yX8_findWorth, Cond.instanceMethod yX8_findWorth, Cond.selects RX8 yX8_findWorth yX8_findWorth, Cond.code yX8_findWorth cX8_findWorth 4 none, Cond.methodLink RX8 113 yX8_plays, Cond.instanceMethod yX8_plays, Cond.selects RX8 yX8_plays yX8_plays, Cond.code yX8_plays cX8_plays 6 none]
def wsX8_everywhere_r4 : List Cond := [Cond.methodLink RX8 94 yX8_payOf, Cond.instanceMethod yX8_payOf, Cond.selects RX8 yX8_payOf yX8_payOf, Cond.code yX8_payOf cX8_payOf 4 (some .int), Cond.methodLink RX8 83 yX8_mine, Cond.instanceMethod yX8_mine, Cond.selects RX8 yX8_mine yX8_mine, Cond.code yX8_mine cX8_mine 3 (some .int), Cond.methodLink RX8 87 yX8_theirs, Cond.instanceMethod yX8_theirs, Cond.selects RX8 yX8_theirs yX8_theirs, Cond.code yX8_theirs cX8_theirs 3 (some .int), Cond.methodLink RX8 98 yX8_next, Cond.instanceMethod yX8_next, Cond.selects RX8 yX8_next yX8_next, Cond.code yX8_next cX8_next 4 (some .int), Cond.methodLink RX8 90 yX8_after, Cond.instanceMethod yX8_after, Cond.selects RX8 yX8_after yX8_after, Cond.code yX8_after cX8_after 6 (some .int), Cond.methodLink RX8 181 yX8_turned, Cond.static yX8_turned, Cond.code yX8_turned cX8_turned 1 (some .int)]
def wsX8_everywhere : List Cond := .code yX8_everywhere cX8_everywhere 3 (some .int) :: ((wsX8_everywhere_r1 ++ (wsX8_everywhere_r2 ++ (wsX8_everywhere_r3 ++ wsX8_everywhere_r4))) ++ wsX80)
def wsX8_deviation_r1 : List Cond := [Cond.constantLong RX8 51 (2), Cond.fieldLink RX8 159 "AgainAgainModel" "bestPlan" "I", Cond.methodLink RX8 107 yX8_areBoth, Cond.instanceMethod yX8_areBoth, Cond.selects RX8 yX8_areBoth yX8_areBoth, Cond.initialized RX8, Cond.code yX8_areBoth cX8_areBoth 3 (some .boolean), Cond.methodLink RX8 66 yX8_isMachine, Cond.instanceMethod yX8_isMachine, Cond.selects RX8 yX8_isMachine yX8_isMachine, Cond.code yX8_isMachine cX8_isMachine 2 (some .boolean), Cond.fieldLink RX8 63 "AgainAgainModel" "machines" "I", Cond.methodLink RX8 53 yX8_in, Cond.static yX8_in, Cond.code yX8_in cX8_in 6 (some .boolean), Cond.methodLink RX8 187 yX8_firstThatMoves, Cond.instanceMethod yX8_firstThatMoves, Cond.selects RX8 yX8_firstThatMoves yX8_firstThatMoves, Cond.code yX8_firstThatMoves cX8_firstThatMoves 5 (some .int), Cond.fieldLink RX8 20 "AgainAgainModel" "many" "[I", Cond.methodLink RX8 184 yX8_rests, Cond.instanceMethod yX8_rests, Cond.selects RX8 yX8_rests yX8_rests, Cond.code yX8_rests cX8_rests 4 (some .boolean)]
def wsX8_deviation_r2 : List Cond := [Cond.methodLink RX8 177 yX8_isBest, Cond.instanceMethod yX8_isBest, Cond.selects RX8 yX8_isBest yX8_isBest, Cond.code yX8_isBest cX8_isBest 4 (some .boolean), Cond.fieldLink RX8 123 "AgainAgainModel" "over" "J", Cond.fieldLink RX8 171 "AgainAgainModel" "bestOver" "J", Cond.fieldLink RX8 127 "AgainAgainModel" "under" "J", Cond.fieldLink RX8 168 "AgainAgainModel" "bestUnder" "J", Cond.methodLink RX8 174 yX8_findBest, Cond.instanceMethod yX8_findBest, Cond.selects RX8 yX8_findBest yX8_findBest, Cond.code yX8_findBest cX8_findBest 4 none, Cond.methodLink RX8 162 yX8_plans, Cond.instanceMethod yX8_plans, Cond.selects RX8 yX8_plans yX8_plans, Cond.code yX8_plans cX8_plans 2 (some .int), Cond.constantLong RX8 74 (3), Cond.methodLink RX8 130 yX8_power, Cond.static yX8_power, Cond.code yX8_power cX8_power 6 (some .long), Cond.methodLink RX8 165 yX8_findPlanWorth, Cond.instanceMethod yX8_findPlanWorth, Cond.selects RX8 yX8_findPlanWorth yX8_findPlanWorth, Cond.code yX8_findPlanWorth cX8_findPlanWorth 7 none]
def wsX8_deviation_r3 : List Cond := [Cond.fieldLink RX8 41 "AgainAgainModel" "seenAt" "[I", Cond.fieldLink RX8 38 "AgainAgainModel" "row" "[I", Cond.fieldLink RX8 7 "AgainAgainModel" "pays" "[I", Cond.fieldLink RX8 23 "AgainAgainModel" "acts" "[I", Cond.fieldLink RX8 26 "AgainAgainModel" "nexts" "[I", Cond.fieldLink RX8 101 "AgainAgainModel" "tail" "I", Cond.fieldLink RX8 104 "AgainAgainModel" "ring" "I", Cond.methodLink RX8 144 yX8_worthOfRow, Cond.instanceMethod yX8_worthOfRow, Cond.selects RX8 yX8_worthOfRow yX8_worthOfRow, Cond.code yX8_worthOfRow cX8_worthOfRow 7 none, Cond.fieldLink RX8 13 "AgainAgainModel" "up" "I", Cond.fieldLink RX8 17 "AgainAgainModel" "by" "I", Cond.methodLink RX8 134 yX8_lowest, Cond.instanceMethod yX8_lowest, Cond.selects RX8 yX8_lowest yX8_lowest, Cond.code yX8_lowest cX8_lowest 11 none, Cond.methodLink RX8 147 yX8_findWorth, Cond.instanceMethod yX8_findWorth, Cond.selects RX8 yX8_findWorth yX8_findWorth, Cond.code yX8_findWorth cX8_findWorth 4 none, Cond.methodLink RX8 113 yX8_plays, Cond.instanceMethod yX8_plays, Cond.selects RX8 yX8_plays yX8_plays]
def wsX8_deviation_r4 : List Cond := [Cond.code yX8_plays cX8_plays 6 none, Cond.methodLink RX8 94 yX8_payOf, Cond.instanceMethod yX8_payOf, Cond.selects RX8 yX8_payOf yX8_payOf, Cond.code yX8_payOf cX8_payOf 4 (some .int), Cond.methodLink RX8 83 yX8_mine, Cond.instanceMethod yX8_mine, Cond.selects RX8 yX8_mine yX8_mine, Cond.code yX8_mine cX8_mine 3 (some .int), Cond.methodLink RX8 87 yX8_theirs, Cond.instanceMethod yX8_theirs, Cond.selects RX8 yX8_theirs yX8_theirs, Cond.code yX8_theirs cX8_theirs 3 (some .int), Cond.methodLink RX8 98 yX8_next, Cond.instanceMethod yX8_next, Cond.selects RX8 yX8_next yX8_next, Cond.code yX8_next cX8_next 4 (some .int), Cond.methodLink RX8 90 yX8_after, Cond.instanceMethod yX8_after, Cond.selects RX8 yX8_after yX8_after, Cond.code yX8_after cX8_after 6 (some .int), Cond.methodLink RX8 181 yX8_turned, Cond.static yX8_turned, Cond.code yX8_turned cX8_turned 1 (some .int)]
def wsX8_deviation : List Cond := .code yX8_deviation cX8_deviation 6 (some .int) :: ((wsX8_deviation_r1 ++ (wsX8_deviation_r2 ++ (wsX8_deviation_r3 ++ wsX8_deviation_r4))) ++ wsX80)
def wsX8_compare_r1 : List Cond := [Cond.fieldLink RX8 123 "AgainAgainModel" "over" "J", Cond.fieldLink RX8 127 "AgainAgainModel" "under" "J", Cond.methodLink RX8 147 yX8_findWorth, Cond.instanceMethod yX8_findWorth, Cond.selects RX8 yX8_findWorth yX8_findWorth, Cond.initialized RX8, Cond.code yX8_findWorth cX8_findWorth 4 none, Cond.methodLink RX8 113 yX8_plays, Cond.instanceMethod yX8_plays, Cond.selects RX8 yX8_plays yX8_plays, Cond.code yX8_plays cX8_plays 6 none, Cond.fieldLink RX8 41 "AgainAgainModel" "seenAt" "[I", Cond.fieldLink RX8 38 "AgainAgainModel" "row" "[I", Cond.fieldLink RX8 101 "AgainAgainModel" "tail" "I", Cond.fieldLink RX8 104 "AgainAgainModel" "ring" "I", Cond.methodLink RX8 94 yX8_payOf, Cond.instanceMethod yX8_payOf, Cond.selects RX8 yX8_payOf yX8_payOf, Cond.code yX8_payOf cX8_payOf 4 (some .int), Cond.fieldLink RX8 7 "AgainAgainModel" "pays" "[I", Cond.methodLink RX8 83 yX8_mine, Cond.instanceMethod yX8_mine, Cond.selects RX8 yX8_mine yX8_mine, Cond.code yX8_mine cX8_mine 3 (some .int)]
def wsX8_compare_r2 : List Cond := [Cond.fieldLink RX8 23 "AgainAgainModel" "acts" "[I", Cond.methodLink RX8 87 yX8_theirs, Cond.instanceMethod yX8_theirs, Cond.selects RX8 yX8_theirs yX8_theirs, Cond.code yX8_theirs cX8_theirs 3 (some .int), Cond.methodLink RX8 98 yX8_next, Cond.instanceMethod yX8_next, Cond.selects RX8 yX8_next yX8_next, Cond.code yX8_next cX8_next 4 (some .int), Cond.methodLink RX8 90 yX8_after, Cond.instanceMethod yX8_after, Cond.selects RX8 yX8_after yX8_after, Cond.code yX8_after cX8_after 6 (some .int), Cond.fieldLink RX8 26 "AgainAgainModel" "nexts" "[I", Cond.methodLink RX8 144 yX8_worthOfRow, Cond.instanceMethod yX8_worthOfRow, Cond.selects RX8 yX8_worthOfRow yX8_worthOfRow, Cond.code yX8_worthOfRow cX8_worthOfRow 7 none, Cond.fieldLink RX8 13 "AgainAgainModel" "up" "I", Cond.fieldLink RX8 17 "AgainAgainModel" "by" "I", Cond.methodLink RX8 130 yX8_power, Cond.static yX8_power, Cond.code yX8_power cX8_power 6 (some .long), Cond.methodLink RX8 134 yX8_lowest]
def wsX8_compare_r3 : List Cond := [Cond.instanceMethod yX8_lowest, Cond.selects RX8 yX8_lowest yX8_lowest, Cond.code yX8_lowest cX8_lowest 11 none]
def wsX8_compare : List Cond := .code yX8_compare cX8_compare 13 (some .int) :: ((wsX8_compare_r1 ++ (wsX8_compare_r2 ++ wsX8_compare_r3)) ++ wsX80)
def wsX8_doesResist_r1 : List Cond := [Cond.methodLink RX8 190 yX8_compare, Cond.instanceMethod yX8_compare, Cond.selects RX8 yX8_compare yX8_compare, Cond.initialized RX8, Cond.code yX8_compare cX8_compare 13 (some .int), Cond.fieldLink RX8 123 "AgainAgainModel" "over" "J", Cond.fieldLink RX8 127 "AgainAgainModel" "under" "J", Cond.methodLink RX8 147 yX8_findWorth, Cond.instanceMethod yX8_findWorth, Cond.selects RX8 yX8_findWorth yX8_findWorth, Cond.code yX8_findWorth cX8_findWorth 4 none, Cond.methodLink RX8 113 yX8_plays, Cond.instanceMethod yX8_plays, Cond.selects RX8 yX8_plays yX8_plays, Cond.code yX8_plays cX8_plays 6 none, Cond.fieldLink RX8 41 "AgainAgainModel" "seenAt" "[I", Cond.fieldLink RX8 38 "AgainAgainModel" "row" "[I", Cond.fieldLink RX8 101 "AgainAgainModel" "tail" "I", Cond.fieldLink RX8 104 "AgainAgainModel" "ring" "I", Cond.methodLink RX8 94 yX8_payOf, Cond.instanceMethod yX8_payOf, Cond.selects RX8 yX8_payOf yX8_payOf, Cond.code yX8_payOf cX8_payOf 4 (some .int), Cond.fieldLink RX8 7 "AgainAgainModel" "pays" "[I"]
def wsX8_doesResist_r2 : List Cond := [Cond.methodLink RX8 83 yX8_mine, Cond.instanceMethod yX8_mine, Cond.selects RX8 yX8_mine yX8_mine, Cond.code yX8_mine cX8_mine 3 (some .int), Cond.fieldLink RX8 23 "AgainAgainModel" "acts" "[I", Cond.methodLink RX8 87 yX8_theirs, Cond.instanceMethod yX8_theirs, Cond.selects RX8 yX8_theirs yX8_theirs, Cond.code yX8_theirs cX8_theirs 3 (some .int), Cond.methodLink RX8 98 yX8_next, Cond.instanceMethod yX8_next, Cond.selects RX8 yX8_next yX8_next, Cond.code yX8_next cX8_next 4 (some .int), Cond.methodLink RX8 90 yX8_after, Cond.instanceMethod yX8_after, Cond.selects RX8 yX8_after yX8_after, Cond.code yX8_after cX8_after 6 (some .int), Cond.fieldLink RX8 26 "AgainAgainModel" "nexts" "[I", Cond.methodLink RX8 144 yX8_worthOfRow, Cond.instanceMethod yX8_worthOfRow, Cond.selects RX8 yX8_worthOfRow yX8_worthOfRow, Cond.code yX8_worthOfRow cX8_worthOfRow 7 none, Cond.fieldLink RX8 13 "AgainAgainModel" "up" "I", Cond.fieldLink RX8 17 "AgainAgainModel" "by" "I"]
def wsX8_doesResist_r3 : List Cond := [Cond.methodLink RX8 130 yX8_power, Cond.static yX8_power, Cond.code yX8_power cX8_power 6 (some .long), Cond.methodLink RX8 134 yX8_lowest, Cond.instanceMethod yX8_lowest, Cond.selects RX8 yX8_lowest yX8_lowest, Cond.code yX8_lowest cX8_lowest 11 none]
def wsX8_doesResist : List Cond := .code yX8_doesResist cX8_doesResist 4 (some .boolean) :: ((wsX8_doesResist_r1 ++ (wsX8_doesResist_r2 ++ wsX8_doesResist_r3)) ++ wsX80)
def wsX8_resists_r1 : List Cond := [Cond.methodLink RX8 107 yX8_areBoth, Cond.instanceMethod yX8_areBoth, Cond.selects RX8 yX8_areBoth yX8_areBoth, Cond.initialized RX8, Cond.code yX8_areBoth cX8_areBoth 3 (some .boolean), Cond.methodLink RX8 66 yX8_isMachine, Cond.instanceMethod yX8_isMachine, Cond.selects RX8 yX8_isMachine yX8_isMachine, Cond.code yX8_isMachine cX8_isMachine 2 (some .boolean), Cond.fieldLink RX8 63 "AgainAgainModel" "machines" "I", Cond.methodLink RX8 53 yX8_in, Cond.static yX8_in, Cond.code yX8_in cX8_in 6 (some .boolean), Cond.methodLink RX8 194 yX8_doesResist, Cond.instanceMethod yX8_doesResist, Cond.selects RX8 yX8_doesResist yX8_doesResist, Cond.code yX8_doesResist cX8_doesResist 4 (some .boolean), Cond.methodLink RX8 190 yX8_compare, Cond.instanceMethod yX8_compare, Cond.selects RX8 yX8_compare yX8_compare, Cond.code yX8_compare cX8_compare 13 (some .int), Cond.fieldLink RX8 123 "AgainAgainModel" "over" "J", Cond.fieldLink RX8 127 "AgainAgainModel" "under" "J", Cond.methodLink RX8 147 yX8_findWorth]
def wsX8_resists_r2 : List Cond := [Cond.instanceMethod yX8_findWorth, Cond.selects RX8 yX8_findWorth yX8_findWorth, Cond.code yX8_findWorth cX8_findWorth 4 none, Cond.methodLink RX8 113 yX8_plays, Cond.instanceMethod yX8_plays, Cond.selects RX8 yX8_plays yX8_plays, Cond.code yX8_plays cX8_plays 6 none, Cond.fieldLink RX8 41 "AgainAgainModel" "seenAt" "[I", Cond.fieldLink RX8 38 "AgainAgainModel" "row" "[I", Cond.fieldLink RX8 101 "AgainAgainModel" "tail" "I", Cond.fieldLink RX8 104 "AgainAgainModel" "ring" "I", Cond.methodLink RX8 94 yX8_payOf, Cond.instanceMethod yX8_payOf, Cond.selects RX8 yX8_payOf yX8_payOf, Cond.code yX8_payOf cX8_payOf 4 (some .int), Cond.fieldLink RX8 7 "AgainAgainModel" "pays" "[I", Cond.methodLink RX8 83 yX8_mine, Cond.instanceMethod yX8_mine, Cond.selects RX8 yX8_mine yX8_mine, Cond.code yX8_mine cX8_mine 3 (some .int), Cond.fieldLink RX8 23 "AgainAgainModel" "acts" "[I", Cond.methodLink RX8 87 yX8_theirs, Cond.instanceMethod yX8_theirs, Cond.selects RX8 yX8_theirs yX8_theirs]
def wsX8_resists_r3 : List Cond := [Cond.code yX8_theirs cX8_theirs 3 (some .int), Cond.methodLink RX8 98 yX8_next, Cond.instanceMethod yX8_next, Cond.selects RX8 yX8_next yX8_next, Cond.code yX8_next cX8_next 4 (some .int), Cond.methodLink RX8 90 yX8_after, Cond.instanceMethod yX8_after, Cond.selects RX8 yX8_after yX8_after, Cond.code yX8_after cX8_after 6 (some .int), Cond.fieldLink RX8 26 "AgainAgainModel" "nexts" "[I", Cond.methodLink RX8 144 yX8_worthOfRow, Cond.instanceMethod yX8_worthOfRow, Cond.selects RX8 yX8_worthOfRow yX8_worthOfRow, Cond.code yX8_worthOfRow cX8_worthOfRow 7 none, Cond.fieldLink RX8 13 "AgainAgainModel" "up" "I", Cond.fieldLink RX8 17 "AgainAgainModel" "by" "I", Cond.methodLink RX8 130 yX8_power, Cond.static yX8_power, Cond.code yX8_power cX8_power 6 (some .long), Cond.methodLink RX8 134 yX8_lowest, Cond.instanceMethod yX8_lowest, Cond.selects RX8 yX8_lowest yX8_lowest, Cond.code yX8_lowest cX8_lowest 11 none]
def wsX8_resists : List Cond := .code yX8_resists cX8_resists 3 (some .int) :: ((wsX8_resists_r1 ++ (wsX8_resists_r2 ++ wsX8_resists_r3)) ++ wsX80)
def wsX8_invaders_r1 : List Cond := [Cond.fieldLink RX8 63 "AgainAgainModel" "machines" "I", Cond.methodLink RX8 66 yX8_isMachine, Cond.instanceMethod yX8_isMachine, Cond.selects RX8 yX8_isMachine yX8_isMachine, Cond.initialized RX8, Cond.code yX8_isMachine cX8_isMachine 2 (some .boolean), Cond.methodLink RX8 53 yX8_in, Cond.static yX8_in, Cond.code yX8_in cX8_in 6 (some .boolean), Cond.methodLink RX8 194 yX8_doesResist, Cond.instanceMethod yX8_doesResist, Cond.selects RX8 yX8_doesResist yX8_doesResist, Cond.code yX8_doesResist cX8_doesResist 4 (some .boolean), Cond.methodLink RX8 190 yX8_compare, Cond.instanceMethod yX8_compare, Cond.selects RX8 yX8_compare yX8_compare, Cond.code yX8_compare cX8_compare 13 (some .int), Cond.fieldLink RX8 123 "AgainAgainModel" "over" "J", Cond.fieldLink RX8 127 "AgainAgainModel" "under" "J", Cond.methodLink RX8 147 yX8_findWorth, Cond.instanceMethod yX8_findWorth, Cond.selects RX8 yX8_findWorth yX8_findWorth, Cond.code yX8_findWorth cX8_findWorth 4 none, Cond.methodLink RX8 113 yX8_plays]
def wsX8_invaders_r2 : List Cond := [Cond.instanceMethod yX8_plays, Cond.selects RX8 yX8_plays yX8_plays, Cond.code yX8_plays cX8_plays 6 none, Cond.fieldLink RX8 41 "AgainAgainModel" "seenAt" "[I", Cond.fieldLink RX8 38 "AgainAgainModel" "row" "[I", Cond.fieldLink RX8 101 "AgainAgainModel" "tail" "I", Cond.fieldLink RX8 104 "AgainAgainModel" "ring" "I", Cond.methodLink RX8 94 yX8_payOf, Cond.instanceMethod yX8_payOf, Cond.selects RX8 yX8_payOf yX8_payOf, Cond.code yX8_payOf cX8_payOf 4 (some .int), Cond.fieldLink RX8 7 "AgainAgainModel" "pays" "[I", Cond.methodLink RX8 83 yX8_mine, Cond.instanceMethod yX8_mine, Cond.selects RX8 yX8_mine yX8_mine, Cond.code yX8_mine cX8_mine 3 (some .int), Cond.fieldLink RX8 23 "AgainAgainModel" "acts" "[I", Cond.methodLink RX8 87 yX8_theirs, Cond.instanceMethod yX8_theirs, Cond.selects RX8 yX8_theirs yX8_theirs, Cond.code yX8_theirs cX8_theirs 3 (some .int), Cond.methodLink RX8 98 yX8_next, Cond.instanceMethod yX8_next, Cond.selects RX8 yX8_next yX8_next]
def wsX8_invaders_r3 : List Cond := [Cond.code yX8_next cX8_next 4 (some .int), Cond.methodLink RX8 90 yX8_after, Cond.instanceMethod yX8_after, Cond.selects RX8 yX8_after yX8_after, Cond.code yX8_after cX8_after 6 (some .int), Cond.fieldLink RX8 26 "AgainAgainModel" "nexts" "[I", Cond.methodLink RX8 144 yX8_worthOfRow, Cond.instanceMethod yX8_worthOfRow, Cond.selects RX8 yX8_worthOfRow yX8_worthOfRow, Cond.code yX8_worthOfRow cX8_worthOfRow 7 none, Cond.fieldLink RX8 13 "AgainAgainModel" "up" "I", Cond.fieldLink RX8 17 "AgainAgainModel" "by" "I", Cond.methodLink RX8 130 yX8_power, Cond.static yX8_power, Cond.code yX8_power cX8_power 6 (some .long), Cond.methodLink RX8 134 yX8_lowest, Cond.instanceMethod yX8_lowest, Cond.selects RX8 yX8_lowest yX8_lowest, Cond.code yX8_lowest cX8_lowest 11 none]
def wsX8_invaders : List Cond := .code yX8_invaders cX8_invaders 4 (some .int) :: ((wsX8_invaders_r1 ++ (wsX8_invaders_r2 ++ wsX8_invaders_r3)) ++ wsX80)
def wsX8_scoreOf_r1 : List Cond := [Cond.fieldLink RX8 63 "AgainAgainModel" "machines" "I", Cond.methodLink RX8 120 yX8_sumUp, Cond.instanceMethod yX8_sumUp, Cond.selects RX8 yX8_sumUp yX8_sumUp, Cond.initialized RX8, Cond.code yX8_sumUp cX8_sumUp 7 (some .int), Cond.methodLink RX8 94 yX8_payOf, Cond.instanceMethod yX8_payOf, Cond.selects RX8 yX8_payOf yX8_payOf, Cond.code yX8_payOf cX8_payOf 4 (some .int), Cond.fieldLink RX8 7 "AgainAgainModel" "pays" "[I", Cond.methodLink RX8 83 yX8_mine, Cond.instanceMethod yX8_mine, Cond.selects RX8 yX8_mine yX8_mine, Cond.code yX8_mine cX8_mine 3 (some .int), Cond.fieldLink RX8 23 "AgainAgainModel" "acts" "[I", Cond.methodLink RX8 87 yX8_theirs, Cond.instanceMethod yX8_theirs, Cond.selects RX8 yX8_theirs yX8_theirs, Cond.code yX8_theirs cX8_theirs 3 (some .int), Cond.methodLink RX8 98 yX8_next, Cond.instanceMethod yX8_next, Cond.selects RX8 yX8_next yX8_next, Cond.code yX8_next cX8_next 4 (some .int)]
def wsX8_scoreOf_r2 : List Cond := [Cond.methodLink RX8 90 yX8_after, Cond.instanceMethod yX8_after, Cond.selects RX8 yX8_after yX8_after, Cond.code yX8_after cX8_after 6 (some .int), Cond.fieldLink RX8 26 "AgainAgainModel" "nexts" "[I"]
def wsX8_scoreOf : List Cond := .code yX8_scoreOf cX8_scoreOf 5 (some .int) :: ((wsX8_scoreOf_r1 ++ wsX8_scoreOf_r2) ++ wsX80)
def wsX8_score_r1 : List Cond := [Cond.constantLong RX8 110 (1000), Cond.constant RX8 112 (-1000000), Cond.methodLink RX8 66 yX8_isMachine, Cond.instanceMethod yX8_isMachine, Cond.selects RX8 yX8_isMachine yX8_isMachine, Cond.initialized RX8, Cond.code yX8_isMachine cX8_isMachine 2 (some .boolean), Cond.fieldLink RX8 63 "AgainAgainModel" "machines" "I", Cond.methodLink RX8 53 yX8_in, Cond.static yX8_in, Cond.code yX8_in cX8_in 6 (some .boolean), Cond.methodLink RX8 197 yX8_scoreOf, Cond.instanceMethod yX8_scoreOf, Cond.selects RX8 yX8_scoreOf yX8_scoreOf, Cond.code yX8_scoreOf cX8_scoreOf 5 (some .int), Cond.methodLink RX8 120 yX8_sumUp, Cond.instanceMethod yX8_sumUp, Cond.selects RX8 yX8_sumUp yX8_sumUp, Cond.code yX8_sumUp cX8_sumUp 7 (some .int), Cond.methodLink RX8 94 yX8_payOf, Cond.instanceMethod yX8_payOf, Cond.selects RX8 yX8_payOf yX8_payOf, Cond.code yX8_payOf cX8_payOf 4 (some .int), Cond.fieldLink RX8 7 "AgainAgainModel" "pays" "[I"]
def wsX8_score_r2 : List Cond := [Cond.methodLink RX8 83 yX8_mine, Cond.instanceMethod yX8_mine, Cond.selects RX8 yX8_mine yX8_mine, Cond.code yX8_mine cX8_mine 3 (some .int), Cond.fieldLink RX8 23 "AgainAgainModel" "acts" "[I", Cond.methodLink RX8 87 yX8_theirs, Cond.instanceMethod yX8_theirs, Cond.selects RX8 yX8_theirs yX8_theirs, Cond.code yX8_theirs cX8_theirs 3 (some .int), Cond.methodLink RX8 98 yX8_next, Cond.instanceMethod yX8_next, Cond.selects RX8 yX8_next yX8_next, Cond.code yX8_next cX8_next 4 (some .int), Cond.methodLink RX8 90 yX8_after, Cond.instanceMethod yX8_after, Cond.selects RX8 yX8_after yX8_after, Cond.code yX8_after cX8_after 6 (some .int), Cond.fieldLink RX8 26 "AgainAgainModel" "nexts" "[I"]
def wsX8_score : List Cond := .code yX8_score cX8_score 3 (some .int) :: ((wsX8_score_r1 ++ wsX8_score_r2) ++ wsX80)
def wsX8_place_r1 : List Cond := [Cond.constantLong RX8 110 (1000), Cond.fieldLink RX8 63 "AgainAgainModel" "machines" "I", Cond.fieldLink RX8 48 "AgainAgainModel" "scores" "[I", Cond.methodLink RX8 53 yX8_in, Cond.static yX8_in, Cond.initialized RX8, Cond.code yX8_in cX8_in 6 (some .boolean), Cond.methodLink RX8 197 yX8_scoreOf, Cond.instanceMethod yX8_scoreOf, Cond.selects RX8 yX8_scoreOf yX8_scoreOf, Cond.code yX8_scoreOf cX8_scoreOf 5 (some .int), Cond.methodLink RX8 120 yX8_sumUp, Cond.instanceMethod yX8_sumUp, Cond.selects RX8 yX8_sumUp yX8_sumUp, Cond.code yX8_sumUp cX8_sumUp 7 (some .int), Cond.methodLink RX8 94 yX8_payOf, Cond.instanceMethod yX8_payOf, Cond.selects RX8 yX8_payOf yX8_payOf, Cond.code yX8_payOf cX8_payOf 4 (some .int), Cond.fieldLink RX8 7 "AgainAgainModel" "pays" "[I", Cond.methodLink RX8 83 yX8_mine, Cond.instanceMethod yX8_mine, Cond.selects RX8 yX8_mine yX8_mine, Cond.code yX8_mine cX8_mine 3 (some .int)]
def wsX8_place_r2 : List Cond := [Cond.fieldLink RX8 23 "AgainAgainModel" "acts" "[I", Cond.methodLink RX8 87 yX8_theirs, Cond.instanceMethod yX8_theirs, Cond.selects RX8 yX8_theirs yX8_theirs, Cond.code yX8_theirs cX8_theirs 3 (some .int), Cond.methodLink RX8 98 yX8_next, Cond.instanceMethod yX8_next, Cond.selects RX8 yX8_next yX8_next, Cond.code yX8_next cX8_next 4 (some .int), Cond.methodLink RX8 90 yX8_after, Cond.instanceMethod yX8_after, Cond.selects RX8 yX8_after yX8_after, Cond.code yX8_after cX8_after 6 (some .int), Cond.fieldLink RX8 26 "AgainAgainModel" "nexts" "[I"]
def wsX8_place : List Cond := .code yX8_place cX8_place 6 (some .int) :: ((wsX8_place_r1 ++ wsX8_place_r2) ++ wsX80)
def wsX8_count_r1 : List Cond := [Cond.fieldLink RX8 63 "AgainAgainModel" "machines" "I", Cond.fieldLink RX8 29 "AgainAgainModel" "lanes" "[I", Cond.fieldLink RX8 32 "AgainAgainModel" "sizes" "[I", Cond.methodLink RX8 156 yX8_areLike, Cond.instanceMethod yX8_areLike, Cond.selects RX8 yX8_areLike yX8_areLike, Cond.initialized RX8, Cond.code yX8_areLike cX8_areLike 3 (some .boolean), Cond.fieldLink RX8 44 "AgainAgainModel" "unlike" "[Z", Cond.methodLink RX8 152 yX8_findUnlike, Cond.instanceMethod yX8_findUnlike, Cond.selects RX8 yX8_findUnlike yX8_findUnlike, Cond.code yX8_findUnlike cX8_findUnlike 7 none, Cond.fieldLink RX8 20 "AgainAgainModel" "many" "[I", Cond.fieldLink RX8 23 "AgainAgainModel" "acts" "[I", Cond.fieldLink RX8 26 "AgainAgainModel" "nexts" "[I", Cond.methodLink RX8 184 yX8_rests, Cond.instanceMethod yX8_rests, Cond.selects RX8 yX8_rests yX8_rests, Cond.code yX8_rests cX8_rests 4 (some .boolean), Cond.methodLink RX8 177 yX8_isBest, Cond.instanceMethod yX8_isBest, Cond.selects RX8 yX8_isBest yX8_isBest, Cond.code yX8_isBest cX8_isBest 4 (some .boolean)]
def wsX8_count_r2 : List Cond := [Cond.fieldLink RX8 123 "AgainAgainModel" "over" "J", Cond.fieldLink RX8 171 "AgainAgainModel" "bestOver" "J", Cond.fieldLink RX8 127 "AgainAgainModel" "under" "J", Cond.fieldLink RX8 168 "AgainAgainModel" "bestUnder" "J", Cond.methodLink RX8 174 yX8_findBest, Cond.instanceMethod yX8_findBest, Cond.selects RX8 yX8_findBest yX8_findBest, Cond.code yX8_findBest cX8_findBest 4 none, Cond.fieldLink RX8 159 "AgainAgainModel" "bestPlan" "I", Cond.methodLink RX8 162 yX8_plans, Cond.instanceMethod yX8_plans, Cond.selects RX8 yX8_plans yX8_plans, Cond.code yX8_plans cX8_plans 2 (some .int), Cond.constantLong RX8 74 (3), Cond.methodLink RX8 130 yX8_power, Cond.static yX8_power, Cond.code yX8_power cX8_power 6 (some .long), Cond.methodLink RX8 165 yX8_findPlanWorth, Cond.instanceMethod yX8_findPlanWorth, Cond.selects RX8 yX8_findPlanWorth yX8_findPlanWorth, Cond.code yX8_findPlanWorth cX8_findPlanWorth 7 none, Cond.fieldLink RX8 41 "AgainAgainModel" "seenAt" "[I", Cond.fieldLink RX8 38 "AgainAgainModel" "row" "[I", Cond.fieldLink RX8 7 "AgainAgainModel" "pays" "[I"]
def wsX8_count_r3 : List Cond := [Cond.fieldLink RX8 101 "AgainAgainModel" "tail" "I", Cond.fieldLink RX8 104 "AgainAgainModel" "ring" "I", Cond.methodLink RX8 144 yX8_worthOfRow, Cond.instanceMethod yX8_worthOfRow, Cond.selects RX8 yX8_worthOfRow yX8_worthOfRow, Cond.code yX8_worthOfRow cX8_worthOfRow 7 none, Cond.fieldLink RX8 13 "AgainAgainModel" "up" "I", Cond.fieldLink RX8 17 "AgainAgainModel" "by" "I", Cond.methodLink RX8 134 yX8_lowest, Cond.instanceMethod yX8_lowest, Cond.selects RX8 yX8_lowest yX8_lowest, Cond.code yX8_lowest cX8_lowest 11 none, Cond.methodLink RX8 147 yX8_findWorth, Cond.instanceMethod yX8_findWorth, Cond.selects RX8 yX8_findWorth yX8_findWorth, Cond.code yX8_findWorth cX8_findWorth 4 none, Cond.methodLink RX8 113 yX8_plays, Cond.instanceMethod yX8_plays, Cond.selects RX8 yX8_plays yX8_plays, Cond.code yX8_plays cX8_plays 6 none, Cond.methodLink RX8 94 yX8_payOf, Cond.instanceMethod yX8_payOf, Cond.selects RX8 yX8_payOf yX8_payOf, Cond.code yX8_payOf cX8_payOf 4 (some .int)]
def wsX8_count_r4 : List Cond := [Cond.methodLink RX8 83 yX8_mine, Cond.instanceMethod yX8_mine, Cond.selects RX8 yX8_mine yX8_mine, Cond.code yX8_mine cX8_mine 3 (some .int), Cond.methodLink RX8 87 yX8_theirs, Cond.instanceMethod yX8_theirs, Cond.selects RX8 yX8_theirs yX8_theirs, Cond.code yX8_theirs cX8_theirs 3 (some .int), Cond.methodLink RX8 98 yX8_next, Cond.instanceMethod yX8_next, Cond.selects RX8 yX8_next yX8_next, Cond.code yX8_next cX8_next 4 (some .int), Cond.methodLink RX8 90 yX8_after, Cond.instanceMethod yX8_after, Cond.selects RX8 yX8_after yX8_after, Cond.code yX8_after cX8_after 6 (some .int), Cond.methodLink RX8 181 yX8_turned, Cond.static yX8_turned, Cond.code yX8_turned cX8_turned 1 (some .int)]
def wsX8_count : List Cond := .code yX8_count cX8_count 6 (some .int) :: ((wsX8_count_r1 ++ (wsX8_count_r2 ++ (wsX8_count_r3 ++ wsX8_count_r4))) ++ wsX80)
def wsJ9_abs_067f4 : List Cond := .code yJ9_abs_067f4 cJ9_abs_067f4 2 (some .long) :: ([])
def wsL_law_r1 : List Cond := [Cond.classLink RL 7 RX7, Cond.instantiable RX7 10, Cond.initialized RX7, Cond.classLink RL 10 RX8, Cond.instantiable RX8 21, Cond.initialized RX8, Cond.methodLink RL 9 yX7_init, Cond.instanceMethod yX7_init, Cond.code yX7_init cX7_init 1 none, Cond.methodLink RX7 3 objectInit, Cond.instanceMethod objectInit, Cond.code objectInit ⟨#[0xb1]⟩ 1 none, Cond.classLink RX7 1 RX0, Cond.instantiable RX0 3, Cond.initialized RX0, Cond.fieldLink RX7 10 "AgainAgain" "game" "LAgainAgain$Game;", Cond.classLink RX7 16 RX2, Cond.instantiable RX2 4, Cond.initialized RX2, Cond.fieldLink RX7 19 "AgainAgain" "machines" "LAgainAgain$Machines;", Cond.classLink RX7 23 RX5, Cond.instantiable RX5 3, Cond.initialized RX5, Cond.fieldLink RX7 26 "AgainAgain" "sheets" "LAgainAgain$Sheets;"]
def wsL_law_r2 : List Cond := [Cond.classLink RX7 30 RX1, Cond.instantiable RX1 1, Cond.initialized RX1, Cond.fieldLink RX7 33 "AgainAgain" "likeness" "LAgainAgain$Likeness;", Cond.classLink RX7 37 RX3, Cond.instantiable RX3 5, Cond.initialized RX3, Cond.fieldLink RX7 40 "AgainAgain" "plans" "LAgainAgain$Plans;", Cond.classLink RX7 44 RX6, Cond.instantiable RX6 6, Cond.initialized RX6, Cond.fieldLink RX7 47 "AgainAgain" "walk" "LAgainAgain$Walk;", Cond.fieldLink RX7 51 "AgainAgain" "back" "LAgainAgain$Walk;", Cond.classLink RX7 54 RX4, Cond.instantiable RX4 2, Cond.initialized RX4, Cond.fieldLink RX7 57 "AgainAgain" "ratio" "LAgainAgain$Ratio;", Cond.fieldLink RX7 61 "AgainAgain" "other" "LAgainAgain$Ratio;", Cond.arrayClass .int, Cond.fieldLink RX7 64 "AgainAgain" "scores" "[I", Cond.instanceMethod yX0_init, Cond.code yX0_init cX0_init 1 none, Cond.methodLink RX0 1 objectInit, Cond.fieldLink RX0 9 "AgainAgain$Game" "gains" "[I"]
def wsL_law_r3 : List Cond := [Cond.fieldLink RX0 13 "AgainAgain$Game" "over" "J", Cond.constantLong RX0 17 (2), Cond.fieldLink RX0 19 "AgainAgain$Game" "under" "J", Cond.instanceMethod yX2_init, Cond.code yX2_init cX2_init 1 none, Cond.methodLink RX2 1 objectInit, Cond.fieldLink RX2 9 "AgainAgain$Machines" "sizes" "[I", Cond.fieldLink RX2 13 "AgainAgain$Machines" "actions" "[I", Cond.fieldLink RX2 18 "AgainAgain$Machines" "nexts" "[I", Cond.fieldLink RX2 21 "AgainAgain$Machines" "many" "I", Cond.methodLink RX7 25 yX5_init, Cond.instanceMethod yX5_init, Cond.code yX5_init cX5_init 1 none, Cond.methodLink RX5 1 objectInit, Cond.fieldLink RX5 9 "AgainAgain$Sheets" "lanes" "[I", Cond.fieldLink RX5 13 "AgainAgain$Sheets" "sizes" "[I", Cond.fieldLink RX5 16 "AgainAgain$Sheets" "cells" "[I", Cond.methodLink RX5 19 yJ7_fill_53178, Cond.static yJ7_fill_53178, Cond.initialized RJ7, Cond.code yJ7_fill_53178 cJ7_fill_53178 4 none, Cond.instanceMethod yX1_init, Cond.code yX1_init cX1_init 1 none, Cond.methodLink RX1 1 objectInit]
def wsL_law_r4 : List Cond := [Cond.fieldLink RX1 9 "AgainAgain$Likeness" "pairs" "[I", Cond.instanceMethod yX3_init, Cond.code yX3_init cX3_init 1 none, Cond.methodLink RX3 3 objectInit, Cond.fieldLink RX3 11 "AgainAgain$Plans" "plans" "[I", Cond.arrayClass .long, Cond.fieldLink RX3 15 "AgainAgain$Plans" "tops" "[J", Cond.fieldLink RX3 19 "AgainAgain$Plans" "bottoms" "[J", Cond.classLink RX3 22 RX6, Cond.fieldLink RX3 25 "AgainAgain$Plans" "walk" "LAgainAgain$Walk;", Cond.classLink RX3 29 RX4, Cond.fieldLink RX3 32 "AgainAgain$Plans" "tried" "LAgainAgain$Ratio;", Cond.instanceMethod yX6_init, Cond.code yX6_init cX6_init 1 none, Cond.methodLink RX6 5 objectInit, Cond.fieldLink RX6 11 "AgainAgain$Walk" "nexts" "[I", Cond.fieldLink RX6 15 "AgainAgain$Walk" "gains" "[I", Cond.fieldLink RX6 18 "AgainAgain$Walk" "firstMet" "[I", Cond.fieldLink RX6 21 "AgainAgain$Walk" "path" "[I", Cond.fieldLink RX6 24 "AgainAgain$Walk" "tail" "I", Cond.fieldLink RX6 28 "AgainAgain$Walk" "ring" "I", Cond.instanceMethod yX4_init, Cond.code yX4_init cX4_init 1 none, Cond.methodLink RX4 1 objectInit]
def wsL_law_r5 : List Cond := [Cond.fieldLink RX4 7 "AgainAgain$Ratio" "top" "J", Cond.fieldLink RX4 13 "AgainAgain$Ratio" "bottom" "J", Cond.methodLink RL 12 yX8_init, Cond.instanceMethod yX8_init, Cond.code yX8_init cX8_init 2 none, Cond.methodLink RX8 1 objectInit, Cond.fieldLink RX8 7 "AgainAgainModel" "pays" "[I", Cond.fieldLink RX8 13 "AgainAgainModel" "up" "I", Cond.fieldLink RX8 17 "AgainAgainModel" "by" "I", Cond.fieldLink RX8 20 "AgainAgainModel" "many" "[I", Cond.fieldLink RX8 23 "AgainAgainModel" "acts" "[I", Cond.fieldLink RX8 26 "AgainAgainModel" "nexts" "[I", Cond.fieldLink RX8 29 "AgainAgainModel" "lanes" "[I", Cond.fieldLink RX8 32 "AgainAgainModel" "sizes" "[I", Cond.fieldLink RX8 35 "AgainAgainModel" "cells" "[I", Cond.fieldLink RX8 38 "AgainAgainModel" "row" "[I", Cond.fieldLink RX8 41 "AgainAgainModel" "seenAt" "[I", Cond.arrayClass .boolean, Cond.fieldLink RX8 44 "AgainAgainModel" "unlike" "[Z", Cond.fieldLink RX8 48 "AgainAgainModel" "scores" "[I", Cond.methodLink RL 13 yX7_pay, Cond.instanceMethod yX7_pay, Cond.selects RX7 yX7_pay yX7_pay, Cond.code yX7_pay cX7_pay 4 (some .int)]
def wsL_law_r6 : List Cond := [Cond.methodLink RX7 68 yX7_isAction, Cond.static yX7_isAction, Cond.code yX7_isAction cX7_isAction 1 (some .boolean), Cond.methodLink RX7 72 yX7_within, Cond.static yX7_within, Cond.code yX7_within cX7_within 3 (some .boolean), Cond.methodLink RX7 76 yX0_setGain, Cond.instanceMethod yX0_setGain, Cond.selects RX0 yX0_setGain yX0_setGain, Cond.code yX0_setGain cX0_setGain 4 none, Cond.methodLink RL 17 yX8_pay, Cond.instanceMethod yX8_pay, Cond.selects RX8 yX8_pay yX8_pay, Cond.code yX8_pay cX8_pay 4 (some .int), Cond.constantLong RX8 51 (2), Cond.constantLong RX8 57 (-50), Cond.constantLong RX8 59 (50), Cond.methodLink RX8 53 yX8_in, Cond.static yX8_in, Cond.code yX8_in cX8_in 6 (some .boolean), Cond.methodLink RL 18 yX7_discount, Cond.instanceMethod yX7_discount, Cond.selects RX7 yX7_discount yX7_discount, Cond.code yX7_discount cX7_discount 3 (some .int)]
def wsL_law_r7 : List Cond := [Cond.methodLink RX7 80 yX0_setRate, Cond.instanceMethod yX0_setRate, Cond.selects RX0 yX0_setRate yX0_setRate, Cond.code yX0_setRate cX0_setRate 3 none, Cond.methodLink RL 22 yX8_discount, Cond.instanceMethod yX8_discount, Cond.selects RX8 yX8_discount yX8_discount, Cond.code yX8_discount cX8_discount 3 (some .int), Cond.constantLong RX8 61 (4), Cond.methodLink RL 23 yX7_machine, Cond.instanceMethod yX7_machine, Cond.selects RX7 yX7_machine yX7_machine, Cond.code yX7_machine cX7_machine 2 (some .int), Cond.methodLink RX7 84 yX2_isFull, Cond.instanceMethod yX2_isFull, Cond.selects RX2 yX2_isFull yX2_isFull, Cond.code yX2_isFull cX2_isFull 1 (some .boolean), Cond.methodLink RX7 88 yX2_add, Cond.instanceMethod yX2_add, Cond.selects RX2 yX2_add yX2_add, Cond.code yX2_add cX2_add 5 (some .int), Cond.methodLink RX2 29 yX2_setAction, Cond.instanceMethod yX2_setAction, Cond.selects RX2 yX2_setAction yX2_setAction]
def wsL_law_r8 : List Cond := [Cond.code yX2_setAction cX2_setAction 4 none, Cond.methodLink RX2 33 yX2_setNext, Cond.instanceMethod yX2_setNext, Cond.selects RX2 yX2_setNext yX2_setNext, Cond.code yX2_setNext cX2_setNext 5 none, Cond.methodLink RL 27 yX8_machine, Cond.instanceMethod yX8_machine, Cond.selects RX8 yX8_machine yX8_machine, Cond.code yX8_machine cX8_machine 4 (some .int), Cond.fieldLink RX8 63 "AgainAgainModel" "machines" "I", Cond.methodLink RL 28 yX7_does, Cond.instanceMethod yX7_does, Cond.selects RX7 yX7_does yX7_does, Cond.code yX7_does cX7_does 4 (some .int), Cond.methodLink RX7 92 yX2_hasState, Cond.instanceMethod yX2_hasState, Cond.selects RX2 yX2_hasState yX2_hasState, Cond.code yX2_hasState cX2_hasState 3 (some .boolean), Cond.methodLink RX2 25 yX2_has, Cond.instanceMethod yX2_has, Cond.selects RX2 yX2_has yX2_has, Cond.code yX2_has cX2_has 2 (some .boolean), Cond.methodLink RX7 96 yX2_setAction, Cond.methodLink RL 31 yX8_does]
def wsL_law_r9 : List Cond := [Cond.instanceMethod yX8_does, Cond.selects RX8 yX8_does yX8_does, Cond.code yX8_does cX8_does 4 (some .int), Cond.methodLink RX8 70 yX8_isState, Cond.instanceMethod yX8_isState, Cond.selects RX8 yX8_isState yX8_isState, Cond.code yX8_isState cX8_isState 3 (some .boolean), Cond.methodLink RX8 66 yX8_isMachine, Cond.instanceMethod yX8_isMachine, Cond.selects RX8 yX8_isMachine yX8_isMachine, Cond.code yX8_isMachine cX8_isMachine 2 (some .boolean), Cond.methodLink RL 32 yX7_goes, Cond.instanceMethod yX7_goes, Cond.selects RX7 yX7_goes yX7_goes, Cond.code yX7_goes cX7_goes 5 (some .int), Cond.methodLink RX7 99 yX2_setNext, Cond.methodLink RL 36 yX8_goes, Cond.instanceMethod yX8_goes, Cond.selects RX8 yX8_goes yX8_goes, Cond.code yX8_goes cX8_goes 5 (some .int), Cond.methodLink RL 37 yX7_told, Cond.instanceMethod yX7_told, Cond.selects RX7 yX7_told yX7_told, Cond.code yX7_told cX7_told 4 (some .int)]
def wsL_law_r10 : List Cond := [Cond.methodLink RX7 103 yX2_actionOf, Cond.instanceMethod yX2_actionOf, Cond.selects RX2 yX2_actionOf yX2_actionOf, Cond.code yX2_actionOf cX2_actionOf 3 (some .int), Cond.methodLink RX7 107 yX2_nextOf, Cond.instanceMethod yX2_nextOf, Cond.selects RX2 yX2_nextOf yX2_nextOf, Cond.code yX2_nextOf cX2_nextOf 4 (some .int), Cond.methodLink RL 40 yX8_told, Cond.instanceMethod yX8_told, Cond.selects RX8 yX8_told yX8_told, Cond.code yX8_told cX8_told 4 (some .int), Cond.constantLong RX8 74 (3), Cond.methodLink RL 41 yX7_drop, Cond.instanceMethod yX7_drop, Cond.selects RX7 yX7_drop yX7_drop, Cond.code yX7_drop cX7_drop 1 (some .int), Cond.methodLink RX7 111 yX2_many, Cond.instanceMethod yX2_many, Cond.selects RX2 yX2_many yX2_many, Cond.code yX2_many cX2_many 1 (some .int), Cond.methodLink RX7 115 yX2_removeLatest, Cond.instanceMethod yX2_removeLatest, Cond.selects RX2 yX2_removeLatest yX2_removeLatest]
def wsL_law_r11 : List Cond := [Cond.code yX2_removeLatest cX2_removeLatest 1 (some .int), Cond.methodLink RL 45 yX8_drop, Cond.instanceMethod yX8_drop, Cond.selects RX8 yX8_drop yX8_drop, Cond.code yX8_drop cX8_drop 1 (some .int), Cond.methodLink RL 46 yX7_sheet, Cond.instanceMethod yX7_sheet, Cond.selects RX7 yX7_sheet yX7_sheet, Cond.code yX7_sheet cX7_sheet 4 (some .int), Cond.methodLink RX7 118 yX5_isSheet, Cond.static yX5_isSheet, Cond.code yX5_isSheet cX5_isSheet 1 (some .boolean), Cond.methodLink RX7 121 yX5_isLane, Cond.static yX5_isLane, Cond.code yX5_isLane cX5_isLane 1 (some .boolean), Cond.methodLink RX7 124 yX5_layOut, Cond.instanceMethod yX5_layOut, Cond.selects RX5 yX5_layOut yX5_layOut, Cond.code yX5_layOut cX5_layOut 4 none, Cond.methodLink RX5 25 yJ7_fill_fda19, Cond.static yJ7_fill_fda19, Cond.code yJ7_fill_fda19 cJ7_fill_fda19 5 none, Cond.methodLink RJ7 13 yJ7_rangeCheck_23922, Cond.static yJ7_rangeCheck_23922]
def wsL_law_r12 : List Cond := [Cond.code yJ7_rangeCheck_23922 cJ7_rangeCheck_23922 3 none, Cond.methodLink RL 49 yX8_sheet, Cond.instanceMethod yX8_sheet, Cond.selects RX8 yX8_sheet yX8_sheet, Cond.code yX8_sheet cX8_sheet 5 (some .int), Cond.methodLink RX8 76 yX8_isSheet, Cond.static yX8_isSheet, Cond.code yX8_isSheet cX8_isSheet 2 (some .boolean), Cond.methodLink RL 50 yX7_lay, Cond.instanceMethod yX7_lay, Cond.selects RX7 yX7_lay yX7_lay, Cond.code yX7_lay cX7_lay 4 (some .int), Cond.methodLink RX7 127 yX5_isThere, Cond.instanceMethod yX5_isThere, Cond.selects RX5 yX5_isThere yX5_isThere, Cond.code yX5_isThere cX5_isThere 2 (some .boolean), Cond.methodLink RX7 130 yX5_hasCell, Cond.instanceMethod yX5_hasCell, Cond.selects RX5 yX5_hasCell yX5_hasCell, Cond.code yX5_hasCell cX5_hasCell 3 (some .boolean), Cond.methodLink RX7 133 yX5_setCell, Cond.instanceMethod yX5_setCell, Cond.selects RX5 yX5_setCell yX5_setCell, Cond.code yX5_setCell cX5_setCell 4 none]
def wsL_law_r13 : List Cond := [Cond.methodLink RX5 28 yX5_lowestBits, Cond.static yX5_lowestBits, Cond.code yX5_lowestBits cX5_lowestBits 2 (some .int), Cond.methodLink RL 53 yX8_lay, Cond.instanceMethod yX8_lay, Cond.selects RX8 yX8_lay yX8_lay, Cond.code yX8_lay cX8_lay 4 (some .int), Cond.methodLink RL 54 yX7_draw, Cond.instanceMethod yX7_draw, Cond.selects RX7 yX7_draw yX7_draw, Cond.code yX7_draw cX7_draw 6 (some .int), Cond.methodLink RX7 136 yX5_laneOf, Cond.instanceMethod yX5_laneOf, Cond.selects RX5 yX5_laneOf yX5_laneOf, Cond.code yX5_laneOf cX5_laneOf 2 (some .int), Cond.methodLink RX7 139 yX7_cellFault, Cond.instanceMethod yX7_cellFault, Cond.selects RX7 yX7_cellFault yX7_cellFault, Cond.code yX7_cellFault cX7_cellFault 6 (some .int), Cond.methodLink RX7 269 yX5_cell, Cond.instanceMethod yX5_cell, Cond.selects RX5 yX5_cell yX5_cell, Cond.code yX5_cell cX5_cell 3 (some .int), Cond.methodLink RX7 142 yX7_readMachine]
def wsL_law_r14 : List Cond := [Cond.instanceMethod yX7_readMachine, Cond.selects RX7 yX7_readMachine yX7_readMachine, Cond.code yX7_readMachine cX7_readMachine 8 (some .int), Cond.methodLink RL 57 yX8_draw, Cond.instanceMethod yX8_draw, Cond.selects RX8 yX8_draw yX8_draw, Cond.code yX8_draw cX8_draw 8 (some .int), Cond.methodLink RX8 79 yX8_machine, Cond.methodLink RL 58 yX7_action, Cond.instanceMethod yX7_action, Cond.selects RX7 yX7_action yX7_action, Cond.code yX7_action cX7_action 4 (some .int), Cond.methodLink RX7 145 yX7_areMachines, Cond.instanceMethod yX7_areMachines, Cond.selects RX7 yX7_areMachines yX7_areMachines, Cond.code yX7_areMachines cX7_areMachines 3 (some .boolean), Cond.methodLink RX7 201 yX2_has, Cond.methodLink RX7 148 yX7_playOut, Cond.instanceMethod yX7_playOut, Cond.selects RX7 yX7_playOut yX7_playOut, Cond.code yX7_playOut cX7_playOut 3 none, Cond.methodLink RX7 272 yX6_takeMatch, Cond.instanceMethod yX6_takeMatch, Cond.selects RX6 yX6_takeMatch yX6_takeMatch]
def wsL_law_r15 : List Cond := [Cond.code yX6_takeMatch cX6_takeMatch 9 none, Cond.methodLink RX6 31 yX2_statesOf, Cond.instanceMethod yX2_statesOf, Cond.selects RX2 yX2_statesOf yX2_statesOf, Cond.code yX2_statesOf cX2_statesOf 2 (some .int), Cond.methodLink RX6 35 yX2_actionOf, Cond.methodLink RX6 39 yX6_placeOf, Cond.static yX6_placeOf, Cond.code yX6_placeOf cX6_placeOf 2 (some .int), Cond.methodLink RX6 42 yX2_nextOf, Cond.methodLink RX6 46 yX0_gain, Cond.instanceMethod yX0_gain, Cond.selects RX0 yX0_gain yX0_gain, Cond.code yX0_gain cX0_gain 3 (some .int), Cond.methodLink RX7 275 yX6_startAt, Cond.instanceMethod yX6_startAt, Cond.selects RX6 yX6_startAt yX6_startAt, Cond.code yX6_startAt cX6_startAt 4 none, Cond.methodLink RX6 51 yJ7_fill_53178, Cond.methodLink RX7 151 yX6_placeIn, Cond.instanceMethod yX6_placeIn, Cond.selects RX6 yX6_placeIn yX6_placeIn, Cond.code yX6_placeIn cX6_placeIn 2 (some .int), Cond.methodLink RX7 154 yX6_mine]
def wsL_law_r16 : List Cond := [Cond.static yX6_mine, Cond.code yX6_mine cX6_mine 1 (some .int), Cond.methodLink RL 61 yX8_action, Cond.instanceMethod yX8_action, Cond.selects RX8 yX8_action yX8_action, Cond.code yX8_action cX8_action 6 (some .int), Cond.constantLong RX8 110 (1000), Cond.methodLink RX8 107 yX8_areBoth, Cond.instanceMethod yX8_areBoth, Cond.selects RX8 yX8_areBoth yX8_areBoth, Cond.code yX8_areBoth cX8_areBoth 3 (some .boolean), Cond.methodLink RX8 98 yX8_next, Cond.instanceMethod yX8_next, Cond.selects RX8 yX8_next yX8_next, Cond.code yX8_next cX8_next 4 (some .int), Cond.methodLink RX8 83 yX8_mine, Cond.instanceMethod yX8_mine, Cond.selects RX8 yX8_mine yX8_mine, Cond.code yX8_mine cX8_mine 3 (some .int), Cond.methodLink RX8 87 yX8_theirs, Cond.instanceMethod yX8_theirs, Cond.selects RX8 yX8_theirs yX8_theirs, Cond.code yX8_theirs cX8_theirs 3 (some .int), Cond.methodLink RX8 90 yX8_after]
def wsL_law_r17 : List Cond := [Cond.instanceMethod yX8_after, Cond.selects RX8 yX8_after yX8_after, Cond.code yX8_after cX8_after 6 (some .int), Cond.methodLink RL 62 yX7_match, Cond.instanceMethod yX7_match, Cond.selects RX7 yX7_match yX7_match, Cond.code yX7_match cX7_match 4 (some .int), Cond.constant RX7 157 (-1000000), Cond.methodLink RX7 158 yX6_tail, Cond.instanceMethod yX6_tail, Cond.selects RX6 yX6_tail yX6_tail, Cond.code yX6_tail cX6_tail 1 (some .int), Cond.methodLink RX7 161 yX6_ring, Cond.instanceMethod yX6_ring, Cond.selects RX6 yX6_ring yX6_ring, Cond.code yX6_ring cX6_ring 1 (some .int), Cond.methodLink RX7 164 yX6_tailGains, Cond.instanceMethod yX6_tailGains, Cond.selects RX6 yX6_tailGains yX6_tailGains, Cond.code yX6_tailGains cX6_tailGains 1 (some .int), Cond.methodLink RX6 57 yX6_gainsAlong, Cond.instanceMethod yX6_gainsAlong, Cond.selects RX6 yX6_gainsAlong yX6_gainsAlong, Cond.code yX6_gainsAlong cX6_gainsAlong 5 (some .int)]
def wsL_law_r18 : List Cond := [Cond.methodLink RX7 167 yX6_ringGains, Cond.instanceMethod yX6_ringGains, Cond.selects RX6 yX6_ringGains yX6_ringGains, Cond.code yX6_ringGains cX6_ringGains 1 (some .int), Cond.methodLink RL 65 yX8_match, Cond.instanceMethod yX8_match, Cond.selects RX8 yX8_match yX8_match, Cond.code yX8_match cX8_match 4 (some .int), Cond.constant RX8 112 (-1000000), Cond.fieldLink RX8 101 "AgainAgainModel" "tail" "I", Cond.fieldLink RX8 104 "AgainAgainModel" "ring" "I", Cond.methodLink RX8 113 yX8_plays, Cond.instanceMethod yX8_plays, Cond.selects RX8 yX8_plays yX8_plays, Cond.code yX8_plays cX8_plays 6 none, Cond.methodLink RX8 94 yX8_payOf, Cond.instanceMethod yX8_payOf, Cond.selects RX8 yX8_payOf yX8_payOf, Cond.code yX8_payOf cX8_payOf 4 (some .int), Cond.methodLink RX8 117 yX8_sumOf, Cond.instanceMethod yX8_sumOf, Cond.selects RX8 yX8_sumOf yX8_sumOf, Cond.code yX8_sumOf cX8_sumOf 5 (some .int), Cond.methodLink RL 66 yX7_sum]
def wsL_law_r19 : List Cond := [Cond.instanceMethod yX7_sum, Cond.selects RX7 yX7_sum yX7_sum, Cond.code yX7_sum cX7_sum 4 (some .int), Cond.methodLink RX7 170 yX7_gainsOf, Cond.instanceMethod yX7_gainsOf, Cond.selects RX7 yX7_gainsOf yX7_gainsOf, Cond.code yX7_gainsOf cX7_gainsOf 4 (some .int), Cond.methodLink RX7 279 yX6_gainsOfFirst, Cond.instanceMethod yX6_gainsOfFirst, Cond.selects RX6 yX6_gainsOfFirst yX6_gainsOfFirst, Cond.code yX6_gainsOfFirst cX6_gainsOfFirst 3 (some .int), Cond.methodLink RX6 60 yX6_tailGains, Cond.methodLink RX6 64 yX6_ringGains, Cond.methodLink RL 69 yX8_sum, Cond.instanceMethod yX8_sum, Cond.selects RX8 yX8_sum yX8_sum, Cond.code yX8_sum cX8_sum 4 (some .int), Cond.methodLink RX8 120 yX8_sumUp, Cond.instanceMethod yX8_sumUp, Cond.selects RX8 yX8_sumUp yX8_sumUp, Cond.code yX8_sumUp cX8_sumUp 7 (some .int), Cond.methodLink RL 70 yX7_mean, Cond.instanceMethod yX7_mean, Cond.selects RX7 yX7_mean yX7_mean]
def wsL_law_r20 : List Cond := [Cond.code yX7_mean cX7_mean 4 (some .long), Cond.constantLong RX7 173 (-1000000000000000), Cond.methodLink RX7 175 yX4_become, Cond.instanceMethod yX4_become, Cond.selects RX4 yX4_become yX4_become, Cond.code yX4_become cX4_become 7 none, Cond.methodLink RX4 16 Lib.MathLoose.abs_long.x, Cond.static Lib.MathLoose.abs_long.x, Cond.initialized "java/lang/Math", Cond.code Lib.MathLoose.abs_long.x Lib.MathLoose.abs_long.code 2 (some .long), Cond.methodLink RX4 22 yX4_greatestShared, Cond.static yX4_greatestShared, Cond.code yX4_greatestShared cX4_greatestShared 11 (some .long), Cond.methodLink RX7 179 yX4_part, Cond.instanceMethod yX4_part, Cond.selects RX4 yX4_part yX4_part, Cond.code yX4_part cX4_part 2 (some .long), Cond.methodLink RL 74 yX8_mean, Cond.instanceMethod yX8_mean, Cond.selects RX8 yX8_mean yX8_mean, Cond.code yX8_mean cX8_mean 4 (some .long), Cond.constantLong RX8 138 (-1000000000000000), Cond.methodLink RX8 134 yX8_lowest, Cond.instanceMethod yX8_lowest]
def wsL_law_r21 : List Cond := [Cond.selects RX8 yX8_lowest yX8_lowest, Cond.code yX8_lowest cX8_lowest 11 none, Cond.fieldLink RX8 123 "AgainAgainModel" "over" "J", Cond.fieldLink RX8 127 "AgainAgainModel" "under" "J", Cond.methodLink RX8 140 yX8_part, Cond.instanceMethod yX8_part, Cond.selects RX8 yX8_part yX8_part, Cond.code yX8_part cX8_part 2 (some .long), Cond.methodLink RL 75 yX7_worth, Cond.instanceMethod yX7_worth, Cond.selects RX7 yX7_worth yX7_worth, Cond.code yX7_worth cX7_worth 4 (some .long), Cond.methodLink RX7 183 yX7_matchWorth, Cond.instanceMethod yX7_matchWorth, Cond.selects RX7 yX7_matchWorth yX7_matchWorth, Cond.code yX7_matchWorth cX7_matchWorth 4 none, Cond.methodLink RX7 282 yX6_worthInto, Cond.instanceMethod yX6_worthInto, Cond.selects RX6 yX6_worthInto yX6_worthInto, Cond.code yX6_worthInto cX6_worthInto 11 none, Cond.methodLink RX6 67 yX0_rateOver, Cond.instanceMethod yX0_rateOver, Cond.selects RX0 yX0_rateOver yX0_rateOver, Cond.code yX0_rateOver cX0_rateOver 1 (some .long)]
def wsL_law_r22 : List Cond := [Cond.methodLink RX6 71 yX0_rateUnder, Cond.instanceMethod yX0_rateUnder, Cond.selects RX0 yX0_rateUnder yX0_rateUnder, Cond.code yX0_rateUnder cX0_rateUnder 1 (some .long), Cond.methodLink RX6 74 yX6_power, Cond.static yX6_power, Cond.code yX6_power cX6_power 6 (some .long), Cond.methodLink RX6 78 yX6_weighedAlong, Cond.instanceMethod yX6_weighedAlong, Cond.selects RX6 yX6_weighedAlong yX6_weighedAlong, Cond.code yX6_weighedAlong cX6_weighedAlong 12 (some .long), Cond.methodLink RX6 82 yX4_become, Cond.methodLink RL 78 yX8_worth, Cond.instanceMethod yX8_worth, Cond.selects RX8 yX8_worth yX8_worth, Cond.code yX8_worth cX8_worth 4 (some .long), Cond.methodLink RX8 147 yX8_findWorth, Cond.instanceMethod yX8_findWorth, Cond.selects RX8 yX8_findWorth yX8_findWorth, Cond.code yX8_findWorth cX8_findWorth 4 none, Cond.methodLink RX8 144 yX8_worthOfRow, Cond.instanceMethod yX8_worthOfRow, Cond.selects RX8 yX8_worthOfRow yX8_worthOfRow, Cond.code yX8_worthOfRow cX8_worthOfRow 7 none]
def wsL_law_r23 : List Cond := [Cond.methodLink RX8 130 yX8_power, Cond.static yX8_power, Cond.code yX8_power cX8_power 6 (some .long), Cond.methodLink RL 79 yX7_slip, Cond.instanceMethod yX7_slip, Cond.selects RX7 yX7_slip yX7_slip, Cond.code yX7_slip cX7_slip 5 (some .int), Cond.methodLink RX7 187 yX7_placeBehindSlip, Cond.instanceMethod yX7_placeBehindSlip, Cond.selects RX7 yX7_placeBehindSlip yX7_placeBehindSlip, Cond.code yX7_placeBehindSlip cX7_placeBehindSlip 7 (some .int), Cond.methodLink RX7 243 yX6_theirs, Cond.static yX6_theirs, Cond.code yX6_theirs cX6_theirs 1 (some .int), Cond.methodLink RX7 286 yX6_placeOf, Cond.methodLink RX7 190 yX6_meeting, Cond.instanceMethod yX6_meeting, Cond.selects RX6 yX6_meeting yX6_meeting, Cond.code yX6_meeting cX6_meeting 6 (some .int), Cond.methodLink RL 82 yX8_slip, Cond.instanceMethod yX8_slip, Cond.selects RX8 yX8_slip yX8_slip, Cond.code yX8_slip cX8_slip 7 (some .int), Cond.constantLong RX8 150 (100)]
def wsL_law_r24 : List Cond := [Cond.methodLink RL 83 yX7_like, Cond.instanceMethod yX7_like, Cond.selects RX7 yX7_like yX7_like, Cond.code yX7_like cX7_like 3 (some .int), Cond.methodLink RX7 193 yX1_areLike, Cond.instanceMethod yX1_areLike, Cond.selects RX1 yX1_areLike yX1_areLike, Cond.code yX1_areLike cX1_areLike 4 (some .boolean), Cond.methodLink RX1 15 yX1_statesLike, Cond.instanceMethod yX1_statesLike, Cond.selects RX1 yX1_statesLike yX1_statesLike, Cond.code yX1_statesLike cX1_statesLike 13 (some .boolean), Cond.methodLink RX1 55 yX6_placeOf, Cond.methodLink RX1 59 yX6_mine, Cond.methodLink RX1 62 yX6_theirs, Cond.methodLink RX1 65 yX2_actionOf, Cond.methodLink RX1 51 yX2_nextOf, Cond.methodLink RX1 41 yX1_holds, Cond.static yX1_holds, Cond.code yX1_holds cX1_holds 2 (some .boolean), Cond.methodLink RX7 197 yX7_oneIf, Cond.static yX7_oneIf, Cond.code yX7_oneIf cX7_oneIf 1 (some .int), Cond.methodLink RL 86 yX8_like]
def wsL_law_r25 : List Cond := [Cond.instanceMethod yX8_like, Cond.selects RX8 yX8_like yX8_like, Cond.code yX8_like cX8_like 3 (some .int), Cond.methodLink RX8 156 yX8_areLike, Cond.instanceMethod yX8_areLike, Cond.selects RX8 yX8_areLike yX8_areLike, Cond.code yX8_areLike cX8_areLike 3 (some .boolean), Cond.methodLink RX8 152 yX8_findUnlike, Cond.instanceMethod yX8_findUnlike, Cond.selects RX8 yX8_findUnlike yX8_findUnlike, Cond.code yX8_findUnlike cX8_findUnlike 7 none, Cond.methodLink RL 87 yX7_smallest, Cond.instanceMethod yX7_smallest, Cond.selects RX7 yX7_smallest yX7_smallest, Cond.code yX7_smallest cX7_smallest 2 (some .int), Cond.methodLink RX7 204 yX1_unlikeStates, Cond.instanceMethod yX1_unlikeStates, Cond.selects RX1 yX1_unlikeStates yX1_unlikeStates, Cond.code yX1_unlikeStates cX1_unlikeStates 6 (some .int), Cond.methodLink RX1 33 yX1_reachedStates, Cond.static yX1_reachedStates, Cond.code yX1_reachedStates cX1_reachedStates 6 (some .int), Cond.methodLink RX1 37 yX2_statesOf, Cond.methodLink RX1 45 yX1_isNewState]
def wsL_law_r26 : List Cond := [Cond.instanceMethod yX1_isNewState, Cond.selects RX1 yX1_isNewState yX1_isNewState, Cond.code yX1_isNewState cX1_isNewState 6 (some .boolean), Cond.methodLink RL 90 yX8_smallest, Cond.instanceMethod yX8_smallest, Cond.selects RX8 yX8_smallest yX8_smallest, Cond.code yX8_smallest cX8_smallest 7 (some .int), Cond.methodLink RL 91 yX7_best, Cond.instanceMethod yX7_best, Cond.selects RX7 yX7_best yX7_best, Cond.code yX7_best cX7_best 3 (some .int), Cond.methodLink RX7 208 yX3_learn, Cond.instanceMethod yX3_learn, Cond.selects RX3 yX3_learn yX3_learn, Cond.code yX3_learn cX3_learn 6 none, Cond.methodLink RX3 50 yX3_weigh, Cond.instanceMethod yX3_weigh, Cond.selects RX3 yX3_weigh yX3_weigh, Cond.code yX3_weigh cX3_weigh 7 none, Cond.methodLink RX3 38 yX6_takePlan, Cond.instanceMethod yX6_takePlan, Cond.selects RX6 yX6_takePlan yX6_takePlan, Cond.code yX6_takePlan cX6_takePlan 8 none, Cond.methodLink RX3 42 yX6_startAt]
def wsL_law_r27 : List Cond := [Cond.methodLink RX3 46 yX6_worthInto, Cond.methodLink RX3 54 yX3_slotOf, Cond.static yX3_slotOf, Cond.code yX3_slotOf cX3_slotOf 2 (some .int), Cond.methodLink RX3 58 yX3_keep, Cond.instanceMethod yX3_keep, Cond.selects RX3 yX3_keep yX3_keep, Cond.code yX3_keep cX3_keep 3 none, Cond.methodLink RX3 73 yX4_part, Cond.methodLink RX3 62 yX2_statesOf, Cond.methodLink RX3 66 yX3_plansAgainst, Cond.static yX3_plansAgainst, Cond.code yX3_plansAgainst cX3_plansAgainst 3 (some .int), Cond.methodLink RX3 69 yX3_bestCompared, Cond.instanceMethod yX3_bestCompared, Cond.selects RX3 yX3_bestCompared yX3_bestCompared, Cond.code yX3_bestCompared cX3_bestCompared 4 (some .int), Cond.methodLink RX3 80 yX4_compareWith, Cond.instanceMethod yX4_compareWith, Cond.selects RX4 yX4_compareWith yX4_compareWith, Cond.code yX4_compareWith cX4_compareWith 5 (some .int), Cond.methodLink RX4 26 yJ13_compare_74951, Cond.static yJ13_compare_74951, Cond.initialized RJ13]
def wsL_law_r28 : List Cond := [Cond.code yJ13_compare_74951 cJ13_compare_74951 4 (some .int), Cond.methodLink RX7 212 yX3_bestPlan, Cond.instanceMethod yX3_bestPlan, Cond.selects RX3 yX3_bestPlan yX3_bestPlan, Cond.code yX3_bestPlan cX3_bestPlan 3 (some .int), Cond.methodLink RL 94 yX8_best, Cond.instanceMethod yX8_best, Cond.selects RX8 yX8_best yX8_best, Cond.code yX8_best cX8_best 3 (some .int), Cond.fieldLink RX8 159 "AgainAgainModel" "bestPlan" "I", Cond.methodLink RX8 174 yX8_findBest, Cond.instanceMethod yX8_findBest, Cond.selects RX8 yX8_findBest yX8_findBest, Cond.code yX8_findBest cX8_findBest 4 none, Cond.fieldLink RX8 168 "AgainAgainModel" "bestUnder" "J", Cond.fieldLink RX8 171 "AgainAgainModel" "bestOver" "J", Cond.methodLink RX8 162 yX8_plans, Cond.instanceMethod yX8_plans, Cond.selects RX8 yX8_plans yX8_plans, Cond.code yX8_plans cX8_plans 2 (some .int), Cond.methodLink RX8 165 yX8_findPlanWorth, Cond.instanceMethod yX8_findPlanWorth, Cond.selects RX8 yX8_findPlanWorth yX8_findPlanWorth, Cond.code yX8_findPlanWorth cX8_findPlanWorth 7 none]
def wsL_law_r29 : List Cond := [Cond.methodLink RL 95 yX7_bestWorth, Cond.instanceMethod yX7_bestWorth, Cond.selects RX7 yX7_bestWorth yX7_bestWorth, Cond.code yX7_bestWorth cX7_bestWorth 4 (some .long), Cond.methodLink RX7 215 yX3_bestPart, Cond.instanceMethod yX3_bestPart, Cond.selects RX3 yX3_bestPart yX3_bestPart, Cond.code yX3_bestPart cX3_bestPart 4 (some .long), Cond.methodLink RL 98 yX8_bestWorth, Cond.instanceMethod yX8_bestWorth, Cond.selects RX8 yX8_bestWorth yX8_bestWorth, Cond.code yX8_bestWorth cX8_bestWorth 4 (some .long), Cond.methodLink RL 99 yX7_planWorth, Cond.instanceMethod yX7_planWorth, Cond.selects RX7 yX7_planWorth yX7_planWorth, Cond.code yX7_planWorth cX7_planWorth 5 (some .long), Cond.methodLink RX7 219 yX2_statesOf, Cond.methodLink RX7 222 yX3_plansAgainst, Cond.methodLink RX7 225 yX3_weigh, Cond.methodLink RL 103 yX8_planWorth, Cond.instanceMethod yX8_planWorth, Cond.selects RX8 yX8_planWorth yX8_planWorth, Cond.code yX8_planWorth cX8_planWorth 5 (some .long), Cond.methodLink RL 104 yX7_rest]
def wsL_law_r30 : List Cond := [Cond.instanceMethod yX7_rest, Cond.selects RX7 yX7_rest yX7_rest, Cond.code yX7_rest cX7_rest 3 (some .int), Cond.methodLink RX7 229 yX7_takeBothSides, Cond.instanceMethod yX7_takeBothSides, Cond.selects RX7 yX7_takeBothSides yX7_takeBothSides, Cond.code yX7_takeBothSides cX7_takeBothSides 3 none, Cond.methodLink RX7 232 yX7_restFrom, Cond.instanceMethod yX7_restFrom, Cond.selects RX7 yX7_restFrom yX7_restFrom, Cond.code yX7_restFrom cX7_restFrom 5 (some .boolean), Cond.methodLink RX7 293 yX7_gainsByPlan, Cond.instanceMethod yX7_gainsByPlan, Cond.selects RX7 yX7_gainsByPlan yX7_gainsByPlan, Cond.code yX7_gainsByPlan cX7_gainsByPlan 5 (some .boolean), Cond.methodLink RX7 289 yX3_bestCompared, Cond.methodLink RL 107 yX8_rest, Cond.instanceMethod yX8_rest, Cond.selects RX8 yX8_rest yX8_rest, Cond.code yX8_rest cX8_rest 3 (some .int), Cond.methodLink RX8 184 yX8_rests, Cond.instanceMethod yX8_rests, Cond.selects RX8 yX8_rests yX8_rests, Cond.code yX8_rests cX8_rests 4 (some .boolean)]
def wsL_law_r31 : List Cond := [Cond.methodLink RX8 177 yX8_isBest, Cond.instanceMethod yX8_isBest, Cond.selects RX8 yX8_isBest yX8_isBest, Cond.code yX8_isBest cX8_isBest 4 (some .boolean), Cond.methodLink RX8 181 yX8_turned, Cond.static yX8_turned, Cond.code yX8_turned cX8_turned 1 (some .int), Cond.methodLink RL 108 yX7_everywhere, Cond.instanceMethod yX7_everywhere, Cond.selects RX7 yX7_everywhere yX7_everywhere, Cond.code yX7_everywhere cX7_everywhere 3 (some .int), Cond.methodLink RX7 236 yX3_learnAll, Cond.instanceMethod yX3_learnAll, Cond.selects RX3 yX3_learnAll yX3_learnAll, Cond.code yX3_learnAll cX3_learnAll 5 none, Cond.methodLink RX3 77 yX3_learn, Cond.methodLink RX7 240 yX7_firstUnrest, Cond.instanceMethod yX7_firstUnrest, Cond.selects RX7 yX7_firstUnrest yX7_firstUnrest, Cond.code yX7_firstUnrest cX7_firstUnrest 5 (some .int), Cond.methodLink RL 111 yX8_everywhere, Cond.instanceMethod yX8_everywhere, Cond.selects RX8 yX8_everywhere yX8_everywhere, Cond.code yX8_everywhere cX8_everywhere 3 (some .int)]
def wsL_law_r32 : List Cond := [Cond.methodLink RX8 187 yX8_firstThatMoves, Cond.instanceMethod yX8_firstThatMoves, Cond.selects RX8 yX8_firstThatMoves yX8_firstThatMoves, Cond.code yX8_firstThatMoves cX8_firstThatMoves 5 (some .int), Cond.methodLink RL 112 yX7_deviation, Cond.instanceMethod yX7_deviation, Cond.selects RX7 yX7_deviation yX7_deviation, Cond.code yX7_deviation cX7_deviation 5 (some .int), Cond.methodLink RX7 246 yX7_deviationFrom, Cond.instanceMethod yX7_deviationFrom, Cond.selects RX7 yX7_deviationFrom yX7_deviationFrom, Cond.code yX7_deviationFrom cX7_deviationFrom 7 (some .int), Cond.methodLink RL 115 yX8_deviation, Cond.instanceMethod yX8_deviation, Cond.selects RX8 yX8_deviation yX8_deviation, Cond.code yX8_deviation cX8_deviation 6 (some .int), Cond.methodLink RL 116 yX7_resists, Cond.instanceMethod yX7_resists, Cond.selects RX7 yX7_resists yX7_resists, Cond.code yX7_resists cX7_resists 3 (some .int), Cond.methodLink RX7 250 yX7_withstands, Cond.instanceMethod yX7_withstands, Cond.selects RX7 yX7_withstands yX7_withstands, Cond.code yX7_withstands cX7_withstands 4 (some .boolean)]
def wsL_law_r33 : List Cond := [Cond.methodLink RX7 301 yX7_compareWorths, Cond.instanceMethod yX7_compareWorths, Cond.selects RX7 yX7_compareWorths yX7_compareWorths, Cond.code yX7_compareWorths cX7_compareWorths 5 (some .int), Cond.methodLink RX7 297 yX4_compareWith, Cond.methodLink RL 119 yX8_resists, Cond.instanceMethod yX8_resists, Cond.selects RX8 yX8_resists yX8_resists, Cond.code yX8_resists cX8_resists 3 (some .int), Cond.methodLink RX8 194 yX8_doesResist, Cond.instanceMethod yX8_doesResist, Cond.selects RX8 yX8_doesResist yX8_doesResist, Cond.code yX8_doesResist cX8_doesResist 4 (some .boolean), Cond.methodLink RX8 190 yX8_compare, Cond.instanceMethod yX8_compare, Cond.selects RX8 yX8_compare yX8_compare, Cond.code yX8_compare cX8_compare 13 (some .int), Cond.methodLink RL 120 yX7_invaders, Cond.instanceMethod yX7_invaders, Cond.selects RX7 yX7_invaders yX7_invaders, Cond.code yX7_invaders cX7_invaders 4 (some .int), Cond.methodLink RL 123 yX8_invaders, Cond.instanceMethod yX8_invaders, Cond.selects RX8 yX8_invaders yX8_invaders]
def wsL_law_r34 : List Cond := [Cond.code yX8_invaders cX8_invaders 4 (some .int), Cond.methodLink RL 124 yX7_score, Cond.instanceMethod yX7_score, Cond.selects RX7 yX7_score yX7_score, Cond.code yX7_score cX7_score 3 (some .int), Cond.methodLink RX7 253 yX7_gainsAgainstAll, Cond.instanceMethod yX7_gainsAgainstAll, Cond.selects RX7 yX7_gainsAgainstAll yX7_gainsAgainstAll, Cond.code yX7_gainsAgainstAll cX7_gainsAgainstAll 5 (some .int), Cond.methodLink RL 127 yX8_score, Cond.instanceMethod yX8_score, Cond.selects RX8 yX8_score yX8_score, Cond.code yX8_score cX8_score 3 (some .int), Cond.methodLink RX8 197 yX8_scoreOf, Cond.instanceMethod yX8_scoreOf, Cond.selects RX8 yX8_scoreOf yX8_scoreOf, Cond.code yX8_scoreOf cX8_scoreOf 5 (some .int), Cond.methodLink RL 128 yX7_place, Cond.instanceMethod yX7_place, Cond.selects RX7 yX7_place yX7_place, Cond.code yX7_place cX7_place 4 (some .int), Cond.methodLink RX7 256 yX7_machinesAheadOf, Cond.instanceMethod yX7_machinesAheadOf, Cond.selects RX7 yX7_machinesAheadOf yX7_machinesAheadOf]
def wsL_law_r35 : List Cond := [Cond.code yX7_machinesAheadOf cX7_machinesAheadOf 4 (some .int), Cond.methodLink RL 131 yX8_place, Cond.instanceMethod yX8_place, Cond.selects RX8 yX8_place yX8_place, Cond.code yX8_place cX8_place 6 (some .int), Cond.methodLink RL 132 yX7_count, Cond.instanceMethod yX7_count, Cond.selects RX7 yX7_count yX7_count, Cond.code yX7_count cX7_count 2 (some .int), Cond.methodLink RX7 259 yX1_unlikeMachines, Cond.instanceMethod yX1_unlikeMachines, Cond.selects RX1 yX1_unlikeMachines yX1_unlikeMachines, Cond.code yX1_unlikeMachines cX1_unlikeMachines 4 (some .int), Cond.methodLink RX1 19 yX2_many, Cond.methodLink RX1 25 yX1_isNew, Cond.instanceMethod yX1_isNew, Cond.selects RX1 yX1_isNew yX1_isNew, Cond.code yX1_isNew cX1_isNew 4 (some .boolean), Cond.methodLink RX1 29 yX1_areLike, Cond.methodLink RX7 263 yX7_restingPairs, Cond.instanceMethod yX7_restingPairs, Cond.selects RX7 yX7_restingPairs yX7_restingPairs, Cond.code yX7_restingPairs cX7_restingPairs 4 (some .int), Cond.methodLink RX7 266 yX5_cellsOf]
def wsL_law_r36 : List Cond := [Cond.instanceMethod yX5_cellsOf, Cond.selects RX5 yX5_cellsOf yX5_cellsOf, Cond.code yX5_cellsOf cX5_cellsOf 2 (some .int), Cond.methodLink RL 135 yX8_count, Cond.instanceMethod yX8_count, Cond.selects RX8 yX8_count yX8_count, Cond.code yX8_count cX8_count 6 (some .int)]
def wsL_law : List Cond := (wsL_law_r1 ++ (wsL_law_r2 ++ (wsL_law_r3 ++ (wsL_law_r4 ++ (wsL_law_r5 ++ (wsL_law_r6 ++ (wsL_law_r7 ++ (wsL_law_r8 ++ (wsL_law_r9 ++ (wsL_law_r10 ++ (wsL_law_r11 ++ (wsL_law_r12 ++ (wsL_law_r13 ++ (wsL_law_r14 ++ (wsL_law_r15 ++ (wsL_law_r16 ++ (wsL_law_r17 ++ (wsL_law_r18 ++ (wsL_law_r19 ++ (wsL_law_r20 ++ (wsL_law_r21 ++ (wsL_law_r22 ++ (wsL_law_r23 ++ (wsL_law_r24 ++ (wsL_law_r25 ++ (wsL_law_r26 ++ (wsL_law_r27 ++ (wsL_law_r28 ++ (wsL_law_r29 ++ (wsL_law_r30 ++ (wsL_law_r31 ++ (wsL_law_r32 ++ (wsL_law_r33 ++ (wsL_law_r34 ++ (wsL_law_r35 ++ wsL_law_r36))))))))))))))))))))))))))))))))))) ++ wsX70 ++ wsX80 ++ wsX00 ++ wsX20 ++ wsX50 ++ wsX10 ++ wsX30 ++ wsX60 ++ wsX40 ++ ([] : List Cond)
abbrev vwCl : List vw_C := [(RX0, TX0, 3), (RX1, TX1, 1), (RX2, TX2, 4), (RX3, TX3, 5), (RX4, TX4, 2), (RX5, TX5, 3), (RX6, TX6, 6), (RX7, TX7, 10), (RX8, TX8, 21)]
theorem dX0_init_0 : decode cX0_init 0 = .ok (.aload_n 0, 1) := by decide +kernel
theorem dX0_init_1 : decode cX0_init 1 = .ok (.invokespecial 1, 3) := by decide +kernel
theorem dX0_init_4 : decode cX0_init 4 = .ok (.aload_n 0, 1) := by decide +kernel
theorem dX0_init_5 : decode cX0_init 5 = .ok (.bipush 9, 2) := by decide +kernel
theorem dX0_init_7 : decode cX0_init 7 = .ok (.newarray .int, 2) := by decide +kernel
theorem dX0_init_9 : decode cX0_init 9 = .ok (.putfield 9, 3) := by decide +kernel
theorem dX0_init_12 : decode cX0_init 12 = .ok (.aload_n 0, 1) := by decide +kernel
theorem dX0_init_13 : decode cX0_init 13 = .ok (.lconst 1, 1) := by decide +kernel
theorem dX0_init_14 : decode cX0_init 14 = .ok (.putfield 13, 3) := by decide +kernel
theorem dX0_init_17 : decode cX0_init 17 = .ok (.aload_n 0, 1) := by decide +kernel
theorem dX0_init_18 : decode cX0_init 18 = .ok (.ldc2_w 17, 3) := by decide +kernel
theorem dX0_init_21 : decode cX0_init 21 = .ok (.putfield 19, 3) := by decide +kernel
theorem dX0_init_24 : decode cX0_init 24 = .ok (.return_, 1) := by decide +kernel
theorem dX0_setGain_0 : decode cX0_setGain 0 = .ok (.aload_n 0, 1) := by decide +kernel
theorem dX0_setGain_1 : decode cX0_setGain 1 = .ok (.getfield 9, 3) := by decide +kernel
theorem dX0_setGain_4 : decode cX0_setGain 4 = .ok (.iconst 3, 1) := by decide +kernel
theorem dX0_setGain_5 : decode cX0_setGain 5 = .ok (.iload_n 1, 1) := by decide +kernel
theorem dX0_setGain_6 : decode cX0_setGain 6 = .ok (.imul, 1) := by decide +kernel
theorem dX0_setGain_7 : decode cX0_setGain 7 = .ok (.iload_n 2, 1) := by decide +kernel
theorem dX0_setGain_8 : decode cX0_setGain 8 = .ok (.iadd, 1) := by decide +kernel
theorem dX0_setGain_9 : decode cX0_setGain 9 = .ok (.iload_n 3, 1) := by decide +kernel
theorem dX0_setGain_10 : decode cX0_setGain 10 = .ok (.iastore, 1) := by decide +kernel
theorem dX0_setGain_11 : decode cX0_setGain 11 = .ok (.return_, 1) := by decide +kernel
theorem dX0_gain_0 : decode cX0_gain 0 = .ok (.aload_n 0, 1) := by decide +kernel
theorem dX0_gain_1 : decode cX0_gain 1 = .ok (.getfield 9, 3) := by decide +kernel
theorem dX0_gain_4 : decode cX0_gain 4 = .ok (.iconst 3, 1) := by decide +kernel
theorem dX0_gain_5 : decode cX0_gain 5 = .ok (.iload_n 1, 1) := by decide +kernel
theorem dX0_gain_6 : decode cX0_gain 6 = .ok (.imul, 1) := by decide +kernel
theorem dX0_gain_7 : decode cX0_gain 7 = .ok (.iload_n 2, 1) := by decide +kernel
theorem dX0_gain_8 : decode cX0_gain 8 = .ok (.iadd, 1) := by decide +kernel
theorem dX0_gain_9 : decode cX0_gain 9 = .ok (.iaload, 1) := by decide +kernel
theorem dX0_gain_10 : decode cX0_gain 10 = .ok (.ireturn, 1) := by decide +kernel
theorem dX0_setRate_0 : decode cX0_setRate 0 = .ok (.aload_n 0, 1) := by decide +kernel
theorem dX0_setRate_1 : decode cX0_setRate 1 = .ok (.iload_n 1, 1) := by decide +kernel
theorem dX0_setRate_2 : decode cX0_setRate 2 = .ok (.i2l, 1) := by decide +kernel
theorem dX0_setRate_3 : decode cX0_setRate 3 = .ok (.putfield 13, 3) := by decide +kernel
theorem dX0_setRate_6 : decode cX0_setRate 6 = .ok (.aload_n 0, 1) := by decide +kernel
theorem dX0_setRate_7 : decode cX0_setRate 7 = .ok (.iload_n 2, 1) := by decide +kernel
theorem dX0_setRate_8 : decode cX0_setRate 8 = .ok (.i2l, 1) := by decide +kernel
theorem dX0_setRate_9 : decode cX0_setRate 9 = .ok (.putfield 19, 3) := by decide +kernel
theorem dX0_setRate_12 : decode cX0_setRate 12 = .ok (.return_, 1) := by decide +kernel
theorem dX0_rateOver_0 : decode cX0_rateOver 0 = .ok (.aload_n 0, 1) := by decide +kernel
theorem dX0_rateOver_1 : decode cX0_rateOver 1 = .ok (.getfield 13, 3) := by decide +kernel
theorem dX0_rateOver_4 : decode cX0_rateOver 4 = .ok (.lreturn, 1) := by decide +kernel
theorem dX0_rateUnder_0 : decode cX0_rateUnder 0 = .ok (.aload_n 0, 1) := by decide +kernel
theorem dX0_rateUnder_1 : decode cX0_rateUnder 1 = .ok (.getfield 19, 3) := by decide +kernel
theorem dX0_rateUnder_4 : decode cX0_rateUnder 4 = .ok (.lreturn, 1) := by decide +kernel
theorem dX1_init_0 : decode cX1_init 0 = .ok (.aload_n 0, 1) := by decide +kernel
theorem dX1_init_1 : decode cX1_init 1 = .ok (.invokespecial 1, 3) := by decide +kernel
theorem dX1_init_4 : decode cX1_init 4 = .ok (.aload_n 0, 1) := by decide +kernel
theorem dX1_init_5 : decode cX1_init 5 = .ok (.bipush 16, 2) := by decide +kernel
theorem dX1_init_7 : decode cX1_init 7 = .ok (.newarray .int, 2) := by decide +kernel
theorem dX1_init_9 : decode cX1_init 9 = .ok (.putfield 9, 3) := by decide +kernel
theorem dX1_init_12 : decode cX1_init 12 = .ok (.return_, 1) := by decide +kernel
set_option maxRecDepth 20000 in
theorem ggX1_areLike_X1_statesLike : GoodIn wsX1_areLike wsX1_statesLike := goodIn_r _ [5, 6, 7, 8, 9, 10, 11, 12, 13, 14, 15, 16, 17, 18, 19, 20, 21, 22, 23, 24, 25, 26, 27, 28, 29, 4, 30, 31, 32, 33, 34, 35] (by decide +kernel) (by decide +kernel)
set_option maxRecDepth 20000 in
theorem gX1_areLike_X1_statesLike : GoodIn wsX1_areLike (wsV RX1 15 RX1 yX1_statesLike wsX1_statesLike) := goodIn_app (goodIn_of _ (by decide +kernel)) ggX1_areLike_X1_statesLike
theorem dX1_areLike_0 : decode cX1_areLike 0 = .ok (.aload_n 0, 1) := by decide +kernel
theorem dX1_areLike_1 : decode cX1_areLike 1 = .ok (.aload_n 1, 1) := by decide +kernel
theorem dX1_areLike_2 : decode cX1_areLike 2 = .ok (.iload_n 2, 1) := by decide +kernel
theorem dX1_areLike_3 : decode cX1_areLike 3 = .ok (.iconst 0, 1) := by decide +kernel
theorem dX1_areLike_4 : decode cX1_areLike 4 = .ok (.iload_n 3, 1) := by decide +kernel
theorem dX1_areLike_5 : decode cX1_areLike 5 = .ok (.iconst 0, 1) := by decide +kernel
theorem dX1_areLike_6 : decode cX1_areLike 6 = .ok (.invokevirtual 15, 3) := by decide +kernel
theorem dX1_areLike_9 : decode cX1_areLike 9 = .ok (.ireturn, 1) := by decide +kernel
set_option maxRecDepth 20000 in
theorem ggX1_unlikeMachines_X2_many : GoodIn wsX1_unlikeMachines wsX2_many := goodIn_r _ [5, 6, 44, 45, 46, 47] (by decide +kernel) (by decide +kernel)
set_option maxRecDepth 20000 in
theorem gX1_unlikeMachines_X2_many : GoodIn wsX1_unlikeMachines (wsV RX1 19 RX2 yX2_many wsX2_many) := goodIn_app (goodIn_of _ (by decide +kernel)) ggX1_unlikeMachines_X2_many
set_option maxRecDepth 20000 in
theorem ggX1_unlikeMachines_X1_isNew : GoodIn wsX1_unlikeMachines wsX1_isNew := goodIn_r _ [11, 12, 13, 14, 10, 15, 16, 17, 18, 19, 20, 21, 22, 23, 24, 25, 26, 27, 28, 29, 30, 31, 32, 33, 4, 34, 35, 36, 37, 38, 39, 40, 41, 42, 43, 48, 44, 45, 46, 47] (by decide +kernel) (by decide +kernel)
set_option maxRecDepth 20000 in
theorem gX1_unlikeMachines_X1_isNew : GoodIn wsX1_unlikeMachines (wsV RX1 25 RX1 yX1_isNew wsX1_isNew) := goodIn_app (goodIn_of _ (by decide +kernel)) ggX1_unlikeMachines_X1_isNew
theorem dX1_unlikeMachines_0 : decode cX1_unlikeMachines 0 = .ok (.iconst 0, 1) := by decide +kernel
theorem dX1_unlikeMachines_1 : decode cX1_unlikeMachines 1 = .ok (.istore_n 2, 1) := by decide +kernel
theorem dX1_unlikeMachines_2 : decode cX1_unlikeMachines 2 = .ok (.iconst 0, 1) := by decide +kernel
theorem dX1_unlikeMachines_3 : decode cX1_unlikeMachines 3 = .ok (.istore_n 3, 1) := by decide +kernel
theorem dX1_unlikeMachines_4 : decode cX1_unlikeMachines 4 = .ok (.iload_n 3, 1) := by decide +kernel
theorem dX1_unlikeMachines_5 : decode cX1_unlikeMachines 5 = .ok (.aload_n 1, 1) := by decide +kernel
theorem dX1_unlikeMachines_6 : decode cX1_unlikeMachines 6 = .ok (.invokevirtual 19, 3) := by decide +kernel
theorem dX1_unlikeMachines_9 : decode cX1_unlikeMachines 9 = .ok (.if_icmp .ge 21, 3) := by decide +kernel
theorem dX1_unlikeMachines_12 : decode cX1_unlikeMachines 12 = .ok (.aload_n 0, 1) := by decide +kernel
theorem dX1_unlikeMachines_13 : decode cX1_unlikeMachines 13 = .ok (.aload_n 1, 1) := by decide +kernel
theorem dX1_unlikeMachines_14 : decode cX1_unlikeMachines 14 = .ok (.iload_n 3, 1) := by decide +kernel
theorem dX1_unlikeMachines_15 : decode cX1_unlikeMachines 15 = .ok (.invokevirtual 25, 3) := by decide +kernel
theorem dX1_unlikeMachines_18 : decode cX1_unlikeMachines 18 = .ok (.ifCond .eq 6, 3) := by decide +kernel
theorem dX1_unlikeMachines_21 : decode cX1_unlikeMachines 21 = .ok (.iinc 2 1, 3) := by decide +kernel
theorem dX1_unlikeMachines_24 : decode cX1_unlikeMachines 24 = .ok (.iinc 3 1, 3) := by decide +kernel
theorem dX1_unlikeMachines_27 : decode cX1_unlikeMachines 27 = .ok (.goto (-23), 3) := by decide +kernel
theorem dX1_unlikeMachines_30 : decode cX1_unlikeMachines 30 = .ok (.iload_n 2, 1) := by decide +kernel
theorem dX1_unlikeMachines_31 : decode cX1_unlikeMachines 31 = .ok (.ireturn, 1) := by decide +kernel
set_option maxRecDepth 20000 in
theorem ggX1_isNew_X1_areLike : GoodIn wsX1_isNew wsX1_areLike := goodIn_r _ [5, 6, 7, 8, 4, 9, 10, 11, 12, 13, 14, 15, 16, 17, 18, 19, 20, 21, 22, 23, 24, 25, 26, 27, 28, 29, 30, 31, 32, 33, 34, 35, 36, 37, 38, 39] (by decide +kernel) (by decide +kernel)
set_option maxRecDepth 20000 in
theorem gX1_isNew_X1_areLike : GoodIn wsX1_isNew (wsV RX1 29 RX1 yX1_areLike wsX1_areLike) := goodIn_app (goodIn_of _ (by decide +kernel)) ggX1_isNew_X1_areLike
theorem dX1_isNew_0 : decode cX1_isNew 0 = .ok (.iconst 0, 1) := by decide +kernel
theorem dX1_isNew_1 : decode cX1_isNew 1 = .ok (.istore_n 3, 1) := by decide +kernel
theorem dX1_isNew_2 : decode cX1_isNew 2 = .ok (.iload_n 3, 1) := by decide +kernel
theorem dX1_isNew_3 : decode cX1_isNew 3 = .ok (.iload_n 2, 1) := by decide +kernel
theorem dX1_isNew_4 : decode cX1_isNew 4 = .ok (.if_icmp .ge 21, 3) := by decide +kernel
theorem dX1_isNew_7 : decode cX1_isNew 7 = .ok (.aload_n 0, 1) := by decide +kernel
theorem dX1_isNew_8 : decode cX1_isNew 8 = .ok (.aload_n 1, 1) := by decide +kernel
theorem dX1_isNew_9 : decode cX1_isNew 9 = .ok (.iload_n 3, 1) := by decide +kernel
theorem dX1_isNew_10 : decode cX1_isNew 10 = .ok (.iload_n 2, 1) := by decide +kernel
theorem dX1_isNew_11 : decode cX1_isNew 11 = .ok (.invokevirtual 29, 3) := by decide +kernel
theorem dX1_isNew_14 : decode cX1_isNew 14 = .ok (.ifCond .eq 5, 3) := by decide +kernel
theorem dX1_isNew_17 : decode cX1_isNew 17 = .ok (.iconst 0, 1) := by decide +kernel
theorem dX1_isNew_18 : decode cX1_isNew 18 = .ok (.ireturn, 1) := by decide +kernel
theorem dX1_isNew_19 : decode cX1_isNew 19 = .ok (.iinc 3 1, 3) := by decide +kernel
theorem dX1_isNew_22 : decode cX1_isNew 22 = .ok (.goto (-20), 3) := by decide +kernel
theorem dX1_isNew_25 : decode cX1_isNew 25 = .ok (.iconst 1, 1) := by decide +kernel
theorem dX1_isNew_26 : decode cX1_isNew 26 = .ok (.ireturn, 1) := by decide +kernel
set_option maxRecDepth 20000 in
theorem ggX1_unlikeStates_X1_reachedStates : GoodIn wsX1_unlikeStates wsX1_reachedStates := goodIn_r _ [4, 5, 6, 7, 8, 9, 10, 11, 12, 3, 13, 14, 15, 16, 17, 18, 43, 44, 45, 46] (by decide +kernel) (by decide +kernel)
set_option maxRecDepth 20000 in
theorem gX1_unlikeStates_X1_reachedStates : GoodIn wsX1_unlikeStates (va_wsS RX1 33 yX1_reachedStates wsX1_reachedStates) := goodIn_app (goodIn_of _ (by decide +kernel)) ggX1_unlikeStates_X1_reachedStates
set_option maxRecDepth 20000 in
theorem ggX1_unlikeStates_X2_statesOf : GoodIn wsX1_unlikeStates wsX2_statesOf := goodIn_r _ [9, 10, 43, 44, 45, 46] (by decide +kernel) (by decide +kernel)
set_option maxRecDepth 20000 in
theorem gX1_unlikeStates_X2_statesOf : GoodIn wsX1_unlikeStates (wsV RX1 37 RX2 yX2_statesOf wsX2_statesOf) := goodIn_app (goodIn_of _ (by decide +kernel)) ggX1_unlikeStates_X2_statesOf
set_option maxRecDepth 20000 in
theorem ggX1_unlikeStates_X1_holds : GoodIn wsX1_unlikeStates wsX1_holds := goodIn_r _ [13] (by decide +kernel) (by decide +kernel)
set_option maxRecDepth 20000 in
theorem gX1_unlikeStates_X1_holds : GoodIn wsX1_unlikeStates (va_wsS RX1 41 yX1_holds wsX1_holds) := goodIn_app (goodIn_of _ (by decide +kernel)) ggX1_unlikeStates_X1_holds
set_option maxRecDepth 20000 in
theorem ggX1_unlikeStates_X1_isNewState : GoodIn wsX1_unlikeStates wsX1_isNewState := goodIn_r _ [22, 11, 12, 3, 13, 23, 24, 25, 26, 27, 28, 29, 30, 31, 32, 33, 34, 35, 36, 37, 38, 39, 40, 8, 41, 42, 14, 15, 16, 17, 18, 47, 43, 44, 45, 46] (by decide +kernel) (by decide +kernel)
set_option maxRecDepth 20000 in
theorem gX1_unlikeStates_X1_isNewState : GoodIn wsX1_unlikeStates (wsV RX1 45 RX1 yX1_isNewState wsX1_isNewState) := goodIn_app (goodIn_of _ (by decide +kernel)) ggX1_unlikeStates_X1_isNewState
theorem dX1_unlikeStates_0 : decode cX1_unlikeStates 0 = .ok (.aload_n 1, 1) := by decide +kernel
theorem dX1_unlikeStates_1 : decode cX1_unlikeStates 1 = .ok (.iload_n 2, 1) := by decide +kernel
theorem dX1_unlikeStates_2 : decode cX1_unlikeStates 2 = .ok (.invokestatic 33, 3) := by decide +kernel
theorem dX1_unlikeStates_5 : decode cX1_unlikeStates 5 = .ok (.istore_n 3, 1) := by decide +kernel
theorem dX1_unlikeStates_6 : decode cX1_unlikeStates 6 = .ok (.iconst 0, 1) := by decide +kernel
theorem dX1_unlikeStates_7 : decode cX1_unlikeStates 7 = .ok (.istore 4, 2) := by decide +kernel
theorem dX1_unlikeStates_9 : decode cX1_unlikeStates 9 = .ok (.iconst 0, 1) := by decide +kernel
theorem dX1_unlikeStates_10 : decode cX1_unlikeStates 10 = .ok (.istore 5, 2) := by decide +kernel
theorem dX1_unlikeStates_12 : decode cX1_unlikeStates 12 = .ok (.iload 5, 2) := by decide +kernel
theorem dX1_unlikeStates_14 : decode cX1_unlikeStates 14 = .ok (.aload_n 1, 1) := by decide +kernel
theorem dX1_unlikeStates_15 : decode cX1_unlikeStates 15 = .ok (.iload_n 2, 1) := by decide +kernel
theorem dX1_unlikeStates_16 : decode cX1_unlikeStates 16 = .ok (.invokevirtual 37, 3) := by decide +kernel
theorem dX1_unlikeStates_19 : decode cX1_unlikeStates 19 = .ok (.if_icmp .ge 33, 3) := by decide +kernel
theorem dX1_unlikeStates_22 : decode cX1_unlikeStates 22 = .ok (.iload_n 3, 1) := by decide +kernel
theorem dX1_unlikeStates_23 : decode cX1_unlikeStates 23 = .ok (.iload 5, 2) := by decide +kernel
theorem dX1_unlikeStates_25 : decode cX1_unlikeStates 25 = .ok (.invokestatic 41, 3) := by decide +kernel
theorem dX1_unlikeStates_28 : decode cX1_unlikeStates 28 = .ok (.ifCond .eq 18, 3) := by decide +kernel
theorem dX1_unlikeStates_31 : decode cX1_unlikeStates 31 = .ok (.aload_n 0, 1) := by decide +kernel
theorem dX1_unlikeStates_32 : decode cX1_unlikeStates 32 = .ok (.aload_n 1, 1) := by decide +kernel
theorem dX1_unlikeStates_33 : decode cX1_unlikeStates 33 = .ok (.iload_n 2, 1) := by decide +kernel
theorem dX1_unlikeStates_34 : decode cX1_unlikeStates 34 = .ok (.iload 5, 2) := by decide +kernel
theorem dX1_unlikeStates_36 : decode cX1_unlikeStates 36 = .ok (.iload_n 3, 1) := by decide +kernel
theorem dX1_unlikeStates_37 : decode cX1_unlikeStates 37 = .ok (.invokevirtual 45, 3) := by decide +kernel
theorem dX1_unlikeStates_40 : decode cX1_unlikeStates 40 = .ok (.ifCond .eq 6, 3) := by decide +kernel
theorem dX1_unlikeStates_43 : decode cX1_unlikeStates 43 = .ok (.iinc 4 1, 3) := by decide +kernel
theorem dX1_unlikeStates_46 : decode cX1_unlikeStates 46 = .ok (.iinc 5 1, 3) := by decide +kernel
theorem dX1_unlikeStates_49 : decode cX1_unlikeStates 49 = .ok (.goto (-37), 3) := by decide +kernel
theorem dX1_unlikeStates_52 : decode cX1_unlikeStates 52 = .ok (.iload 4, 2) := by decide +kernel
theorem dX1_unlikeStates_54 : decode cX1_unlikeStates 54 = .ok (.ireturn, 1) := by decide +kernel
set_option maxRecDepth 20000 in
theorem ggX1_isNewState_X1_holds : GoodIn wsX1_isNewState wsX1_holds := goodIn_r _ [4] (by decide +kernel) (by decide +kernel)
set_option maxRecDepth 20000 in
theorem gX1_isNewState_X1_holds : GoodIn wsX1_isNewState (va_wsS RX1 41 yX1_holds wsX1_holds) := goodIn_app (goodIn_of _ (by decide +kernel)) ggX1_isNewState_X1_holds
set_option maxRecDepth 20000 in
theorem ggX1_isNewState_X1_statesLike : GoodIn wsX1_isNewState wsX1_statesLike := goodIn_r _ [8, 9, 10, 11, 12, 13, 14, 15, 16, 17, 18, 19, 20, 21, 22, 23, 24, 25, 26, 27, 28, 29, 30, 1, 2, 3, 4, 31, 32, 33, 34, 35] (by decide +kernel) (by decide +kernel)
set_option maxRecDepth 20000 in
theorem gX1_isNewState_X1_statesLike : GoodIn wsX1_isNewState (wsV RX1 15 RX1 yX1_statesLike wsX1_statesLike) := goodIn_app (goodIn_of _ (by decide +kernel)) ggX1_isNewState_X1_statesLike
theorem dX1_isNewState_0 : decode cX1_isNewState 0 = .ok (.iconst 0, 1) := by decide +kernel
theorem dX1_isNewState_1 : decode cX1_isNewState 1 = .ok (.istore 5, 2) := by decide +kernel
theorem dX1_isNewState_3 : decode cX1_isNewState 3 = .ok (.iload 5, 2) := by decide +kernel
theorem dX1_isNewState_5 : decode cX1_isNewState 5 = .ok (.iload_n 3, 1) := by decide +kernel
theorem dX1_isNewState_6 : decode cX1_isNewState 6 = .ok (.if_icmp .ge 34, 3) := by decide +kernel
theorem dX1_isNewState_9 : decode cX1_isNewState 9 = .ok (.iload 4, 2) := by decide +kernel
theorem dX1_isNewState_11 : decode cX1_isNewState 11 = .ok (.iload 5, 2) := by decide +kernel
theorem dX1_isNewState_13 : decode cX1_isNewState 13 = .ok (.invokestatic 41, 3) := by decide +kernel
theorem dX1_isNewState_16 : decode cX1_isNewState 16 = .ok (.ifCond .eq 18, 3) := by decide +kernel
theorem dX1_isNewState_19 : decode cX1_isNewState 19 = .ok (.aload_n 0, 1) := by decide +kernel
theorem dX1_isNewState_20 : decode cX1_isNewState 20 = .ok (.aload_n 1, 1) := by decide +kernel
theorem dX1_isNewState_21 : decode cX1_isNewState 21 = .ok (.iload_n 2, 1) := by decide +kernel
theorem dX1_isNewState_22 : decode cX1_isNewState 22 = .ok (.iload_n 3, 1) := by decide +kernel
theorem dX1_isNewState_23 : decode cX1_isNewState 23 = .ok (.iload_n 2, 1) := by decide +kernel
theorem dX1_isNewState_24 : decode cX1_isNewState 24 = .ok (.iload 5, 2) := by decide +kernel
theorem dX1_isNewState_26 : decode cX1_isNewState 26 = .ok (.invokevirtual 15, 3) := by decide +kernel
theorem dX1_isNewState_29 : decode cX1_isNewState 29 = .ok (.ifCond .eq 5, 3) := by decide +kernel
theorem dX1_isNewState_32 : decode cX1_isNewState 32 = .ok (.iconst 0, 1) := by decide +kernel
theorem dX1_isNewState_33 : decode cX1_isNewState 33 = .ok (.ireturn, 1) := by decide +kernel
theorem dX1_isNewState_34 : decode cX1_isNewState 34 = .ok (.iinc 5 1, 3) := by decide +kernel
theorem dX1_isNewState_37 : decode cX1_isNewState 37 = .ok (.goto (-34), 3) := by decide +kernel
theorem dX1_isNewState_40 : decode cX1_isNewState 40 = .ok (.iconst 1, 1) := by decide +kernel
theorem dX1_isNewState_41 : decode cX1_isNewState 41 = .ok (.ireturn, 1) := by decide +kernel
theorem dX1_holds_0 : decode cX1_holds 0 = .ok (.iload_n 0, 1) := by decide +kernel
theorem dX1_holds_1 : decode cX1_holds 1 = .ok (.iload_n 1, 1) := by decide +kernel
theorem dX1_holds_2 : decode cX1_holds 2 = .ok (.ishr, 1) := by decide +kernel
theorem dX1_holds_3 : decode cX1_holds 3 = .ok (.iconst 1, 1) := by decide +kernel
theorem dX1_holds_4 : decode cX1_holds 4 = .ok (.iand, 1) := by decide +kernel
theorem dX1_holds_5 : decode cX1_holds 5 = .ok (.iconst 1, 1) := by decide +kernel
theorem dX1_holds_6 : decode cX1_holds 6 = .ok (.if_icmp .ne 7, 3) := by decide +kernel
theorem dX1_holds_9 : decode cX1_holds 9 = .ok (.iconst 1, 1) := by decide +kernel
theorem dX1_holds_10 : decode cX1_holds 10 = .ok (.goto 4, 3) := by decide +kernel
theorem dX1_holds_13 : decode cX1_holds 13 = .ok (.iconst 0, 1) := by decide +kernel
theorem dX1_holds_14 : decode cX1_holds 14 = .ok (.ireturn, 1) := by decide +kernel
set_option maxRecDepth 20000 in
theorem ggX1_reachedStates_X2_statesOf : GoodIn wsX1_reachedStates wsX2_statesOf := goodIn_r _ [5, 6, 16, 17, 18, 19] (by decide +kernel) (by decide +kernel)
set_option maxRecDepth 20000 in
theorem gX1_reachedStates_X2_statesOf : GoodIn wsX1_reachedStates (wsV RX1 37 RX2 yX2_statesOf wsX2_statesOf) := goodIn_app (goodIn_of _ (by decide +kernel)) ggX1_reachedStates_X2_statesOf
set_option maxRecDepth 20000 in
theorem ggX1_reachedStates_X1_holds : GoodIn wsX1_reachedStates wsX1_holds := goodIn_r _ [10] (by decide +kernel) (by decide +kernel)
set_option maxRecDepth 20000 in
theorem gX1_reachedStates_X1_holds : GoodIn wsX1_reachedStates (va_wsS RX1 41 yX1_holds wsX1_holds) := goodIn_app (goodIn_of _ (by decide +kernel)) ggX1_reachedStates_X1_holds
set_option maxRecDepth 20000 in
theorem ggX1_reachedStates_X2_nextOf : GoodIn wsX1_reachedStates wsX2_nextOf := goodIn_r _ [14, 15, 16, 17, 18, 19] (by decide +kernel) (by decide +kernel)
set_option maxRecDepth 20000 in
theorem gX1_reachedStates_X2_nextOf : GoodIn wsX1_reachedStates (wsV RX1 51 RX2 yX2_nextOf wsX2_nextOf) := goodIn_app (goodIn_of _ (by decide +kernel)) ggX1_reachedStates_X2_nextOf
theorem dX1_reachedStates_0 : decode cX1_reachedStates 0 = .ok (.iconst 1, 1) := by decide +kernel
theorem dX1_reachedStates_1 : decode cX1_reachedStates 1 = .ok (.istore_n 2, 1) := by decide +kernel
theorem dX1_reachedStates_2 : decode cX1_reachedStates 2 = .ok (.iconst 0, 1) := by decide +kernel
theorem dX1_reachedStates_3 : decode cX1_reachedStates 3 = .ok (.istore_n 3, 1) := by decide +kernel
theorem dX1_reachedStates_4 : decode cX1_reachedStates 4 = .ok (.iload_n 3, 1) := by decide +kernel
theorem dX1_reachedStates_5 : decode cX1_reachedStates 5 = .ok (.iconst 4, 1) := by decide +kernel
theorem dX1_reachedStates_6 : decode cX1_reachedStates 6 = .ok (.if_icmp .ge 66, 3) := by decide +kernel
theorem dX1_reachedStates_9 : decode cX1_reachedStates 9 = .ok (.iconst 0, 1) := by decide +kernel
theorem dX1_reachedStates_10 : decode cX1_reachedStates 10 = .ok (.istore 4, 2) := by decide +kernel
theorem dX1_reachedStates_12 : decode cX1_reachedStates 12 = .ok (.iload 4, 2) := by decide +kernel
theorem dX1_reachedStates_14 : decode cX1_reachedStates 14 = .ok (.aload_n 0, 1) := by decide +kernel
theorem dX1_reachedStates_15 : decode cX1_reachedStates 15 = .ok (.iload_n 1, 1) := by decide +kernel
theorem dX1_reachedStates_16 : decode cX1_reachedStates 16 = .ok (.invokevirtual 37, 3) := by decide +kernel
theorem dX1_reachedStates_19 : decode cX1_reachedStates 19 = .ok (.if_icmp .ge 47, 3) := by decide +kernel
theorem dX1_reachedStates_22 : decode cX1_reachedStates 22 = .ok (.iconst 0, 1) := by decide +kernel
theorem dX1_reachedStates_23 : decode cX1_reachedStates 23 = .ok (.istore 5, 2) := by decide +kernel
theorem dX1_reachedStates_25 : decode cX1_reachedStates 25 = .ok (.iload 5, 2) := by decide +kernel
theorem dX1_reachedStates_27 : decode cX1_reachedStates 27 = .ok (.iconst 3, 1) := by decide +kernel
theorem dX1_reachedStates_28 : decode cX1_reachedStates 28 = .ok (.if_icmp .ge 32, 3) := by decide +kernel
theorem dX1_reachedStates_31 : decode cX1_reachedStates 31 = .ok (.iload_n 2, 1) := by decide +kernel
theorem dX1_reachedStates_32 : decode cX1_reachedStates 32 = .ok (.iload 4, 2) := by decide +kernel
theorem dX1_reachedStates_34 : decode cX1_reachedStates 34 = .ok (.invokestatic 41, 3) := by decide +kernel
theorem dX1_reachedStates_37 : decode cX1_reachedStates 37 = .ok (.ifCond .eq 23, 3) := by decide +kernel
theorem dX1_reachedStates_40 : decode cX1_reachedStates 40 = .ok (.iload_n 2, 1) := by decide +kernel
theorem dX1_reachedStates_41 : decode cX1_reachedStates 41 = .ok (.iconst 1, 1) := by decide +kernel
theorem dX1_reachedStates_42 : decode cX1_reachedStates 42 = .ok (.aload_n 0, 1) := by decide +kernel
theorem dX1_reachedStates_43 : decode cX1_reachedStates 43 = .ok (.iload_n 1, 1) := by decide +kernel
theorem dX1_reachedStates_44 : decode cX1_reachedStates 44 = .ok (.iload 4, 2) := by decide +kernel
theorem dX1_reachedStates_46 : decode cX1_reachedStates 46 = .ok (.iload 5, 2) := by decide +kernel
theorem dX1_reachedStates_48 : decode cX1_reachedStates 48 = .ok (.invokevirtual 51, 3) := by decide +kernel
theorem dX1_reachedStates_51 : decode cX1_reachedStates 51 = .ok (.ishl, 1) := by decide +kernel
theorem dX1_reachedStates_52 : decode cX1_reachedStates 52 = .ok (.ior, 1) := by decide +kernel
theorem dX1_reachedStates_53 : decode cX1_reachedStates 53 = .ok (.istore_n 2, 1) := by decide +kernel
theorem dX1_reachedStates_54 : decode cX1_reachedStates 54 = .ok (.iinc 5 1, 3) := by decide +kernel
theorem dX1_reachedStates_57 : decode cX1_reachedStates 57 = .ok (.goto (-32), 3) := by decide +kernel
theorem dX1_reachedStates_60 : decode cX1_reachedStates 60 = .ok (.iinc 4 1, 3) := by decide +kernel
theorem dX1_reachedStates_63 : decode cX1_reachedStates 63 = .ok (.goto (-51), 3) := by decide +kernel
theorem dX1_reachedStates_66 : decode cX1_reachedStates 66 = .ok (.iinc 3 1, 3) := by decide +kernel
theorem dX1_reachedStates_69 : decode cX1_reachedStates 69 = .ok (.goto (-65), 3) := by decide +kernel
theorem dX1_reachedStates_72 : decode cX1_reachedStates 72 = .ok (.iload_n 2, 1) := by decide +kernel
theorem dX1_reachedStates_73 : decode cX1_reachedStates 73 = .ok (.ireturn, 1) := by decide +kernel
set_option maxRecDepth 20000 in
theorem ggX1_statesLike_X6_placeOf : GoodIn wsX1_statesLike wsX6_placeOf := goodIn_r _ [5] (by decide +kernel) (by decide +kernel)
set_option maxRecDepth 20000 in
theorem gX1_statesLike_X6_placeOf : GoodIn wsX1_statesLike (va_wsS RX1 55 yX6_placeOf wsX6_placeOf) := goodIn_app (goodIn_of _ (by decide +kernel)) ggX1_statesLike_X6_placeOf
set_option maxRecDepth 20000 in
theorem ggX1_statesLike_X6_mine : GoodIn wsX1_statesLike wsX6_mine := goodIn_r _ [8] (by decide +kernel) (by decide +kernel)
set_option maxRecDepth 20000 in
theorem gX1_statesLike_X6_mine : GoodIn wsX1_statesLike (va_wsS RX1 59 yX6_mine wsX6_mine) := goodIn_app (goodIn_of _ (by decide +kernel)) ggX1_statesLike_X6_mine
set_option maxRecDepth 20000 in
theorem ggX1_statesLike_X6_theirs : GoodIn wsX1_statesLike wsX6_theirs := goodIn_r _ [11] (by decide +kernel) (by decide +kernel)
set_option maxRecDepth 20000 in
theorem gX1_statesLike_X6_theirs : GoodIn wsX1_statesLike (va_wsS RX1 62 yX6_theirs wsX6_theirs) := goodIn_app (goodIn_of _ (by decide +kernel)) ggX1_statesLike_X6_theirs
set_option maxRecDepth 20000 in
theorem ggX1_statesLike_X2_actionOf : GoodIn wsX1_statesLike wsX2_actionOf := goodIn_r _ [16, 17, 28, 29, 30, 31] (by decide +kernel) (by decide +kernel)
set_option maxRecDepth 20000 in
theorem gX1_statesLike_X2_actionOf : GoodIn wsX1_statesLike (wsV RX1 65 RX2 yX2_actionOf wsX2_actionOf) := goodIn_app (goodIn_of _ (by decide +kernel)) ggX1_statesLike_X2_actionOf
set_option maxRecDepth 20000 in
theorem ggX1_statesLike_X2_nextOf : GoodIn wsX1_statesLike wsX2_nextOf := goodIn_r _ [21, 22, 28, 29, 30, 31] (by decide +kernel) (by decide +kernel)
set_option maxRecDepth 20000 in
theorem gX1_statesLike_X2_nextOf : GoodIn wsX1_statesLike (wsV RX1 51 RX2 yX2_nextOf wsX2_nextOf) := goodIn_app (goodIn_of _ (by decide +kernel)) ggX1_statesLike_X2_nextOf
set_option maxRecDepth 20000 in
theorem ggX1_statesLike_X1_holds : GoodIn wsX1_statesLike wsX1_holds := goodIn_r _ [26] (by decide +kernel) (by decide +kernel)
set_option maxRecDepth 20000 in
theorem gX1_statesLike_X1_holds : GoodIn wsX1_statesLike (va_wsS RX1 41 yX1_holds wsX1_holds) := goodIn_app (goodIn_of _ (by decide +kernel)) ggX1_statesLike_X1_holds
theorem dX1_statesLike_0 : decode cX1_statesLike 0 = .ok (.aload_n 0, 1) := by decide +kernel
theorem dX1_statesLike_1 : decode cX1_statesLike 1 = .ok (.getfield 9, 3) := by decide +kernel
theorem dX1_statesLike_4 : decode cX1_statesLike 4 = .ok (.iconst 0, 1) := by decide +kernel
theorem dX1_statesLike_5 : decode cX1_statesLike 5 = .ok (.iload_n 3, 1) := by decide +kernel
theorem dX1_statesLike_6 : decode cX1_statesLike 6 = .ok (.iload 5, 2) := by decide +kernel
theorem dX1_statesLike_8 : decode cX1_statesLike 8 = .ok (.invokestatic 55, 3) := by decide +kernel
theorem dX1_statesLike_11 : decode cX1_statesLike 11 = .ok (.iastore, 1) := by decide +kernel
theorem dX1_statesLike_12 : decode cX1_statesLike 12 = .ok (.iconst 1, 1) := by decide +kernel
theorem dX1_statesLike_13 : decode cX1_statesLike 13 = .ok (.aload_n 0, 1) := by decide +kernel
theorem dX1_statesLike_14 : decode cX1_statesLike 14 = .ok (.getfield 9, 3) := by decide +kernel
theorem dX1_statesLike_17 : decode cX1_statesLike 17 = .ok (.iconst 0, 1) := by decide +kernel
theorem dX1_statesLike_18 : decode cX1_statesLike 18 = .ok (.iaload, 1) := by decide +kernel
theorem dX1_statesLike_19 : decode cX1_statesLike 19 = .ok (.ishl, 1) := by decide +kernel
theorem dX1_statesLike_20 : decode cX1_statesLike 20 = .ok (.istore 6, 2) := by decide +kernel
theorem dX1_statesLike_22 : decode cX1_statesLike 22 = .ok (.iconst 1, 1) := by decide +kernel
theorem dX1_statesLike_23 : decode cX1_statesLike 23 = .ok (.istore 7, 2) := by decide +kernel
theorem dX1_statesLike_25 : decode cX1_statesLike 25 = .ok (.iconst 0, 1) := by decide +kernel
theorem dX1_statesLike_26 : decode cX1_statesLike 26 = .ok (.istore 8, 2) := by decide +kernel
theorem dX1_statesLike_28 : decode cX1_statesLike 28 = .ok (.iload 8, 2) := by decide +kernel
theorem dX1_statesLike_30 : decode cX1_statesLike 30 = .ok (.bipush 16, 2) := by decide +kernel
theorem dX1_statesLike_32 : decode cX1_statesLike 32 = .ok (.if_icmp .ge 130, 3) := by decide +kernel
theorem dX1_statesLike_35 : decode cX1_statesLike 35 = .ok (.iload 8, 2) := by decide +kernel
theorem dX1_statesLike_37 : decode cX1_statesLike 37 = .ok (.iload 7, 2) := by decide +kernel
theorem dX1_statesLike_39 : decode cX1_statesLike 39 = .ok (.if_icmp .ge 123, 3) := by decide +kernel
theorem dX1_statesLike_42 : decode cX1_statesLike 42 = .ok (.aload_n 0, 1) := by decide +kernel
theorem dX1_statesLike_43 : decode cX1_statesLike 43 = .ok (.getfield 9, 3) := by decide +kernel
theorem dX1_statesLike_46 : decode cX1_statesLike 46 = .ok (.iload 8, 2) := by decide +kernel
theorem dX1_statesLike_48 : decode cX1_statesLike 48 = .ok (.iaload, 1) := by decide +kernel
theorem dX1_statesLike_49 : decode cX1_statesLike 49 = .ok (.invokestatic 59, 3) := by decide +kernel
theorem dX1_statesLike_52 : decode cX1_statesLike 52 = .ok (.istore 9, 2) := by decide +kernel
theorem dX1_statesLike_54 : decode cX1_statesLike 54 = .ok (.aload_n 0, 1) := by decide +kernel
theorem dX1_statesLike_55 : decode cX1_statesLike 55 = .ok (.getfield 9, 3) := by decide +kernel
theorem dX1_statesLike_58 : decode cX1_statesLike 58 = .ok (.iload 8, 2) := by decide +kernel
theorem dX1_statesLike_60 : decode cX1_statesLike 60 = .ok (.iaload, 1) := by decide +kernel
theorem dX1_statesLike_61 : decode cX1_statesLike 61 = .ok (.invokestatic 62, 3) := by decide +kernel
theorem dX1_statesLike_64 : decode cX1_statesLike 64 = .ok (.istore 10, 2) := by decide +kernel
theorem dX1_statesLike_66 : decode cX1_statesLike 66 = .ok (.aload_n 1, 1) := by decide +kernel
theorem dX1_statesLike_67 : decode cX1_statesLike 67 = .ok (.iload_n 2, 1) := by decide +kernel
theorem dX1_statesLike_68 : decode cX1_statesLike 68 = .ok (.iload 9, 2) := by decide +kernel
theorem dX1_statesLike_70 : decode cX1_statesLike 70 = .ok (.invokevirtual 65, 3) := by decide +kernel
theorem dX1_statesLike_73 : decode cX1_statesLike 73 = .ok (.aload_n 1, 1) := by decide +kernel
theorem dX1_statesLike_74 : decode cX1_statesLike 74 = .ok (.iload 4, 2) := by decide +kernel
theorem dX1_statesLike_76 : decode cX1_statesLike 76 = .ok (.iload 10, 2) := by decide +kernel
theorem dX1_statesLike_78 : decode cX1_statesLike 78 = .ok (.invokevirtual 65, 3) := by decide +kernel
theorem dX1_statesLike_81 : decode cX1_statesLike 81 = .ok (.if_icmp .eq 5, 3) := by decide +kernel
theorem dX1_statesLike_84 : decode cX1_statesLike 84 = .ok (.iconst 0, 1) := by decide +kernel
theorem dX1_statesLike_85 : decode cX1_statesLike 85 = .ok (.ireturn, 1) := by decide +kernel
theorem dX1_statesLike_86 : decode cX1_statesLike 86 = .ok (.iconst 0, 1) := by decide +kernel
theorem dX1_statesLike_87 : decode cX1_statesLike 87 = .ok (.istore 11, 2) := by decide +kernel
theorem dX1_statesLike_89 : decode cX1_statesLike 89 = .ok (.iload 11, 2) := by decide +kernel
theorem dX1_statesLike_91 : decode cX1_statesLike 91 = .ok (.iconst 3, 1) := by decide +kernel
theorem dX1_statesLike_92 : decode cX1_statesLike 92 = .ok (.if_icmp .ge 64, 3) := by decide +kernel
theorem dX1_statesLike_95 : decode cX1_statesLike 95 = .ok (.aload_n 1, 1) := by decide +kernel
theorem dX1_statesLike_96 : decode cX1_statesLike 96 = .ok (.iload_n 2, 1) := by decide +kernel
theorem dX1_statesLike_97 : decode cX1_statesLike 97 = .ok (.iload 9, 2) := by decide +kernel
theorem dX1_statesLike_99 : decode cX1_statesLike 99 = .ok (.iload 11, 2) := by decide +kernel
theorem dX1_statesLike_101 : decode cX1_statesLike 101 = .ok (.invokevirtual 51, 3) := by decide +kernel
theorem dX1_statesLike_104 : decode cX1_statesLike 104 = .ok (.aload_n 1, 1) := by decide +kernel
theorem dX1_statesLike_105 : decode cX1_statesLike 105 = .ok (.iload 4, 2) := by decide +kernel
theorem dX1_statesLike_107 : decode cX1_statesLike 107 = .ok (.iload 10, 2) := by decide +kernel
theorem dX1_statesLike_109 : decode cX1_statesLike 109 = .ok (.iload 11, 2) := by decide +kernel
theorem dX1_statesLike_111 : decode cX1_statesLike 111 = .ok (.invokevirtual 51, 3) := by decide +kernel
theorem dX1_statesLike_114 : decode cX1_statesLike 114 = .ok (.invokestatic 55, 3) := by decide +kernel
theorem dX1_statesLike_117 : decode cX1_statesLike 117 = .ok (.istore 12, 2) := by decide +kernel
theorem dX1_statesLike_119 : decode cX1_statesLike 119 = .ok (.iload 6, 2) := by decide +kernel
theorem dX1_statesLike_121 : decode cX1_statesLike 121 = .ok (.iload 12, 2) := by decide +kernel
theorem dX1_statesLike_123 : decode cX1_statesLike 123 = .ok (.invokestatic 41, 3) := by decide +kernel
theorem dX1_statesLike_126 : decode cX1_statesLike 126 = .ok (.ifCond .ne 24, 3) := by decide +kernel
theorem dX1_statesLike_129 : decode cX1_statesLike 129 = .ok (.iload 6, 2) := by decide +kernel
theorem dX1_statesLike_131 : decode cX1_statesLike 131 = .ok (.iconst 1, 1) := by decide +kernel
theorem dX1_statesLike_132 : decode cX1_statesLike 132 = .ok (.iload 12, 2) := by decide +kernel
theorem dX1_statesLike_134 : decode cX1_statesLike 134 = .ok (.ishl, 1) := by decide +kernel
theorem dX1_statesLike_135 : decode cX1_statesLike 135 = .ok (.ior, 1) := by decide +kernel
theorem dX1_statesLike_136 : decode cX1_statesLike 136 = .ok (.istore 6, 2) := by decide +kernel
theorem dX1_statesLike_138 : decode cX1_statesLike 138 = .ok (.aload_n 0, 1) := by decide +kernel
theorem dX1_statesLike_139 : decode cX1_statesLike 139 = .ok (.getfield 9, 3) := by decide +kernel
theorem dX1_statesLike_142 : decode cX1_statesLike 142 = .ok (.iload 7, 2) := by decide +kernel
theorem dX1_statesLike_144 : decode cX1_statesLike 144 = .ok (.iload 12, 2) := by decide +kernel
theorem dX1_statesLike_146 : decode cX1_statesLike 146 = .ok (.iastore, 1) := by decide +kernel
theorem dX1_statesLike_147 : decode cX1_statesLike 147 = .ok (.iinc 7 1, 3) := by decide +kernel
theorem dX1_statesLike_150 : decode cX1_statesLike 150 = .ok (.iinc 11 1, 3) := by decide +kernel
theorem dX1_statesLike_153 : decode cX1_statesLike 153 = .ok (.goto (-64), 3) := by decide +kernel
theorem dX1_statesLike_156 : decode cX1_statesLike 156 = .ok (.iinc 8 1, 3) := by decide +kernel
theorem dX1_statesLike_159 : decode cX1_statesLike 159 = .ok (.goto (-131), 3) := by decide +kernel
theorem dX1_statesLike_162 : decode cX1_statesLike 162 = .ok (.iconst 1, 1) := by decide +kernel
theorem dX1_statesLike_163 : decode cX1_statesLike 163 = .ok (.ireturn, 1) := by decide +kernel
theorem dX2_init_0 : decode cX2_init 0 = .ok (.aload_n 0, 1) := by decide +kernel
theorem dX2_init_1 : decode cX2_init 1 = .ok (.invokespecial 1, 3) := by decide +kernel
theorem dX2_init_4 : decode cX2_init 4 = .ok (.aload_n 0, 1) := by decide +kernel
theorem dX2_init_5 : decode cX2_init 5 = .ok (.bipush 12, 2) := by decide +kernel
theorem dX2_init_7 : decode cX2_init 7 = .ok (.newarray .int, 2) := by decide +kernel
theorem dX2_init_9 : decode cX2_init 9 = .ok (.putfield 9, 3) := by decide +kernel
theorem dX2_init_12 : decode cX2_init 12 = .ok (.aload_n 0, 1) := by decide +kernel
theorem dX2_init_13 : decode cX2_init 13 = .ok (.bipush 48, 2) := by decide +kernel
theorem dX2_init_15 : decode cX2_init 15 = .ok (.newarray .int, 2) := by decide +kernel
theorem dX2_init_17 : decode cX2_init 17 = .ok (.putfield 13, 3) := by decide +kernel
theorem dX2_init_20 : decode cX2_init 20 = .ok (.aload_n 0, 1) := by decide +kernel
theorem dX2_init_21 : decode cX2_init 21 = .ok (.sipush 144, 3) := by decide +kernel
theorem dX2_init_24 : decode cX2_init 24 = .ok (.newarray .int, 2) := by decide +kernel
theorem dX2_init_26 : decode cX2_init 26 = .ok (.putfield 18, 3) := by decide +kernel
theorem dX2_init_29 : decode cX2_init 29 = .ok (.aload_n 0, 1) := by decide +kernel
theorem dX2_init_30 : decode cX2_init 30 = .ok (.iconst 0, 1) := by decide +kernel
theorem dX2_init_31 : decode cX2_init 31 = .ok (.putfield 21, 3) := by decide +kernel
theorem dX2_init_34 : decode cX2_init 34 = .ok (.return_, 1) := by decide +kernel
theorem dX2_many_0 : decode cX2_many 0 = .ok (.aload_n 0, 1) := by decide +kernel
theorem dX2_many_1 : decode cX2_many 1 = .ok (.getfield 21, 3) := by decide +kernel
theorem dX2_many_4 : decode cX2_many 4 = .ok (.ireturn, 1) := by decide +kernel
theorem dX2_isFull_0 : decode cX2_isFull 0 = .ok (.aload_n 0, 1) := by decide +kernel
theorem dX2_isFull_1 : decode cX2_isFull 1 = .ok (.getfield 21, 3) := by decide +kernel
theorem dX2_isFull_4 : decode cX2_isFull 4 = .ok (.bipush 12, 2) := by decide +kernel
theorem dX2_isFull_6 : decode cX2_isFull 6 = .ok (.if_icmp .lt 7, 3) := by decide +kernel
theorem dX2_isFull_9 : decode cX2_isFull 9 = .ok (.iconst 1, 1) := by decide +kernel
theorem dX2_isFull_10 : decode cX2_isFull 10 = .ok (.goto 4, 3) := by decide +kernel
theorem dX2_isFull_13 : decode cX2_isFull 13 = .ok (.iconst 0, 1) := by decide +kernel
theorem dX2_isFull_14 : decode cX2_isFull 14 = .ok (.ireturn, 1) := by decide +kernel
theorem dX2_has_0 : decode cX2_has 0 = .ok (.iload_n 1, 1) := by decide +kernel
theorem dX2_has_1 : decode cX2_has 1 = .ok (.ifCond .lt 15, 3) := by decide +kernel
theorem dX2_has_4 : decode cX2_has 4 = .ok (.iload_n 1, 1) := by decide +kernel
theorem dX2_has_5 : decode cX2_has 5 = .ok (.aload_n 0, 1) := by decide +kernel
theorem dX2_has_6 : decode cX2_has 6 = .ok (.getfield 21, 3) := by decide +kernel
theorem dX2_has_9 : decode cX2_has 9 = .ok (.if_icmp .ge 7, 3) := by decide +kernel
theorem dX2_has_12 : decode cX2_has 12 = .ok (.iconst 1, 1) := by decide +kernel
theorem dX2_has_13 : decode cX2_has 13 = .ok (.goto 4, 3) := by decide +kernel
theorem dX2_has_16 : decode cX2_has 16 = .ok (.iconst 0, 1) := by decide +kernel
theorem dX2_has_17 : decode cX2_has 17 = .ok (.ireturn, 1) := by decide +kernel
set_option maxRecDepth 20000 in
theorem ggX2_hasState_X2_has : GoodIn wsX2_hasState wsX2_has := goodIn_r _ [6, 7, 8, 9, 10, 11] (by decide +kernel) (by decide +kernel)
set_option maxRecDepth 20000 in
theorem gX2_hasState_X2_has : GoodIn wsX2_hasState (wsV RX2 25 RX2 yX2_has wsX2_has) := goodIn_app (goodIn_of _ (by decide +kernel)) ggX2_hasState_X2_has
theorem dX2_hasState_0 : decode cX2_hasState 0 = .ok (.aload_n 0, 1) := by decide +kernel
theorem dX2_hasState_1 : decode cX2_hasState 1 = .ok (.iload_n 1, 1) := by decide +kernel
theorem dX2_hasState_2 : decode cX2_hasState 2 = .ok (.invokevirtual 25, 3) := by decide +kernel
theorem dX2_hasState_5 : decode cX2_hasState 5 = .ok (.ifCond .eq 21, 3) := by decide +kernel
theorem dX2_hasState_8 : decode cX2_hasState 8 = .ok (.iload_n 2, 1) := by decide +kernel
theorem dX2_hasState_9 : decode cX2_hasState 9 = .ok (.ifCond .lt 17, 3) := by decide +kernel
theorem dX2_hasState_12 : decode cX2_hasState 12 = .ok (.iload_n 2, 1) := by decide +kernel
theorem dX2_hasState_13 : decode cX2_hasState 13 = .ok (.aload_n 0, 1) := by decide +kernel
theorem dX2_hasState_14 : decode cX2_hasState 14 = .ok (.getfield 9, 3) := by decide +kernel
theorem dX2_hasState_17 : decode cX2_hasState 17 = .ok (.iload_n 1, 1) := by decide +kernel
theorem dX2_hasState_18 : decode cX2_hasState 18 = .ok (.iaload, 1) := by decide +kernel
theorem dX2_hasState_19 : decode cX2_hasState 19 = .ok (.if_icmp .ge 7, 3) := by decide +kernel
theorem dX2_hasState_22 : decode cX2_hasState 22 = .ok (.iconst 1, 1) := by decide +kernel
theorem dX2_hasState_23 : decode cX2_hasState 23 = .ok (.goto 4, 3) := by decide +kernel
theorem dX2_hasState_26 : decode cX2_hasState 26 = .ok (.iconst 0, 1) := by decide +kernel
theorem dX2_hasState_27 : decode cX2_hasState 27 = .ok (.ireturn, 1) := by decide +kernel
theorem dX2_statesOf_0 : decode cX2_statesOf 0 = .ok (.aload_n 0, 1) := by decide +kernel
theorem dX2_statesOf_1 : decode cX2_statesOf 1 = .ok (.getfield 9, 3) := by decide +kernel
theorem dX2_statesOf_4 : decode cX2_statesOf 4 = .ok (.iload_n 1, 1) := by decide +kernel
theorem dX2_statesOf_5 : decode cX2_statesOf 5 = .ok (.iaload, 1) := by decide +kernel
theorem dX2_statesOf_6 : decode cX2_statesOf 6 = .ok (.ireturn, 1) := by decide +kernel
set_option maxRecDepth 20000 in
theorem ggX2_add_X2_setAction : GoodIn wsX2_add wsX2_setAction := goodIn_r _ [7, 8, 14, 15, 16, 17] (by decide +kernel) (by decide +kernel)
set_option maxRecDepth 20000 in
theorem gX2_add_X2_setAction : GoodIn wsX2_add (wsV RX2 29 RX2 yX2_setAction wsX2_setAction) := goodIn_app (goodIn_of _ (by decide +kernel)) ggX2_add_X2_setAction
set_option maxRecDepth 20000 in
theorem ggX2_add_X2_setNext : GoodIn wsX2_add wsX2_setNext := goodIn_r _ [12, 13, 14, 15, 16, 17] (by decide +kernel) (by decide +kernel)
set_option maxRecDepth 20000 in
theorem gX2_add_X2_setNext : GoodIn wsX2_add (wsV RX2 33 RX2 yX2_setNext wsX2_setNext) := goodIn_app (goodIn_of _ (by decide +kernel)) ggX2_add_X2_setNext
theorem dX2_add_0 : decode cX2_add 0 = .ok (.aload_n 0, 1) := by decide +kernel
theorem dX2_add_1 : decode cX2_add 1 = .ok (.getfield 21, 3) := by decide +kernel
theorem dX2_add_4 : decode cX2_add 4 = .ok (.istore_n 2, 1) := by decide +kernel
theorem dX2_add_5 : decode cX2_add 5 = .ok (.aload_n 0, 1) := by decide +kernel
theorem dX2_add_6 : decode cX2_add 6 = .ok (.dup, 1) := by decide +kernel
theorem dX2_add_7 : decode cX2_add 7 = .ok (.getfield 21, 3) := by decide +kernel
theorem dX2_add_10 : decode cX2_add 10 = .ok (.iconst 1, 1) := by decide +kernel
theorem dX2_add_11 : decode cX2_add 11 = .ok (.iadd, 1) := by decide +kernel
theorem dX2_add_12 : decode cX2_add 12 = .ok (.putfield 21, 3) := by decide +kernel
theorem dX2_add_15 : decode cX2_add 15 = .ok (.aload_n 0, 1) := by decide +kernel
theorem dX2_add_16 : decode cX2_add 16 = .ok (.getfield 9, 3) := by decide +kernel
theorem dX2_add_19 : decode cX2_add 19 = .ok (.iload_n 2, 1) := by decide +kernel
theorem dX2_add_20 : decode cX2_add 20 = .ok (.iload_n 1, 1) := by decide +kernel
theorem dX2_add_21 : decode cX2_add 21 = .ok (.iastore, 1) := by decide +kernel
theorem dX2_add_22 : decode cX2_add 22 = .ok (.iconst 0, 1) := by decide +kernel
theorem dX2_add_23 : decode cX2_add 23 = .ok (.istore_n 3, 1) := by decide +kernel
theorem dX2_add_24 : decode cX2_add 24 = .ok (.iload_n 3, 1) := by decide +kernel
theorem dX2_add_25 : decode cX2_add 25 = .ok (.iload_n 1, 1) := by decide +kernel
theorem dX2_add_26 : decode cX2_add 26 = .ok (.if_icmp .ge 40, 3) := by decide +kernel
theorem dX2_add_29 : decode cX2_add 29 = .ok (.aload_n 0, 1) := by decide +kernel
theorem dX2_add_30 : decode cX2_add 30 = .ok (.iload_n 2, 1) := by decide +kernel
theorem dX2_add_31 : decode cX2_add 31 = .ok (.iload_n 3, 1) := by decide +kernel
theorem dX2_add_32 : decode cX2_add 32 = .ok (.iconst 0, 1) := by decide +kernel
theorem dX2_add_33 : decode cX2_add 33 = .ok (.invokevirtual 29, 3) := by decide +kernel
theorem dX2_add_36 : decode cX2_add 36 = .ok (.iconst 0, 1) := by decide +kernel
theorem dX2_add_37 : decode cX2_add 37 = .ok (.istore 4, 2) := by decide +kernel
theorem dX2_add_39 : decode cX2_add 39 = .ok (.iload 4, 2) := by decide +kernel
theorem dX2_add_41 : decode cX2_add 41 = .ok (.iconst 3, 1) := by decide +kernel
theorem dX2_add_42 : decode cX2_add 42 = .ok (.if_icmp .ge 18, 3) := by decide +kernel
theorem dX2_add_45 : decode cX2_add 45 = .ok (.aload_n 0, 1) := by decide +kernel
theorem dX2_add_46 : decode cX2_add 46 = .ok (.iload_n 2, 1) := by decide +kernel
theorem dX2_add_47 : decode cX2_add 47 = .ok (.iload_n 3, 1) := by decide +kernel
theorem dX2_add_48 : decode cX2_add 48 = .ok (.iload 4, 2) := by decide +kernel
theorem dX2_add_50 : decode cX2_add 50 = .ok (.iload_n 3, 1) := by decide +kernel
theorem dX2_add_51 : decode cX2_add 51 = .ok (.invokevirtual 33, 3) := by decide +kernel
theorem dX2_add_54 : decode cX2_add 54 = .ok (.iinc 4 1, 3) := by decide +kernel
theorem dX2_add_57 : decode cX2_add 57 = .ok (.goto (-18), 3) := by decide +kernel
theorem dX2_add_60 : decode cX2_add 60 = .ok (.iinc 3 1, 3) := by decide +kernel
theorem dX2_add_63 : decode cX2_add 63 = .ok (.goto (-39), 3) := by decide +kernel
theorem dX2_add_66 : decode cX2_add 66 = .ok (.iload_n 2, 1) := by decide +kernel
theorem dX2_add_67 : decode cX2_add 67 = .ok (.ireturn, 1) := by decide +kernel
theorem dX2_removeLatest_0 : decode cX2_removeLatest 0 = .ok (.aload_n 0, 1) := by decide +kernel
theorem dX2_removeLatest_1 : decode cX2_removeLatest 1 = .ok (.dup, 1) := by decide +kernel
theorem dX2_removeLatest_2 : decode cX2_removeLatest 2 = .ok (.getfield 21, 3) := by decide +kernel
theorem dX2_removeLatest_5 : decode cX2_removeLatest 5 = .ok (.iconst 1, 1) := by decide +kernel
theorem dX2_removeLatest_6 : decode cX2_removeLatest 6 = .ok (.isub, 1) := by decide +kernel
theorem dX2_removeLatest_7 : decode cX2_removeLatest 7 = .ok (.putfield 21, 3) := by decide +kernel
theorem dX2_removeLatest_10 : decode cX2_removeLatest 10 = .ok (.aload_n 0, 1) := by decide +kernel
theorem dX2_removeLatest_11 : decode cX2_removeLatest 11 = .ok (.getfield 21, 3) := by decide +kernel
theorem dX2_removeLatest_14 : decode cX2_removeLatest 14 = .ok (.ireturn, 1) := by decide +kernel
theorem dX2_setAction_0 : decode cX2_setAction 0 = .ok (.aload_n 0, 1) := by decide +kernel
theorem dX2_setAction_1 : decode cX2_setAction 1 = .ok (.getfield 13, 3) := by decide +kernel
theorem dX2_setAction_4 : decode cX2_setAction 4 = .ok (.iconst 4, 1) := by decide +kernel
theorem dX2_setAction_5 : decode cX2_setAction 5 = .ok (.iload_n 1, 1) := by decide +kernel
theorem dX2_setAction_6 : decode cX2_setAction 6 = .ok (.imul, 1) := by decide +kernel
theorem dX2_setAction_7 : decode cX2_setAction 7 = .ok (.iload_n 2, 1) := by decide +kernel
theorem dX2_setAction_8 : decode cX2_setAction 8 = .ok (.iadd, 1) := by decide +kernel
theorem dX2_setAction_9 : decode cX2_setAction 9 = .ok (.iload_n 3, 1) := by decide +kernel
theorem dX2_setAction_10 : decode cX2_setAction 10 = .ok (.iastore, 1) := by decide +kernel
theorem dX2_setAction_11 : decode cX2_setAction 11 = .ok (.return_, 1) := by decide +kernel
theorem dX2_actionOf_0 : decode cX2_actionOf 0 = .ok (.aload_n 0, 1) := by decide +kernel
theorem dX2_actionOf_1 : decode cX2_actionOf 1 = .ok (.getfield 13, 3) := by decide +kernel
theorem dX2_actionOf_4 : decode cX2_actionOf 4 = .ok (.iconst 4, 1) := by decide +kernel
theorem dX2_actionOf_5 : decode cX2_actionOf 5 = .ok (.iload_n 1, 1) := by decide +kernel
theorem dX2_actionOf_6 : decode cX2_actionOf 6 = .ok (.imul, 1) := by decide +kernel
theorem dX2_actionOf_7 : decode cX2_actionOf 7 = .ok (.iload_n 2, 1) := by decide +kernel
theorem dX2_actionOf_8 : decode cX2_actionOf 8 = .ok (.iadd, 1) := by decide +kernel
theorem dX2_actionOf_9 : decode cX2_actionOf 9 = .ok (.iaload, 1) := by decide +kernel
theorem dX2_actionOf_10 : decode cX2_actionOf 10 = .ok (.ireturn, 1) := by decide +kernel
theorem dX2_setNext_0 : decode cX2_setNext 0 = .ok (.aload_n 0, 1) := by decide +kernel
theorem dX2_setNext_1 : decode cX2_setNext 1 = .ok (.getfield 18, 3) := by decide +kernel
theorem dX2_setNext_4 : decode cX2_setNext 4 = .ok (.iconst 4, 1) := by decide +kernel
theorem dX2_setNext_5 : decode cX2_setNext 5 = .ok (.iload_n 1, 1) := by decide +kernel
theorem dX2_setNext_6 : decode cX2_setNext 6 = .ok (.imul, 1) := by decide +kernel
theorem dX2_setNext_7 : decode cX2_setNext 7 = .ok (.iload_n 2, 1) := by decide +kernel
theorem dX2_setNext_8 : decode cX2_setNext 8 = .ok (.iadd, 1) := by decide +kernel
theorem dX2_setNext_9 : decode cX2_setNext 9 = .ok (.iconst 3, 1) := by decide +kernel
theorem dX2_setNext_10 : decode cX2_setNext 10 = .ok (.imul, 1) := by decide +kernel
theorem dX2_setNext_11 : decode cX2_setNext 11 = .ok (.iload_n 3, 1) := by decide +kernel
theorem dX2_setNext_12 : decode cX2_setNext 12 = .ok (.iadd, 1) := by decide +kernel
theorem dX2_setNext_13 : decode cX2_setNext 13 = .ok (.iload 4, 2) := by decide +kernel
theorem dX2_setNext_15 : decode cX2_setNext 15 = .ok (.iastore, 1) := by decide +kernel
theorem dX2_setNext_16 : decode cX2_setNext 16 = .ok (.return_, 1) := by decide +kernel
theorem dX2_nextOf_0 : decode cX2_nextOf 0 = .ok (.aload_n 0, 1) := by decide +kernel
theorem dX2_nextOf_1 : decode cX2_nextOf 1 = .ok (.getfield 18, 3) := by decide +kernel
theorem dX2_nextOf_4 : decode cX2_nextOf 4 = .ok (.iconst 4, 1) := by decide +kernel
theorem dX2_nextOf_5 : decode cX2_nextOf 5 = .ok (.iload_n 1, 1) := by decide +kernel
theorem dX2_nextOf_6 : decode cX2_nextOf 6 = .ok (.imul, 1) := by decide +kernel
theorem dX2_nextOf_7 : decode cX2_nextOf 7 = .ok (.iload_n 2, 1) := by decide +kernel
theorem dX2_nextOf_8 : decode cX2_nextOf 8 = .ok (.iadd, 1) := by decide +kernel
theorem dX2_nextOf_9 : decode cX2_nextOf 9 = .ok (.iconst 3, 1) := by decide +kernel
theorem dX2_nextOf_10 : decode cX2_nextOf 10 = .ok (.imul, 1) := by decide +kernel
theorem dX2_nextOf_11 : decode cX2_nextOf 11 = .ok (.iload_n 3, 1) := by decide +kernel
theorem dX2_nextOf_12 : decode cX2_nextOf 12 = .ok (.iadd, 1) := by decide +kernel
theorem dX2_nextOf_13 : decode cX2_nextOf 13 = .ok (.iaload, 1) := by decide +kernel
theorem dX2_nextOf_14 : decode cX2_nextOf 14 = .ok (.ireturn, 1) := by decide +kernel
set_option maxRecDepth 20000 in
theorem ggX3_init_X6_init : GoodIn wsX3_init wsX6_init := goodIn_r _ [18, 19, 2, 3, 4, 20, 21, 22, 23, 24, 25, 36, 37, 38, 39, 40, 41] (by decide +kernel) (by decide +kernel)
set_option maxRecDepth 20000 in
theorem gX3_init_X6_init_n24 : GoodIn wsX3_init (wsX6_init) := ggX3_init_X6_init
set_option maxRecDepth 20000 in
theorem ggX3_init_X4_init : GoodIn wsX3_init wsX4_init := goodIn_r _ [27, 28, 2, 3, 29, 30, 42, 43] (by decide +kernel) (by decide +kernel)
set_option maxRecDepth 20000 in
theorem gX3_init_X4_init_n31 : GoodIn wsX3_init (wsX4_init) := ggX3_init_X4_init
theorem dX3_init_0 : decode cX3_init 0 = .ok (.aload_n 0, 1) := by decide +kernel
theorem dX3_init_1 : decode cX3_init 1 = .ok (.invokespecial 3, 3) := by decide +kernel
theorem dX3_init_4 : decode cX3_init 4 = .ok (.aload_n 0, 1) := by decide +kernel
theorem dX3_init_5 : decode cX3_init 5 = .ok (.bipush 48, 2) := by decide +kernel
theorem dX3_init_7 : decode cX3_init 7 = .ok (.newarray .int, 2) := by decide +kernel
theorem dX3_init_9 : decode cX3_init 9 = .ok (.putfield 11, 3) := by decide +kernel
theorem dX3_init_12 : decode cX3_init 12 = .ok (.aload_n 0, 1) := by decide +kernel
theorem dX3_init_13 : decode cX3_init 13 = .ok (.bipush 48, 2) := by decide +kernel
theorem dX3_init_15 : decode cX3_init 15 = .ok (.newarray .long, 2) := by decide +kernel
theorem dX3_init_17 : decode cX3_init 17 = .ok (.putfield 15, 3) := by decide +kernel
theorem dX3_init_20 : decode cX3_init 20 = .ok (.aload_n 0, 1) := by decide +kernel
theorem dX3_init_21 : decode cX3_init 21 = .ok (.bipush 48, 2) := by decide +kernel
theorem dX3_init_23 : decode cX3_init 23 = .ok (.newarray .long, 2) := by decide +kernel
theorem dX3_init_25 : decode cX3_init 25 = .ok (.putfield 19, 3) := by decide +kernel
theorem dX3_init_28 : decode cX3_init 28 = .ok (.aload_n 0, 1) := by decide +kernel
theorem dX3_init_29 : decode cX3_init 29 = .ok (.new 22, 3) := by decide +kernel
theorem dX3_init_32 : decode cX3_init 32 = .ok (.dup, 1) := by decide +kernel
theorem dX3_init_33 : decode cX3_init 33 = .ok (.invokespecial 24, 3) := by decide +kernel
theorem dX3_init_36 : decode cX3_init 36 = .ok (.putfield 25, 3) := by decide +kernel
theorem dX3_init_39 : decode cX3_init 39 = .ok (.aload_n 0, 1) := by decide +kernel
theorem dX3_init_40 : decode cX3_init 40 = .ok (.new 29, 3) := by decide +kernel
theorem dX3_init_43 : decode cX3_init 43 = .ok (.dup, 1) := by decide +kernel
theorem dX3_init_44 : decode cX3_init 44 = .ok (.invokespecial 31, 3) := by decide +kernel
theorem dX3_init_47 : decode cX3_init 47 = .ok (.putfield 32, 3) := by decide +kernel
theorem dX3_init_50 : decode cX3_init 50 = .ok (.return_, 1) := by decide +kernel
theorem dX3_plansAgainst_0 : decode cX3_plansAgainst 0 = .ok (.iconst 1, 1) := by decide +kernel
theorem dX3_plansAgainst_1 : decode cX3_plansAgainst 1 = .ok (.istore_n 1, 1) := by decide +kernel
theorem dX3_plansAgainst_2 : decode cX3_plansAgainst 2 = .ok (.iconst 0, 1) := by decide +kernel
theorem dX3_plansAgainst_3 : decode cX3_plansAgainst 3 = .ok (.istore_n 2, 1) := by decide +kernel
theorem dX3_plansAgainst_4 : decode cX3_plansAgainst 4 = .ok (.iload_n 2, 1) := by decide +kernel
theorem dX3_plansAgainst_5 : decode cX3_plansAgainst 5 = .ok (.iload_n 0, 1) := by decide +kernel
theorem dX3_plansAgainst_6 : decode cX3_plansAgainst 6 = .ok (.if_icmp .ge 13, 3) := by decide +kernel
theorem dX3_plansAgainst_9 : decode cX3_plansAgainst 9 = .ok (.iload_n 1, 1) := by decide +kernel
theorem dX3_plansAgainst_10 : decode cX3_plansAgainst 10 = .ok (.iconst 3, 1) := by decide +kernel
theorem dX3_plansAgainst_11 : decode cX3_plansAgainst 11 = .ok (.imul, 1) := by decide +kernel
theorem dX3_plansAgainst_12 : decode cX3_plansAgainst 12 = .ok (.istore_n 1, 1) := by decide +kernel
theorem dX3_plansAgainst_13 : decode cX3_plansAgainst 13 = .ok (.iinc 2 1, 3) := by decide +kernel
theorem dX3_plansAgainst_16 : decode cX3_plansAgainst 16 = .ok (.goto (-12), 3) := by decide +kernel
theorem dX3_plansAgainst_19 : decode cX3_plansAgainst 19 = .ok (.iload_n 1, 1) := by decide +kernel
theorem dX3_plansAgainst_20 : decode cX3_plansAgainst 20 = .ok (.ireturn, 1) := by decide +kernel
theorem dX3_slotOf_0 : decode cX3_slotOf 0 = .ok (.iload_n 0, 1) := by decide +kernel
theorem dX3_slotOf_1 : decode cX3_slotOf 1 = .ok (.iconst 4, 1) := by decide +kernel
theorem dX3_slotOf_2 : decode cX3_slotOf 2 = .ok (.imul, 1) := by decide +kernel
theorem dX3_slotOf_3 : decode cX3_slotOf 3 = .ok (.iload_n 1, 1) := by decide +kernel
theorem dX3_slotOf_4 : decode cX3_slotOf 4 = .ok (.iadd, 1) := by decide +kernel
theorem dX3_slotOf_5 : decode cX3_slotOf 5 = .ok (.ireturn, 1) := by decide +kernel
set_option maxRecDepth 20000 in
theorem ggX3_weigh_X6_takePlan : GoodIn wsX3_weigh wsX6_takePlan := goodIn_r _ [6, 7, 8, 9, 10, 11, 12, 13, 14, 15, 16, 17, 18, 19, 20, 21, 22, 23, 24, 25, 26, 27, 28, 29, 30, 83, 84, 85, 86, 87, 88, 89, 90, 91, 92, 93, 94, 95] (by decide +kernel) (by decide +kernel)
set_option maxRecDepth 20000 in
theorem gX3_weigh_X6_takePlan : GoodIn wsX3_weigh (wsV RX3 38 RX6 yX6_takePlan wsX6_takePlan) := goodIn_app (goodIn_of _ (by decide +kernel)) ggX3_weigh_X6_takePlan
set_option maxRecDepth 20000 in
theorem ggX3_weigh_X6_startAt : GoodIn wsX3_weigh wsX6_startAt := goodIn_r _ [34, 35, 36, 7, 37, 38, 39, 40, 41, 42, 83, 84, 85, 86, 87, 88] (by decide +kernel) (by decide +kernel)
set_option maxRecDepth 20000 in
theorem gX3_weigh_X6_startAt : GoodIn wsX3_weigh (wsV RX3 42 RX6 yX6_startAt wsX6_startAt) := goodIn_app (goodIn_of _ (by decide +kernel)) ggX3_weigh_X6_startAt
set_option maxRecDepth 20000 in
theorem ggX3_weigh_X6_worthInto : GoodIn wsX3_weigh wsX6_worthInto := goodIn_r _ [46, 38, 37, 47, 48, 49, 28, 50, 51, 52, 53, 54, 55, 56, 57, 58, 5, 59, 60, 61, 62, 63, 8, 36, 64, 65, 66, 67, 68, 69, 70, 71, 72, 73, 74, 75, 76, 77, 83, 84, 85, 86, 87, 88, 93, 94, 95, 96, 97] (by decide +kernel) (by decide +kernel)
set_option maxRecDepth 20000 in
theorem gX3_weigh_X6_worthInto : GoodIn wsX3_weigh (wsV RX3 46 RX6 yX6_worthInto wsX6_worthInto) := goodIn_app (goodIn_of _ (by decide +kernel)) ggX3_weigh_X6_worthInto
theorem dX3_weigh_0 : decode cX3_weigh 0 = .ok (.aload_n 0, 1) := by decide +kernel
theorem dX3_weigh_1 : decode cX3_weigh 1 = .ok (.getfield 25, 3) := by decide +kernel
theorem dX3_weigh_4 : decode cX3_weigh 4 = .ok (.aload_n 1, 1) := by decide +kernel
theorem dX3_weigh_5 : decode cX3_weigh 5 = .ok (.aload_n 2, 1) := by decide +kernel
theorem dX3_weigh_6 : decode cX3_weigh 6 = .ok (.iload_n 3, 1) := by decide +kernel
theorem dX3_weigh_7 : decode cX3_weigh 7 = .ok (.iload 5, 2) := by decide +kernel
theorem dX3_weigh_9 : decode cX3_weigh 9 = .ok (.invokevirtual 38, 3) := by decide +kernel
theorem dX3_weigh_12 : decode cX3_weigh 12 = .ok (.aload_n 0, 1) := by decide +kernel
theorem dX3_weigh_13 : decode cX3_weigh 13 = .ok (.getfield 25, 3) := by decide +kernel
theorem dX3_weigh_16 : decode cX3_weigh 16 = .ok (.iload 4, 2) := by decide +kernel
theorem dX3_weigh_18 : decode cX3_weigh 18 = .ok (.invokevirtual 42, 3) := by decide +kernel
theorem dX3_weigh_21 : decode cX3_weigh 21 = .ok (.aload_n 0, 1) := by decide +kernel
theorem dX3_weigh_22 : decode cX3_weigh 22 = .ok (.getfield 25, 3) := by decide +kernel
theorem dX3_weigh_25 : decode cX3_weigh 25 = .ok (.aload_n 1, 1) := by decide +kernel
theorem dX3_weigh_26 : decode cX3_weigh 26 = .ok (.aload 6, 2) := by decide +kernel
theorem dX3_weigh_28 : decode cX3_weigh 28 = .ok (.invokevirtual 46, 3) := by decide +kernel
theorem dX3_weigh_31 : decode cX3_weigh 31 = .ok (.return_, 1) := by decide +kernel
set_option maxRecDepth 20000 in
theorem ggX3_learn_X3_weigh : GoodIn wsX3_learn wsX3_weigh := goodIn_r _ [6, 7, 8, 9, 10, 11, 12, 13, 14, 15, 16, 17, 18, 19, 20, 21, 22, 23, 24, 25, 26, 27, 28, 29, 30, 31, 32, 33, 34, 35, 36, 37, 38, 39, 40, 41, 42, 43, 44, 45, 46, 47, 48, 49, 50, 51, 52, 53, 54, 55, 56, 57, 58, 59, 60, 61, 62, 63, 64, 65, 66, 67, 68, 69, 70, 71, 72, 73, 74, 75, 76, 77, 78, 79, 80, 81, 82, 83, 114, 115, 116, 117, 118, 119, 120, 121, 122, 123, 124, 125, 126, 127, 128, 129, 130, 131, 132, 133] (by decide +kernel) (by decide +kernel)
set_option maxRecDepth 20000 in
theorem gX3_learn_X3_weigh : GoodIn wsX3_learn (wsV RX3 50 RX3 yX3_weigh wsX3_weigh) := goodIn_app (goodIn_of _ (by decide +kernel)) ggX3_learn_X3_weigh
set_option maxRecDepth 20000 in
theorem ggX3_learn_X3_slotOf : GoodIn wsX3_learn wsX3_slotOf := goodIn_r _ [86] (by decide +kernel) (by decide +kernel)
set_option maxRecDepth 20000 in
theorem gX3_learn_X3_slotOf : GoodIn wsX3_learn (va_wsS RX3 54 yX3_slotOf wsX3_slotOf) := goodIn_app (goodIn_of _ (by decide +kernel)) ggX3_learn_X3_slotOf
set_option maxRecDepth 20000 in
theorem ggX3_learn_X3_keep : GoodIn wsX3_learn wsX3_keep := goodIn_r _ [90, 91, 92, 1, 93, 94, 95, 96, 73, 97, 79, 80, 114, 115, 116, 117, 118, 132, 133] (by decide +kernel) (by decide +kernel)
set_option maxRecDepth 20000 in
theorem gX3_learn_X3_keep : GoodIn wsX3_learn (wsV RX3 58 RX3 yX3_keep wsX3_keep) := goodIn_app (goodIn_of _ (by decide +kernel)) ggX3_learn_X3_keep
set_option maxRecDepth 20000 in
theorem ggX3_learn_X2_statesOf : GoodIn wsX3_learn wsX2_statesOf := goodIn_r _ [19, 20, 125, 126, 127, 128] (by decide +kernel) (by decide +kernel)
set_option maxRecDepth 20000 in
theorem gX3_learn_X2_statesOf : GoodIn wsX3_learn (wsV RX3 62 RX2 yX2_statesOf wsX2_statesOf) := goodIn_app (goodIn_of _ (by decide +kernel)) ggX3_learn_X2_statesOf
set_option maxRecDepth 20000 in
theorem ggX3_learn_X3_plansAgainst : GoodIn wsX3_learn wsX3_plansAgainst := goodIn_r _ [101] (by decide +kernel) (by decide +kernel)
set_option maxRecDepth 20000 in
theorem gX3_learn_X3_plansAgainst : GoodIn wsX3_learn (va_wsS RX3 66 yX3_plansAgainst wsX3_plansAgainst) := goodIn_app (goodIn_of _ (by decide +kernel)) ggX3_learn_X3_plansAgainst
set_option maxRecDepth 20000 in
theorem ggX3_learn_X3_bestCompared : GoodIn wsX3_learn wsX3_bestCompared := goodIn_r _ [105, 92, 93, 84, 85, 5, 86, 106, 107, 108, 73, 109, 79, 80, 110, 111, 112, 113, 114, 115, 116, 117, 118, 132, 133] (by decide +kernel) (by decide +kernel)
set_option maxRecDepth 20000 in
theorem gX3_learn_X3_bestCompared : GoodIn wsX3_learn (wsV RX3 69 RX3 yX3_bestCompared wsX3_bestCompared) := goodIn_app (goodIn_of _ (by decide +kernel)) ggX3_learn_X3_bestCompared
theorem dX3_learn_0 : decode cX3_learn 0 = .ok (.aload_n 0, 1) := by decide +kernel
theorem dX3_learn_1 : decode cX3_learn 1 = .ok (.aload_n 1, 1) := by decide +kernel
theorem dX3_learn_2 : decode cX3_learn 2 = .ok (.aload_n 2, 1) := by decide +kernel
theorem dX3_learn_3 : decode cX3_learn 3 = .ok (.iload_n 3, 1) := by decide +kernel
theorem dX3_learn_4 : decode cX3_learn 4 = .ok (.iload 4, 2) := by decide +kernel
theorem dX3_learn_6 : decode cX3_learn 6 = .ok (.iconst 0, 1) := by decide +kernel
theorem dX3_learn_7 : decode cX3_learn 7 = .ok (.aload_n 0, 1) := by decide +kernel
theorem dX3_learn_8 : decode cX3_learn 8 = .ok (.getfield 32, 3) := by decide +kernel
theorem dX3_learn_11 : decode cX3_learn 11 = .ok (.invokevirtual 50, 3) := by decide +kernel
theorem dX3_learn_14 : decode cX3_learn 14 = .ok (.aload_n 0, 1) := by decide +kernel
theorem dX3_learn_15 : decode cX3_learn 15 = .ok (.iload_n 3, 1) := by decide +kernel
theorem dX3_learn_16 : decode cX3_learn 16 = .ok (.iload 4, 2) := by decide +kernel
theorem dX3_learn_18 : decode cX3_learn 18 = .ok (.invokestatic 54, 3) := by decide +kernel
theorem dX3_learn_21 : decode cX3_learn 21 = .ok (.iconst 0, 1) := by decide +kernel
theorem dX3_learn_22 : decode cX3_learn 22 = .ok (.invokevirtual 58, 3) := by decide +kernel
theorem dX3_learn_25 : decode cX3_learn 25 = .ok (.iconst 1, 1) := by decide +kernel
theorem dX3_learn_26 : decode cX3_learn 26 = .ok (.istore 5, 2) := by decide +kernel
theorem dX3_learn_28 : decode cX3_learn 28 = .ok (.iload 5, 2) := by decide +kernel
theorem dX3_learn_30 : decode cX3_learn 30 = .ok (.aload_n 2, 1) := by decide +kernel
theorem dX3_learn_31 : decode cX3_learn 31 = .ok (.iload_n 3, 1) := by decide +kernel
theorem dX3_learn_32 : decode cX3_learn 32 = .ok (.invokevirtual 62, 3) := by decide +kernel
theorem dX3_learn_35 : decode cX3_learn 35 = .ok (.invokestatic 66, 3) := by decide +kernel
theorem dX3_learn_38 : decode cX3_learn 38 = .ok (.if_icmp .ge 50, 3) := by decide +kernel
theorem dX3_learn_41 : decode cX3_learn 41 = .ok (.aload_n 0, 1) := by decide +kernel
theorem dX3_learn_42 : decode cX3_learn 42 = .ok (.aload_n 1, 1) := by decide +kernel
theorem dX3_learn_43 : decode cX3_learn 43 = .ok (.aload_n 2, 1) := by decide +kernel
theorem dX3_learn_44 : decode cX3_learn 44 = .ok (.iload_n 3, 1) := by decide +kernel
theorem dX3_learn_45 : decode cX3_learn 45 = .ok (.iload 4, 2) := by decide +kernel
theorem dX3_learn_47 : decode cX3_learn 47 = .ok (.iload 5, 2) := by decide +kernel
theorem dX3_learn_49 : decode cX3_learn 49 = .ok (.aload_n 0, 1) := by decide +kernel
theorem dX3_learn_50 : decode cX3_learn 50 = .ok (.getfield 32, 3) := by decide +kernel
theorem dX3_learn_53 : decode cX3_learn 53 = .ok (.invokevirtual 50, 3) := by decide +kernel
theorem dX3_learn_56 : decode cX3_learn 56 = .ok (.aload_n 0, 1) := by decide +kernel
theorem dX3_learn_57 : decode cX3_learn 57 = .ok (.iload_n 3, 1) := by decide +kernel
theorem dX3_learn_58 : decode cX3_learn 58 = .ok (.iload 4, 2) := by decide +kernel
theorem dX3_learn_60 : decode cX3_learn 60 = .ok (.aload_n 0, 1) := by decide +kernel
theorem dX3_learn_61 : decode cX3_learn 61 = .ok (.getfield 32, 3) := by decide +kernel
theorem dX3_learn_64 : decode cX3_learn 64 = .ok (.invokevirtual 69, 3) := by decide +kernel
theorem dX3_learn_67 : decode cX3_learn 67 = .ok (.ifCond .ge 15, 3) := by decide +kernel
theorem dX3_learn_70 : decode cX3_learn 70 = .ok (.aload_n 0, 1) := by decide +kernel
theorem dX3_learn_71 : decode cX3_learn 71 = .ok (.iload_n 3, 1) := by decide +kernel
theorem dX3_learn_72 : decode cX3_learn 72 = .ok (.iload 4, 2) := by decide +kernel
theorem dX3_learn_74 : decode cX3_learn 74 = .ok (.invokestatic 54, 3) := by decide +kernel
theorem dX3_learn_77 : decode cX3_learn 77 = .ok (.iload 5, 2) := by decide +kernel
theorem dX3_learn_79 : decode cX3_learn 79 = .ok (.invokevirtual 58, 3) := by decide +kernel
theorem dX3_learn_82 : decode cX3_learn 82 = .ok (.iinc 5 1, 3) := by decide +kernel
theorem dX3_learn_85 : decode cX3_learn 85 = .ok (.goto (-57), 3) := by decide +kernel
theorem dX3_learn_88 : decode cX3_learn 88 = .ok (.return_, 1) := by decide +kernel
set_option maxRecDepth 20000 in
theorem ggX3_keep_X4_part : GoodIn wsX3_keep wsX4_part := goodIn_r _ [9, 10, 11, 17, 18] (by decide +kernel) (by decide +kernel)
set_option maxRecDepth 20000 in
theorem gX3_keep_X4_part : GoodIn wsX3_keep (wsV RX3 73 RX4 yX4_part wsX4_part) := goodIn_app (goodIn_of _ (by decide +kernel)) ggX3_keep_X4_part
theorem dX3_keep_0 : decode cX3_keep 0 = .ok (.aload_n 0, 1) := by decide +kernel
theorem dX3_keep_1 : decode cX3_keep 1 = .ok (.getfield 11, 3) := by decide +kernel
theorem dX3_keep_4 : decode cX3_keep 4 = .ok (.iload_n 1, 1) := by decide +kernel
theorem dX3_keep_5 : decode cX3_keep 5 = .ok (.iload_n 2, 1) := by decide +kernel
theorem dX3_keep_6 : decode cX3_keep 6 = .ok (.iastore, 1) := by decide +kernel
theorem dX3_keep_7 : decode cX3_keep 7 = .ok (.aload_n 0, 1) := by decide +kernel
theorem dX3_keep_8 : decode cX3_keep 8 = .ok (.getfield 15, 3) := by decide +kernel
theorem dX3_keep_11 : decode cX3_keep 11 = .ok (.iload_n 1, 1) := by decide +kernel
theorem dX3_keep_12 : decode cX3_keep 12 = .ok (.aload_n 0, 1) := by decide +kernel
theorem dX3_keep_13 : decode cX3_keep 13 = .ok (.getfield 32, 3) := by decide +kernel
theorem dX3_keep_16 : decode cX3_keep 16 = .ok (.iconst 0, 1) := by decide +kernel
theorem dX3_keep_17 : decode cX3_keep 17 = .ok (.invokevirtual 73, 3) := by decide +kernel
theorem dX3_keep_20 : decode cX3_keep 20 = .ok (.lastore, 1) := by decide +kernel
theorem dX3_keep_21 : decode cX3_keep 21 = .ok (.aload_n 0, 1) := by decide +kernel
theorem dX3_keep_22 : decode cX3_keep 22 = .ok (.getfield 19, 3) := by decide +kernel
theorem dX3_keep_25 : decode cX3_keep 25 = .ok (.iload_n 1, 1) := by decide +kernel
theorem dX3_keep_26 : decode cX3_keep 26 = .ok (.aload_n 0, 1) := by decide +kernel
theorem dX3_keep_27 : decode cX3_keep 27 = .ok (.getfield 32, 3) := by decide +kernel
theorem dX3_keep_30 : decode cX3_keep 30 = .ok (.iconst 1, 1) := by decide +kernel
theorem dX3_keep_31 : decode cX3_keep 31 = .ok (.invokevirtual 73, 3) := by decide +kernel
theorem dX3_keep_34 : decode cX3_keep 34 = .ok (.lastore, 1) := by decide +kernel
theorem dX3_keep_35 : decode cX3_keep 35 = .ok (.return_, 1) := by decide +kernel
set_option maxRecDepth 20000 in
theorem ggX3_learnAll_X2_statesOf : GoodIn wsX3_learnAll wsX2_statesOf := goodIn_r _ [5, 6, 118, 119, 120, 121] (by decide +kernel) (by decide +kernel)
set_option maxRecDepth 20000 in
theorem gX3_learnAll_X2_statesOf : GoodIn wsX3_learnAll (wsV RX3 62 RX2 yX2_statesOf wsX2_statesOf) := goodIn_app (goodIn_of _ (by decide +kernel)) ggX3_learnAll_X2_statesOf
set_option maxRecDepth 20000 in
theorem ggX3_learnAll_X3_learn : GoodIn wsX3_learnAll wsX3_learn := goodIn_r _ [11, 12, 13, 14, 15, 10, 16, 17, 18, 19, 20, 21, 22, 23, 24, 25, 2, 3, 4, 5, 6, 26, 27, 28, 29, 30, 31, 32, 33, 34, 35, 36, 37, 38, 39, 40, 41, 42, 43, 44, 45, 46, 47, 48, 49, 50, 51, 52, 53, 54, 55, 56, 57, 58, 59, 60, 61, 62, 63, 64, 65, 66, 67, 68, 69, 70, 71, 72, 73, 74, 75, 76, 77, 78, 79, 80, 81, 82, 83, 84, 85, 86, 87, 88, 89, 90, 91, 92, 93, 94, 95, 96, 97, 98, 99, 100, 101, 102, 1, 103, 104, 105, 106, 107, 108, 109, 110, 111, 112, 113, 114, 115, 116, 117, 122, 123, 124, 125, 126, 127, 128, 129, 130, 131, 132, 118, 119, 120, 121, 133, 134, 135, 136, 137] (by decide +kernel) (by decide +kernel)
set_option maxRecDepth 20000 in
theorem gX3_learnAll_X3_learn : GoodIn wsX3_learnAll (wsV RX3 77 RX3 yX3_learn wsX3_learn) := goodIn_app (goodIn_of _ (by decide +kernel)) ggX3_learnAll_X3_learn
theorem dX3_learnAll_0 : decode cX3_learnAll 0 = .ok (.iconst 0, 1) := by decide +kernel
theorem dX3_learnAll_1 : decode cX3_learnAll 1 = .ok (.istore 4, 2) := by decide +kernel
theorem dX3_learnAll_3 : decode cX3_learnAll 3 = .ok (.iload 4, 2) := by decide +kernel
theorem dX3_learnAll_5 : decode cX3_learnAll 5 = .ok (.aload_n 2, 1) := by decide +kernel
theorem dX3_learnAll_6 : decode cX3_learnAll 6 = .ok (.iload_n 3, 1) := by decide +kernel
theorem dX3_learnAll_7 : decode cX3_learnAll 7 = .ok (.invokevirtual 62, 3) := by decide +kernel
theorem dX3_learnAll_10 : decode cX3_learnAll 10 = .ok (.if_icmp .ge 18, 3) := by decide +kernel
theorem dX3_learnAll_13 : decode cX3_learnAll 13 = .ok (.aload_n 0, 1) := by decide +kernel
theorem dX3_learnAll_14 : decode cX3_learnAll 14 = .ok (.aload_n 1, 1) := by decide +kernel
theorem dX3_learnAll_15 : decode cX3_learnAll 15 = .ok (.aload_n 2, 1) := by decide +kernel
theorem dX3_learnAll_16 : decode cX3_learnAll 16 = .ok (.iload_n 3, 1) := by decide +kernel
theorem dX3_learnAll_17 : decode cX3_learnAll 17 = .ok (.iload 4, 2) := by decide +kernel
theorem dX3_learnAll_19 : decode cX3_learnAll 19 = .ok (.invokevirtual 77, 3) := by decide +kernel
theorem dX3_learnAll_22 : decode cX3_learnAll 22 = .ok (.iinc 4 1, 3) := by decide +kernel
theorem dX3_learnAll_25 : decode cX3_learnAll 25 = .ok (.goto (-22), 3) := by decide +kernel
theorem dX3_learnAll_28 : decode cX3_learnAll 28 = .ok (.return_, 1) := by decide +kernel
set_option maxRecDepth 20000 in
theorem ggX3_bestPlan_X3_slotOf : GoodIn wsX3_bestPlan wsX3_slotOf := goodIn_r _ [5] (by decide +kernel) (by decide +kernel)
set_option maxRecDepth 20000 in
theorem gX3_bestPlan_X3_slotOf : GoodIn wsX3_bestPlan (va_wsS RX3 54 yX3_slotOf wsX3_slotOf) := goodIn_app (goodIn_of _ (by decide +kernel)) ggX3_bestPlan_X3_slotOf
theorem dX3_bestPlan_0 : decode cX3_bestPlan 0 = .ok (.aload_n 0, 1) := by decide +kernel
theorem dX3_bestPlan_1 : decode cX3_bestPlan 1 = .ok (.getfield 11, 3) := by decide +kernel
theorem dX3_bestPlan_4 : decode cX3_bestPlan 4 = .ok (.iload_n 1, 1) := by decide +kernel
theorem dX3_bestPlan_5 : decode cX3_bestPlan 5 = .ok (.iload_n 2, 1) := by decide +kernel
theorem dX3_bestPlan_6 : decode cX3_bestPlan 6 = .ok (.invokestatic 54, 3) := by decide +kernel
theorem dX3_bestPlan_9 : decode cX3_bestPlan 9 = .ok (.iaload, 1) := by decide +kernel
theorem dX3_bestPlan_10 : decode cX3_bestPlan 10 = .ok (.ireturn, 1) := by decide +kernel
set_option maxRecDepth 20000 in
theorem ggX3_bestPart_X3_slotOf : GoodIn wsX3_bestPart wsX3_slotOf := goodIn_r _ [6] (by decide +kernel) (by decide +kernel)
set_option maxRecDepth 20000 in
theorem gX3_bestPart_X3_slotOf : GoodIn wsX3_bestPart (va_wsS RX3 54 yX3_slotOf wsX3_slotOf) := goodIn_app (goodIn_of _ (by decide +kernel)) ggX3_bestPart_X3_slotOf
theorem dX3_bestPart_0 : decode cX3_bestPart 0 = .ok (.iload_n 3, 1) := by decide +kernel
theorem dX3_bestPart_1 : decode cX3_bestPart 1 = .ok (.ifCond .ne 16, 3) := by decide +kernel
theorem dX3_bestPart_4 : decode cX3_bestPart 4 = .ok (.aload_n 0, 1) := by decide +kernel
theorem dX3_bestPart_5 : decode cX3_bestPart 5 = .ok (.getfield 15, 3) := by decide +kernel
theorem dX3_bestPart_8 : decode cX3_bestPart 8 = .ok (.iload_n 1, 1) := by decide +kernel
theorem dX3_bestPart_9 : decode cX3_bestPart 9 = .ok (.iload_n 2, 1) := by decide +kernel
theorem dX3_bestPart_10 : decode cX3_bestPart 10 = .ok (.invokestatic 54, 3) := by decide +kernel
theorem dX3_bestPart_13 : decode cX3_bestPart 13 = .ok (.laload, 1) := by decide +kernel
theorem dX3_bestPart_14 : decode cX3_bestPart 14 = .ok (.goto 13, 3) := by decide +kernel
theorem dX3_bestPart_17 : decode cX3_bestPart 17 = .ok (.aload_n 0, 1) := by decide +kernel
theorem dX3_bestPart_18 : decode cX3_bestPart 18 = .ok (.getfield 19, 3) := by decide +kernel
theorem dX3_bestPart_21 : decode cX3_bestPart 21 = .ok (.iload_n 1, 1) := by decide +kernel
theorem dX3_bestPart_22 : decode cX3_bestPart 22 = .ok (.iload_n 2, 1) := by decide +kernel
theorem dX3_bestPart_23 : decode cX3_bestPart 23 = .ok (.invokestatic 54, 3) := by decide +kernel
theorem dX3_bestPart_26 : decode cX3_bestPart 26 = .ok (.laload, 1) := by decide +kernel
theorem dX3_bestPart_27 : decode cX3_bestPart 27 = .ok (.lreturn, 1) := by decide +kernel
set_option maxRecDepth 20000 in
theorem ggX3_bestCompared_X3_slotOf : GoodIn wsX3_bestCompared wsX3_slotOf := goodIn_r _ [6] (by decide +kernel) (by decide +kernel)
set_option maxRecDepth 20000 in
theorem gX3_bestCompared_X3_slotOf : GoodIn wsX3_bestCompared (va_wsS RX3 54 yX3_slotOf wsX3_slotOf) := goodIn_app (goodIn_of _ (by decide +kernel)) ggX3_bestCompared_X3_slotOf
set_option maxRecDepth 20000 in
theorem ggX3_bestCompared_X4_compareWith : GoodIn wsX3_bestCompared wsX4_compareWith := goodIn_r _ [11, 12, 13, 14, 15, 16, 17, 23, 24] (by decide +kernel) (by decide +kernel)
set_option maxRecDepth 20000 in
theorem gX3_bestCompared_X4_compareWith : GoodIn wsX3_bestCompared (wsV RX3 80 RX4 yX4_compareWith wsX4_compareWith) := goodIn_app (goodIn_of _ (by decide +kernel)) ggX3_bestCompared_X4_compareWith
theorem dX3_bestCompared_0 : decode cX3_bestCompared 0 = .ok (.aload_n 3, 1) := by decide +kernel
theorem dX3_bestCompared_1 : decode cX3_bestCompared 1 = .ok (.aload_n 0, 1) := by decide +kernel
theorem dX3_bestCompared_2 : decode cX3_bestCompared 2 = .ok (.getfield 15, 3) := by decide +kernel
theorem dX3_bestCompared_5 : decode cX3_bestCompared 5 = .ok (.iload_n 1, 1) := by decide +kernel
theorem dX3_bestCompared_6 : decode cX3_bestCompared 6 = .ok (.iload_n 2, 1) := by decide +kernel
theorem dX3_bestCompared_7 : decode cX3_bestCompared 7 = .ok (.invokestatic 54, 3) := by decide +kernel
theorem dX3_bestCompared_10 : decode cX3_bestCompared 10 = .ok (.laload, 1) := by decide +kernel
theorem dX3_bestCompared_11 : decode cX3_bestCompared 11 = .ok (.aload_n 0, 1) := by decide +kernel
theorem dX3_bestCompared_12 : decode cX3_bestCompared 12 = .ok (.getfield 19, 3) := by decide +kernel
theorem dX3_bestCompared_15 : decode cX3_bestCompared 15 = .ok (.iload_n 1, 1) := by decide +kernel
theorem dX3_bestCompared_16 : decode cX3_bestCompared 16 = .ok (.iload_n 2, 1) := by decide +kernel
theorem dX3_bestCompared_17 : decode cX3_bestCompared 17 = .ok (.invokestatic 54, 3) := by decide +kernel
theorem dX3_bestCompared_20 : decode cX3_bestCompared 20 = .ok (.laload, 1) := by decide +kernel
theorem dX3_bestCompared_21 : decode cX3_bestCompared 21 = .ok (.invokevirtual 80, 3) := by decide +kernel
theorem dX3_bestCompared_24 : decode cX3_bestCompared 24 = .ok (.ineg, 1) := by decide +kernel
theorem dX3_bestCompared_25 : decode cX3_bestCompared 25 = .ok (.ireturn, 1) := by decide +kernel
theorem dX4_init_0 : decode cX4_init 0 = .ok (.aload_n 0, 1) := by decide +kernel
theorem dX4_init_1 : decode cX4_init 1 = .ok (.invokespecial 1, 3) := by decide +kernel
theorem dX4_init_4 : decode cX4_init 4 = .ok (.aload_n 0, 1) := by decide +kernel
theorem dX4_init_5 : decode cX4_init 5 = .ok (.lconst 0, 1) := by decide +kernel
theorem dX4_init_6 : decode cX4_init 6 = .ok (.putfield 7, 3) := by decide +kernel
theorem dX4_init_9 : decode cX4_init 9 = .ok (.aload_n 0, 1) := by decide +kernel
theorem dX4_init_10 : decode cX4_init 10 = .ok (.lconst 1, 1) := by decide +kernel
theorem dX4_init_11 : decode cX4_init 11 = .ok (.putfield 13, 3) := by decide +kernel
theorem dX4_init_14 : decode cX4_init 14 = .ok (.return_, 1) := by decide +kernel
set_option maxRecDepth 20000 in
theorem ggX4_become_X4_greatestShared : GoodIn wsX4_become wsX4_greatestShared := goodIn_r _ [10] (by decide +kernel) (by decide +kernel)
set_option maxRecDepth 20000 in
theorem gX4_become_X4_greatestShared : GoodIn wsX4_become (va_wsS RX4 22 yX4_greatestShared wsX4_greatestShared) := goodIn_app (goodIn_of _ (by decide +kernel)) ggX4_become_X4_greatestShared
theorem dX4_become_0 : decode cX4_become 0 = .ok (.lload_n 1, 1) := by decide +kernel
theorem dX4_become_1 : decode cX4_become 1 = .ok (.invokestatic 16, 3) := by decide +kernel
theorem dX4_become_4 : decode cX4_become 4 = .ok (.lload_n 3, 1) := by decide +kernel
theorem dX4_become_5 : decode cX4_become 5 = .ok (.invokestatic 22, 3) := by decide +kernel
theorem dX4_become_8 : decode cX4_become 8 = .ok (.lstore 5, 2) := by decide +kernel
theorem dX4_become_10 : decode cX4_become 10 = .ok (.aload_n 0, 1) := by decide +kernel
theorem dX4_become_11 : decode cX4_become 11 = .ok (.lload_n 1, 1) := by decide +kernel
theorem dX4_become_12 : decode cX4_become 12 = .ok (.lload 5, 2) := by decide +kernel
theorem dX4_become_14 : decode cX4_become 14 = .ok (.ldiv, 1) := by decide +kernel
theorem dX4_become_15 : decode cX4_become 15 = .ok (.putfield 7, 3) := by decide +kernel
theorem dX4_become_18 : decode cX4_become 18 = .ok (.aload_n 0, 1) := by decide +kernel
theorem dX4_become_19 : decode cX4_become 19 = .ok (.lload_n 3, 1) := by decide +kernel
theorem dX4_become_20 : decode cX4_become 20 = .ok (.lload 5, 2) := by decide +kernel
theorem dX4_become_22 : decode cX4_become 22 = .ok (.ldiv, 1) := by decide +kernel
theorem dX4_become_23 : decode cX4_become 23 = .ok (.putfield 13, 3) := by decide +kernel
theorem dX4_become_26 : decode cX4_become 26 = .ok (.return_, 1) := by decide +kernel
theorem dX4_part_0 : decode cX4_part 0 = .ok (.iload_n 1, 1) := by decide +kernel
theorem dX4_part_1 : decode cX4_part 1 = .ok (.ifCond .ne 10, 3) := by decide +kernel
theorem dX4_part_4 : decode cX4_part 4 = .ok (.aload_n 0, 1) := by decide +kernel
theorem dX4_part_5 : decode cX4_part 5 = .ok (.getfield 7, 3) := by decide +kernel
theorem dX4_part_8 : decode cX4_part 8 = .ok (.goto 7, 3) := by decide +kernel
theorem dX4_part_11 : decode cX4_part 11 = .ok (.aload_n 0, 1) := by decide +kernel
theorem dX4_part_12 : decode cX4_part 12 = .ok (.getfield 13, 3) := by decide +kernel
theorem dX4_part_15 : decode cX4_part 15 = .ok (.lreturn, 1) := by decide +kernel
set_option maxRecDepth 20000 in
theorem ggX4_compareWith_J13_compare_74951 : GoodIn wsX4_compareWith wsJ13_compare_74951 := goodIn_r _ [6] (by decide +kernel) (by decide +kernel)
set_option maxRecDepth 20000 in
theorem gX4_compareWith_J13_compare_74951 : GoodIn wsX4_compareWith (va_wsS RX4 26 yJ13_compare_74951 wsJ13_compare_74951) := goodIn_app (goodIn_of _ (by decide +kernel)) ggX4_compareWith_J13_compare_74951
theorem dX4_compareWith_0 : decode cX4_compareWith 0 = .ok (.aload_n 0, 1) := by decide +kernel
theorem dX4_compareWith_1 : decode cX4_compareWith 1 = .ok (.getfield 7, 3) := by decide +kernel
theorem dX4_compareWith_4 : decode cX4_compareWith 4 = .ok (.lload_n 3, 1) := by decide +kernel
theorem dX4_compareWith_5 : decode cX4_compareWith 5 = .ok (.lmul, 1) := by decide +kernel
theorem dX4_compareWith_6 : decode cX4_compareWith 6 = .ok (.lload_n 1, 1) := by decide +kernel
theorem dX4_compareWith_7 : decode cX4_compareWith 7 = .ok (.aload_n 0, 1) := by decide +kernel
theorem dX4_compareWith_8 : decode cX4_compareWith 8 = .ok (.getfield 13, 3) := by decide +kernel
theorem dX4_compareWith_11 : decode cX4_compareWith 11 = .ok (.lmul, 1) := by decide +kernel
theorem dX4_compareWith_12 : decode cX4_compareWith 12 = .ok (.invokestatic 26, 3) := by decide +kernel
theorem dX4_compareWith_15 : decode cX4_compareWith 15 = .ok (.ireturn, 1) := by decide +kernel
theorem dX4_greatestShared_0 : decode cX4_greatestShared 0 = .ok (.lload_n 2, 1) := by decide +kernel
theorem dX4_greatestShared_1 : decode cX4_greatestShared 1 = .ok (.lstore 4, 2) := by decide +kernel
theorem dX4_greatestShared_3 : decode cX4_greatestShared 3 = .ok (.lload_n 0, 1) := by decide +kernel
theorem dX4_greatestShared_4 : decode cX4_greatestShared 4 = .ok (.lstore 6, 2) := by decide +kernel
theorem dX4_greatestShared_6 : decode cX4_greatestShared 6 = .ok (.iconst 0, 1) := by decide +kernel
theorem dX4_greatestShared_7 : decode cX4_greatestShared 7 = .ok (.istore 8, 2) := by decide +kernel
theorem dX4_greatestShared_9 : decode cX4_greatestShared 9 = .ok (.iload 8, 2) := by decide +kernel
theorem dX4_greatestShared_11 : decode cX4_greatestShared 11 = .ok (.bipush 100, 2) := by decide +kernel
theorem dX4_greatestShared_13 : decode cX4_greatestShared 13 = .ok (.if_icmp .ge 31, 3) := by decide +kernel
theorem dX4_greatestShared_16 : decode cX4_greatestShared 16 = .ok (.lload 6, 2) := by decide +kernel
theorem dX4_greatestShared_18 : decode cX4_greatestShared 18 = .ok (.lconst 0, 1) := by decide +kernel
theorem dX4_greatestShared_19 : decode cX4_greatestShared 19 = .ok (.lcmp, 1) := by decide +kernel
theorem dX4_greatestShared_20 : decode cX4_greatestShared 20 = .ok (.ifCond .eq 24, 3) := by decide +kernel
theorem dX4_greatestShared_23 : decode cX4_greatestShared 23 = .ok (.lload 4, 2) := by decide +kernel
theorem dX4_greatestShared_25 : decode cX4_greatestShared 25 = .ok (.lload 6, 2) := by decide +kernel
theorem dX4_greatestShared_27 : decode cX4_greatestShared 27 = .ok (.lrem, 1) := by decide +kernel
theorem dX4_greatestShared_28 : decode cX4_greatestShared 28 = .ok (.lstore 9, 2) := by decide +kernel
theorem dX4_greatestShared_30 : decode cX4_greatestShared 30 = .ok (.lload 6, 2) := by decide +kernel
theorem dX4_greatestShared_32 : decode cX4_greatestShared 32 = .ok (.lstore 4, 2) := by decide +kernel
theorem dX4_greatestShared_34 : decode cX4_greatestShared 34 = .ok (.lload 9, 2) := by decide +kernel
theorem dX4_greatestShared_36 : decode cX4_greatestShared 36 = .ok (.lstore 6, 2) := by decide +kernel
theorem dX4_greatestShared_38 : decode cX4_greatestShared 38 = .ok (.iinc 8 1, 3) := by decide +kernel
theorem dX4_greatestShared_41 : decode cX4_greatestShared 41 = .ok (.goto (-32), 3) := by decide +kernel
theorem dX4_greatestShared_44 : decode cX4_greatestShared 44 = .ok (.lload 4, 2) := by decide +kernel
theorem dX4_greatestShared_46 : decode cX4_greatestShared 46 = .ok (.lreturn, 1) := by decide +kernel
set_option maxRecDepth 20000 in
theorem ggX5_init_J7_fill_53178 : GoodIn wsX5_init wsJ7_fill_53178 := goodIn_r _ [11] (by decide +kernel) (by decide +kernel)
set_option maxRecDepth 20000 in
theorem gX5_init_J7_fill_53178 : GoodIn wsX5_init (va_wsS RX5 19 yJ7_fill_53178 wsJ7_fill_53178) := goodIn_app (goodIn_of _ (by decide +kernel)) ggX5_init_J7_fill_53178
theorem dX5_init_0 : decode cX5_init 0 = .ok (.aload_n 0, 1) := by decide +kernel
theorem dX5_init_1 : decode cX5_init 1 = .ok (.invokespecial 1, 3) := by decide +kernel
theorem dX5_init_4 : decode cX5_init 4 = .ok (.aload_n 0, 1) := by decide +kernel
theorem dX5_init_5 : decode cX5_init 5 = .ok (.iconst 4, 1) := by decide +kernel
theorem dX5_init_6 : decode cX5_init 6 = .ok (.newarray .int, 2) := by decide +kernel
theorem dX5_init_8 : decode cX5_init 8 = .ok (.putfield 9, 3) := by decide +kernel
theorem dX5_init_11 : decode cX5_init 11 = .ok (.aload_n 0, 1) := by decide +kernel
theorem dX5_init_12 : decode cX5_init 12 = .ok (.iconst 4, 1) := by decide +kernel
theorem dX5_init_13 : decode cX5_init 13 = .ok (.newarray .int, 2) := by decide +kernel
theorem dX5_init_15 : decode cX5_init 15 = .ok (.putfield 13, 3) := by decide +kernel
theorem dX5_init_18 : decode cX5_init 18 = .ok (.aload_n 0, 1) := by decide +kernel
theorem dX5_init_19 : decode cX5_init 19 = .ok (.sipush 240, 3) := by decide +kernel
theorem dX5_init_22 : decode cX5_init 22 = .ok (.newarray .int, 2) := by decide +kernel
theorem dX5_init_24 : decode cX5_init 24 = .ok (.putfield 16, 3) := by decide +kernel
theorem dX5_init_27 : decode cX5_init 27 = .ok (.aload_n 0, 1) := by decide +kernel
theorem dX5_init_28 : decode cX5_init 28 = .ok (.getfield 9, 3) := by decide +kernel
theorem dX5_init_31 : decode cX5_init 31 = .ok (.iconst (-1), 1) := by decide +kernel
theorem dX5_init_32 : decode cX5_init 32 = .ok (.invokestatic 19, 3) := by decide +kernel
theorem dX5_init_35 : decode cX5_init 35 = .ok (.return_, 1) := by decide +kernel
theorem dX5_isSheet_0 : decode cX5_isSheet 0 = .ok (.iload_n 0, 1) := by decide +kernel
theorem dX5_isSheet_1 : decode cX5_isSheet 1 = .ok (.ifCond .lt 12, 3) := by decide +kernel
theorem dX5_isSheet_4 : decode cX5_isSheet 4 = .ok (.iload_n 0, 1) := by decide +kernel
theorem dX5_isSheet_5 : decode cX5_isSheet 5 = .ok (.iconst 4, 1) := by decide +kernel
theorem dX5_isSheet_6 : decode cX5_isSheet 6 = .ok (.if_icmp .ge 7, 3) := by decide +kernel
theorem dX5_isSheet_9 : decode cX5_isSheet 9 = .ok (.iconst 1, 1) := by decide +kernel
theorem dX5_isSheet_10 : decode cX5_isSheet 10 = .ok (.goto 4, 3) := by decide +kernel
theorem dX5_isSheet_13 : decode cX5_isSheet 13 = .ok (.iconst 0, 1) := by decide +kernel
theorem dX5_isSheet_14 : decode cX5_isSheet 14 = .ok (.ireturn, 1) := by decide +kernel
theorem dX5_isLane_0 : decode cX5_isLane 0 = .ok (.iload_n 0, 1) := by decide +kernel
theorem dX5_isLane_1 : decode cX5_isLane 1 = .ok (.ifCond .lt 12, 3) := by decide +kernel
theorem dX5_isLane_4 : decode cX5_isLane 4 = .ok (.iload_n 0, 1) := by decide +kernel
theorem dX5_isLane_5 : decode cX5_isLane 5 = .ok (.iconst 2, 1) := by decide +kernel
theorem dX5_isLane_6 : decode cX5_isLane 6 = .ok (.if_icmp .gt 7, 3) := by decide +kernel
theorem dX5_isLane_9 : decode cX5_isLane 9 = .ok (.iconst 1, 1) := by decide +kernel
theorem dX5_isLane_10 : decode cX5_isLane 10 = .ok (.goto 4, 3) := by decide +kernel
theorem dX5_isLane_13 : decode cX5_isLane 13 = .ok (.iconst 0, 1) := by decide +kernel
theorem dX5_isLane_14 : decode cX5_isLane 14 = .ok (.ireturn, 1) := by decide +kernel
theorem dX5_isThere_0 : decode cX5_isThere 0 = .ok (.aload_n 0, 1) := by decide +kernel
theorem dX5_isThere_1 : decode cX5_isThere 1 = .ok (.getfield 9, 3) := by decide +kernel
theorem dX5_isThere_4 : decode cX5_isThere 4 = .ok (.iload_n 1, 1) := by decide +kernel
theorem dX5_isThere_5 : decode cX5_isThere 5 = .ok (.iaload, 1) := by decide +kernel
theorem dX5_isThere_6 : decode cX5_isThere 6 = .ok (.iconst (-1), 1) := by decide +kernel
theorem dX5_isThere_7 : decode cX5_isThere 7 = .ok (.if_icmp .eq 7, 3) := by decide +kernel
theorem dX5_isThere_10 : decode cX5_isThere 10 = .ok (.iconst 1, 1) := by decide +kernel
theorem dX5_isThere_11 : decode cX5_isThere 11 = .ok (.goto 4, 3) := by decide +kernel
theorem dX5_isThere_14 : decode cX5_isThere 14 = .ok (.iconst 0, 1) := by decide +kernel
theorem dX5_isThere_15 : decode cX5_isThere 15 = .ok (.ireturn, 1) := by decide +kernel
theorem dX5_laneOf_0 : decode cX5_laneOf 0 = .ok (.aload_n 0, 1) := by decide +kernel
theorem dX5_laneOf_1 : decode cX5_laneOf 1 = .ok (.getfield 9, 3) := by decide +kernel
theorem dX5_laneOf_4 : decode cX5_laneOf 4 = .ok (.iload_n 1, 1) := by decide +kernel
theorem dX5_laneOf_5 : decode cX5_laneOf 5 = .ok (.iaload, 1) := by decide +kernel
theorem dX5_laneOf_6 : decode cX5_laneOf 6 = .ok (.ireturn, 1) := by decide +kernel
theorem dX5_cellsOf_0 : decode cX5_cellsOf 0 = .ok (.aload_n 0, 1) := by decide +kernel
theorem dX5_cellsOf_1 : decode cX5_cellsOf 1 = .ok (.getfield 13, 3) := by decide +kernel
theorem dX5_cellsOf_4 : decode cX5_cellsOf 4 = .ok (.iload_n 1, 1) := by decide +kernel
theorem dX5_cellsOf_5 : decode cX5_cellsOf 5 = .ok (.iaload, 1) := by decide +kernel
theorem dX5_cellsOf_6 : decode cX5_cellsOf 6 = .ok (.ireturn, 1) := by decide +kernel
set_option maxRecDepth 20000 in
theorem ggX5_layOut_J7_fill_fda19 : GoodIn wsX5_layOut wsJ7_fill_fda19 := goodIn_r _ [7, 8, 9, 6, 10] (by decide +kernel) (by decide +kernel)
set_option maxRecDepth 20000 in
theorem gX5_layOut_J7_fill_fda19 : GoodIn wsX5_layOut (va_wsS RX5 25 yJ7_fill_fda19 wsJ7_fill_fda19) := goodIn_app (goodIn_of _ (by decide +kernel)) ggX5_layOut_J7_fill_fda19
theorem dX5_layOut_0 : decode cX5_layOut 0 = .ok (.aload_n 0, 1) := by decide +kernel
theorem dX5_layOut_1 : decode cX5_layOut 1 = .ok (.getfield 9, 3) := by decide +kernel
theorem dX5_layOut_4 : decode cX5_layOut 4 = .ok (.iload_n 1, 1) := by decide +kernel
theorem dX5_layOut_5 : decode cX5_layOut 5 = .ok (.iload_n 2, 1) := by decide +kernel
theorem dX5_layOut_6 : decode cX5_layOut 6 = .ok (.iastore, 1) := by decide +kernel
theorem dX5_layOut_7 : decode cX5_layOut 7 = .ok (.aload_n 0, 1) := by decide +kernel
theorem dX5_layOut_8 : decode cX5_layOut 8 = .ok (.getfield 13, 3) := by decide +kernel
theorem dX5_layOut_11 : decode cX5_layOut 11 = .ok (.iload_n 1, 1) := by decide +kernel
theorem dX5_layOut_12 : decode cX5_layOut 12 = .ok (.iload_n 3, 1) := by decide +kernel
theorem dX5_layOut_13 : decode cX5_layOut 13 = .ok (.iastore, 1) := by decide +kernel
theorem dX5_layOut_14 : decode cX5_layOut 14 = .ok (.aload_n 0, 1) := by decide +kernel
theorem dX5_layOut_15 : decode cX5_layOut 15 = .ok (.getfield 16, 3) := by decide +kernel
theorem dX5_layOut_18 : decode cX5_layOut 18 = .ok (.iload_n 1, 1) := by decide +kernel
theorem dX5_layOut_19 : decode cX5_layOut 19 = .ok (.bipush 60, 2) := by decide +kernel
theorem dX5_layOut_21 : decode cX5_layOut 21 = .ok (.imul, 1) := by decide +kernel
theorem dX5_layOut_22 : decode cX5_layOut 22 = .ok (.iload_n 1, 1) := by decide +kernel
theorem dX5_layOut_23 : decode cX5_layOut 23 = .ok (.bipush 60, 2) := by decide +kernel
theorem dX5_layOut_25 : decode cX5_layOut 25 = .ok (.imul, 1) := by decide +kernel
theorem dX5_layOut_26 : decode cX5_layOut 26 = .ok (.iload_n 3, 1) := by decide +kernel
theorem dX5_layOut_27 : decode cX5_layOut 27 = .ok (.iadd, 1) := by decide +kernel
theorem dX5_layOut_28 : decode cX5_layOut 28 = .ok (.iconst 0, 1) := by decide +kernel
theorem dX5_layOut_29 : decode cX5_layOut 29 = .ok (.invokestatic 25, 3) := by decide +kernel
theorem dX5_layOut_32 : decode cX5_layOut 32 = .ok (.return_, 1) := by decide +kernel
theorem dX5_hasCell_0 : decode cX5_hasCell 0 = .ok (.iload_n 2, 1) := by decide +kernel
theorem dX5_hasCell_1 : decode cX5_hasCell 1 = .ok (.ifCond .lt 17, 3) := by decide +kernel
theorem dX5_hasCell_4 : decode cX5_hasCell 4 = .ok (.iload_n 2, 1) := by decide +kernel
theorem dX5_hasCell_5 : decode cX5_hasCell 5 = .ok (.aload_n 0, 1) := by decide +kernel
theorem dX5_hasCell_6 : decode cX5_hasCell 6 = .ok (.getfield 13, 3) := by decide +kernel
theorem dX5_hasCell_9 : decode cX5_hasCell 9 = .ok (.iload_n 1, 1) := by decide +kernel
theorem dX5_hasCell_10 : decode cX5_hasCell 10 = .ok (.iaload, 1) := by decide +kernel
theorem dX5_hasCell_11 : decode cX5_hasCell 11 = .ok (.if_icmp .ge 7, 3) := by decide +kernel
theorem dX5_hasCell_14 : decode cX5_hasCell 14 = .ok (.iconst 1, 1) := by decide +kernel
theorem dX5_hasCell_15 : decode cX5_hasCell 15 = .ok (.goto 4, 3) := by decide +kernel
theorem dX5_hasCell_18 : decode cX5_hasCell 18 = .ok (.iconst 0, 1) := by decide +kernel
theorem dX5_hasCell_19 : decode cX5_hasCell 19 = .ok (.ireturn, 1) := by decide +kernel
theorem dX5_cell_0 : decode cX5_cell 0 = .ok (.aload_n 0, 1) := by decide +kernel
theorem dX5_cell_1 : decode cX5_cell 1 = .ok (.getfield 16, 3) := by decide +kernel
theorem dX5_cell_4 : decode cX5_cell 4 = .ok (.iload_n 1, 1) := by decide +kernel
theorem dX5_cell_5 : decode cX5_cell 5 = .ok (.bipush 60, 2) := by decide +kernel
theorem dX5_cell_7 : decode cX5_cell 7 = .ok (.imul, 1) := by decide +kernel
theorem dX5_cell_8 : decode cX5_cell 8 = .ok (.iload_n 2, 1) := by decide +kernel
theorem dX5_cell_9 : decode cX5_cell 9 = .ok (.iadd, 1) := by decide +kernel
theorem dX5_cell_10 : decode cX5_cell 10 = .ok (.iaload, 1) := by decide +kernel
theorem dX5_cell_11 : decode cX5_cell 11 = .ok (.ireturn, 1) := by decide +kernel
set_option maxRecDepth 20000 in
theorem ggX5_setCell_X5_lowestBits : GoodIn wsX5_setCell wsX5_lowestBits := goodIn_r _ [6] (by decide +kernel) (by decide +kernel)
set_option maxRecDepth 20000 in
theorem gX5_setCell_X5_lowestBits : GoodIn wsX5_setCell (va_wsS RX5 28 yX5_lowestBits wsX5_lowestBits) := goodIn_app (goodIn_of _ (by decide +kernel)) ggX5_setCell_X5_lowestBits
theorem dX5_setCell_0 : decode cX5_setCell 0 = .ok (.aload_n 0, 1) := by decide +kernel
theorem dX5_setCell_1 : decode cX5_setCell 1 = .ok (.getfield 16, 3) := by decide +kernel
theorem dX5_setCell_4 : decode cX5_setCell 4 = .ok (.iload_n 1, 1) := by decide +kernel
theorem dX5_setCell_5 : decode cX5_setCell 5 = .ok (.bipush 60, 2) := by decide +kernel
theorem dX5_setCell_7 : decode cX5_setCell 7 = .ok (.imul, 1) := by decide +kernel
theorem dX5_setCell_8 : decode cX5_setCell 8 = .ok (.iload_n 2, 1) := by decide +kernel
theorem dX5_setCell_9 : decode cX5_setCell 9 = .ok (.iadd, 1) := by decide +kernel
theorem dX5_setCell_10 : decode cX5_setCell 10 = .ok (.aload_n 0, 1) := by decide +kernel
theorem dX5_setCell_11 : decode cX5_setCell 11 = .ok (.getfield 9, 3) := by decide +kernel
theorem dX5_setCell_14 : decode cX5_setCell 14 = .ok (.iload_n 1, 1) := by decide +kernel
theorem dX5_setCell_15 : decode cX5_setCell 15 = .ok (.iaload, 1) := by decide +kernel
theorem dX5_setCell_16 : decode cX5_setCell 16 = .ok (.iload_n 3, 1) := by decide +kernel
theorem dX5_setCell_17 : decode cX5_setCell 17 = .ok (.invokestatic 28, 3) := by decide +kernel
theorem dX5_setCell_20 : decode cX5_setCell 20 = .ok (.iastore, 1) := by decide +kernel
theorem dX5_setCell_21 : decode cX5_setCell 21 = .ok (.return_, 1) := by decide +kernel
theorem dX5_lowestBits_0 : decode cX5_lowestBits 0 = .ok (.iload_n 0, 1) := by decide +kernel
theorem dX5_lowestBits_1 : decode cX5_lowestBits 1 = .ok (.ifCond .ne 6, 3) := by decide +kernel
theorem dX5_lowestBits_4 : decode cX5_lowestBits 4 = .ok (.iload_n 1, 1) := by decide +kernel
theorem dX5_lowestBits_5 : decode cX5_lowestBits 5 = .ok (.i2b, 1) := by decide +kernel
theorem dX5_lowestBits_6 : decode cX5_lowestBits 6 = .ok (.ireturn, 1) := by decide +kernel
theorem dX5_lowestBits_7 : decode cX5_lowestBits 7 = .ok (.iload_n 0, 1) := by decide +kernel
theorem dX5_lowestBits_8 : decode cX5_lowestBits 8 = .ok (.iconst 1, 1) := by decide +kernel
theorem dX5_lowestBits_9 : decode cX5_lowestBits 9 = .ok (.if_icmp .ne 8, 3) := by decide +kernel
theorem dX5_lowestBits_12 : decode cX5_lowestBits 12 = .ok (.iload_n 1, 1) := by decide +kernel
theorem dX5_lowestBits_13 : decode cX5_lowestBits 13 = .ok (.i2s, 1) := by decide +kernel
theorem dX5_lowestBits_14 : decode cX5_lowestBits 14 = .ok (.goto 4, 3) := by decide +kernel
theorem dX5_lowestBits_17 : decode cX5_lowestBits 17 = .ok (.iload_n 1, 1) := by decide +kernel
theorem dX5_lowestBits_18 : decode cX5_lowestBits 18 = .ok (.ireturn, 1) := by decide +kernel
theorem dX6_init_0 : decode cX6_init 0 = .ok (.aload_n 0, 1) := by decide +kernel
theorem dX6_init_1 : decode cX6_init 1 = .ok (.invokespecial 5, 3) := by decide +kernel
theorem dX6_init_4 : decode cX6_init 4 = .ok (.aload_n 0, 1) := by decide +kernel
theorem dX6_init_5 : decode cX6_init 5 = .ok (.bipush 16, 2) := by decide +kernel
theorem dX6_init_7 : decode cX6_init 7 = .ok (.newarray .int, 2) := by decide +kernel
theorem dX6_init_9 : decode cX6_init 9 = .ok (.putfield 11, 3) := by decide +kernel
theorem dX6_init_12 : decode cX6_init 12 = .ok (.aload_n 0, 1) := by decide +kernel
theorem dX6_init_13 : decode cX6_init 13 = .ok (.bipush 16, 2) := by decide +kernel
theorem dX6_init_15 : decode cX6_init 15 = .ok (.newarray .int, 2) := by decide +kernel
theorem dX6_init_17 : decode cX6_init 17 = .ok (.putfield 15, 3) := by decide +kernel
theorem dX6_init_20 : decode cX6_init 20 = .ok (.aload_n 0, 1) := by decide +kernel
theorem dX6_init_21 : decode cX6_init 21 = .ok (.bipush 16, 2) := by decide +kernel
theorem dX6_init_23 : decode cX6_init 23 = .ok (.newarray .int, 2) := by decide +kernel
theorem dX6_init_25 : decode cX6_init 25 = .ok (.putfield 18, 3) := by decide +kernel
theorem dX6_init_28 : decode cX6_init 28 = .ok (.aload_n 0, 1) := by decide +kernel
theorem dX6_init_29 : decode cX6_init 29 = .ok (.bipush 16, 2) := by decide +kernel
theorem dX6_init_31 : decode cX6_init 31 = .ok (.newarray .int, 2) := by decide +kernel
theorem dX6_init_33 : decode cX6_init 33 = .ok (.putfield 21, 3) := by decide +kernel
theorem dX6_init_36 : decode cX6_init 36 = .ok (.aload_n 0, 1) := by decide +kernel
theorem dX6_init_37 : decode cX6_init 37 = .ok (.iconst 0, 1) := by decide +kernel
theorem dX6_init_38 : decode cX6_init 38 = .ok (.putfield 24, 3) := by decide +kernel
theorem dX6_init_41 : decode cX6_init 41 = .ok (.aload_n 0, 1) := by decide +kernel
theorem dX6_init_42 : decode cX6_init 42 = .ok (.iconst 1, 1) := by decide +kernel
theorem dX6_init_43 : decode cX6_init 43 = .ok (.putfield 28, 3) := by decide +kernel
theorem dX6_init_46 : decode cX6_init 46 = .ok (.return_, 1) := by decide +kernel
theorem dX6_placeOf_0 : decode cX6_placeOf 0 = .ok (.iconst 4, 1) := by decide +kernel
theorem dX6_placeOf_1 : decode cX6_placeOf 1 = .ok (.iload_n 0, 1) := by decide +kernel
theorem dX6_placeOf_2 : decode cX6_placeOf 2 = .ok (.imul, 1) := by decide +kernel
theorem dX6_placeOf_3 : decode cX6_placeOf 3 = .ok (.iload_n 1, 1) := by decide +kernel
theorem dX6_placeOf_4 : decode cX6_placeOf 4 = .ok (.iadd, 1) := by decide +kernel
theorem dX6_placeOf_5 : decode cX6_placeOf 5 = .ok (.ireturn, 1) := by decide +kernel
theorem dX6_mine_0 : decode cX6_mine 0 = .ok (.iload_n 0, 1) := by decide +kernel
theorem dX6_mine_1 : decode cX6_mine 1 = .ok (.iconst 4, 1) := by decide +kernel
theorem dX6_mine_2 : decode cX6_mine 2 = .ok (.idiv, 1) := by decide +kernel
theorem dX6_mine_3 : decode cX6_mine 3 = .ok (.ireturn, 1) := by decide +kernel
theorem dX6_theirs_0 : decode cX6_theirs 0 = .ok (.iload_n 0, 1) := by decide +kernel
theorem dX6_theirs_1 : decode cX6_theirs 1 = .ok (.iconst 4, 1) := by decide +kernel
theorem dX6_theirs_2 : decode cX6_theirs 2 = .ok (.irem, 1) := by decide +kernel
theorem dX6_theirs_3 : decode cX6_theirs 3 = .ok (.ireturn, 1) := by decide +kernel
set_option maxRecDepth 20000 in
theorem ggX6_takeMatch_X2_statesOf : GoodIn wsX6_takeMatch wsX2_statesOf := goodIn_r _ [7, 8, 35, 36, 37, 38] (by decide +kernel) (by decide +kernel)
set_option maxRecDepth 20000 in
theorem gX6_takeMatch_X2_statesOf : GoodIn wsX6_takeMatch (wsV RX6 31 RX2 yX2_statesOf wsX2_statesOf) := goodIn_app (goodIn_of _ (by decide +kernel)) ggX6_takeMatch_X2_statesOf
set_option maxRecDepth 20000 in
theorem ggX6_takeMatch_X2_actionOf : GoodIn wsX6_takeMatch wsX2_actionOf := goodIn_r _ [12, 13, 35, 36, 37, 38] (by decide +kernel) (by decide +kernel)
set_option maxRecDepth 20000 in
theorem gX6_takeMatch_X2_actionOf : GoodIn wsX6_takeMatch (wsV RX6 35 RX2 yX2_actionOf wsX2_actionOf) := goodIn_app (goodIn_of _ (by decide +kernel)) ggX6_takeMatch_X2_actionOf
set_option maxRecDepth 20000 in
theorem ggX6_takeMatch_X6_placeOf : GoodIn wsX6_takeMatch wsX6_placeOf := goodIn_r _ [17] (by decide +kernel) (by decide +kernel)
set_option maxRecDepth 20000 in
theorem gX6_takeMatch_X6_placeOf : GoodIn wsX6_takeMatch (va_wsS RX6 39 yX6_placeOf wsX6_placeOf) := goodIn_app (goodIn_of _ (by decide +kernel)) ggX6_takeMatch_X6_placeOf
set_option maxRecDepth 20000 in
theorem ggX6_takeMatch_X2_nextOf : GoodIn wsX6_takeMatch wsX2_nextOf := goodIn_r _ [21, 22, 35, 36, 37, 38] (by decide +kernel) (by decide +kernel)
set_option maxRecDepth 20000 in
theorem gX6_takeMatch_X2_nextOf : GoodIn wsX6_takeMatch (wsV RX6 42 RX2 yX2_nextOf wsX2_nextOf) := goodIn_app (goodIn_of _ (by decide +kernel)) ggX6_takeMatch_X2_nextOf
set_option maxRecDepth 20000 in
theorem ggX6_takeMatch_X0_gain : GoodIn wsX6_takeMatch wsX0_gain := goodIn_r _ [27, 28, 39, 40, 41] (by decide +kernel) (by decide +kernel)
set_option maxRecDepth 20000 in
theorem gX6_takeMatch_X0_gain : GoodIn wsX6_takeMatch (wsV RX6 46 RX0 yX0_gain wsX0_gain) := goodIn_app (goodIn_of _ (by decide +kernel)) ggX6_takeMatch_X0_gain
theorem dX6_takeMatch_0 : decode cX6_takeMatch 0 = .ok (.iconst 0, 1) := by decide +kernel
theorem dX6_takeMatch_1 : decode cX6_takeMatch 1 = .ok (.istore 5, 2) := by decide +kernel
theorem dX6_takeMatch_3 : decode cX6_takeMatch 3 = .ok (.iload 5, 2) := by decide +kernel
theorem dX6_takeMatch_5 : decode cX6_takeMatch 5 = .ok (.aload_n 2, 1) := by decide +kernel
theorem dX6_takeMatch_6 : decode cX6_takeMatch 6 = .ok (.iload_n 3, 1) := by decide +kernel
theorem dX6_takeMatch_7 : decode cX6_takeMatch 7 = .ok (.invokevirtual 31, 3) := by decide +kernel
theorem dX6_takeMatch_10 : decode cX6_takeMatch 10 = .ok (.if_icmp .ge 102, 3) := by decide +kernel
theorem dX6_takeMatch_13 : decode cX6_takeMatch 13 = .ok (.aload_n 2, 1) := by decide +kernel
theorem dX6_takeMatch_14 : decode cX6_takeMatch 14 = .ok (.iload_n 3, 1) := by decide +kernel
theorem dX6_takeMatch_15 : decode cX6_takeMatch 15 = .ok (.iload 5, 2) := by decide +kernel
theorem dX6_takeMatch_17 : decode cX6_takeMatch 17 = .ok (.invokevirtual 35, 3) := by decide +kernel
theorem dX6_takeMatch_20 : decode cX6_takeMatch 20 = .ok (.istore 6, 2) := by decide +kernel
theorem dX6_takeMatch_22 : decode cX6_takeMatch 22 = .ok (.iconst 0, 1) := by decide +kernel
theorem dX6_takeMatch_23 : decode cX6_takeMatch 23 = .ok (.istore 7, 2) := by decide +kernel
theorem dX6_takeMatch_25 : decode cX6_takeMatch 25 = .ok (.iload 7, 2) := by decide +kernel
theorem dX6_takeMatch_27 : decode cX6_takeMatch 27 = .ok (.aload_n 2, 1) := by decide +kernel
theorem dX6_takeMatch_28 : decode cX6_takeMatch 28 = .ok (.iload 4, 2) := by decide +kernel
theorem dX6_takeMatch_30 : decode cX6_takeMatch 30 = .ok (.invokevirtual 31, 3) := by decide +kernel
theorem dX6_takeMatch_33 : decode cX6_takeMatch 33 = .ok (.if_icmp .ge 73, 3) := by decide +kernel
theorem dX6_takeMatch_36 : decode cX6_takeMatch 36 = .ok (.aload_n 2, 1) := by decide +kernel
theorem dX6_takeMatch_37 : decode cX6_takeMatch 37 = .ok (.iload 4, 2) := by decide +kernel
theorem dX6_takeMatch_39 : decode cX6_takeMatch 39 = .ok (.iload 7, 2) := by decide +kernel
theorem dX6_takeMatch_41 : decode cX6_takeMatch 41 = .ok (.invokevirtual 35, 3) := by decide +kernel
theorem dX6_takeMatch_44 : decode cX6_takeMatch 44 = .ok (.istore 8, 2) := by decide +kernel
theorem dX6_takeMatch_46 : decode cX6_takeMatch 46 = .ok (.aload_n 0, 1) := by decide +kernel
theorem dX6_takeMatch_47 : decode cX6_takeMatch 47 = .ok (.getfield 11, 3) := by decide +kernel
theorem dX6_takeMatch_50 : decode cX6_takeMatch 50 = .ok (.iload 5, 2) := by decide +kernel
theorem dX6_takeMatch_52 : decode cX6_takeMatch 52 = .ok (.iload 7, 2) := by decide +kernel
theorem dX6_takeMatch_54 : decode cX6_takeMatch 54 = .ok (.invokestatic 39, 3) := by decide +kernel
theorem dX6_takeMatch_57 : decode cX6_takeMatch 57 = .ok (.aload_n 2, 1) := by decide +kernel
theorem dX6_takeMatch_58 : decode cX6_takeMatch 58 = .ok (.iload_n 3, 1) := by decide +kernel
theorem dX6_takeMatch_59 : decode cX6_takeMatch 59 = .ok (.iload 5, 2) := by decide +kernel
theorem dX6_takeMatch_61 : decode cX6_takeMatch 61 = .ok (.iload 8, 2) := by decide +kernel
theorem dX6_takeMatch_63 : decode cX6_takeMatch 63 = .ok (.invokevirtual 42, 3) := by decide +kernel
theorem dX6_takeMatch_66 : decode cX6_takeMatch 66 = .ok (.aload_n 2, 1) := by decide +kernel
theorem dX6_takeMatch_67 : decode cX6_takeMatch 67 = .ok (.iload 4, 2) := by decide +kernel
theorem dX6_takeMatch_69 : decode cX6_takeMatch 69 = .ok (.iload 7, 2) := by decide +kernel
theorem dX6_takeMatch_71 : decode cX6_takeMatch 71 = .ok (.iload 6, 2) := by decide +kernel
theorem dX6_takeMatch_73 : decode cX6_takeMatch 73 = .ok (.invokevirtual 42, 3) := by decide +kernel
theorem dX6_takeMatch_76 : decode cX6_takeMatch 76 = .ok (.invokestatic 39, 3) := by decide +kernel
theorem dX6_takeMatch_79 : decode cX6_takeMatch 79 = .ok (.iastore, 1) := by decide +kernel
theorem dX6_takeMatch_80 : decode cX6_takeMatch 80 = .ok (.aload_n 0, 1) := by decide +kernel
theorem dX6_takeMatch_81 : decode cX6_takeMatch 81 = .ok (.getfield 15, 3) := by decide +kernel
theorem dX6_takeMatch_84 : decode cX6_takeMatch 84 = .ok (.iload 5, 2) := by decide +kernel
theorem dX6_takeMatch_86 : decode cX6_takeMatch 86 = .ok (.iload 7, 2) := by decide +kernel
theorem dX6_takeMatch_88 : decode cX6_takeMatch 88 = .ok (.invokestatic 39, 3) := by decide +kernel
theorem dX6_takeMatch_91 : decode cX6_takeMatch 91 = .ok (.aload_n 1, 1) := by decide +kernel
theorem dX6_takeMatch_92 : decode cX6_takeMatch 92 = .ok (.iload 6, 2) := by decide +kernel
theorem dX6_takeMatch_94 : decode cX6_takeMatch 94 = .ok (.iload 8, 2) := by decide +kernel
theorem dX6_takeMatch_96 : decode cX6_takeMatch 96 = .ok (.invokevirtual 46, 3) := by decide +kernel
theorem dX6_takeMatch_99 : decode cX6_takeMatch 99 = .ok (.iastore, 1) := by decide +kernel
theorem dX6_takeMatch_100 : decode cX6_takeMatch 100 = .ok (.iinc 7 1, 3) := by decide +kernel
theorem dX6_takeMatch_103 : decode cX6_takeMatch 103 = .ok (.goto (-78), 3) := by decide +kernel
theorem dX6_takeMatch_106 : decode cX6_takeMatch 106 = .ok (.iinc 5 1, 3) := by decide +kernel
theorem dX6_takeMatch_109 : decode cX6_takeMatch 109 = .ok (.goto (-106), 3) := by decide +kernel
theorem dX6_takeMatch_112 : decode cX6_takeMatch 112 = .ok (.return_, 1) := by decide +kernel
set_option maxRecDepth 20000 in
theorem ggX6_takePlan_X2_statesOf : GoodIn wsX6_takePlan wsX2_statesOf := goodIn_r _ [7, 8, 31, 32, 33, 34] (by decide +kernel) (by decide +kernel)
set_option maxRecDepth 20000 in
theorem gX6_takePlan_X2_statesOf : GoodIn wsX6_takePlan (wsV RX6 31 RX2 yX2_statesOf wsX2_statesOf) := goodIn_app (goodIn_of _ (by decide +kernel)) ggX6_takePlan_X2_statesOf
set_option maxRecDepth 20000 in
theorem ggX6_takePlan_X2_nextOf : GoodIn wsX6_takePlan wsX2_nextOf := goodIn_r _ [12, 13, 31, 32, 33, 34] (by decide +kernel) (by decide +kernel)
set_option maxRecDepth 20000 in
theorem gX6_takePlan_X2_nextOf : GoodIn wsX6_takePlan (wsV RX6 42 RX2 yX2_nextOf wsX2_nextOf) := goodIn_app (goodIn_of _ (by decide +kernel)) ggX6_takePlan_X2_nextOf
set_option maxRecDepth 20000 in
theorem ggX6_takePlan_X2_actionOf : GoodIn wsX6_takePlan wsX2_actionOf := goodIn_r _ [17, 18, 31, 32, 33, 34] (by decide +kernel) (by decide +kernel)
set_option maxRecDepth 20000 in
theorem gX6_takePlan_X2_actionOf : GoodIn wsX6_takePlan (wsV RX6 35 RX2 yX2_actionOf wsX2_actionOf) := goodIn_app (goodIn_of _ (by decide +kernel)) ggX6_takePlan_X2_actionOf
set_option maxRecDepth 20000 in
theorem ggX6_takePlan_X0_gain : GoodIn wsX6_takePlan wsX0_gain := goodIn_r _ [23, 24, 35, 36, 37] (by decide +kernel) (by decide +kernel)
set_option maxRecDepth 20000 in
theorem gX6_takePlan_X0_gain : GoodIn wsX6_takePlan (wsV RX6 46 RX0 yX0_gain wsX0_gain) := goodIn_app (goodIn_of _ (by decide +kernel)) ggX6_takePlan_X0_gain
theorem dX6_takePlan_0 : decode cX6_takePlan 0 = .ok (.iload 4, 2) := by decide +kernel
theorem dX6_takePlan_2 : decode cX6_takePlan 2 = .ok (.istore 5, 2) := by decide +kernel
theorem dX6_takePlan_4 : decode cX6_takePlan 4 = .ok (.iconst 0, 1) := by decide +kernel
theorem dX6_takePlan_5 : decode cX6_takePlan 5 = .ok (.istore 6, 2) := by decide +kernel
theorem dX6_takePlan_7 : decode cX6_takePlan 7 = .ok (.iload 6, 2) := by decide +kernel
theorem dX6_takePlan_9 : decode cX6_takePlan 9 = .ok (.aload_n 2, 1) := by decide +kernel
theorem dX6_takePlan_10 : decode cX6_takePlan 10 = .ok (.iload_n 3, 1) := by decide +kernel
theorem dX6_takePlan_11 : decode cX6_takePlan 11 = .ok (.invokevirtual 31, 3) := by decide +kernel
theorem dX6_takePlan_14 : decode cX6_takePlan 14 = .ok (.if_icmp .ge 57, 3) := by decide +kernel
theorem dX6_takePlan_17 : decode cX6_takePlan 17 = .ok (.iload 5, 2) := by decide +kernel
theorem dX6_takePlan_19 : decode cX6_takePlan 19 = .ok (.iconst 3, 1) := by decide +kernel
theorem dX6_takePlan_20 : decode cX6_takePlan 20 = .ok (.irem, 1) := by decide +kernel
theorem dX6_takePlan_21 : decode cX6_takePlan 21 = .ok (.istore 7, 2) := by decide +kernel
theorem dX6_takePlan_23 : decode cX6_takePlan 23 = .ok (.iload 5, 2) := by decide +kernel
theorem dX6_takePlan_25 : decode cX6_takePlan 25 = .ok (.iconst 3, 1) := by decide +kernel
theorem dX6_takePlan_26 : decode cX6_takePlan 26 = .ok (.idiv, 1) := by decide +kernel
theorem dX6_takePlan_27 : decode cX6_takePlan 27 = .ok (.istore 5, 2) := by decide +kernel
theorem dX6_takePlan_29 : decode cX6_takePlan 29 = .ok (.aload_n 0, 1) := by decide +kernel
theorem dX6_takePlan_30 : decode cX6_takePlan 30 = .ok (.getfield 11, 3) := by decide +kernel
theorem dX6_takePlan_33 : decode cX6_takePlan 33 = .ok (.iload 6, 2) := by decide +kernel
theorem dX6_takePlan_35 : decode cX6_takePlan 35 = .ok (.aload_n 2, 1) := by decide +kernel
theorem dX6_takePlan_36 : decode cX6_takePlan 36 = .ok (.iload_n 3, 1) := by decide +kernel
theorem dX6_takePlan_37 : decode cX6_takePlan 37 = .ok (.iload 6, 2) := by decide +kernel
theorem dX6_takePlan_39 : decode cX6_takePlan 39 = .ok (.iload 7, 2) := by decide +kernel
theorem dX6_takePlan_41 : decode cX6_takePlan 41 = .ok (.invokevirtual 42, 3) := by decide +kernel
theorem dX6_takePlan_44 : decode cX6_takePlan 44 = .ok (.iastore, 1) := by decide +kernel
theorem dX6_takePlan_45 : decode cX6_takePlan 45 = .ok (.aload_n 0, 1) := by decide +kernel
theorem dX6_takePlan_46 : decode cX6_takePlan 46 = .ok (.getfield 15, 3) := by decide +kernel
theorem dX6_takePlan_49 : decode cX6_takePlan 49 = .ok (.iload 6, 2) := by decide +kernel
theorem dX6_takePlan_51 : decode cX6_takePlan 51 = .ok (.aload_n 1, 1) := by decide +kernel
theorem dX6_takePlan_52 : decode cX6_takePlan 52 = .ok (.iload 7, 2) := by decide +kernel
theorem dX6_takePlan_54 : decode cX6_takePlan 54 = .ok (.aload_n 2, 1) := by decide +kernel
theorem dX6_takePlan_55 : decode cX6_takePlan 55 = .ok (.iload_n 3, 1) := by decide +kernel
theorem dX6_takePlan_56 : decode cX6_takePlan 56 = .ok (.iload 6, 2) := by decide +kernel
theorem dX6_takePlan_58 : decode cX6_takePlan 58 = .ok (.invokevirtual 35, 3) := by decide +kernel
theorem dX6_takePlan_61 : decode cX6_takePlan 61 = .ok (.invokevirtual 46, 3) := by decide +kernel
theorem dX6_takePlan_64 : decode cX6_takePlan 64 = .ok (.iastore, 1) := by decide +kernel
theorem dX6_takePlan_65 : decode cX6_takePlan 65 = .ok (.iinc 6 1, 3) := by decide +kernel
theorem dX6_takePlan_68 : decode cX6_takePlan 68 = .ok (.goto (-61), 3) := by decide +kernel
theorem dX6_takePlan_71 : decode cX6_takePlan 71 = .ok (.return_, 1) := by decide +kernel
set_option maxRecDepth 20000 in
theorem ggX6_startAt_J7_fill_53178 : GoodIn wsX6_startAt wsJ7_fill_53178 := goodIn_r _ [9] (by decide +kernel) (by decide +kernel)
set_option maxRecDepth 20000 in
theorem gX6_startAt_J7_fill_53178 : GoodIn wsX6_startAt (va_wsS RX6 51 yJ7_fill_53178 wsJ7_fill_53178) := goodIn_app (goodIn_of _ (by decide +kernel)) ggX6_startAt_J7_fill_53178
theorem dX6_startAt_0 : decode cX6_startAt 0 = .ok (.aload_n 0, 1) := by decide +kernel
theorem dX6_startAt_1 : decode cX6_startAt 1 = .ok (.getfield 18, 3) := by decide +kernel
theorem dX6_startAt_4 : decode cX6_startAt 4 = .ok (.iconst (-1), 1) := by decide +kernel
theorem dX6_startAt_5 : decode cX6_startAt 5 = .ok (.invokestatic 51, 3) := by decide +kernel
theorem dX6_startAt_8 : decode cX6_startAt 8 = .ok (.iload_n 1, 1) := by decide +kernel
theorem dX6_startAt_9 : decode cX6_startAt 9 = .ok (.istore_n 2, 1) := by decide +kernel
theorem dX6_startAt_10 : decode cX6_startAt 10 = .ok (.iconst 0, 1) := by decide +kernel
theorem dX6_startAt_11 : decode cX6_startAt 11 = .ok (.istore_n 3, 1) := by decide +kernel
theorem dX6_startAt_12 : decode cX6_startAt 12 = .ok (.iload_n 3, 1) := by decide +kernel
theorem dX6_startAt_13 : decode cX6_startAt 13 = .ok (.bipush 16, 2) := by decide +kernel
theorem dX6_startAt_15 : decode cX6_startAt 15 = .ok (.if_icmp .ge 39, 3) := by decide +kernel
theorem dX6_startAt_18 : decode cX6_startAt 18 = .ok (.aload_n 0, 1) := by decide +kernel
theorem dX6_startAt_19 : decode cX6_startAt 19 = .ok (.getfield 18, 3) := by decide +kernel
theorem dX6_startAt_22 : decode cX6_startAt 22 = .ok (.iload_n 2, 1) := by decide +kernel
theorem dX6_startAt_23 : decode cX6_startAt 23 = .ok (.iaload, 1) := by decide +kernel
theorem dX6_startAt_24 : decode cX6_startAt 24 = .ok (.ifCond .ge 30, 3) := by decide +kernel
theorem dX6_startAt_27 : decode cX6_startAt 27 = .ok (.aload_n 0, 1) := by decide +kernel
theorem dX6_startAt_28 : decode cX6_startAt 28 = .ok (.getfield 18, 3) := by decide +kernel
theorem dX6_startAt_31 : decode cX6_startAt 31 = .ok (.iload_n 2, 1) := by decide +kernel
theorem dX6_startAt_32 : decode cX6_startAt 32 = .ok (.iload_n 3, 1) := by decide +kernel
theorem dX6_startAt_33 : decode cX6_startAt 33 = .ok (.iastore, 1) := by decide +kernel
theorem dX6_startAt_34 : decode cX6_startAt 34 = .ok (.aload_n 0, 1) := by decide +kernel
theorem dX6_startAt_35 : decode cX6_startAt 35 = .ok (.getfield 21, 3) := by decide +kernel
theorem dX6_startAt_38 : decode cX6_startAt 38 = .ok (.iload_n 3, 1) := by decide +kernel
theorem dX6_startAt_39 : decode cX6_startAt 39 = .ok (.iload_n 2, 1) := by decide +kernel
theorem dX6_startAt_40 : decode cX6_startAt 40 = .ok (.iastore, 1) := by decide +kernel
theorem dX6_startAt_41 : decode cX6_startAt 41 = .ok (.aload_n 0, 1) := by decide +kernel
theorem dX6_startAt_42 : decode cX6_startAt 42 = .ok (.getfield 11, 3) := by decide +kernel
theorem dX6_startAt_45 : decode cX6_startAt 45 = .ok (.iload_n 2, 1) := by decide +kernel
theorem dX6_startAt_46 : decode cX6_startAt 46 = .ok (.iaload, 1) := by decide +kernel
theorem dX6_startAt_47 : decode cX6_startAt 47 = .ok (.istore_n 2, 1) := by decide +kernel
theorem dX6_startAt_48 : decode cX6_startAt 48 = .ok (.iinc 3 1, 3) := by decide +kernel
theorem dX6_startAt_51 : decode cX6_startAt 51 = .ok (.goto (-39), 3) := by decide +kernel
theorem dX6_startAt_54 : decode cX6_startAt 54 = .ok (.aload_n 0, 1) := by decide +kernel
theorem dX6_startAt_55 : decode cX6_startAt 55 = .ok (.aload_n 0, 1) := by decide +kernel
theorem dX6_startAt_56 : decode cX6_startAt 56 = .ok (.getfield 18, 3) := by decide +kernel
theorem dX6_startAt_59 : decode cX6_startAt 59 = .ok (.iload_n 2, 1) := by decide +kernel
theorem dX6_startAt_60 : decode cX6_startAt 60 = .ok (.iaload, 1) := by decide +kernel
theorem dX6_startAt_61 : decode cX6_startAt 61 = .ok (.putfield 24, 3) := by decide +kernel
theorem dX6_startAt_64 : decode cX6_startAt 64 = .ok (.aload_n 0, 1) := by decide +kernel
theorem dX6_startAt_65 : decode cX6_startAt 65 = .ok (.iload_n 3, 1) := by decide +kernel
theorem dX6_startAt_66 : decode cX6_startAt 66 = .ok (.aload_n 0, 1) := by decide +kernel
theorem dX6_startAt_67 : decode cX6_startAt 67 = .ok (.getfield 24, 3) := by decide +kernel
theorem dX6_startAt_70 : decode cX6_startAt 70 = .ok (.isub, 1) := by decide +kernel
theorem dX6_startAt_71 : decode cX6_startAt 71 = .ok (.putfield 28, 3) := by decide +kernel
theorem dX6_startAt_74 : decode cX6_startAt 74 = .ok (.return_, 1) := by decide +kernel
theorem dX6_tail_0 : decode cX6_tail 0 = .ok (.aload_n 0, 1) := by decide +kernel
theorem dX6_tail_1 : decode cX6_tail 1 = .ok (.getfield 24, 3) := by decide +kernel
theorem dX6_tail_4 : decode cX6_tail 4 = .ok (.ireturn, 1) := by decide +kernel
theorem dX6_ring_0 : decode cX6_ring 0 = .ok (.aload_n 0, 1) := by decide +kernel
theorem dX6_ring_1 : decode cX6_ring 1 = .ok (.getfield 28, 3) := by decide +kernel
theorem dX6_ring_4 : decode cX6_ring 4 = .ok (.ireturn, 1) := by decide +kernel
theorem dX6_placeIn_0 : decode cX6_placeIn 0 = .ok (.aload_n 0, 1) := by decide +kernel
theorem dX6_placeIn_1 : decode cX6_placeIn 1 = .ok (.getfield 21, 3) := by decide +kernel
theorem dX6_placeIn_4 : decode cX6_placeIn 4 = .ok (.iload_n 1, 1) := by decide +kernel
theorem dX6_placeIn_5 : decode cX6_placeIn 5 = .ok (.aload_n 0, 1) := by decide +kernel
theorem dX6_placeIn_6 : decode cX6_placeIn 6 = .ok (.getfield 24, 3) := by decide +kernel
theorem dX6_placeIn_9 : decode cX6_placeIn 9 = .ok (.if_icmp .ge 7, 3) := by decide +kernel
theorem dX6_placeIn_12 : decode cX6_placeIn 12 = .ok (.iload_n 1, 1) := by decide +kernel
theorem dX6_placeIn_13 : decode cX6_placeIn 13 = .ok (.goto 19, 3) := by decide +kernel
theorem dX6_placeIn_16 : decode cX6_placeIn 16 = .ok (.aload_n 0, 1) := by decide +kernel
theorem dX6_placeIn_17 : decode cX6_placeIn 17 = .ok (.getfield 24, 3) := by decide +kernel
theorem dX6_placeIn_20 : decode cX6_placeIn 20 = .ok (.iload_n 1, 1) := by decide +kernel
theorem dX6_placeIn_21 : decode cX6_placeIn 21 = .ok (.aload_n 0, 1) := by decide +kernel
theorem dX6_placeIn_22 : decode cX6_placeIn 22 = .ok (.getfield 24, 3) := by decide +kernel
theorem dX6_placeIn_25 : decode cX6_placeIn 25 = .ok (.isub, 1) := by decide +kernel
theorem dX6_placeIn_26 : decode cX6_placeIn 26 = .ok (.aload_n 0, 1) := by decide +kernel
theorem dX6_placeIn_27 : decode cX6_placeIn 27 = .ok (.getfield 28, 3) := by decide +kernel
theorem dX6_placeIn_30 : decode cX6_placeIn 30 = .ok (.irem, 1) := by decide +kernel
theorem dX6_placeIn_31 : decode cX6_placeIn 31 = .ok (.iadd, 1) := by decide +kernel
theorem dX6_placeIn_32 : decode cX6_placeIn 32 = .ok (.iaload, 1) := by decide +kernel
theorem dX6_placeIn_33 : decode cX6_placeIn 33 = .ok (.ireturn, 1) := by decide +kernel
set_option maxRecDepth 20000 in
theorem ggX6_tailGains_X6_gainsAlong : GoodIn wsX6_tailGains wsX6_gainsAlong := goodIn_r _ [6, 7, 8, 9, 10, 11, 12, 13, 14] (by decide +kernel) (by decide +kernel)
set_option maxRecDepth 20000 in
theorem gX6_tailGains_X6_gainsAlong : GoodIn wsX6_tailGains (wsV RX6 57 RX6 yX6_gainsAlong wsX6_gainsAlong) := goodIn_app (goodIn_of _ (by decide +kernel)) ggX6_tailGains_X6_gainsAlong
theorem dX6_tailGains_0 : decode cX6_tailGains 0 = .ok (.aload_n 0, 1) := by decide +kernel
theorem dX6_tailGains_1 : decode cX6_tailGains 1 = .ok (.iconst 0, 1) := by decide +kernel
theorem dX6_tailGains_2 : decode cX6_tailGains 2 = .ok (.aload_n 0, 1) := by decide +kernel
theorem dX6_tailGains_3 : decode cX6_tailGains 3 = .ok (.getfield 24, 3) := by decide +kernel
theorem dX6_tailGains_6 : decode cX6_tailGains 6 = .ok (.invokevirtual 57, 3) := by decide +kernel
theorem dX6_tailGains_9 : decode cX6_tailGains 9 = .ok (.ireturn, 1) := by decide +kernel
set_option maxRecDepth 20000 in
theorem ggX6_ringGains_X6_gainsAlong : GoodIn wsX6_ringGains wsX6_gainsAlong := goodIn_r _ [7, 8, 9, 10, 11, 12, 13, 14, 15] (by decide +kernel) (by decide +kernel)
set_option maxRecDepth 20000 in
theorem gX6_ringGains_X6_gainsAlong : GoodIn wsX6_ringGains (wsV RX6 57 RX6 yX6_gainsAlong wsX6_gainsAlong) := goodIn_app (goodIn_of _ (by decide +kernel)) ggX6_ringGains_X6_gainsAlong
theorem dX6_ringGains_0 : decode cX6_ringGains 0 = .ok (.aload_n 0, 1) := by decide +kernel
theorem dX6_ringGains_1 : decode cX6_ringGains 1 = .ok (.aload_n 0, 1) := by decide +kernel
theorem dX6_ringGains_2 : decode cX6_ringGains 2 = .ok (.getfield 24, 3) := by decide +kernel
theorem dX6_ringGains_5 : decode cX6_ringGains 5 = .ok (.aload_n 0, 1) := by decide +kernel
theorem dX6_ringGains_6 : decode cX6_ringGains 6 = .ok (.getfield 28, 3) := by decide +kernel
theorem dX6_ringGains_9 : decode cX6_ringGains 9 = .ok (.invokevirtual 57, 3) := by decide +kernel
theorem dX6_ringGains_12 : decode cX6_ringGains 12 = .ok (.ireturn, 1) := by decide +kernel
set_option maxRecDepth 20000 in
theorem ggX6_gainsOfFirst_X6_gainsAlong : GoodIn wsX6_gainsOfFirst wsX6_gainsAlong := goodIn_r _ [7, 8, 9, 18, 19, 20, 21, 22, 23] (by decide +kernel) (by decide +kernel)
set_option maxRecDepth 20000 in
theorem gX6_gainsOfFirst_X6_gainsAlong : GoodIn wsX6_gainsOfFirst (wsV RX6 57 RX6 yX6_gainsAlong wsX6_gainsAlong) := goodIn_app (goodIn_of _ (by decide +kernel)) ggX6_gainsOfFirst_X6_gainsAlong
set_option maxRecDepth 20000 in
theorem ggX6_gainsOfFirst_X6_tailGains : GoodIn wsX6_gainsOfFirst wsX6_tailGains := goodIn_r _ [13, 1, 3, 4, 5, 6, 7, 8, 9, 18, 19, 20, 21, 22, 23] (by decide +kernel) (by decide +kernel)
set_option maxRecDepth 20000 in
theorem gX6_gainsOfFirst_X6_tailGains : GoodIn wsX6_gainsOfFirst (wsV RX6 60 RX6 yX6_tailGains wsX6_tailGains) := goodIn_app (goodIn_of _ (by decide +kernel)) ggX6_gainsOfFirst_X6_tailGains
set_option maxRecDepth 20000 in
theorem ggX6_gainsOfFirst_X6_ringGains : GoodIn wsX6_gainsOfFirst wsX6_ringGains := goodIn_r _ [17, 1, 2, 3, 4, 5, 6, 7, 8, 9, 18, 19, 20, 21, 22, 23] (by decide +kernel) (by decide +kernel)
set_option maxRecDepth 20000 in
theorem gX6_gainsOfFirst_X6_ringGains : GoodIn wsX6_gainsOfFirst (wsV RX6 64 RX6 yX6_ringGains wsX6_ringGains) := goodIn_app (goodIn_of _ (by decide +kernel)) ggX6_gainsOfFirst_X6_ringGains
theorem dX6_gainsOfFirst_0 : decode cX6_gainsOfFirst 0 = .ok (.iload_n 1, 1) := by decide +kernel
theorem dX6_gainsOfFirst_1 : decode cX6_gainsOfFirst 1 = .ok (.aload_n 0, 1) := by decide +kernel
theorem dX6_gainsOfFirst_2 : decode cX6_gainsOfFirst 2 = .ok (.getfield 24, 3) := by decide +kernel
theorem dX6_gainsOfFirst_5 : decode cX6_gainsOfFirst 5 = .ok (.if_icmp .gt 10, 3) := by decide +kernel
theorem dX6_gainsOfFirst_8 : decode cX6_gainsOfFirst 8 = .ok (.aload_n 0, 1) := by decide +kernel
theorem dX6_gainsOfFirst_9 : decode cX6_gainsOfFirst 9 = .ok (.iconst 0, 1) := by decide +kernel
theorem dX6_gainsOfFirst_10 : decode cX6_gainsOfFirst 10 = .ok (.iload_n 1, 1) := by decide +kernel
theorem dX6_gainsOfFirst_11 : decode cX6_gainsOfFirst 11 = .ok (.invokevirtual 57, 3) := by decide +kernel
theorem dX6_gainsOfFirst_14 : decode cX6_gainsOfFirst 14 = .ok (.ireturn, 1) := by decide +kernel
theorem dX6_gainsOfFirst_15 : decode cX6_gainsOfFirst 15 = .ok (.iload_n 1, 1) := by decide +kernel
theorem dX6_gainsOfFirst_16 : decode cX6_gainsOfFirst 16 = .ok (.aload_n 0, 1) := by decide +kernel
theorem dX6_gainsOfFirst_17 : decode cX6_gainsOfFirst 17 = .ok (.getfield 24, 3) := by decide +kernel
theorem dX6_gainsOfFirst_20 : decode cX6_gainsOfFirst 20 = .ok (.isub, 1) := by decide +kernel
theorem dX6_gainsOfFirst_21 : decode cX6_gainsOfFirst 21 = .ok (.istore_n 2, 1) := by decide +kernel
theorem dX6_gainsOfFirst_22 : decode cX6_gainsOfFirst 22 = .ok (.aload_n 0, 1) := by decide +kernel
theorem dX6_gainsOfFirst_23 : decode cX6_gainsOfFirst 23 = .ok (.invokevirtual 60, 3) := by decide +kernel
theorem dX6_gainsOfFirst_26 : decode cX6_gainsOfFirst 26 = .ok (.iload_n 2, 1) := by decide +kernel
theorem dX6_gainsOfFirst_27 : decode cX6_gainsOfFirst 27 = .ok (.aload_n 0, 1) := by decide +kernel
theorem dX6_gainsOfFirst_28 : decode cX6_gainsOfFirst 28 = .ok (.getfield 28, 3) := by decide +kernel
theorem dX6_gainsOfFirst_31 : decode cX6_gainsOfFirst 31 = .ok (.idiv, 1) := by decide +kernel
theorem dX6_gainsOfFirst_32 : decode cX6_gainsOfFirst 32 = .ok (.aload_n 0, 1) := by decide +kernel
theorem dX6_gainsOfFirst_33 : decode cX6_gainsOfFirst 33 = .ok (.invokevirtual 64, 3) := by decide +kernel
theorem dX6_gainsOfFirst_36 : decode cX6_gainsOfFirst 36 = .ok (.imul, 1) := by decide +kernel
theorem dX6_gainsOfFirst_37 : decode cX6_gainsOfFirst 37 = .ok (.iadd, 1) := by decide +kernel
theorem dX6_gainsOfFirst_38 : decode cX6_gainsOfFirst 38 = .ok (.aload_n 0, 1) := by decide +kernel
theorem dX6_gainsOfFirst_39 : decode cX6_gainsOfFirst 39 = .ok (.aload_n 0, 1) := by decide +kernel
theorem dX6_gainsOfFirst_40 : decode cX6_gainsOfFirst 40 = .ok (.getfield 24, 3) := by decide +kernel
theorem dX6_gainsOfFirst_43 : decode cX6_gainsOfFirst 43 = .ok (.iload_n 2, 1) := by decide +kernel
theorem dX6_gainsOfFirst_44 : decode cX6_gainsOfFirst 44 = .ok (.aload_n 0, 1) := by decide +kernel
theorem dX6_gainsOfFirst_45 : decode cX6_gainsOfFirst 45 = .ok (.getfield 28, 3) := by decide +kernel
theorem dX6_gainsOfFirst_48 : decode cX6_gainsOfFirst 48 = .ok (.irem, 1) := by decide +kernel
theorem dX6_gainsOfFirst_49 : decode cX6_gainsOfFirst 49 = .ok (.invokevirtual 57, 3) := by decide +kernel
theorem dX6_gainsOfFirst_52 : decode cX6_gainsOfFirst 52 = .ok (.iadd, 1) := by decide +kernel
theorem dX6_gainsOfFirst_53 : decode cX6_gainsOfFirst 53 = .ok (.ireturn, 1) := by decide +kernel
theorem dX6_gainsAlong_0 : decode cX6_gainsAlong 0 = .ok (.iconst 0, 1) := by decide +kernel
theorem dX6_gainsAlong_1 : decode cX6_gainsAlong 1 = .ok (.istore_n 3, 1) := by decide +kernel
theorem dX6_gainsAlong_2 : decode cX6_gainsAlong 2 = .ok (.iload_n 1, 1) := by decide +kernel
theorem dX6_gainsAlong_3 : decode cX6_gainsAlong 3 = .ok (.istore 4, 2) := by decide +kernel
theorem dX6_gainsAlong_5 : decode cX6_gainsAlong 5 = .ok (.iload 4, 2) := by decide +kernel
theorem dX6_gainsAlong_7 : decode cX6_gainsAlong 7 = .ok (.iload_n 1, 1) := by decide +kernel
theorem dX6_gainsAlong_8 : decode cX6_gainsAlong 8 = .ok (.iload_n 2, 1) := by decide +kernel
theorem dX6_gainsAlong_9 : decode cX6_gainsAlong 9 = .ok (.iadd, 1) := by decide +kernel
theorem dX6_gainsAlong_10 : decode cX6_gainsAlong 10 = .ok (.if_icmp .ge 24, 3) := by decide +kernel
theorem dX6_gainsAlong_13 : decode cX6_gainsAlong 13 = .ok (.iload_n 3, 1) := by decide +kernel
theorem dX6_gainsAlong_14 : decode cX6_gainsAlong 14 = .ok (.aload_n 0, 1) := by decide +kernel
theorem dX6_gainsAlong_15 : decode cX6_gainsAlong 15 = .ok (.getfield 15, 3) := by decide +kernel
theorem dX6_gainsAlong_18 : decode cX6_gainsAlong 18 = .ok (.aload_n 0, 1) := by decide +kernel
theorem dX6_gainsAlong_19 : decode cX6_gainsAlong 19 = .ok (.getfield 21, 3) := by decide +kernel
theorem dX6_gainsAlong_22 : decode cX6_gainsAlong 22 = .ok (.iload 4, 2) := by decide +kernel
theorem dX6_gainsAlong_24 : decode cX6_gainsAlong 24 = .ok (.iaload, 1) := by decide +kernel
theorem dX6_gainsAlong_25 : decode cX6_gainsAlong 25 = .ok (.iaload, 1) := by decide +kernel
theorem dX6_gainsAlong_26 : decode cX6_gainsAlong 26 = .ok (.iadd, 1) := by decide +kernel
theorem dX6_gainsAlong_27 : decode cX6_gainsAlong 27 = .ok (.istore_n 3, 1) := by decide +kernel
theorem dX6_gainsAlong_28 : decode cX6_gainsAlong 28 = .ok (.iinc 4 1, 3) := by decide +kernel
theorem dX6_gainsAlong_31 : decode cX6_gainsAlong 31 = .ok (.goto (-26), 3) := by decide +kernel
theorem dX6_gainsAlong_34 : decode cX6_gainsAlong 34 = .ok (.iload_n 3, 1) := by decide +kernel
theorem dX6_gainsAlong_35 : decode cX6_gainsAlong 35 = .ok (.ireturn, 1) := by decide +kernel
set_option maxRecDepth 20000 in
theorem ggX6_worthInto_X0_rateOver : GoodIn wsX6_worthInto wsX0_rateOver := goodIn_r _ [7, 8, 44, 45, 46] (by decide +kernel) (by decide +kernel)
set_option maxRecDepth 20000 in
theorem gX6_worthInto_X0_rateOver : GoodIn wsX6_worthInto (wsV RX6 67 RX0 yX0_rateOver wsX0_rateOver) := goodIn_app (goodIn_of _ (by decide +kernel)) ggX6_worthInto_X0_rateOver
set_option maxRecDepth 20000 in
theorem ggX6_worthInto_X0_rateUnder : GoodIn wsX6_worthInto wsX0_rateUnder := goodIn_r _ [12, 13, 44, 45, 46] (by decide +kernel) (by decide +kernel)
set_option maxRecDepth 20000 in
theorem gX6_worthInto_X0_rateUnder : GoodIn wsX6_worthInto (wsV RX6 71 RX0 yX0_rateUnder wsX0_rateUnder) := goodIn_app (goodIn_of _ (by decide +kernel)) ggX6_worthInto_X0_rateUnder
set_option maxRecDepth 20000 in
theorem ggX6_worthInto_X6_power : GoodIn wsX6_worthInto wsX6_power := goodIn_r _ [17] (by decide +kernel) (by decide +kernel)
set_option maxRecDepth 20000 in
theorem gX6_worthInto_X6_power : GoodIn wsX6_worthInto (va_wsS RX6 74 yX6_power wsX6_power) := goodIn_app (goodIn_of _ (by decide +kernel)) ggX6_worthInto_X6_power
set_option maxRecDepth 20000 in
theorem ggX6_worthInto_X6_weighedAlong : GoodIn wsX6_worthInto wsX6_weighedAlong := goodIn_r _ [21, 22, 23, 38, 39, 40, 41, 42, 43] (by decide +kernel) (by decide +kernel)
set_option maxRecDepth 20000 in
theorem gX6_worthInto_X6_weighedAlong : GoodIn wsX6_worthInto (wsV RX6 78 RX6 yX6_weighedAlong wsX6_weighedAlong) := goodIn_app (goodIn_of _ (by decide +kernel)) ggX6_worthInto_X6_weighedAlong
set_option maxRecDepth 20000 in
theorem ggX6_worthInto_X4_become : GoodIn wsX6_worthInto wsX4_become := goodIn_r _ [28, 29, 30, 31, 32, 33, 34, 35, 36, 27, 37, 47, 48] (by decide +kernel) (by decide +kernel)
set_option maxRecDepth 20000 in
theorem gX6_worthInto_X4_become : GoodIn wsX6_worthInto (wsV RX6 82 RX4 yX4_become wsX4_become) := goodIn_app (goodIn_of _ (by decide +kernel)) ggX6_worthInto_X4_become
theorem dX6_worthInto_0 : decode cX6_worthInto 0 = .ok (.aload_n 1, 1) := by decide +kernel
theorem dX6_worthInto_1 : decode cX6_worthInto 1 = .ok (.invokevirtual 67, 3) := by decide +kernel
theorem dX6_worthInto_4 : decode cX6_worthInto 4 = .ok (.lstore_n 3, 1) := by decide +kernel
theorem dX6_worthInto_5 : decode cX6_worthInto 5 = .ok (.aload_n 1, 1) := by decide +kernel
theorem dX6_worthInto_6 : decode cX6_worthInto 6 = .ok (.invokevirtual 71, 3) := by decide +kernel
theorem dX6_worthInto_9 : decode cX6_worthInto 9 = .ok (.lstore 5, 2) := by decide +kernel
theorem dX6_worthInto_11 : decode cX6_worthInto 11 = .ok (.lload 5, 2) := by decide +kernel
theorem dX6_worthInto_13 : decode cX6_worthInto 13 = .ok (.aload_n 0, 1) := by decide +kernel
theorem dX6_worthInto_14 : decode cX6_worthInto 14 = .ok (.getfield 28, 3) := by decide +kernel
theorem dX6_worthInto_17 : decode cX6_worthInto 17 = .ok (.invokestatic 74, 3) := by decide +kernel
theorem dX6_worthInto_20 : decode cX6_worthInto 20 = .ok (.lload_n 3, 1) := by decide +kernel
theorem dX6_worthInto_21 : decode cX6_worthInto 21 = .ok (.aload_n 0, 1) := by decide +kernel
theorem dX6_worthInto_22 : decode cX6_worthInto 22 = .ok (.getfield 28, 3) := by decide +kernel
theorem dX6_worthInto_25 : decode cX6_worthInto 25 = .ok (.invokestatic 74, 3) := by decide +kernel
theorem dX6_worthInto_28 : decode cX6_worthInto 28 = .ok (.lsub, 1) := by decide +kernel
theorem dX6_worthInto_29 : decode cX6_worthInto 29 = .ok (.lstore 7, 2) := by decide +kernel
theorem dX6_worthInto_31 : decode cX6_worthInto 31 = .ok (.aload_n 0, 1) := by decide +kernel
theorem dX6_worthInto_32 : decode cX6_worthInto 32 = .ok (.iconst 0, 1) := by decide +kernel
theorem dX6_worthInto_33 : decode cX6_worthInto 33 = .ok (.aload_n 0, 1) := by decide +kernel
theorem dX6_worthInto_34 : decode cX6_worthInto 34 = .ok (.getfield 24, 3) := by decide +kernel
theorem dX6_worthInto_37 : decode cX6_worthInto 37 = .ok (.lload_n 3, 1) := by decide +kernel
theorem dX6_worthInto_38 : decode cX6_worthInto 38 = .ok (.lload 5, 2) := by decide +kernel
theorem dX6_worthInto_40 : decode cX6_worthInto 40 = .ok (.invokevirtual 78, 3) := by decide +kernel
theorem dX6_worthInto_43 : decode cX6_worthInto 43 = .ok (.lload 7, 2) := by decide +kernel
theorem dX6_worthInto_45 : decode cX6_worthInto 45 = .ok (.lmul, 1) := by decide +kernel
theorem dX6_worthInto_46 : decode cX6_worthInto 46 = .ok (.lload_n 3, 1) := by decide +kernel
theorem dX6_worthInto_47 : decode cX6_worthInto 47 = .ok (.aload_n 0, 1) := by decide +kernel
theorem dX6_worthInto_48 : decode cX6_worthInto 48 = .ok (.getfield 24, 3) := by decide +kernel
theorem dX6_worthInto_51 : decode cX6_worthInto 51 = .ok (.invokestatic 74, 3) := by decide +kernel
theorem dX6_worthInto_54 : decode cX6_worthInto 54 = .ok (.aload_n 0, 1) := by decide +kernel
theorem dX6_worthInto_55 : decode cX6_worthInto 55 = .ok (.aload_n 0, 1) := by decide +kernel
theorem dX6_worthInto_56 : decode cX6_worthInto 56 = .ok (.getfield 24, 3) := by decide +kernel
theorem dX6_worthInto_59 : decode cX6_worthInto 59 = .ok (.aload_n 0, 1) := by decide +kernel
theorem dX6_worthInto_60 : decode cX6_worthInto 60 = .ok (.getfield 28, 3) := by decide +kernel
theorem dX6_worthInto_63 : decode cX6_worthInto 63 = .ok (.lload_n 3, 1) := by decide +kernel
theorem dX6_worthInto_64 : decode cX6_worthInto 64 = .ok (.lload 5, 2) := by decide +kernel
theorem dX6_worthInto_66 : decode cX6_worthInto 66 = .ok (.invokevirtual 78, 3) := by decide +kernel
theorem dX6_worthInto_69 : decode cX6_worthInto 69 = .ok (.lmul, 1) := by decide +kernel
theorem dX6_worthInto_70 : decode cX6_worthInto 70 = .ok (.ladd, 1) := by decide +kernel
theorem dX6_worthInto_71 : decode cX6_worthInto 71 = .ok (.lstore 9, 2) := by decide +kernel
theorem dX6_worthInto_73 : decode cX6_worthInto 73 = .ok (.aload_n 2, 1) := by decide +kernel
theorem dX6_worthInto_74 : decode cX6_worthInto 74 = .ok (.lload 5, 2) := by decide +kernel
theorem dX6_worthInto_76 : decode cX6_worthInto 76 = .ok (.lload 9, 2) := by decide +kernel
theorem dX6_worthInto_78 : decode cX6_worthInto 78 = .ok (.lmul, 1) := by decide +kernel
theorem dX6_worthInto_79 : decode cX6_worthInto 79 = .ok (.lload 5, 2) := by decide +kernel
theorem dX6_worthInto_81 : decode cX6_worthInto 81 = .ok (.aload_n 0, 1) := by decide +kernel
theorem dX6_worthInto_82 : decode cX6_worthInto 82 = .ok (.getfield 24, 3) := by decide +kernel
theorem dX6_worthInto_85 : decode cX6_worthInto 85 = .ok (.invokestatic 74, 3) := by decide +kernel
theorem dX6_worthInto_88 : decode cX6_worthInto 88 = .ok (.lload 7, 2) := by decide +kernel
theorem dX6_worthInto_90 : decode cX6_worthInto 90 = .ok (.lmul, 1) := by decide +kernel
theorem dX6_worthInto_91 : decode cX6_worthInto 91 = .ok (.invokevirtual 82, 3) := by decide +kernel
theorem dX6_worthInto_94 : decode cX6_worthInto 94 = .ok (.return_, 1) := by decide +kernel
theorem dX6_weighedAlong_0 : decode cX6_weighedAlong 0 = .ok (.lconst 0, 1) := by decide +kernel
theorem dX6_weighedAlong_1 : decode cX6_weighedAlong 1 = .ok (.lstore 7, 2) := by decide +kernel
theorem dX6_weighedAlong_3 : decode cX6_weighedAlong 3 = .ok (.lconst 1, 1) := by decide +kernel
theorem dX6_weighedAlong_4 : decode cX6_weighedAlong 4 = .ok (.lstore 9, 2) := by decide +kernel
theorem dX6_weighedAlong_6 : decode cX6_weighedAlong 6 = .ok (.iload_n 1, 1) := by decide +kernel
theorem dX6_weighedAlong_7 : decode cX6_weighedAlong 7 = .ok (.istore 11, 2) := by decide +kernel
theorem dX6_weighedAlong_9 : decode cX6_weighedAlong 9 = .ok (.iload 11, 2) := by decide +kernel
theorem dX6_weighedAlong_11 : decode cX6_weighedAlong 11 = .ok (.iload_n 1, 1) := by decide +kernel
theorem dX6_weighedAlong_12 : decode cX6_weighedAlong 12 = .ok (.iload_n 2, 1) := by decide +kernel
theorem dX6_weighedAlong_13 : decode cX6_weighedAlong 13 = .ok (.iadd, 1) := by decide +kernel
theorem dX6_weighedAlong_14 : decode cX6_weighedAlong 14 = .ok (.if_icmp .ge 39, 3) := by decide +kernel
theorem dX6_weighedAlong_17 : decode cX6_weighedAlong 17 = .ok (.lload 7, 2) := by decide +kernel
theorem dX6_weighedAlong_19 : decode cX6_weighedAlong 19 = .ok (.lload 5, 2) := by decide +kernel
theorem dX6_weighedAlong_21 : decode cX6_weighedAlong 21 = .ok (.lmul, 1) := by decide +kernel
theorem dX6_weighedAlong_22 : decode cX6_weighedAlong 22 = .ok (.aload_n 0, 1) := by decide +kernel
theorem dX6_weighedAlong_23 : decode cX6_weighedAlong 23 = .ok (.getfield 15, 3) := by decide +kernel
theorem dX6_weighedAlong_26 : decode cX6_weighedAlong 26 = .ok (.aload_n 0, 1) := by decide +kernel
theorem dX6_weighedAlong_27 : decode cX6_weighedAlong 27 = .ok (.getfield 21, 3) := by decide +kernel
theorem dX6_weighedAlong_30 : decode cX6_weighedAlong 30 = .ok (.iload 11, 2) := by decide +kernel
theorem dX6_weighedAlong_32 : decode cX6_weighedAlong 32 = .ok (.iaload, 1) := by decide +kernel
theorem dX6_weighedAlong_33 : decode cX6_weighedAlong 33 = .ok (.iaload, 1) := by decide +kernel
theorem dX6_weighedAlong_34 : decode cX6_weighedAlong 34 = .ok (.i2l, 1) := by decide +kernel
theorem dX6_weighedAlong_35 : decode cX6_weighedAlong 35 = .ok (.lload 9, 2) := by decide +kernel
theorem dX6_weighedAlong_37 : decode cX6_weighedAlong 37 = .ok (.lmul, 1) := by decide +kernel
theorem dX6_weighedAlong_38 : decode cX6_weighedAlong 38 = .ok (.ladd, 1) := by decide +kernel
theorem dX6_weighedAlong_39 : decode cX6_weighedAlong 39 = .ok (.lstore 7, 2) := by decide +kernel
theorem dX6_weighedAlong_41 : decode cX6_weighedAlong 41 = .ok (.lload 9, 2) := by decide +kernel
theorem dX6_weighedAlong_43 : decode cX6_weighedAlong 43 = .ok (.lload_n 3, 1) := by decide +kernel
theorem dX6_weighedAlong_44 : decode cX6_weighedAlong 44 = .ok (.lmul, 1) := by decide +kernel
theorem dX6_weighedAlong_45 : decode cX6_weighedAlong 45 = .ok (.lstore 9, 2) := by decide +kernel
theorem dX6_weighedAlong_47 : decode cX6_weighedAlong 47 = .ok (.iinc 11 1, 3) := by decide +kernel
theorem dX6_weighedAlong_50 : decode cX6_weighedAlong 50 = .ok (.goto (-41), 3) := by decide +kernel
theorem dX6_weighedAlong_53 : decode cX6_weighedAlong 53 = .ok (.lload 7, 2) := by decide +kernel
theorem dX6_weighedAlong_55 : decode cX6_weighedAlong 55 = .ok (.lreturn, 1) := by decide +kernel
theorem dX6_power_0 : decode cX6_power 0 = .ok (.lconst 1, 1) := by decide +kernel
theorem dX6_power_1 : decode cX6_power 1 = .ok (.lstore_n 3, 1) := by decide +kernel
theorem dX6_power_2 : decode cX6_power 2 = .ok (.iconst 0, 1) := by decide +kernel
theorem dX6_power_3 : decode cX6_power 3 = .ok (.istore 5, 2) := by decide +kernel
theorem dX6_power_5 : decode cX6_power 5 = .ok (.iload 5, 2) := by decide +kernel
theorem dX6_power_7 : decode cX6_power 7 = .ok (.iload_n 2, 1) := by decide +kernel
theorem dX6_power_8 : decode cX6_power 8 = .ok (.if_icmp .ge 13, 3) := by decide +kernel
theorem dX6_power_11 : decode cX6_power 11 = .ok (.lload_n 3, 1) := by decide +kernel
theorem dX6_power_12 : decode cX6_power 12 = .ok (.lload_n 0, 1) := by decide +kernel
theorem dX6_power_13 : decode cX6_power 13 = .ok (.lmul, 1) := by decide +kernel
theorem dX6_power_14 : decode cX6_power 14 = .ok (.lstore_n 3, 1) := by decide +kernel
theorem dX6_power_15 : decode cX6_power 15 = .ok (.iinc 5 1, 3) := by decide +kernel
theorem dX6_power_18 : decode cX6_power 18 = .ok (.goto (-13), 3) := by decide +kernel
theorem dX6_power_21 : decode cX6_power 21 = .ok (.lload_n 3, 1) := by decide +kernel
theorem dX6_power_22 : decode cX6_power 22 = .ok (.lreturn, 1) := by decide +kernel
theorem dX6_meeting_0 : decode cX6_meeting 0 = .ok (.iload_n 1, 1) := by decide +kernel
theorem dX6_meeting_1 : decode cX6_meeting 1 = .ok (.istore_n 3, 1) := by decide +kernel
theorem dX6_meeting_2 : decode cX6_meeting 2 = .ok (.iload_n 2, 1) := by decide +kernel
theorem dX6_meeting_3 : decode cX6_meeting 3 = .ok (.istore 4, 2) := by decide +kernel
theorem dX6_meeting_5 : decode cX6_meeting 5 = .ok (.iconst 0, 1) := by decide +kernel
theorem dX6_meeting_6 : decode cX6_meeting 6 = .ok (.istore 5, 2) := by decide +kernel
theorem dX6_meeting_8 : decode cX6_meeting 8 = .ok (.iload 5, 2) := by decide +kernel
theorem dX6_meeting_10 : decode cX6_meeting 10 = .ok (.sipush 256, 3) := by decide +kernel
theorem dX6_meeting_13 : decode cX6_meeting 13 = .ok (.if_icmp .gt 34, 3) := by decide +kernel
theorem dX6_meeting_16 : decode cX6_meeting 16 = .ok (.iload_n 3, 1) := by decide +kernel
theorem dX6_meeting_17 : decode cX6_meeting 17 = .ok (.iload 4, 2) := by decide +kernel
theorem dX6_meeting_19 : decode cX6_meeting 19 = .ok (.if_icmp .ne 6, 3) := by decide +kernel
theorem dX6_meeting_22 : decode cX6_meeting 22 = .ok (.iload 5, 2) := by decide +kernel
theorem dX6_meeting_24 : decode cX6_meeting 24 = .ok (.ireturn, 1) := by decide +kernel
theorem dX6_meeting_25 : decode cX6_meeting 25 = .ok (.aload_n 0, 1) := by decide +kernel
theorem dX6_meeting_26 : decode cX6_meeting 26 = .ok (.getfield 11, 3) := by decide +kernel
theorem dX6_meeting_29 : decode cX6_meeting 29 = .ok (.iload_n 3, 1) := by decide +kernel
theorem dX6_meeting_30 : decode cX6_meeting 30 = .ok (.iaload, 1) := by decide +kernel
theorem dX6_meeting_31 : decode cX6_meeting 31 = .ok (.istore_n 3, 1) := by decide +kernel
theorem dX6_meeting_32 : decode cX6_meeting 32 = .ok (.aload_n 0, 1) := by decide +kernel
theorem dX6_meeting_33 : decode cX6_meeting 33 = .ok (.getfield 11, 3) := by decide +kernel
theorem dX6_meeting_36 : decode cX6_meeting 36 = .ok (.iload 4, 2) := by decide +kernel
theorem dX6_meeting_38 : decode cX6_meeting 38 = .ok (.iaload, 1) := by decide +kernel
theorem dX6_meeting_39 : decode cX6_meeting 39 = .ok (.istore 4, 2) := by decide +kernel
theorem dX6_meeting_41 : decode cX6_meeting 41 = .ok (.iinc 5 1, 3) := by decide +kernel
theorem dX6_meeting_44 : decode cX6_meeting 44 = .ok (.goto (-36), 3) := by decide +kernel
theorem dX6_meeting_47 : decode cX6_meeting 47 = .ok (.iconst (-1), 1) := by decide +kernel
theorem dX6_meeting_48 : decode cX6_meeting 48 = .ok (.ireturn, 1) := by decide +kernel
set_option maxRecDepth 20000 in
theorem ggX7_init_X0_init : GoodIn wsX7_init wsX0_init := goodIn_r _ [37, 38, 2, 3, 34, 39, 40, 41, 42, 90, 91, 92] (by decide +kernel) (by decide +kernel)
set_option maxRecDepth 20000 in
theorem gX7_init_X0_init_n9 : GoodIn wsX7_init (wsX0_init) := ggX7_init_X0_init
set_option maxRecDepth 20000 in
theorem ggX7_init_X2_init : GoodIn wsX7_init wsX2_init := goodIn_r _ [44, 45, 2, 3, 34, 46, 47, 48, 49, 103, 104, 105, 106] (by decide +kernel) (by decide +kernel)
set_option maxRecDepth 20000 in
theorem gX7_init_X2_init_n18 : GoodIn wsX7_init (wsX2_init) := ggX7_init_X2_init
set_option maxRecDepth 20000 in
theorem ggX7_init_X5_init : GoodIn wsX7_init wsX5_init := goodIn_r _ [52, 53, 2, 3, 34, 54, 55, 56, 57, 58, 59, 60, 107, 108, 109] (by decide +kernel) (by decide +kernel)
set_option maxRecDepth 20000 in
theorem gX7_init_X5_init : GoodIn wsX7_init (wsX5_init) := ggX7_init_X5_init
set_option maxRecDepth 20000 in
theorem ggX7_init_X1_init : GoodIn wsX7_init wsX1_init := goodIn_r _ [62, 63, 2, 3, 34, 64, 110] (by decide +kernel) (by decide +kernel)
set_option maxRecDepth 20000 in
theorem gX7_init_X1_init_n32 : GoodIn wsX7_init (wsX1_init) := ggX7_init_X1_init
set_option maxRecDepth 20000 in
theorem ggX7_init_X3_init : GoodIn wsX7_init wsX3_init := goodIn_r _ [66, 67, 2, 3, 34, 68, 69, 70, 71, 72, 25, 26, 73, 74, 30, 31, 75, 76, 77, 78, 79, 80, 81, 82, 83, 84, 85, 86, 87, 88, 89, 111, 112, 113, 114, 115, 116, 117, 118, 119, 120, 121, 122, 123] (by decide +kernel) (by decide +kernel)
set_option maxRecDepth 20000 in
theorem gX7_init_X3_init_n39 : GoodIn wsX7_init (wsX3_init) := ggX7_init_X3_init
set_option maxRecDepth 20000 in
theorem ggX7_init_X6_init : GoodIn wsX7_init wsX6_init := goodIn_r _ [77, 78, 2, 3, 34, 79, 80, 81, 82, 83, 84, 116, 117, 118, 119, 120, 121] (by decide +kernel) (by decide +kernel)
set_option maxRecDepth 20000 in
theorem gX7_init_X6_init_n46 : GoodIn wsX7_init (wsX6_init) := ggX7_init_X6_init
set_option maxRecDepth 20000 in
theorem ggX7_init_X4_init : GoodIn wsX7_init wsX4_init := goodIn_r _ [86, 87, 2, 3, 88, 89, 122, 123] (by decide +kernel) (by decide +kernel)
set_option maxRecDepth 20000 in
theorem gX7_init_X4_init_n56 : GoodIn wsX7_init (wsX4_init) := ggX7_init_X4_init
end
section
theorem dX7_init_0 : decode cX7_init 0 = .ok (.aload_n 0, 1) := by decide +kernel
theorem dX7_init_1 : decode cX7_init 1 = .ok (.invokespecial 3, 3) := by decide +kernel
theorem dX7_init_4 : decode cX7_init 4 = .ok (.aload_n 0, 1) := by decide +kernel
theorem dX7_init_5 : decode cX7_init 5 = .ok (.new 1, 3) := by decide +kernel
theorem dX7_init_8 : decode cX7_init 8 = .ok (.dup, 1) := by decide +kernel
theorem dX7_init_9 : decode cX7_init 9 = .ok (.invokespecial 9, 3) := by decide +kernel
theorem dX7_init_12 : decode cX7_init 12 = .ok (.putfield 10, 3) := by decide +kernel
theorem dX7_init_15 : decode cX7_init 15 = .ok (.aload_n 0, 1) := by decide +kernel
theorem dX7_init_16 : decode cX7_init 16 = .ok (.new 16, 3) := by decide +kernel
theorem dX7_init_19 : decode cX7_init 19 = .ok (.dup, 1) := by decide +kernel
theorem dX7_init_20 : decode cX7_init 20 = .ok (.invokespecial 18, 3) := by decide +kernel
theorem dX7_init_23 : decode cX7_init 23 = .ok (.putfield 19, 3) := by decide +kernel
theorem dX7_init_26 : decode cX7_init 26 = .ok (.aload_n 0, 1) := by decide +kernel
theorem dX7_init_27 : decode cX7_init 27 = .ok (.new 23, 3) := by decide +kernel
theorem dX7_init_30 : decode cX7_init 30 = .ok (.dup, 1) := by decide +kernel
theorem dX7_init_31 : decode cX7_init 31 = .ok (.invokespecial 25, 3) := by decide +kernel
theorem dX7_init_34 : decode cX7_init 34 = .ok (.putfield 26, 3) := by decide +kernel
theorem dX7_init_37 : decode cX7_init 37 = .ok (.aload_n 0, 1) := by decide +kernel
theorem dX7_init_38 : decode cX7_init 38 = .ok (.new 30, 3) := by decide +kernel
theorem dX7_init_41 : decode cX7_init 41 = .ok (.dup, 1) := by decide +kernel
theorem dX7_init_42 : decode cX7_init 42 = .ok (.invokespecial 32, 3) := by decide +kernel
theorem dX7_init_45 : decode cX7_init 45 = .ok (.putfield 33, 3) := by decide +kernel
theorem dX7_init_48 : decode cX7_init 48 = .ok (.aload_n 0, 1) := by decide +kernel
theorem dX7_init_49 : decode cX7_init 49 = .ok (.new 37, 3) := by decide +kernel
theorem dX7_init_52 : decode cX7_init 52 = .ok (.dup, 1) := by decide +kernel
theorem dX7_init_53 : decode cX7_init 53 = .ok (.invokespecial 39, 3) := by decide +kernel
theorem dX7_init_56 : decode cX7_init 56 = .ok (.putfield 40, 3) := by decide +kernel
theorem dX7_init_59 : decode cX7_init 59 = .ok (.aload_n 0, 1) := by decide +kernel
theorem dX7_init_60 : decode cX7_init 60 = .ok (.new 44, 3) := by decide +kernel
theorem dX7_init_63 : decode cX7_init 63 = .ok (.dup, 1) := by decide +kernel
theorem dX7_init_64 : decode cX7_init 64 = .ok (.invokespecial 46, 3) := by decide +kernel
theorem dX7_init_67 : decode cX7_init 67 = .ok (.putfield 47, 3) := by decide +kernel
theorem dX7_init_70 : decode cX7_init 70 = .ok (.aload_n 0, 1) := by decide +kernel
theorem dX7_init_71 : decode cX7_init 71 = .ok (.new 44, 3) := by decide +kernel
theorem dX7_init_74 : decode cX7_init 74 = .ok (.dup, 1) := by decide +kernel
theorem dX7_init_75 : decode cX7_init 75 = .ok (.invokespecial 46, 3) := by decide +kernel
theorem dX7_init_78 : decode cX7_init 78 = .ok (.putfield 51, 3) := by decide +kernel
theorem dX7_init_81 : decode cX7_init 81 = .ok (.aload_n 0, 1) := by decide +kernel
theorem dX7_init_82 : decode cX7_init 82 = .ok (.new 54, 3) := by decide +kernel
theorem dX7_init_85 : decode cX7_init 85 = .ok (.dup, 1) := by decide +kernel
theorem dX7_init_86 : decode cX7_init 86 = .ok (.invokespecial 56, 3) := by decide +kernel
theorem dX7_init_89 : decode cX7_init 89 = .ok (.putfield 57, 3) := by decide +kernel
theorem dX7_init_92 : decode cX7_init 92 = .ok (.aload_n 0, 1) := by decide +kernel
theorem dX7_init_93 : decode cX7_init 93 = .ok (.new 54, 3) := by decide +kernel
theorem dX7_init_96 : decode cX7_init 96 = .ok (.dup, 1) := by decide +kernel
theorem dX7_init_97 : decode cX7_init 97 = .ok (.invokespecial 56, 3) := by decide +kernel
theorem dX7_init_100 : decode cX7_init 100 = .ok (.putfield 61, 3) := by decide +kernel
theorem dX7_init_103 : decode cX7_init 103 = .ok (.aload_n 0, 1) := by decide +kernel
theorem dX7_init_104 : decode cX7_init 104 = .ok (.bipush 12, 2) := by decide +kernel
theorem dX7_init_106 : decode cX7_init 106 = .ok (.newarray .int, 2) := by decide +kernel
theorem dX7_init_108 : decode cX7_init 108 = .ok (.putfield 64, 3) := by decide +kernel
theorem dX7_init_111 : decode cX7_init 111 = .ok (.return_, 1) := by decide +kernel
set_option maxRecDepth 20000 in
theorem ggX7_pay_X7_isAction : GoodIn wsX7_pay wsX7_isAction := goodIn_r _ [5, 6, 7, 4, 8] (by decide +kernel) (by decide +kernel)
set_option maxRecDepth 20000 in
theorem gX7_pay_X7_isAction : GoodIn wsX7_pay (va_wsS RX7 68 yX7_isAction wsX7_isAction) := goodIn_app (goodIn_of _ (by decide +kernel)) ggX7_pay_X7_isAction
set_option maxRecDepth 20000 in
theorem ggX7_pay_X7_within : GoodIn wsX7_pay wsX7_within := goodIn_r _ [8] (by decide +kernel) (by decide +kernel)
set_option maxRecDepth 20000 in
theorem gX7_pay_X7_within : GoodIn wsX7_pay (va_wsS RX7 72 yX7_within wsX7_within) := goodIn_app (goodIn_of _ (by decide +kernel)) ggX7_pay_X7_within
set_option maxRecDepth 20000 in
theorem ggX7_pay_X0_setGain : GoodIn wsX7_pay wsX0_setGain := goodIn_r _ [13, 14, 25, 26, 27] (by decide +kernel) (by decide +kernel)
set_option maxRecDepth 20000 in
theorem gX7_pay_X0_setGain : GoodIn wsX7_pay (wsV RX7 76 RX0 yX0_setGain wsX0_setGain) := goodIn_app (goodIn_of _ (by decide +kernel)) ggX7_pay_X0_setGain
theorem dX7_pay_0 : decode cX7_pay 0 = .ok (.iload_n 1, 1) := by decide +kernel
theorem dX7_pay_1 : decode cX7_pay 1 = .ok (.invokestatic 68, 3) := by decide +kernel
theorem dX7_pay_4 : decode cX7_pay 4 = .ok (.ifCond .eq 21, 3) := by decide +kernel
theorem dX7_pay_7 : decode cX7_pay 7 = .ok (.iload_n 2, 1) := by decide +kernel
theorem dX7_pay_8 : decode cX7_pay 8 = .ok (.invokestatic 68, 3) := by decide +kernel
theorem dX7_pay_11 : decode cX7_pay 11 = .ok (.ifCond .eq 14, 3) := by decide +kernel
theorem dX7_pay_14 : decode cX7_pay 14 = .ok (.iload_n 3, 1) := by decide +kernel
theorem dX7_pay_15 : decode cX7_pay 15 = .ok (.bipush (-50), 2) := by decide +kernel
theorem dX7_pay_17 : decode cX7_pay 17 = .ok (.bipush 50, 2) := by decide +kernel
theorem dX7_pay_19 : decode cX7_pay 19 = .ok (.invokestatic 72, 3) := by decide +kernel
theorem dX7_pay_22 : decode cX7_pay 22 = .ok (.ifCond .ne 5, 3) := by decide +kernel
theorem dX7_pay_25 : decode cX7_pay 25 = .ok (.iconst (-1), 1) := by decide +kernel
theorem dX7_pay_26 : decode cX7_pay 26 = .ok (.ireturn, 1) := by decide +kernel
theorem dX7_pay_27 : decode cX7_pay 27 = .ok (.aload_n 0, 1) := by decide +kernel
theorem dX7_pay_28 : decode cX7_pay 28 = .ok (.getfield 10, 3) := by decide +kernel
theorem dX7_pay_31 : decode cX7_pay 31 = .ok (.iload_n 1, 1) := by decide +kernel
theorem dX7_pay_32 : decode cX7_pay 32 = .ok (.iload_n 2, 1) := by decide +kernel
theorem dX7_pay_33 : decode cX7_pay 33 = .ok (.iload_n 3, 1) := by decide +kernel
theorem dX7_pay_34 : decode cX7_pay 34 = .ok (.invokevirtual 76, 3) := by decide +kernel
theorem dX7_pay_37 : decode cX7_pay 37 = .ok (.iconst 1, 1) := by decide +kernel
theorem dX7_pay_38 : decode cX7_pay 38 = .ok (.ireturn, 1) := by decide +kernel
set_option maxRecDepth 20000 in
theorem ggX7_discount_X7_within : GoodIn wsX7_discount wsX7_within := goodIn_r _ [5] (by decide +kernel) (by decide +kernel)
set_option maxRecDepth 20000 in
theorem gX7_discount_X7_within : GoodIn wsX7_discount (va_wsS RX7 72 yX7_within wsX7_within) := goodIn_app (goodIn_of _ (by decide +kernel)) ggX7_discount_X7_within
set_option maxRecDepth 20000 in
theorem ggX7_discount_X0_setRate : GoodIn wsX7_discount wsX0_setRate := goodIn_r _ [10, 11, 12, 23, 24, 25] (by decide +kernel) (by decide +kernel)
set_option maxRecDepth 20000 in
theorem gX7_discount_X0_setRate : GoodIn wsX7_discount (wsV RX7 80 RX0 yX0_setRate wsX0_setRate) := goodIn_app (goodIn_of _ (by decide +kernel)) ggX7_discount_X0_setRate
theorem dX7_discount_0 : decode cX7_discount 0 = .ok (.iload_n 2, 1) := by decide +kernel
theorem dX7_discount_1 : decode cX7_discount 1 = .ok (.iconst 2, 1) := by decide +kernel
theorem dX7_discount_2 : decode cX7_discount 2 = .ok (.iconst 4, 1) := by decide +kernel
theorem dX7_discount_3 : decode cX7_discount 3 = .ok (.invokestatic 72, 3) := by decide +kernel
theorem dX7_discount_6 : decode cX7_discount 6 = .ok (.ifCond .eq 14, 3) := by decide +kernel
theorem dX7_discount_9 : decode cX7_discount 9 = .ok (.iload_n 1, 1) := by decide +kernel
theorem dX7_discount_10 : decode cX7_discount 10 = .ok (.iconst 1, 1) := by decide +kernel
theorem dX7_discount_11 : decode cX7_discount 11 = .ok (.iload_n 2, 1) := by decide +kernel
theorem dX7_discount_12 : decode cX7_discount 12 = .ok (.iconst 1, 1) := by decide +kernel
theorem dX7_discount_13 : decode cX7_discount 13 = .ok (.isub, 1) := by decide +kernel
theorem dX7_discount_14 : decode cX7_discount 14 = .ok (.invokestatic 72, 3) := by decide +kernel
theorem dX7_discount_17 : decode cX7_discount 17 = .ok (.ifCond .ne 5, 3) := by decide +kernel
theorem dX7_discount_20 : decode cX7_discount 20 = .ok (.iconst (-1), 1) := by decide +kernel
theorem dX7_discount_21 : decode cX7_discount 21 = .ok (.ireturn, 1) := by decide +kernel
theorem dX7_discount_22 : decode cX7_discount 22 = .ok (.aload_n 0, 1) := by decide +kernel
theorem dX7_discount_23 : decode cX7_discount 23 = .ok (.getfield 10, 3) := by decide +kernel
theorem dX7_discount_26 : decode cX7_discount 26 = .ok (.iload_n 1, 1) := by decide +kernel
theorem dX7_discount_27 : decode cX7_discount 27 = .ok (.iload_n 2, 1) := by decide +kernel
theorem dX7_discount_28 : decode cX7_discount 28 = .ok (.invokevirtual 80, 3) := by decide +kernel
theorem dX7_discount_31 : decode cX7_discount 31 = .ok (.iconst 1, 1) := by decide +kernel
theorem dX7_discount_32 : decode cX7_discount 32 = .ok (.ireturn, 1) := by decide +kernel
set_option maxRecDepth 20000 in
theorem ggX7_machine_X7_within : GoodIn wsX7_machine wsX7_within := goodIn_r _ [5] (by decide +kernel) (by decide +kernel)
set_option maxRecDepth 20000 in
theorem gX7_machine_X7_within : GoodIn wsX7_machine (va_wsS RX7 72 yX7_within wsX7_within) := goodIn_app (goodIn_of _ (by decide +kernel)) ggX7_machine_X7_within
set_option maxRecDepth 20000 in
theorem ggX7_machine_X2_isFull : GoodIn wsX7_machine wsX2_isFull := goodIn_r _ [10, 11, 37, 38, 39, 40] (by decide +kernel) (by decide +kernel)
set_option maxRecDepth 20000 in
theorem gX7_machine_X2_isFull : GoodIn wsX7_machine (wsV RX7 84 RX2 yX2_isFull wsX2_isFull) := goodIn_app (goodIn_of _ (by decide +kernel)) ggX7_machine_X2_isFull
set_option maxRecDepth 20000 in
theorem ggX7_machine_X2_add : GoodIn wsX7_machine wsX2_add := goodIn_r _ [15, 11, 16, 17, 18, 19, 9, 20, 21, 22, 23, 24, 25, 26, 37, 38, 39, 40] (by decide +kernel) (by decide +kernel)
set_option maxRecDepth 20000 in
theorem gX7_machine_X2_add : GoodIn wsX7_machine (wsV RX7 88 RX2 yX2_add wsX2_add) := goodIn_app (goodIn_of _ (by decide +kernel)) ggX7_machine_X2_add
theorem dX7_machine_0 : decode cX7_machine 0 = .ok (.iload_n 1, 1) := by decide +kernel
theorem dX7_machine_1 : decode cX7_machine 1 = .ok (.iconst 1, 1) := by decide +kernel
theorem dX7_machine_2 : decode cX7_machine 2 = .ok (.iconst 4, 1) := by decide +kernel
theorem dX7_machine_3 : decode cX7_machine 3 = .ok (.invokestatic 72, 3) := by decide +kernel
theorem dX7_machine_6 : decode cX7_machine 6 = .ok (.ifCond .ne 5, 3) := by decide +kernel
theorem dX7_machine_9 : decode cX7_machine 9 = .ok (.iconst (-1), 1) := by decide +kernel
theorem dX7_machine_10 : decode cX7_machine 10 = .ok (.ireturn, 1) := by decide +kernel
theorem dX7_machine_11 : decode cX7_machine 11 = .ok (.aload_n 0, 1) := by decide +kernel
theorem dX7_machine_12 : decode cX7_machine 12 = .ok (.getfield 19, 3) := by decide +kernel
theorem dX7_machine_15 : decode cX7_machine 15 = .ok (.invokevirtual 84, 3) := by decide +kernel
theorem dX7_machine_18 : decode cX7_machine 18 = .ok (.ifCond .eq 8, 3) := by decide +kernel
theorem dX7_machine_21 : decode cX7_machine 21 = .ok (.bipush (-3), 2) := by decide +kernel
theorem dX7_machine_23 : decode cX7_machine 23 = .ok (.goto 11, 3) := by decide +kernel
theorem dX7_machine_26 : decode cX7_machine 26 = .ok (.aload_n 0, 1) := by decide +kernel
theorem dX7_machine_27 : decode cX7_machine 27 = .ok (.getfield 19, 3) := by decide +kernel
theorem dX7_machine_30 : decode cX7_machine 30 = .ok (.iload_n 1, 1) := by decide +kernel
theorem dX7_machine_31 : decode cX7_machine 31 = .ok (.invokevirtual 88, 3) := by decide +kernel
theorem dX7_machine_34 : decode cX7_machine 34 = .ok (.ireturn, 1) := by decide +kernel
set_option maxRecDepth 20000 in
theorem ggX7_does_X2_hasState : GoodIn wsX7_does wsX2_hasState := goodIn_r _ [6, 7, 8, 9, 10, 5, 11, 12, 35, 36, 37, 38] (by decide +kernel) (by decide +kernel)
set_option maxRecDepth 20000 in
theorem gX7_does_X2_hasState : GoodIn wsX7_does (wsV RX7 92 RX2 yX2_hasState wsX2_hasState) := goodIn_app (goodIn_of _ (by decide +kernel)) ggX7_does_X2_hasState
set_option maxRecDepth 20000 in
theorem ggX7_does_X7_isAction : GoodIn wsX7_does wsX7_isAction := goodIn_r _ [16, 17, 18, 15, 19] (by decide +kernel) (by decide +kernel)
set_option maxRecDepth 20000 in
theorem gX7_does_X7_isAction : GoodIn wsX7_does (va_wsS RX7 68 yX7_isAction wsX7_isAction) := goodIn_app (goodIn_of _ (by decide +kernel)) ggX7_does_X7_isAction
set_option maxRecDepth 20000 in
theorem ggX7_does_X2_setAction : GoodIn wsX7_does wsX2_setAction := goodIn_r _ [23, 24, 35, 36, 37, 38] (by decide +kernel) (by decide +kernel)
set_option maxRecDepth 20000 in
theorem gX7_does_X2_setAction : GoodIn wsX7_does (wsV RX7 96 RX2 yX2_setAction wsX2_setAction) := goodIn_app (goodIn_of _ (by decide +kernel)) ggX7_does_X2_setAction
theorem dX7_does_0 : decode cX7_does 0 = .ok (.aload_n 0, 1) := by decide +kernel
theorem dX7_does_1 : decode cX7_does 1 = .ok (.getfield 19, 3) := by decide +kernel
theorem dX7_does_4 : decode cX7_does 4 = .ok (.iload_n 1, 1) := by decide +kernel
theorem dX7_does_5 : decode cX7_does 5 = .ok (.iload_n 2, 1) := by decide +kernel
theorem dX7_does_6 : decode cX7_does 6 = .ok (.invokevirtual 92, 3) := by decide +kernel
theorem dX7_does_9 : decode cX7_does 9 = .ok (.ifCond .eq 10, 3) := by decide +kernel
theorem dX7_does_12 : decode cX7_does 12 = .ok (.iload_n 3, 1) := by decide +kernel
theorem dX7_does_13 : decode cX7_does 13 = .ok (.invokestatic 68, 3) := by decide +kernel
theorem dX7_does_16 : decode cX7_does 16 = .ok (.ifCond .ne 5, 3) := by decide +kernel
theorem dX7_does_19 : decode cX7_does 19 = .ok (.iconst (-1), 1) := by decide +kernel
theorem dX7_does_20 : decode cX7_does 20 = .ok (.ireturn, 1) := by decide +kernel
theorem dX7_does_21 : decode cX7_does 21 = .ok (.aload_n 0, 1) := by decide +kernel
theorem dX7_does_22 : decode cX7_does 22 = .ok (.getfield 19, 3) := by decide +kernel
theorem dX7_does_25 : decode cX7_does 25 = .ok (.iload_n 1, 1) := by decide +kernel
theorem dX7_does_26 : decode cX7_does 26 = .ok (.iload_n 2, 1) := by decide +kernel
theorem dX7_does_27 : decode cX7_does 27 = .ok (.iload_n 3, 1) := by decide +kernel
theorem dX7_does_28 : decode cX7_does 28 = .ok (.invokevirtual 96, 3) := by decide +kernel
theorem dX7_does_31 : decode cX7_does 31 = .ok (.iconst 1, 1) := by decide +kernel
theorem dX7_does_32 : decode cX7_does 32 = .ok (.ireturn, 1) := by decide +kernel
set_option maxRecDepth 20000 in
theorem ggX7_goes_X2_hasState : GoodIn wsX7_goes wsX2_hasState := goodIn_r _ [6, 7, 8, 9, 10, 5, 11, 12, 35, 36, 37, 38] (by decide +kernel) (by decide +kernel)
set_option maxRecDepth 20000 in
theorem gX7_goes_X2_hasState : GoodIn wsX7_goes (wsV RX7 92 RX2 yX2_hasState wsX2_hasState) := goodIn_app (goodIn_of _ (by decide +kernel)) ggX7_goes_X2_hasState
set_option maxRecDepth 20000 in
theorem ggX7_goes_X7_isAction : GoodIn wsX7_goes wsX7_isAction := goodIn_r _ [16, 17, 18, 15, 19] (by decide +kernel) (by decide +kernel)
set_option maxRecDepth 20000 in
theorem gX7_goes_X7_isAction : GoodIn wsX7_goes (va_wsS RX7 68 yX7_isAction wsX7_isAction) := goodIn_app (goodIn_of _ (by decide +kernel)) ggX7_goes_X7_isAction
set_option maxRecDepth 20000 in
theorem ggX7_goes_X2_setNext : GoodIn wsX7_goes wsX2_setNext := goodIn_r _ [23, 24, 35, 36, 37, 38] (by decide +kernel) (by decide +kernel)
set_option maxRecDepth 20000 in
theorem gX7_goes_X2_setNext : GoodIn wsX7_goes (wsV RX7 99 RX2 yX2_setNext wsX2_setNext) := goodIn_app (goodIn_of _ (by decide +kernel)) ggX7_goes_X2_setNext
theorem dX7_goes_0 : decode cX7_goes 0 = .ok (.aload_n 0, 1) := by decide +kernel
theorem dX7_goes_1 : decode cX7_goes 1 = .ok (.getfield 19, 3) := by decide +kernel
theorem dX7_goes_4 : decode cX7_goes 4 = .ok (.iload_n 1, 1) := by decide +kernel
theorem dX7_goes_5 : decode cX7_goes 5 = .ok (.iload_n 2, 1) := by decide +kernel
theorem dX7_goes_6 : decode cX7_goes 6 = .ok (.invokevirtual 92, 3) := by decide +kernel
theorem dX7_goes_9 : decode cX7_goes 9 = .ok (.ifCond .eq 23, 3) := by decide +kernel
theorem dX7_goes_12 : decode cX7_goes 12 = .ok (.iload_n 3, 1) := by decide +kernel
theorem dX7_goes_13 : decode cX7_goes 13 = .ok (.invokestatic 68, 3) := by decide +kernel
theorem dX7_goes_16 : decode cX7_goes 16 = .ok (.ifCond .eq 16, 3) := by decide +kernel
theorem dX7_goes_19 : decode cX7_goes 19 = .ok (.aload_n 0, 1) := by decide +kernel
theorem dX7_goes_20 : decode cX7_goes 20 = .ok (.getfield 19, 3) := by decide +kernel
theorem dX7_goes_23 : decode cX7_goes 23 = .ok (.iload_n 1, 1) := by decide +kernel
theorem dX7_goes_24 : decode cX7_goes 24 = .ok (.iload 4, 2) := by decide +kernel
theorem dX7_goes_26 : decode cX7_goes 26 = .ok (.invokevirtual 92, 3) := by decide +kernel
theorem dX7_goes_29 : decode cX7_goes 29 = .ok (.ifCond .ne 5, 3) := by decide +kernel
theorem dX7_goes_32 : decode cX7_goes 32 = .ok (.iconst (-1), 1) := by decide +kernel
theorem dX7_goes_33 : decode cX7_goes 33 = .ok (.ireturn, 1) := by decide +kernel
theorem dX7_goes_34 : decode cX7_goes 34 = .ok (.aload_n 0, 1) := by decide +kernel
theorem dX7_goes_35 : decode cX7_goes 35 = .ok (.getfield 19, 3) := by decide +kernel
theorem dX7_goes_38 : decode cX7_goes 38 = .ok (.iload_n 1, 1) := by decide +kernel
theorem dX7_goes_39 : decode cX7_goes 39 = .ok (.iload_n 2, 1) := by decide +kernel
theorem dX7_goes_40 : decode cX7_goes 40 = .ok (.iload_n 3, 1) := by decide +kernel
theorem dX7_goes_41 : decode cX7_goes 41 = .ok (.iload 4, 2) := by decide +kernel
theorem dX7_goes_43 : decode cX7_goes 43 = .ok (.invokevirtual 99, 3) := by decide +kernel
theorem dX7_goes_46 : decode cX7_goes 46 = .ok (.iconst 1, 1) := by decide +kernel
theorem dX7_goes_47 : decode cX7_goes 47 = .ok (.ireturn, 1) := by decide +kernel
set_option maxRecDepth 20000 in
theorem ggX7_told_X2_hasState : GoodIn wsX7_told wsX2_hasState := goodIn_r _ [6, 7, 8, 9, 10, 5, 11, 12, 37, 38, 39, 40] (by decide +kernel) (by decide +kernel)
set_option maxRecDepth 20000 in
theorem gX7_told_X2_hasState : GoodIn wsX7_told (wsV RX7 92 RX2 yX2_hasState wsX2_hasState) := goodIn_app (goodIn_of _ (by decide +kernel)) ggX7_told_X2_hasState
set_option maxRecDepth 20000 in
theorem ggX7_told_X7_within : GoodIn wsX7_told wsX7_within := goodIn_r _ [16] (by decide +kernel) (by decide +kernel)
set_option maxRecDepth 20000 in
theorem gX7_told_X7_within : GoodIn wsX7_told (va_wsS RX7 72 yX7_within wsX7_within) := goodIn_app (goodIn_of _ (by decide +kernel)) ggX7_told_X7_within
set_option maxRecDepth 20000 in
theorem ggX7_told_X2_actionOf : GoodIn wsX7_told wsX2_actionOf := goodIn_r _ [20, 21, 37, 38, 39, 40] (by decide +kernel) (by decide +kernel)
set_option maxRecDepth 20000 in
theorem gX7_told_X2_actionOf : GoodIn wsX7_told (wsV RX7 103 RX2 yX2_actionOf wsX2_actionOf) := goodIn_app (goodIn_of _ (by decide +kernel)) ggX7_told_X2_actionOf
set_option maxRecDepth 20000 in
theorem ggX7_told_X2_nextOf : GoodIn wsX7_told wsX2_nextOf := goodIn_r _ [25, 26, 37, 38, 39, 40] (by decide +kernel) (by decide +kernel)
set_option maxRecDepth 20000 in
theorem gX7_told_X2_nextOf : GoodIn wsX7_told (wsV RX7 107 RX2 yX2_nextOf wsX2_nextOf) := goodIn_app (goodIn_of _ (by decide +kernel)) ggX7_told_X2_nextOf
theorem dX7_told_0 : decode cX7_told 0 = .ok (.aload_n 0, 1) := by decide +kernel
theorem dX7_told_1 : decode cX7_told 1 = .ok (.getfield 19, 3) := by decide +kernel
theorem dX7_told_4 : decode cX7_told 4 = .ok (.iload_n 1, 1) := by decide +kernel
theorem dX7_told_5 : decode cX7_told 5 = .ok (.iload_n 2, 1) := by decide +kernel
theorem dX7_told_6 : decode cX7_told 6 = .ok (.invokevirtual 92, 3) := by decide +kernel
theorem dX7_told_9 : decode cX7_told 9 = .ok (.ifCond .eq 12, 3) := by decide +kernel
theorem dX7_told_12 : decode cX7_told 12 = .ok (.iload_n 3, 1) := by decide +kernel
theorem dX7_told_13 : decode cX7_told 13 = .ok (.iconst 0, 1) := by decide +kernel
theorem dX7_told_14 : decode cX7_told 14 = .ok (.iconst 3, 1) := by decide +kernel
theorem dX7_told_15 : decode cX7_told 15 = .ok (.invokestatic 72, 3) := by decide +kernel
theorem dX7_told_18 : decode cX7_told 18 = .ok (.ifCond .ne 5, 3) := by decide +kernel
theorem dX7_told_21 : decode cX7_told 21 = .ok (.iconst (-1), 1) := by decide +kernel
theorem dX7_told_22 : decode cX7_told 22 = .ok (.ireturn, 1) := by decide +kernel
theorem dX7_told_23 : decode cX7_told 23 = .ok (.iload_n 3, 1) := by decide +kernel
theorem dX7_told_24 : decode cX7_told 24 = .ok (.ifCond .ne 15, 3) := by decide +kernel
theorem dX7_told_27 : decode cX7_told 27 = .ok (.aload_n 0, 1) := by decide +kernel
theorem dX7_told_28 : decode cX7_told 28 = .ok (.getfield 19, 3) := by decide +kernel
theorem dX7_told_31 : decode cX7_told 31 = .ok (.iload_n 1, 1) := by decide +kernel
theorem dX7_told_32 : decode cX7_told 32 = .ok (.iload_n 2, 1) := by decide +kernel
theorem dX7_told_33 : decode cX7_told 33 = .ok (.invokevirtual 103, 3) := by decide +kernel
theorem dX7_told_36 : decode cX7_told 36 = .ok (.goto 15, 3) := by decide +kernel
theorem dX7_told_39 : decode cX7_told 39 = .ok (.aload_n 0, 1) := by decide +kernel
theorem dX7_told_40 : decode cX7_told 40 = .ok (.getfield 19, 3) := by decide +kernel
theorem dX7_told_43 : decode cX7_told 43 = .ok (.iload_n 1, 1) := by decide +kernel
theorem dX7_told_44 : decode cX7_told 44 = .ok (.iload_n 2, 1) := by decide +kernel
theorem dX7_told_45 : decode cX7_told 45 = .ok (.iload_n 3, 1) := by decide +kernel
theorem dX7_told_46 : decode cX7_told 46 = .ok (.iconst 1, 1) := by decide +kernel
theorem dX7_told_47 : decode cX7_told 47 = .ok (.isub, 1) := by decide +kernel
theorem dX7_told_48 : decode cX7_told 48 = .ok (.invokevirtual 107, 3) := by decide +kernel
theorem dX7_told_51 : decode cX7_told 51 = .ok (.ireturn, 1) := by decide +kernel
set_option maxRecDepth 20000 in
theorem ggX7_drop_X2_many : GoodIn wsX7_drop wsX2_many := goodIn_r _ [6, 7, 22, 23, 24, 25] (by decide +kernel) (by decide +kernel)
set_option maxRecDepth 20000 in
theorem gX7_drop_X2_many : GoodIn wsX7_drop (wsV RX7 111 RX2 yX2_many wsX2_many) := goodIn_app (goodIn_of _ (by decide +kernel)) ggX7_drop_X2_many
set_option maxRecDepth 20000 in
theorem ggX7_drop_X2_removeLatest : GoodIn wsX7_drop wsX2_removeLatest := goodIn_r _ [11, 7, 22, 23, 24, 25] (by decide +kernel) (by decide +kernel)
set_option maxRecDepth 20000 in
theorem gX7_drop_X2_removeLatest : GoodIn wsX7_drop (wsV RX7 115 RX2 yX2_removeLatest wsX2_removeLatest) := goodIn_app (goodIn_of _ (by decide +kernel)) ggX7_drop_X2_removeLatest
theorem dX7_drop_0 : decode cX7_drop 0 = .ok (.aload_n 0, 1) := by decide +kernel
theorem dX7_drop_1 : decode cX7_drop 1 = .ok (.getfield 19, 3) := by decide +kernel
theorem dX7_drop_4 : decode cX7_drop 4 = .ok (.invokevirtual 111, 3) := by decide +kernel
theorem dX7_drop_7 : decode cX7_drop 7 = .ok (.ifCond .ne 8, 3) := by decide +kernel
theorem dX7_drop_10 : decode cX7_drop 10 = .ok (.bipush (-4), 2) := by decide +kernel
theorem dX7_drop_12 : decode cX7_drop 12 = .ok (.goto 10, 3) := by decide +kernel
theorem dX7_drop_15 : decode cX7_drop 15 = .ok (.aload_n 0, 1) := by decide +kernel
theorem dX7_drop_16 : decode cX7_drop 16 = .ok (.getfield 19, 3) := by decide +kernel
theorem dX7_drop_19 : decode cX7_drop 19 = .ok (.invokevirtual 115, 3) := by decide +kernel
theorem dX7_drop_22 : decode cX7_drop 22 = .ok (.ireturn, 1) := by decide +kernel
set_option maxRecDepth 20000 in
theorem ggX7_sheet_X5_isSheet : GoodIn wsX7_sheet wsX5_isSheet := goodIn_r _ [5] (by decide +kernel) (by decide +kernel)
set_option maxRecDepth 20000 in
theorem gX7_sheet_X5_isSheet : GoodIn wsX7_sheet (va_wsS RX7 118 yX5_isSheet wsX5_isSheet) := goodIn_app (goodIn_of _ (by decide +kernel)) ggX7_sheet_X5_isSheet
set_option maxRecDepth 20000 in
theorem ggX7_sheet_X5_isLane : GoodIn wsX7_sheet wsX5_isLane := goodIn_r _ [8] (by decide +kernel) (by decide +kernel)
set_option maxRecDepth 20000 in
theorem gX7_sheet_X5_isLane : GoodIn wsX7_sheet (va_wsS RX7 121 yX5_isLane wsX5_isLane) := goodIn_app (goodIn_of _ (by decide +kernel)) ggX7_sheet_X5_isLane
set_option maxRecDepth 20000 in
theorem ggX7_sheet_X5_layOut : GoodIn wsX7_sheet wsX5_layOut := goodIn_r _ [12, 13, 14, 15, 16, 17, 18, 19, 20, 21, 22, 33, 34, 35] (by decide +kernel) (by decide +kernel)
set_option maxRecDepth 20000 in
theorem gX7_sheet_X5_layOut : GoodIn wsX7_sheet (wsV RX7 124 RX5 yX5_layOut wsX5_layOut) := goodIn_app (goodIn_of _ (by decide +kernel)) ggX7_sheet_X5_layOut
theorem dX7_sheet_0 : decode cX7_sheet 0 = .ok (.iload_n 1, 1) := by decide +kernel
theorem dX7_sheet_1 : decode cX7_sheet 1 = .ok (.invokestatic 118, 3) := by decide +kernel
theorem dX7_sheet_4 : decode cX7_sheet 4 = .ok (.ifCond .eq 16, 3) := by decide +kernel
theorem dX7_sheet_7 : decode cX7_sheet 7 = .ok (.iload_n 2, 1) := by decide +kernel
theorem dX7_sheet_8 : decode cX7_sheet 8 = .ok (.invokestatic 121, 3) := by decide +kernel
theorem dX7_sheet_11 : decode cX7_sheet 11 = .ok (.ifCond .eq 9, 3) := by decide +kernel
theorem dX7_sheet_14 : decode cX7_sheet 14 = .ok (.iload_n 3, 1) := by decide +kernel
theorem dX7_sheet_15 : decode cX7_sheet 15 = .ok (.bipush 60, 2) := by decide +kernel
theorem dX7_sheet_17 : decode cX7_sheet 17 = .ok (.if_icmp .le 5, 3) := by decide +kernel
theorem dX7_sheet_20 : decode cX7_sheet 20 = .ok (.iconst (-1), 1) := by decide +kernel
theorem dX7_sheet_21 : decode cX7_sheet 21 = .ok (.ireturn, 1) := by decide +kernel
theorem dX7_sheet_22 : decode cX7_sheet 22 = .ok (.iload_n 3, 1) := by decide +kernel
theorem dX7_sheet_23 : decode cX7_sheet 23 = .ok (.ifCond .ge 6, 3) := by decide +kernel
theorem dX7_sheet_26 : decode cX7_sheet 26 = .ok (.bipush (-14), 2) := by decide +kernel
theorem dX7_sheet_28 : decode cX7_sheet 28 = .ok (.ireturn, 1) := by decide +kernel
theorem dX7_sheet_29 : decode cX7_sheet 29 = .ok (.aload_n 0, 1) := by decide +kernel
theorem dX7_sheet_30 : decode cX7_sheet 30 = .ok (.getfield 26, 3) := by decide +kernel
theorem dX7_sheet_33 : decode cX7_sheet 33 = .ok (.iload_n 1, 1) := by decide +kernel
theorem dX7_sheet_34 : decode cX7_sheet 34 = .ok (.iload_n 2, 1) := by decide +kernel
theorem dX7_sheet_35 : decode cX7_sheet 35 = .ok (.iload_n 3, 1) := by decide +kernel
theorem dX7_sheet_36 : decode cX7_sheet 36 = .ok (.invokevirtual 124, 3) := by decide +kernel
theorem dX7_sheet_39 : decode cX7_sheet 39 = .ok (.iconst 1, 1) := by decide +kernel
theorem dX7_sheet_40 : decode cX7_sheet 40 = .ok (.ireturn, 1) := by decide +kernel
set_option maxRecDepth 20000 in
theorem ggX7_lay_X5_isSheet : GoodIn wsX7_lay wsX5_isSheet := goodIn_r _ [5] (by decide +kernel) (by decide +kernel)
set_option maxRecDepth 20000 in
theorem gX7_lay_X5_isSheet : GoodIn wsX7_lay (va_wsS RX7 118 yX5_isSheet wsX5_isSheet) := goodIn_app (goodIn_of _ (by decide +kernel)) ggX7_lay_X5_isSheet
set_option maxRecDepth 20000 in
theorem ggX7_lay_X5_isThere : GoodIn wsX7_lay wsX5_isThere := goodIn_r _ [9, 10, 34, 35, 36] (by decide +kernel) (by decide +kernel)
set_option maxRecDepth 20000 in
theorem gX7_lay_X5_isThere : GoodIn wsX7_lay (wsV RX7 127 RX5 yX5_isThere wsX5_isThere) := goodIn_app (goodIn_of _ (by decide +kernel)) ggX7_lay_X5_isThere
set_option maxRecDepth 20000 in
theorem ggX7_lay_X5_hasCell : GoodIn wsX7_lay wsX5_hasCell := goodIn_r _ [14, 15, 34, 35, 36] (by decide +kernel) (by decide +kernel)
set_option maxRecDepth 20000 in
theorem gX7_lay_X5_hasCell : GoodIn wsX7_lay (wsV RX7 130 RX5 yX5_hasCell wsX5_hasCell) := goodIn_app (goodIn_of _ (by decide +kernel)) ggX7_lay_X5_hasCell
set_option maxRecDepth 20000 in
theorem ggX7_lay_X5_setCell : GoodIn wsX7_lay wsX5_setCell := goodIn_r _ [19, 20, 10, 21, 22, 4, 23, 34, 35, 36] (by decide +kernel) (by decide +kernel)
set_option maxRecDepth 20000 in
theorem gX7_lay_X5_setCell : GoodIn wsX7_lay (wsV RX7 133 RX5 yX5_setCell wsX5_setCell) := goodIn_app (goodIn_of _ (by decide +kernel)) ggX7_lay_X5_setCell
theorem dX7_lay_0 : decode cX7_lay 0 = .ok (.iload_n 1, 1) := by decide +kernel
theorem dX7_lay_1 : decode cX7_lay 1 = .ok (.invokestatic 118, 3) := by decide +kernel
theorem dX7_lay_4 : decode cX7_lay 4 = .ok (.ifCond .ne 5, 3) := by decide +kernel
theorem dX7_lay_7 : decode cX7_lay 7 = .ok (.iconst (-1), 1) := by decide +kernel
theorem dX7_lay_8 : decode cX7_lay 8 = .ok (.ireturn, 1) := by decide +kernel
theorem dX7_lay_9 : decode cX7_lay 9 = .ok (.aload_n 0, 1) := by decide +kernel
theorem dX7_lay_10 : decode cX7_lay 10 = .ok (.getfield 26, 3) := by decide +kernel
theorem dX7_lay_13 : decode cX7_lay 13 = .ok (.iload_n 1, 1) := by decide +kernel
theorem dX7_lay_14 : decode cX7_lay 14 = .ok (.invokevirtual 127, 3) := by decide +kernel
theorem dX7_lay_17 : decode cX7_lay 17 = .ok (.ifCond .ne 6, 3) := by decide +kernel
theorem dX7_lay_20 : decode cX7_lay 20 = .ok (.bipush (-11), 2) := by decide +kernel
theorem dX7_lay_22 : decode cX7_lay 22 = .ok (.ireturn, 1) := by decide +kernel
theorem dX7_lay_23 : decode cX7_lay 23 = .ok (.aload_n 0, 1) := by decide +kernel
theorem dX7_lay_24 : decode cX7_lay 24 = .ok (.getfield 26, 3) := by decide +kernel
theorem dX7_lay_27 : decode cX7_lay 27 = .ok (.iload_n 1, 1) := by decide +kernel
theorem dX7_lay_28 : decode cX7_lay 28 = .ok (.iload_n 2, 1) := by decide +kernel
theorem dX7_lay_29 : decode cX7_lay 29 = .ok (.invokevirtual 130, 3) := by decide +kernel
theorem dX7_lay_32 : decode cX7_lay 32 = .ok (.ifCond .ne 6, 3) := by decide +kernel
theorem dX7_lay_35 : decode cX7_lay 35 = .ok (.bipush (-12), 2) := by decide +kernel
theorem dX7_lay_37 : decode cX7_lay 37 = .ok (.ireturn, 1) := by decide +kernel
theorem dX7_lay_38 : decode cX7_lay 38 = .ok (.aload_n 0, 1) := by decide +kernel
theorem dX7_lay_39 : decode cX7_lay 39 = .ok (.getfield 26, 3) := by decide +kernel
theorem dX7_lay_42 : decode cX7_lay 42 = .ok (.iload_n 1, 1) := by decide +kernel
theorem dX7_lay_43 : decode cX7_lay 43 = .ok (.iload_n 2, 1) := by decide +kernel
theorem dX7_lay_44 : decode cX7_lay 44 = .ok (.iload_n 3, 1) := by decide +kernel
theorem dX7_lay_45 : decode cX7_lay 45 = .ok (.invokevirtual 133, 3) := by decide +kernel
theorem dX7_lay_48 : decode cX7_lay 48 = .ok (.iconst 1, 1) := by decide +kernel
theorem dX7_lay_49 : decode cX7_lay 49 = .ok (.ireturn, 1) := by decide +kernel
set_option maxRecDepth 20000 in
theorem ggX7_draw_X5_isSheet : GoodIn wsX7_draw wsX5_isSheet := goodIn_r _ [6] (by decide +kernel) (by decide +kernel)
set_option maxRecDepth 20000 in
theorem gX7_draw_X5_isSheet : GoodIn wsX7_draw (va_wsS RX7 118 yX5_isSheet wsX5_isSheet) := goodIn_app (goodIn_of _ (by decide +kernel)) ggX7_draw_X5_isSheet
set_option maxRecDepth 20000 in
theorem ggX7_draw_X5_isLane : GoodIn wsX7_draw wsX5_isLane := goodIn_r _ [9] (by decide +kernel) (by decide +kernel)
set_option maxRecDepth 20000 in
theorem gX7_draw_X5_isLane : GoodIn wsX7_draw (va_wsS RX7 121 yX5_isLane wsX5_isLane) := goodIn_app (goodIn_of _ (by decide +kernel)) ggX7_draw_X5_isLane
set_option maxRecDepth 20000 in
theorem ggX7_draw_X7_within : GoodIn wsX7_draw wsX7_within := goodIn_r _ [13] (by decide +kernel) (by decide +kernel)
set_option maxRecDepth 20000 in
theorem gX7_draw_X7_within : GoodIn wsX7_draw (va_wsS RX7 72 yX7_within wsX7_within) := goodIn_app (goodIn_of _ (by decide +kernel)) ggX7_draw_X7_within
set_option maxRecDepth 20000 in
theorem ggX7_draw_X5_isThere : GoodIn wsX7_draw wsX5_isThere := goodIn_r _ [17, 18, 74, 75, 76] (by decide +kernel) (by decide +kernel)
set_option maxRecDepth 20000 in
theorem gX7_draw_X5_isThere : GoodIn wsX7_draw (wsV RX7 127 RX5 yX5_isThere wsX5_isThere) := goodIn_app (goodIn_of _ (by decide +kernel)) ggX7_draw_X5_isThere
set_option maxRecDepth 20000 in
theorem ggX7_draw_X5_laneOf : GoodIn wsX7_draw wsX5_laneOf := goodIn_r _ [22, 18, 74, 75, 76] (by decide +kernel) (by decide +kernel)
set_option maxRecDepth 20000 in
theorem gX7_draw_X5_laneOf : GoodIn wsX7_draw (wsV RX7 136 RX5 yX5_laneOf wsX5_laneOf) := goodIn_app (goodIn_of _ (by decide +kernel)) ggX7_draw_X5_laneOf
set_option maxRecDepth 20000 in
theorem ggX7_draw_X7_cellFault : GoodIn wsX7_draw wsX7_cellFault := goodIn_r _ [26, 1, 27, 28, 29, 5, 30, 31, 32, 33, 34, 35, 36, 10, 11, 12, 13, 64, 65, 66, 67, 68, 69, 70, 71, 72, 73, 74, 75, 76] (by decide +kernel) (by decide +kernel)
set_option maxRecDepth 20000 in
theorem gX7_draw_X7_cellFault : GoodIn wsX7_draw (wsV RX7 139 RX7 yX7_cellFault wsX7_cellFault) := goodIn_app (goodIn_of _ (by decide +kernel)) ggX7_draw_X7_cellFault
set_option maxRecDepth 20000 in
theorem ggX7_draw_X2_isFull : GoodIn wsX7_draw wsX2_isFull := goodIn_r _ [41, 42, 77, 78, 79, 80] (by decide +kernel) (by decide +kernel)
set_option maxRecDepth 20000 in
theorem gX7_draw_X2_isFull : GoodIn wsX7_draw (wsV RX7 84 RX2 yX2_isFull wsX2_isFull) := goodIn_app (goodIn_of _ (by decide +kernel)) ggX7_draw_X2_isFull
set_option maxRecDepth 20000 in
theorem ggX7_draw_X7_readMachine : GoodIn wsX7_draw wsX7_readMachine := goodIn_r _ [46, 2, 1, 47, 48, 49, 40, 50, 42, 51, 52, 53, 54, 55, 56, 57, 58, 59, 60, 61, 32, 33, 34, 5, 35, 36, 62, 63, 64, 65, 66, 67, 68, 69, 70, 71, 72, 73, 77, 78, 79, 80, 74, 75, 76] (by decide +kernel) (by decide +kernel)
set_option maxRecDepth 20000 in
theorem gX7_draw_X7_readMachine : GoodIn wsX7_draw (wsV RX7 142 RX7 yX7_readMachine wsX7_readMachine) := goodIn_app (goodIn_of _ (by decide +kernel)) ggX7_draw_X7_readMachine
theorem dX7_draw_0 : decode cX7_draw 0 = .ok (.iload_n 1, 1) := by decide +kernel
theorem dX7_draw_1 : decode cX7_draw 1 = .ok (.invokestatic 118, 3) := by decide +kernel
theorem dX7_draw_4 : decode cX7_draw 4 = .ok (.ifCond .eq 20, 3) := by decide +kernel
theorem dX7_draw_7 : decode cX7_draw 7 = .ok (.iload_n 2, 1) := by decide +kernel
theorem dX7_draw_8 : decode cX7_draw 8 = .ok (.invokestatic 121, 3) := by decide +kernel
theorem dX7_draw_11 : decode cX7_draw 11 = .ok (.ifCond .eq 13, 3) := by decide +kernel
theorem dX7_draw_14 : decode cX7_draw 14 = .ok (.iload 4, 2) := by decide +kernel
theorem dX7_draw_16 : decode cX7_draw 16 = .ok (.iconst 1, 1) := by decide +kernel
theorem dX7_draw_17 : decode cX7_draw 17 = .ok (.iconst 4, 1) := by decide +kernel
theorem dX7_draw_18 : decode cX7_draw 18 = .ok (.invokestatic 72, 3) := by decide +kernel
theorem dX7_draw_21 : decode cX7_draw 21 = .ok (.ifCond .ne 5, 3) := by decide +kernel
theorem dX7_draw_24 : decode cX7_draw 24 = .ok (.iconst (-1), 1) := by decide +kernel
theorem dX7_draw_25 : decode cX7_draw 25 = .ok (.ireturn, 1) := by decide +kernel
theorem dX7_draw_26 : decode cX7_draw 26 = .ok (.aload_n 0, 1) := by decide +kernel
theorem dX7_draw_27 : decode cX7_draw 27 = .ok (.getfield 26, 3) := by decide +kernel
theorem dX7_draw_30 : decode cX7_draw 30 = .ok (.iload_n 1, 1) := by decide +kernel
theorem dX7_draw_31 : decode cX7_draw 31 = .ok (.invokevirtual 127, 3) := by decide +kernel
theorem dX7_draw_34 : decode cX7_draw 34 = .ok (.ifCond .ne 6, 3) := by decide +kernel
theorem dX7_draw_37 : decode cX7_draw 37 = .ok (.bipush (-11), 2) := by decide +kernel
theorem dX7_draw_39 : decode cX7_draw 39 = .ok (.ireturn, 1) := by decide +kernel
theorem dX7_draw_40 : decode cX7_draw 40 = .ok (.aload_n 0, 1) := by decide +kernel
theorem dX7_draw_41 : decode cX7_draw 41 = .ok (.getfield 26, 3) := by decide +kernel
theorem dX7_draw_44 : decode cX7_draw 44 = .ok (.iload_n 1, 1) := by decide +kernel
theorem dX7_draw_45 : decode cX7_draw 45 = .ok (.invokevirtual 136, 3) := by decide +kernel
theorem dX7_draw_48 : decode cX7_draw 48 = .ok (.iload_n 2, 1) := by decide +kernel
theorem dX7_draw_49 : decode cX7_draw 49 = .ok (.if_icmp .eq 6, 3) := by decide +kernel
theorem dX7_draw_52 : decode cX7_draw 52 = .ok (.bipush (-13), 2) := by decide +kernel
theorem dX7_draw_54 : decode cX7_draw 54 = .ok (.ireturn, 1) := by decide +kernel
theorem dX7_draw_55 : decode cX7_draw 55 = .ok (.aload_n 0, 1) := by decide +kernel
theorem dX7_draw_56 : decode cX7_draw 56 = .ok (.iload_n 1, 1) := by decide +kernel
theorem dX7_draw_57 : decode cX7_draw 57 = .ok (.iload_n 3, 1) := by decide +kernel
theorem dX7_draw_58 : decode cX7_draw 58 = .ok (.iload 4, 2) := by decide +kernel
theorem dX7_draw_60 : decode cX7_draw 60 = .ok (.invokevirtual 139, 3) := by decide +kernel
theorem dX7_draw_63 : decode cX7_draw 63 = .ok (.istore 5, 2) := by decide +kernel
theorem dX7_draw_65 : decode cX7_draw 65 = .ok (.iload 5, 2) := by decide +kernel
theorem dX7_draw_67 : decode cX7_draw 67 = .ok (.ifCond .eq 6, 3) := by decide +kernel
theorem dX7_draw_70 : decode cX7_draw 70 = .ok (.iload 5, 2) := by decide +kernel
theorem dX7_draw_72 : decode cX7_draw 72 = .ok (.ireturn, 1) := by decide +kernel
theorem dX7_draw_73 : decode cX7_draw 73 = .ok (.aload_n 0, 1) := by decide +kernel
theorem dX7_draw_74 : decode cX7_draw 74 = .ok (.getfield 19, 3) := by decide +kernel
theorem dX7_draw_77 : decode cX7_draw 77 = .ok (.invokevirtual 84, 3) := by decide +kernel
theorem dX7_draw_80 : decode cX7_draw 80 = .ok (.ifCond .eq 8, 3) := by decide +kernel
theorem dX7_draw_83 : decode cX7_draw 83 = .ok (.bipush (-3), 2) := by decide +kernel
theorem dX7_draw_85 : decode cX7_draw 85 = .ok (.goto 11, 3) := by decide +kernel
theorem dX7_draw_88 : decode cX7_draw 88 = .ok (.aload_n 0, 1) := by decide +kernel
theorem dX7_draw_89 : decode cX7_draw 89 = .ok (.iload_n 1, 1) := by decide +kernel
theorem dX7_draw_90 : decode cX7_draw 90 = .ok (.iload_n 3, 1) := by decide +kernel
theorem dX7_draw_91 : decode cX7_draw 91 = .ok (.iload 4, 2) := by decide +kernel
theorem dX7_draw_93 : decode cX7_draw 93 = .ok (.invokevirtual 142, 3) := by decide +kernel
theorem dX7_draw_96 : decode cX7_draw 96 = .ok (.ireturn, 1) := by decide +kernel
set_option maxRecDepth 20000 in
theorem ggX7_action_X7_areMachines : GoodIn wsX7_action wsX7_areMachines := goodIn_r _ [7, 1, 8, 9, 10, 11, 12, 13, 73, 74, 75, 76, 77, 78, 79, 80, 81, 82, 83, 84, 85, 86] (by decide +kernel) (by decide +kernel)
set_option maxRecDepth 20000 in
theorem gX7_action_X7_areMachines : GoodIn wsX7_action (wsV RX7 145 RX7 yX7_areMachines wsX7_areMachines) := goodIn_app (goodIn_of _ (by decide +kernel)) ggX7_action_X7_areMachines
set_option maxRecDepth 20000 in
theorem ggX7_action_X7_within : GoodIn wsX7_action wsX7_within := goodIn_r _ [16] (by decide +kernel) (by decide +kernel)
set_option maxRecDepth 20000 in
theorem gX7_action_X7_within : GoodIn wsX7_action (va_wsS RX7 72 yX7_within wsX7_within) := goodIn_app (goodIn_of _ (by decide +kernel)) ggX7_action_X7_within
set_option maxRecDepth 20000 in
theorem ggX7_action_X7_playOut : GoodIn wsX7_action wsX7_playOut := goodIn_r _ [20, 2, 21, 1, 22, 23, 24, 25, 26, 27, 28, 29, 30, 31, 11, 32, 33, 34, 35, 36, 37, 38, 39, 40, 41, 42, 43, 44, 45, 46, 47, 48, 49, 50, 51, 52, 53, 54, 55, 56, 57, 58, 59, 60, 61, 62, 63, 64, 73, 74, 75, 76, 77, 78, 79, 80, 81, 82, 87, 88, 89, 90, 91, 92, 83, 84, 85, 86, 93, 94, 95] (by decide +kernel) (by decide +kernel)
set_option maxRecDepth 20000 in
theorem gX7_action_X7_playOut : GoodIn wsX7_action (wsV RX7 148 RX7 yX7_playOut wsX7_playOut) := goodIn_app (goodIn_of _ (by decide +kernel)) ggX7_action_X7_playOut
set_option maxRecDepth 20000 in
theorem ggX7_action_X6_placeIn : GoodIn wsX7_action wsX6_placeIn := goodIn_r _ [68, 58, 59, 60, 87, 88, 89, 90, 91, 92] (by decide +kernel) (by decide +kernel)
set_option maxRecDepth 20000 in
theorem gX7_action_X6_placeIn : GoodIn wsX7_action (wsV RX7 151 RX6 yX6_placeIn wsX6_placeIn) := goodIn_app (goodIn_of _ (by decide +kernel)) ggX7_action_X6_placeIn
set_option maxRecDepth 20000 in
theorem ggX7_action_X6_mine : GoodIn wsX7_action wsX6_mine := goodIn_r _ [71] (by decide +kernel) (by decide +kernel)
set_option maxRecDepth 20000 in
theorem gX7_action_X6_mine : GoodIn wsX7_action (va_wsS RX7 154 yX6_mine wsX6_mine) := goodIn_app (goodIn_of _ (by decide +kernel)) ggX7_action_X6_mine
set_option maxRecDepth 20000 in
theorem ggX7_action_X2_actionOf : GoodIn wsX7_action wsX2_actionOf := goodIn_r _ [37, 38, 83, 84, 85, 86] (by decide +kernel) (by decide +kernel)
set_option maxRecDepth 20000 in
theorem gX7_action_X2_actionOf : GoodIn wsX7_action (wsV RX7 103 RX2 yX2_actionOf wsX2_actionOf) := goodIn_app (goodIn_of _ (by decide +kernel)) ggX7_action_X2_actionOf
theorem dX7_action_0 : decode cX7_action 0 = .ok (.aload_n 0, 1) := by decide +kernel
theorem dX7_action_1 : decode cX7_action 1 = .ok (.iload_n 1, 1) := by decide +kernel
theorem dX7_action_2 : decode cX7_action 2 = .ok (.iload_n 2, 1) := by decide +kernel
theorem dX7_action_3 : decode cX7_action 3 = .ok (.invokevirtual 145, 3) := by decide +kernel
theorem dX7_action_6 : decode cX7_action 6 = .ok (.ifCond .eq 14, 3) := by decide +kernel
theorem dX7_action_9 : decode cX7_action 9 = .ok (.iload_n 3, 1) := by decide +kernel
theorem dX7_action_10 : decode cX7_action 10 = .ok (.iconst 0, 1) := by decide +kernel
theorem dX7_action_11 : decode cX7_action 11 = .ok (.sipush 1000, 3) := by decide +kernel
theorem dX7_action_14 : decode cX7_action 14 = .ok (.invokestatic 72, 3) := by decide +kernel
theorem dX7_action_17 : decode cX7_action 17 = .ok (.ifCond .ne 5, 3) := by decide +kernel
theorem dX7_action_20 : decode cX7_action 20 = .ok (.iconst (-1), 1) := by decide +kernel
theorem dX7_action_21 : decode cX7_action 21 = .ok (.ireturn, 1) := by decide +kernel
theorem dX7_action_22 : decode cX7_action 22 = .ok (.aload_n 0, 1) := by decide +kernel
theorem dX7_action_23 : decode cX7_action 23 = .ok (.iload_n 1, 1) := by decide +kernel
theorem dX7_action_24 : decode cX7_action 24 = .ok (.iload_n 2, 1) := by decide +kernel
theorem dX7_action_25 : decode cX7_action 25 = .ok (.invokevirtual 148, 3) := by decide +kernel
theorem dX7_action_28 : decode cX7_action 28 = .ok (.aload_n 0, 1) := by decide +kernel
theorem dX7_action_29 : decode cX7_action 29 = .ok (.getfield 19, 3) := by decide +kernel
theorem dX7_action_32 : decode cX7_action 32 = .ok (.iload_n 1, 1) := by decide +kernel
theorem dX7_action_33 : decode cX7_action 33 = .ok (.aload_n 0, 1) := by decide +kernel
theorem dX7_action_34 : decode cX7_action 34 = .ok (.getfield 47, 3) := by decide +kernel
theorem dX7_action_37 : decode cX7_action 37 = .ok (.iload_n 3, 1) := by decide +kernel
theorem dX7_action_38 : decode cX7_action 38 = .ok (.invokevirtual 151, 3) := by decide +kernel
theorem dX7_action_41 : decode cX7_action 41 = .ok (.invokestatic 154, 3) := by decide +kernel
theorem dX7_action_44 : decode cX7_action 44 = .ok (.invokevirtual 103, 3) := by decide +kernel
theorem dX7_action_47 : decode cX7_action 47 = .ok (.ireturn, 1) := by decide +kernel
set_option maxRecDepth 20000 in
theorem ggX7_match_X7_areMachines : GoodIn wsX7_match wsX7_areMachines := goodIn_r _ [7, 8, 9, 10, 11, 12, 13, 14, 86, 87, 88, 89, 90, 91, 92, 93, 94, 95, 96, 97, 98, 99] (by decide +kernel) (by decide +kernel)
set_option maxRecDepth 20000 in
theorem gX7_match_X7_areMachines : GoodIn wsX7_match (wsV RX7 145 RX7 yX7_areMachines wsX7_areMachines) := goodIn_app (goodIn_of _ (by decide +kernel)) ggX7_match_X7_areMachines
set_option maxRecDepth 20000 in
theorem ggX7_match_X7_within : GoodIn wsX7_match wsX7_within := goodIn_r _ [17] (by decide +kernel) (by decide +kernel)
set_option maxRecDepth 20000 in
theorem gX7_match_X7_within : GoodIn wsX7_match (va_wsS RX7 72 yX7_within wsX7_within) := goodIn_app (goodIn_of _ (by decide +kernel)) ggX7_match_X7_within
set_option maxRecDepth 20000 in
theorem ggX7_match_X7_playOut : GoodIn wsX7_match wsX7_playOut := goodIn_r _ [21, 2, 22, 8, 23, 24, 25, 26, 27, 28, 29, 30, 31, 32, 12, 33, 34, 35, 36, 37, 38, 39, 40, 41, 42, 43, 44, 45, 46, 47, 48, 49, 50, 51, 52, 53, 54, 55, 56, 57, 58, 59, 60, 61, 62, 63, 64, 65, 86, 87, 88, 89, 90, 91, 92, 93, 94, 95, 100, 101, 102, 103, 104, 105, 96, 97, 98, 99, 106, 107, 108] (by decide +kernel) (by decide +kernel)
set_option maxRecDepth 20000 in
theorem gX7_match_X7_playOut : GoodIn wsX7_match (wsV RX7 148 RX7 yX7_playOut wsX7_playOut) := goodIn_app (goodIn_of _ (by decide +kernel)) ggX7_match_X7_playOut
set_option maxRecDepth 20000 in
theorem ggX7_match_X6_tail : GoodIn wsX7_match wsX6_tail := goodIn_r _ [69, 60, 100, 101, 102, 103, 104, 105] (by decide +kernel) (by decide +kernel)
set_option maxRecDepth 20000 in
theorem gX7_match_X6_tail : GoodIn wsX7_match (wsV RX7 158 RX6 yX6_tail wsX6_tail) := goodIn_app (goodIn_of _ (by decide +kernel)) ggX7_match_X6_tail
set_option maxRecDepth 20000 in
theorem ggX7_match_X6_ring : GoodIn wsX7_match wsX6_ring := goodIn_r _ [73, 61, 100, 101, 102, 103, 104, 105] (by decide +kernel) (by decide +kernel)
set_option maxRecDepth 20000 in
theorem gX7_match_X6_ring : GoodIn wsX7_match (wsV RX7 161 RX6 yX6_ring wsX6_ring) := goodIn_app (goodIn_of _ (by decide +kernel)) ggX7_match_X6_ring
set_option maxRecDepth 20000 in
theorem ggX7_match_X6_tailGains : GoodIn wsX7_match wsX6_tailGains := goodIn_r _ [77, 60, 78, 79, 80, 26, 81, 29, 59, 100, 101, 102, 103, 104, 105] (by decide +kernel) (by decide +kernel)
set_option maxRecDepth 20000 in
theorem gX7_match_X6_tailGains : GoodIn wsX7_match (wsV RX7 164 RX6 yX6_tailGains wsX6_tailGains) := goodIn_app (goodIn_of _ (by decide +kernel)) ggX7_match_X6_tailGains
set_option maxRecDepth 20000 in
theorem ggX7_match_X6_ringGains : GoodIn wsX7_match wsX6_ringGains := goodIn_r _ [85, 60, 61, 78, 79, 80, 26, 81, 29, 59, 100, 101, 102, 103, 104, 105] (by decide +kernel) (by decide +kernel)
set_option maxRecDepth 20000 in
theorem gX7_match_X6_ringGains : GoodIn wsX7_match (wsV RX7 167 RX6 yX6_ringGains wsX6_ringGains) := goodIn_app (goodIn_of _ (by decide +kernel)) ggX7_match_X6_ringGains
theorem dX7_match_0 : decode cX7_match 0 = .ok (.aload_n 0, 1) := by decide +kernel
theorem dX7_match_1 : decode cX7_match 1 = .ok (.iload_n 1, 1) := by decide +kernel
theorem dX7_match_2 : decode cX7_match 2 = .ok (.iload_n 2, 1) := by decide +kernel
theorem dX7_match_3 : decode cX7_match 3 = .ok (.invokevirtual 145, 3) := by decide +kernel
theorem dX7_match_6 : decode cX7_match 6 = .ok (.ifCond .eq 12, 3) := by decide +kernel
theorem dX7_match_9 : decode cX7_match 9 = .ok (.iload_n 3, 1) := by decide +kernel
theorem dX7_match_10 : decode cX7_match 10 = .ok (.iconst 0, 1) := by decide +kernel
theorem dX7_match_11 : decode cX7_match 11 = .ok (.iconst 3, 1) := by decide +kernel
theorem dX7_match_12 : decode cX7_match 12 = .ok (.invokestatic 72, 3) := by decide +kernel
theorem dX7_match_15 : decode cX7_match 15 = .ok (.ifCond .ne 6, 3) := by decide +kernel
theorem dX7_match_18 : decode cX7_match 18 = .ok (.ldc 157, 2) := by decide +kernel
theorem dX7_match_20 : decode cX7_match 20 = .ok (.ireturn, 1) := by decide +kernel
theorem dX7_match_21 : decode cX7_match 21 = .ok (.aload_n 0, 1) := by decide +kernel
theorem dX7_match_22 : decode cX7_match 22 = .ok (.iload_n 1, 1) := by decide +kernel
theorem dX7_match_23 : decode cX7_match 23 = .ok (.iload_n 2, 1) := by decide +kernel
theorem dX7_match_24 : decode cX7_match 24 = .ok (.invokevirtual 148, 3) := by decide +kernel
theorem dX7_match_27 : decode cX7_match 27 = .ok (.iload_n 3, 1) := by decide +kernel
theorem dX7_match_28 : decode cX7_match 28 = .ok (.tableswitch 52 0 2 #[28, 36, 44], 28) := by decide +kernel
theorem dX7_match_56 : decode cX7_match 56 = .ok (.aload_n 0, 1) := by decide +kernel
theorem dX7_match_57 : decode cX7_match 57 = .ok (.getfield 47, 3) := by decide +kernel
theorem dX7_match_60 : decode cX7_match 60 = .ok (.invokevirtual 158, 3) := by decide +kernel
theorem dX7_match_63 : decode cX7_match 63 = .ok (.ireturn, 1) := by decide +kernel
theorem dX7_match_64 : decode cX7_match 64 = .ok (.aload_n 0, 1) := by decide +kernel
theorem dX7_match_65 : decode cX7_match 65 = .ok (.getfield 47, 3) := by decide +kernel
theorem dX7_match_68 : decode cX7_match 68 = .ok (.invokevirtual 161, 3) := by decide +kernel
theorem dX7_match_71 : decode cX7_match 71 = .ok (.ireturn, 1) := by decide +kernel
theorem dX7_match_72 : decode cX7_match 72 = .ok (.aload_n 0, 1) := by decide +kernel
theorem dX7_match_73 : decode cX7_match 73 = .ok (.getfield 47, 3) := by decide +kernel
theorem dX7_match_76 : decode cX7_match 76 = .ok (.invokevirtual 164, 3) := by decide +kernel
theorem dX7_match_79 : decode cX7_match 79 = .ok (.ireturn, 1) := by decide +kernel
theorem dX7_match_80 : decode cX7_match 80 = .ok (.aload_n 0, 1) := by decide +kernel
theorem dX7_match_81 : decode cX7_match 81 = .ok (.getfield 47, 3) := by decide +kernel
theorem dX7_match_84 : decode cX7_match 84 = .ok (.invokevirtual 167, 3) := by decide +kernel
theorem dX7_match_87 : decode cX7_match 87 = .ok (.ireturn, 1) := by decide +kernel
set_option maxRecDepth 20000 in
theorem ggX7_sum_X7_areMachines : GoodIn wsX7_sum wsX7_areMachines := goodIn_r _ [6, 7, 8, 9, 10, 11, 12, 13, 86, 87, 88, 89, 90, 91, 92, 93, 94, 95, 96, 97, 98, 99] (by decide +kernel) (by decide +kernel)
set_option maxRecDepth 20000 in
theorem gX7_sum_X7_areMachines : GoodIn wsX7_sum (wsV RX7 145 RX7 yX7_areMachines wsX7_areMachines) := goodIn_app (goodIn_of _ (by decide +kernel)) ggX7_sum_X7_areMachines
set_option maxRecDepth 20000 in
theorem ggX7_sum_X7_within : GoodIn wsX7_sum wsX7_within := goodIn_r _ [16] (by decide +kernel) (by decide +kernel)
set_option maxRecDepth 20000 in
theorem gX7_sum_X7_within : GoodIn wsX7_sum (va_wsS RX7 72 yX7_within wsX7_within) := goodIn_app (goodIn_of _ (by decide +kernel)) ggX7_sum_X7_within
set_option maxRecDepth 20000 in
theorem ggX7_sum_X7_gainsOf : GoodIn wsX7_sum wsX7_gainsOf := goodIn_r _ [20, 21, 22, 23, 24, 5, 25, 26, 7, 27, 28, 29, 30, 31, 32, 33, 34, 35, 36, 11, 37, 38, 39, 40, 41, 42, 43, 44, 45, 46, 47, 48, 49, 50, 51, 52, 53, 54, 55, 56, 57, 58, 59, 60, 61, 62, 63, 64, 65, 66, 67, 68, 69, 70, 71, 72, 73, 74, 75, 76, 77, 78, 79, 80, 81, 82, 83, 84, 85, 86, 87, 88, 89, 90, 91, 92, 93, 94, 95, 100, 101, 102, 103, 104, 105, 96, 97, 98, 99, 106, 107, 108] (by decide +kernel) (by decide +kernel)
set_option maxRecDepth 20000 in
theorem gX7_sum_X7_gainsOf : GoodIn wsX7_sum (wsV RX7 170 RX7 yX7_gainsOf wsX7_gainsOf) := goodIn_app (goodIn_of _ (by decide +kernel)) ggX7_sum_X7_gainsOf
theorem dX7_sum_0 : decode cX7_sum 0 = .ok (.aload_n 0, 1) := by decide +kernel
theorem dX7_sum_1 : decode cX7_sum 1 = .ok (.iload_n 1, 1) := by decide +kernel
theorem dX7_sum_2 : decode cX7_sum 2 = .ok (.iload_n 2, 1) := by decide +kernel
theorem dX7_sum_3 : decode cX7_sum 3 = .ok (.invokevirtual 145, 3) := by decide +kernel
theorem dX7_sum_6 : decode cX7_sum 6 = .ok (.ifCond .eq 14, 3) := by decide +kernel
theorem dX7_sum_9 : decode cX7_sum 9 = .ok (.iload_n 3, 1) := by decide +kernel
theorem dX7_sum_10 : decode cX7_sum 10 = .ok (.iconst 0, 1) := by decide +kernel
theorem dX7_sum_11 : decode cX7_sum 11 = .ok (.sipush 1000, 3) := by decide +kernel
theorem dX7_sum_14 : decode cX7_sum 14 = .ok (.invokestatic 72, 3) := by decide +kernel
theorem dX7_sum_17 : decode cX7_sum 17 = .ok (.ifCond .ne 6, 3) := by decide +kernel
theorem dX7_sum_20 : decode cX7_sum 20 = .ok (.ldc 157, 2) := by decide +kernel
theorem dX7_sum_22 : decode cX7_sum 22 = .ok (.ireturn, 1) := by decide +kernel
theorem dX7_sum_23 : decode cX7_sum 23 = .ok (.aload_n 0, 1) := by decide +kernel
theorem dX7_sum_24 : decode cX7_sum 24 = .ok (.iload_n 1, 1) := by decide +kernel
theorem dX7_sum_25 : decode cX7_sum 25 = .ok (.iload_n 2, 1) := by decide +kernel
theorem dX7_sum_26 : decode cX7_sum 26 = .ok (.iload_n 3, 1) := by decide +kernel
theorem dX7_sum_27 : decode cX7_sum 27 = .ok (.invokevirtual 170, 3) := by decide +kernel
theorem dX7_sum_30 : decode cX7_sum 30 = .ok (.ireturn, 1) := by decide +kernel
set_option maxRecDepth 20000 in
theorem ggX7_mean_X7_areMachines : GoodIn wsX7_mean wsX7_areMachines := goodIn_r _ [8, 9, 10, 11, 12, 13, 14, 15, 97, 98, 99, 100, 101, 102, 103, 104, 105, 106, 107, 108, 109, 110] (by decide +kernel) (by decide +kernel)
set_option maxRecDepth 20000 in
theorem gX7_mean_X7_areMachines : GoodIn wsX7_mean (wsV RX7 145 RX7 yX7_areMachines wsX7_areMachines) := goodIn_app (goodIn_of _ (by decide +kernel)) ggX7_mean_X7_areMachines
set_option maxRecDepth 20000 in
theorem ggX7_mean_X7_within : GoodIn wsX7_mean wsX7_within := goodIn_r _ [18] (by decide +kernel) (by decide +kernel)
set_option maxRecDepth 20000 in
theorem gX7_mean_X7_within : GoodIn wsX7_mean (va_wsS RX7 72 yX7_within wsX7_within) := goodIn_app (goodIn_of _ (by decide +kernel)) ggX7_mean_X7_within
set_option maxRecDepth 20000 in
theorem ggX7_mean_X7_playOut : GoodIn wsX7_mean wsX7_playOut := goodIn_r _ [22, 3, 23, 9, 24, 25, 26, 27, 28, 29, 30, 31, 32, 33, 13, 34, 35, 36, 37, 38, 39, 40, 41, 42, 43, 44, 45, 46, 47, 48, 49, 50, 51, 52, 53, 54, 55, 56, 57, 58, 59, 60, 61, 62, 63, 64, 65, 66, 97, 98, 99, 100, 101, 102, 103, 104, 105, 106, 111, 112, 113, 114, 115, 116, 107, 108, 109, 110, 117, 118, 119] (by decide +kernel) (by decide +kernel)
set_option maxRecDepth 20000 in
theorem gX7_mean_X7_playOut : GoodIn wsX7_mean (wsV RX7 148 RX7 yX7_playOut wsX7_playOut) := goodIn_app (goodIn_of _ (by decide +kernel)) ggX7_mean_X7_playOut
set_option maxRecDepth 20000 in
theorem ggX7_mean_X6_ringGains : GoodIn wsX7_mean wsX6_ringGains := goodIn_r _ [70, 61, 62, 71, 72, 73, 27, 74, 30, 60, 111, 112, 113, 114, 115, 116] (by decide +kernel) (by decide +kernel)
set_option maxRecDepth 20000 in
theorem gX7_mean_X6_ringGains : GoodIn wsX7_mean (wsV RX7 167 RX6 yX6_ringGains wsX6_ringGains) := goodIn_app (goodIn_of _ (by decide +kernel)) ggX7_mean_X6_ringGains
set_option maxRecDepth 20000 in
theorem ggX7_mean_X6_ring : GoodIn wsX7_mean wsX6_ring := goodIn_r _ [78, 62, 111, 112, 113, 114, 115, 116] (by decide +kernel) (by decide +kernel)
set_option maxRecDepth 20000 in
theorem gX7_mean_X6_ring : GoodIn wsX7_mean (wsV RX7 161 RX6 yX6_ring wsX6_ring) := goodIn_app (goodIn_of _ (by decide +kernel)) ggX7_mean_X6_ring
set_option maxRecDepth 20000 in
theorem ggX7_mean_X4_become : GoodIn wsX7_mean wsX4_become := goodIn_r _ [83, 84, 85, 86, 87, 88, 89, 90, 91, 82, 92, 120, 121] (by decide +kernel) (by decide +kernel)
set_option maxRecDepth 20000 in
theorem gX7_mean_X4_become : GoodIn wsX7_mean (wsV RX7 175 RX4 yX4_become wsX4_become) := goodIn_app (goodIn_of _ (by decide +kernel)) ggX7_mean_X4_become
set_option maxRecDepth 20000 in
theorem ggX7_mean_X4_part : GoodIn wsX7_mean wsX4_part := goodIn_r _ [96, 88, 89, 120, 121] (by decide +kernel) (by decide +kernel)
set_option maxRecDepth 20000 in
theorem gX7_mean_X4_part : GoodIn wsX7_mean (wsV RX7 179 RX4 yX4_part wsX4_part) := goodIn_app (goodIn_of _ (by decide +kernel)) ggX7_mean_X4_part
theorem dX7_mean_0 : decode cX7_mean 0 = .ok (.aload_n 0, 1) := by decide +kernel
theorem dX7_mean_1 : decode cX7_mean 1 = .ok (.iload_n 1, 1) := by decide +kernel
theorem dX7_mean_2 : decode cX7_mean 2 = .ok (.iload_n 2, 1) := by decide +kernel
theorem dX7_mean_3 : decode cX7_mean 3 = .ok (.invokevirtual 145, 3) := by decide +kernel
theorem dX7_mean_6 : decode cX7_mean 6 = .ok (.ifCond .eq 12, 3) := by decide +kernel
theorem dX7_mean_9 : decode cX7_mean 9 = .ok (.iload_n 3, 1) := by decide +kernel
theorem dX7_mean_10 : decode cX7_mean 10 = .ok (.iconst 0, 1) := by decide +kernel
theorem dX7_mean_11 : decode cX7_mean 11 = .ok (.iconst 1, 1) := by decide +kernel
theorem dX7_mean_12 : decode cX7_mean 12 = .ok (.invokestatic 72, 3) := by decide +kernel
theorem dX7_mean_15 : decode cX7_mean 15 = .ok (.ifCond .ne 7, 3) := by decide +kernel
theorem dX7_mean_18 : decode cX7_mean 18 = .ok (.ldc2_w 173, 3) := by decide +kernel
theorem dX7_mean_21 : decode cX7_mean 21 = .ok (.lreturn, 1) := by decide +kernel
theorem dX7_mean_22 : decode cX7_mean 22 = .ok (.aload_n 0, 1) := by decide +kernel
theorem dX7_mean_23 : decode cX7_mean 23 = .ok (.iload_n 1, 1) := by decide +kernel
theorem dX7_mean_24 : decode cX7_mean 24 = .ok (.iload_n 2, 1) := by decide +kernel
theorem dX7_mean_25 : decode cX7_mean 25 = .ok (.invokevirtual 148, 3) := by decide +kernel
theorem dX7_mean_28 : decode cX7_mean 28 = .ok (.aload_n 0, 1) := by decide +kernel
theorem dX7_mean_29 : decode cX7_mean 29 = .ok (.getfield 57, 3) := by decide +kernel
theorem dX7_mean_32 : decode cX7_mean 32 = .ok (.aload_n 0, 1) := by decide +kernel
theorem dX7_mean_33 : decode cX7_mean 33 = .ok (.getfield 47, 3) := by decide +kernel
theorem dX7_mean_36 : decode cX7_mean 36 = .ok (.invokevirtual 167, 3) := by decide +kernel
theorem dX7_mean_39 : decode cX7_mean 39 = .ok (.i2l, 1) := by decide +kernel
theorem dX7_mean_40 : decode cX7_mean 40 = .ok (.aload_n 0, 1) := by decide +kernel
theorem dX7_mean_41 : decode cX7_mean 41 = .ok (.getfield 47, 3) := by decide +kernel
theorem dX7_mean_44 : decode cX7_mean 44 = .ok (.invokevirtual 161, 3) := by decide +kernel
theorem dX7_mean_47 : decode cX7_mean 47 = .ok (.i2l, 1) := by decide +kernel
theorem dX7_mean_48 : decode cX7_mean 48 = .ok (.invokevirtual 175, 3) := by decide +kernel
theorem dX7_mean_51 : decode cX7_mean 51 = .ok (.aload_n 0, 1) := by decide +kernel
theorem dX7_mean_52 : decode cX7_mean 52 = .ok (.getfield 57, 3) := by decide +kernel
theorem dX7_mean_55 : decode cX7_mean 55 = .ok (.iload_n 3, 1) := by decide +kernel
theorem dX7_mean_56 : decode cX7_mean 56 = .ok (.invokevirtual 179, 3) := by decide +kernel
theorem dX7_mean_59 : decode cX7_mean 59 = .ok (.lreturn, 1) := by decide +kernel
set_option maxRecDepth 20000 in
theorem ggX7_worth_X7_areMachines : GoodIn wsX7_worth wsX7_areMachines := goodIn_r _ [7, 8, 9, 10, 11, 12, 13, 14, 110, 111, 112, 113, 114, 115, 116, 117, 118, 119, 120, 121, 122, 123] (by decide +kernel) (by decide +kernel)
set_option maxRecDepth 20000 in
theorem gX7_worth_X7_areMachines : GoodIn wsX7_worth (wsV RX7 145 RX7 yX7_areMachines wsX7_areMachines) := goodIn_app (goodIn_of _ (by decide +kernel)) ggX7_worth_X7_areMachines
set_option maxRecDepth 20000 in
theorem ggX7_worth_X7_within : GoodIn wsX7_worth wsX7_within := goodIn_r _ [17] (by decide +kernel) (by decide +kernel)
set_option maxRecDepth 20000 in
theorem gX7_worth_X7_within : GoodIn wsX7_worth (va_wsS RX7 72 yX7_within wsX7_within) := goodIn_app (goodIn_of _ (by decide +kernel)) ggX7_worth_X7_within
set_option maxRecDepth 20000 in
theorem ggX7_worth_X7_matchWorth : GoodIn wsX7_worth wsX7_matchWorth := goodIn_r _ [21, 22, 23, 24, 25, 26, 6, 27, 8, 28, 29, 30, 31, 32, 33, 34, 35, 36, 37, 12, 38, 39, 40, 41, 42, 43, 44, 45, 46, 47, 48, 49, 50, 51, 52, 53, 54, 55, 56, 57, 58, 59, 60, 61, 62, 63, 64, 65, 66, 67, 68, 69, 70, 71, 72, 73, 74, 75, 76, 77, 78, 79, 80, 81, 82, 83, 84, 85, 86, 87, 88, 89, 90, 91, 92, 93, 94, 95, 96, 97, 98, 99, 100, 101, 102, 103, 104, 105, 110, 111, 112, 113, 114, 115, 116, 117, 118, 119, 124, 125, 126, 127, 128, 129, 120, 121, 122, 123, 130, 131, 132, 133, 134] (by decide +kernel) (by decide +kernel)
set_option maxRecDepth 20000 in
theorem gX7_worth_X7_matchWorth : GoodIn wsX7_worth (wsV RX7 183 RX7 yX7_matchWorth wsX7_matchWorth) := goodIn_app (goodIn_of _ (by decide +kernel)) ggX7_worth_X7_matchWorth
set_option maxRecDepth 20000 in
theorem ggX7_worth_X4_part : GoodIn wsX7_worth wsX4_part := goodIn_r _ [109, 101, 102, 133, 134] (by decide +kernel) (by decide +kernel)
set_option maxRecDepth 20000 in
theorem gX7_worth_X4_part : GoodIn wsX7_worth (wsV RX7 179 RX4 yX4_part wsX4_part) := goodIn_app (goodIn_of _ (by decide +kernel)) ggX7_worth_X4_part
theorem dX7_worth_0 : decode cX7_worth 0 = .ok (.aload_n 0, 1) := by decide +kernel
theorem dX7_worth_1 : decode cX7_worth 1 = .ok (.iload_n 1, 1) := by decide +kernel
theorem dX7_worth_2 : decode cX7_worth 2 = .ok (.iload_n 2, 1) := by decide +kernel
theorem dX7_worth_3 : decode cX7_worth 3 = .ok (.invokevirtual 145, 3) := by decide +kernel
theorem dX7_worth_6 : decode cX7_worth 6 = .ok (.ifCond .eq 12, 3) := by decide +kernel
theorem dX7_worth_9 : decode cX7_worth 9 = .ok (.iload_n 3, 1) := by decide +kernel
theorem dX7_worth_10 : decode cX7_worth 10 = .ok (.iconst 0, 1) := by decide +kernel
theorem dX7_worth_11 : decode cX7_worth 11 = .ok (.iconst 1, 1) := by decide +kernel
theorem dX7_worth_12 : decode cX7_worth 12 = .ok (.invokestatic 72, 3) := by decide +kernel
theorem dX7_worth_15 : decode cX7_worth 15 = .ok (.ifCond .ne 7, 3) := by decide +kernel
theorem dX7_worth_18 : decode cX7_worth 18 = .ok (.ldc2_w 173, 3) := by decide +kernel
theorem dX7_worth_21 : decode cX7_worth 21 = .ok (.lreturn, 1) := by decide +kernel
theorem dX7_worth_22 : decode cX7_worth 22 = .ok (.aload_n 0, 1) := by decide +kernel
theorem dX7_worth_23 : decode cX7_worth 23 = .ok (.iload_n 1, 1) := by decide +kernel
theorem dX7_worth_24 : decode cX7_worth 24 = .ok (.iload_n 2, 1) := by decide +kernel
theorem dX7_worth_25 : decode cX7_worth 25 = .ok (.aload_n 0, 1) := by decide +kernel
theorem dX7_worth_26 : decode cX7_worth 26 = .ok (.getfield 57, 3) := by decide +kernel
theorem dX7_worth_29 : decode cX7_worth 29 = .ok (.invokevirtual 183, 3) := by decide +kernel
theorem dX7_worth_32 : decode cX7_worth 32 = .ok (.aload_n 0, 1) := by decide +kernel
theorem dX7_worth_33 : decode cX7_worth 33 = .ok (.getfield 57, 3) := by decide +kernel
theorem dX7_worth_36 : decode cX7_worth 36 = .ok (.iload_n 3, 1) := by decide +kernel
theorem dX7_worth_37 : decode cX7_worth 37 = .ok (.invokevirtual 179, 3) := by decide +kernel
theorem dX7_worth_40 : decode cX7_worth 40 = .ok (.lreturn, 1) := by decide +kernel
set_option maxRecDepth 20000 in
theorem ggX7_slip_X7_areMachines : GoodIn wsX7_slip wsX7_areMachines := goodIn_r _ [6, 7, 8, 9, 10, 11, 12, 13, 86, 87, 88, 89, 90, 91, 92, 93, 94, 95, 96, 97, 98, 99] (by decide +kernel) (by decide +kernel)
set_option maxRecDepth 20000 in
theorem gX7_slip_X7_areMachines : GoodIn wsX7_slip (wsV RX7 145 RX7 yX7_areMachines wsX7_areMachines) := goodIn_app (goodIn_of _ (by decide +kernel)) ggX7_slip_X7_areMachines
set_option maxRecDepth 20000 in
theorem ggX7_slip_X7_within : GoodIn wsX7_slip wsX7_within := goodIn_r _ [16] (by decide +kernel) (by decide +kernel)
set_option maxRecDepth 20000 in
theorem gX7_slip_X7_within : GoodIn wsX7_slip (va_wsS RX7 72 yX7_within wsX7_within) := goodIn_app (goodIn_of _ (by decide +kernel)) ggX7_slip_X7_within
set_option maxRecDepth 20000 in
theorem ggX7_slip_X7_playOut : GoodIn wsX7_slip wsX7_playOut := goodIn_r _ [20, 1, 21, 7, 22, 23, 24, 25, 26, 27, 28, 29, 30, 31, 11, 32, 33, 34, 35, 36, 37, 38, 39, 40, 41, 42, 43, 44, 45, 46, 47, 48, 49, 50, 51, 52, 53, 54, 55, 56, 57, 58, 59, 60, 61, 62, 63, 64, 86, 87, 88, 89, 90, 91, 92, 93, 94, 95, 100, 101, 102, 103, 104, 105, 96, 97, 98, 99, 106, 107, 108] (by decide +kernel) (by decide +kernel)
set_option maxRecDepth 20000 in
theorem gX7_slip_X7_playOut : GoodIn wsX7_slip (wsV RX7 148 RX7 yX7_playOut wsX7_playOut) := goodIn_app (goodIn_of _ (by decide +kernel)) ggX7_slip_X7_playOut
set_option maxRecDepth 20000 in
theorem ggX7_slip_X6_placeIn : GoodIn wsX7_slip wsX6_placeIn := goodIn_r _ [68, 58, 59, 60, 100, 101, 102, 103, 104, 105] (by decide +kernel) (by decide +kernel)
set_option maxRecDepth 20000 in
theorem gX7_slip_X6_placeIn : GoodIn wsX7_slip (wsV RX7 151 RX6 yX6_placeIn wsX6_placeIn) := goodIn_app (goodIn_of _ (by decide +kernel)) ggX7_slip_X6_placeIn
set_option maxRecDepth 20000 in
theorem ggX7_slip_X7_placeBehindSlip : GoodIn wsX7_slip wsX7_placeBehindSlip := goodIn_r _ [72, 7, 73, 74, 25, 75, 76, 77, 78, 79, 35, 36, 11, 37, 38, 80, 43, 44, 45, 46, 81, 40, 41, 86, 87, 88, 89, 90, 91, 92, 93, 94, 95, 96, 97, 98, 99] (by decide +kernel) (by decide +kernel)
set_option maxRecDepth 20000 in
theorem gX7_slip_X7_placeBehindSlip : GoodIn wsX7_slip (wsV RX7 187 RX7 yX7_placeBehindSlip wsX7_placeBehindSlip) := goodIn_app (goodIn_of _ (by decide +kernel)) ggX7_slip_X7_placeBehindSlip
set_option maxRecDepth 20000 in
theorem ggX7_slip_X6_meeting : GoodIn wsX7_slip wsX6_meeting := goodIn_r _ [85, 27, 100, 101, 102, 103, 104, 105] (by decide +kernel) (by decide +kernel)
set_option maxRecDepth 20000 in
theorem gX7_slip_X6_meeting : GoodIn wsX7_slip (wsV RX7 190 RX6 yX6_meeting wsX6_meeting) := goodIn_app (goodIn_of _ (by decide +kernel)) ggX7_slip_X6_meeting
theorem dX7_slip_0 : decode cX7_slip 0 = .ok (.aload_n 0, 1) := by decide +kernel
theorem dX7_slip_1 : decode cX7_slip 1 = .ok (.iload_n 1, 1) := by decide +kernel
theorem dX7_slip_2 : decode cX7_slip 2 = .ok (.iload_n 2, 1) := by decide +kernel
theorem dX7_slip_3 : decode cX7_slip 3 = .ok (.invokevirtual 145, 3) := by decide +kernel
theorem dX7_slip_6 : decode cX7_slip 6 = .ok (.ifCond .eq 13, 3) := by decide +kernel
theorem dX7_slip_9 : decode cX7_slip 9 = .ok (.iload_n 3, 1) := by decide +kernel
theorem dX7_slip_10 : decode cX7_slip 10 = .ok (.iconst 0, 1) := by decide +kernel
theorem dX7_slip_11 : decode cX7_slip 11 = .ok (.bipush 100, 2) := by decide +kernel
theorem dX7_slip_13 : decode cX7_slip 13 = .ok (.invokestatic 72, 3) := by decide +kernel
theorem dX7_slip_16 : decode cX7_slip 16 = .ok (.ifCond .ne 5, 3) := by decide +kernel
theorem dX7_slip_19 : decode cX7_slip 19 = .ok (.iconst (-1), 1) := by decide +kernel
theorem dX7_slip_20 : decode cX7_slip 20 = .ok (.ireturn, 1) := by decide +kernel
theorem dX7_slip_21 : decode cX7_slip 21 = .ok (.aload_n 0, 1) := by decide +kernel
theorem dX7_slip_22 : decode cX7_slip 22 = .ok (.iload_n 1, 1) := by decide +kernel
theorem dX7_slip_23 : decode cX7_slip 23 = .ok (.iload_n 2, 1) := by decide +kernel
theorem dX7_slip_24 : decode cX7_slip 24 = .ok (.invokevirtual 148, 3) := by decide +kernel
theorem dX7_slip_27 : decode cX7_slip 27 = .ok (.aload_n 0, 1) := by decide +kernel
theorem dX7_slip_28 : decode cX7_slip 28 = .ok (.getfield 47, 3) := by decide +kernel
theorem dX7_slip_31 : decode cX7_slip 31 = .ok (.aload_n 0, 1) := by decide +kernel
theorem dX7_slip_32 : decode cX7_slip 32 = .ok (.getfield 47, 3) := by decide +kernel
theorem dX7_slip_35 : decode cX7_slip 35 = .ok (.iload_n 3, 1) := by decide +kernel
theorem dX7_slip_36 : decode cX7_slip 36 = .ok (.iconst 1, 1) := by decide +kernel
theorem dX7_slip_37 : decode cX7_slip 37 = .ok (.iadd, 1) := by decide +kernel
theorem dX7_slip_38 : decode cX7_slip 38 = .ok (.invokevirtual 151, 3) := by decide +kernel
theorem dX7_slip_41 : decode cX7_slip 41 = .ok (.aload_n 0, 1) := by decide +kernel
theorem dX7_slip_42 : decode cX7_slip 42 = .ok (.iload_n 1, 1) := by decide +kernel
theorem dX7_slip_43 : decode cX7_slip 43 = .ok (.iload_n 2, 1) := by decide +kernel
theorem dX7_slip_44 : decode cX7_slip 44 = .ok (.aload_n 0, 1) := by decide +kernel
theorem dX7_slip_45 : decode cX7_slip 45 = .ok (.getfield 47, 3) := by decide +kernel
theorem dX7_slip_48 : decode cX7_slip 48 = .ok (.iload_n 3, 1) := by decide +kernel
theorem dX7_slip_49 : decode cX7_slip 49 = .ok (.invokevirtual 151, 3) := by decide +kernel
theorem dX7_slip_52 : decode cX7_slip 52 = .ok (.invokevirtual 187, 3) := by decide +kernel
theorem dX7_slip_55 : decode cX7_slip 55 = .ok (.invokevirtual 190, 3) := by decide +kernel
theorem dX7_slip_58 : decode cX7_slip 58 = .ok (.istore 4, 2) := by decide +kernel
theorem dX7_slip_60 : decode cX7_slip 60 = .ok (.iload 4, 2) := by decide +kernel
theorem dX7_slip_62 : decode cX7_slip 62 = .ok (.ifCond .ge 8, 3) := by decide +kernel
theorem dX7_slip_65 : decode cX7_slip 65 = .ok (.bipush (-4), 2) := by decide +kernel
theorem dX7_slip_67 : decode cX7_slip 67 = .ok (.goto 7, 3) := by decide +kernel
theorem dX7_slip_70 : decode cX7_slip 70 = .ok (.iload 4, 2) := by decide +kernel
theorem dX7_slip_72 : decode cX7_slip 72 = .ok (.iconst 1, 1) := by decide +kernel
theorem dX7_slip_73 : decode cX7_slip 73 = .ok (.iadd, 1) := by decide +kernel
theorem dX7_slip_74 : decode cX7_slip 74 = .ok (.ireturn, 1) := by decide +kernel
set_option maxRecDepth 20000 in
theorem ggX7_like_X7_areMachines : GoodIn wsX7_like wsX7_areMachines := goodIn_r _ [7, 2, 8, 9, 10, 11, 12, 13, 50, 51, 52, 53, 54, 55, 56, 57, 58, 59, 60, 61, 62, 63] (by decide +kernel) (by decide +kernel)
set_option maxRecDepth 20000 in
theorem gX7_like_X7_areMachines : GoodIn wsX7_like (wsV RX7 145 RX7 yX7_areMachines wsX7_areMachines) := goodIn_app (goodIn_of _ (by decide +kernel)) ggX7_like_X7_areMachines
set_option maxRecDepth 20000 in
theorem ggX7_like_X1_areLike : GoodIn wsX7_like wsX1_areLike := goodIn_r _ [18, 19, 20, 21, 17, 22, 23, 24, 25, 26, 27, 28, 29, 30, 31, 32, 33, 34, 35, 36, 11, 37, 38, 39, 40, 41, 42, 43, 44, 45, 46, 64, 60, 61, 62, 63] (by decide +kernel) (by decide +kernel)
set_option maxRecDepth 20000 in
theorem gX7_like_X1_areLike : GoodIn wsX7_like (wsV RX7 193 RX1 yX1_areLike wsX1_areLike) := goodIn_app (goodIn_of _ (by decide +kernel)) ggX7_like_X1_areLike
set_option maxRecDepth 20000 in
theorem ggX7_like_X7_oneIf : GoodIn wsX7_like wsX7_oneIf := goodIn_r _ [49] (by decide +kernel) (by decide +kernel)
set_option maxRecDepth 20000 in
theorem gX7_like_X7_oneIf : GoodIn wsX7_like (va_wsS RX7 197 yX7_oneIf wsX7_oneIf) := goodIn_app (goodIn_of _ (by decide +kernel)) ggX7_like_X7_oneIf
theorem dX7_like_0 : decode cX7_like 0 = .ok (.aload_n 0, 1) := by decide +kernel
theorem dX7_like_1 : decode cX7_like 1 = .ok (.iload_n 1, 1) := by decide +kernel
theorem dX7_like_2 : decode cX7_like 2 = .ok (.iload_n 2, 1) := by decide +kernel
theorem dX7_like_3 : decode cX7_like 3 = .ok (.invokevirtual 145, 3) := by decide +kernel
theorem dX7_like_6 : decode cX7_like 6 = .ok (.ifCond .ne 5, 3) := by decide +kernel
theorem dX7_like_9 : decode cX7_like 9 = .ok (.iconst (-1), 1) := by decide +kernel
theorem dX7_like_10 : decode cX7_like 10 = .ok (.ireturn, 1) := by decide +kernel
theorem dX7_like_11 : decode cX7_like 11 = .ok (.aload_n 0, 1) := by decide +kernel
theorem dX7_like_12 : decode cX7_like 12 = .ok (.getfield 33, 3) := by decide +kernel
theorem dX7_like_15 : decode cX7_like 15 = .ok (.aload_n 0, 1) := by decide +kernel
theorem dX7_like_16 : decode cX7_like 16 = .ok (.getfield 19, 3) := by decide +kernel
theorem dX7_like_19 : decode cX7_like 19 = .ok (.iload_n 1, 1) := by decide +kernel
theorem dX7_like_20 : decode cX7_like 20 = .ok (.iload_n 2, 1) := by decide +kernel
theorem dX7_like_21 : decode cX7_like 21 = .ok (.invokevirtual 193, 3) := by decide +kernel
theorem dX7_like_24 : decode cX7_like 24 = .ok (.invokestatic 197, 3) := by decide +kernel
theorem dX7_like_27 : decode cX7_like 27 = .ok (.ireturn, 1) := by decide +kernel
set_option maxRecDepth 20000 in
theorem ggX7_smallest_X2_has : GoodIn wsX7_smallest wsX2_has := goodIn_r _ [7, 8, 64, 65, 66, 67] (by decide +kernel) (by decide +kernel)
set_option maxRecDepth 20000 in
theorem gX7_smallest_X2_has : GoodIn wsX7_smallest (wsV RX7 201 RX2 yX2_has wsX2_has) := goodIn_app (goodIn_of _ (by decide +kernel)) ggX7_smallest_X2_has
set_option maxRecDepth 20000 in
theorem ggX7_smallest_X1_unlikeStates : GoodIn wsX7_smallest wsX1_unlikeStates := goodIn_r _ [13, 14, 15, 12, 16, 17, 18, 19, 6, 20, 21, 22, 23, 24, 25, 26, 27, 28, 29, 30, 31, 32, 33, 34, 35, 36, 37, 38, 39, 40, 41, 42, 43, 44, 45, 46, 47, 48, 49, 50, 51, 52, 53, 64, 65, 66, 67, 68] (by decide +kernel) (by decide +kernel)
set_option maxRecDepth 20000 in
theorem gX7_smallest_X1_unlikeStates : GoodIn wsX7_smallest (wsV RX7 204 RX1 yX1_unlikeStates wsX1_unlikeStates) := goodIn_app (goodIn_of _ (by decide +kernel)) ggX7_smallest_X1_unlikeStates
theorem dX7_smallest_0 : decode cX7_smallest 0 = .ok (.aload_n 0, 1) := by decide +kernel
theorem dX7_smallest_1 : decode cX7_smallest 1 = .ok (.getfield 19, 3) := by decide +kernel
theorem dX7_smallest_4 : decode cX7_smallest 4 = .ok (.iload_n 1, 1) := by decide +kernel
theorem dX7_smallest_5 : decode cX7_smallest 5 = .ok (.invokevirtual 201, 3) := by decide +kernel
theorem dX7_smallest_8 : decode cX7_smallest 8 = .ok (.ifCond .ne 5, 3) := by decide +kernel
theorem dX7_smallest_11 : decode cX7_smallest 11 = .ok (.iconst (-1), 1) := by decide +kernel
theorem dX7_smallest_12 : decode cX7_smallest 12 = .ok (.ireturn, 1) := by decide +kernel
theorem dX7_smallest_13 : decode cX7_smallest 13 = .ok (.aload_n 0, 1) := by decide +kernel
theorem dX7_smallest_14 : decode cX7_smallest 14 = .ok (.getfield 33, 3) := by decide +kernel
theorem dX7_smallest_17 : decode cX7_smallest 17 = .ok (.aload_n 0, 1) := by decide +kernel
theorem dX7_smallest_18 : decode cX7_smallest 18 = .ok (.getfield 19, 3) := by decide +kernel
theorem dX7_smallest_21 : decode cX7_smallest 21 = .ok (.iload_n 1, 1) := by decide +kernel
theorem dX7_smallest_22 : decode cX7_smallest 22 = .ok (.invokevirtual 204, 3) := by decide +kernel
theorem dX7_smallest_25 : decode cX7_smallest 25 = .ok (.ireturn, 1) := by decide +kernel
set_option maxRecDepth 20000 in
theorem ggX7_best_X2_hasState : GoodIn wsX7_best wsX2_hasState := goodIn_r _ [8, 9, 10, 11, 12, 7, 13, 14, 144, 145, 146, 147] (by decide +kernel) (by decide +kernel)
set_option maxRecDepth 20000 in
theorem gX7_best_X2_hasState : GoodIn wsX7_best (wsV RX7 92 RX2 yX2_hasState wsX2_hasState) := goodIn_app (goodIn_of _ (by decide +kernel)) ggX7_best_X2_hasState
set_option maxRecDepth 20000 in
theorem ggX7_best_X3_learn : GoodIn wsX7_best wsX3_learn := goodIn_r _ [19, 20, 21, 22, 23, 18, 24, 25, 26, 27, 28, 29, 30, 31, 32, 33, 34, 35, 7, 36, 9, 37, 38, 39, 40, 41, 42, 43, 44, 45, 46, 47, 48, 49, 50, 51, 52, 53, 54, 55, 56, 57, 58, 59, 60, 61, 62, 63, 64, 65, 66, 67, 68, 69, 70, 71, 72, 73, 74, 75, 76, 77, 78, 79, 80, 81, 82, 83, 84, 85, 86, 87, 88, 89, 90, 91, 92, 93, 94, 95, 96, 97, 98, 99, 100, 101, 102, 103, 104, 105, 106, 107, 108, 109, 110, 111, 112, 113, 114, 115, 116, 117, 118, 119, 120, 121, 122, 123, 124, 125, 126, 127, 128, 129, 148, 149, 150, 151, 152, 153, 154, 155, 156, 157, 158, 144, 145, 146, 147, 159, 160, 161, 162, 163] (by decide +kernel) (by decide +kernel)
set_option maxRecDepth 20000 in
theorem gX7_best_X3_learn : GoodIn wsX7_best (wsV RX7 208 RX3 yX3_learn wsX3_learn) := goodIn_app (goodIn_of _ (by decide +kernel)) ggX7_best_X3_learn
set_option maxRecDepth 20000 in
theorem ggX7_best_X3_bestPlan : GoodIn wsX7_best wsX3_bestPlan := goodIn_r _ [133, 107, 100, 101, 18, 102, 148, 149, 150, 151, 152] (by decide +kernel) (by decide +kernel)
set_option maxRecDepth 20000 in
theorem gX7_best_X3_bestPlan : GoodIn wsX7_best (wsV RX7 212 RX3 yX3_bestPlan wsX3_bestPlan) := goodIn_app (goodIn_of _ (by decide +kernel)) ggX7_best_X3_bestPlan
theorem dX7_best_0 : decode cX7_best 0 = .ok (.aload_n 0, 1) := by decide +kernel
theorem dX7_best_1 : decode cX7_best 1 = .ok (.getfield 19, 3) := by decide +kernel
theorem dX7_best_4 : decode cX7_best 4 = .ok (.iload_n 1, 1) := by decide +kernel
theorem dX7_best_5 : decode cX7_best 5 = .ok (.iload_n 2, 1) := by decide +kernel
theorem dX7_best_6 : decode cX7_best 6 = .ok (.invokevirtual 92, 3) := by decide +kernel
theorem dX7_best_9 : decode cX7_best 9 = .ok (.ifCond .ne 5, 3) := by decide +kernel
theorem dX7_best_12 : decode cX7_best 12 = .ok (.iconst (-1), 1) := by decide +kernel
theorem dX7_best_13 : decode cX7_best 13 = .ok (.ireturn, 1) := by decide +kernel
theorem dX7_best_14 : decode cX7_best 14 = .ok (.aload_n 0, 1) := by decide +kernel
theorem dX7_best_15 : decode cX7_best 15 = .ok (.getfield 40, 3) := by decide +kernel
theorem dX7_best_18 : decode cX7_best 18 = .ok (.aload_n 0, 1) := by decide +kernel
theorem dX7_best_19 : decode cX7_best 19 = .ok (.getfield 10, 3) := by decide +kernel
theorem dX7_best_22 : decode cX7_best 22 = .ok (.aload_n 0, 1) := by decide +kernel
theorem dX7_best_23 : decode cX7_best 23 = .ok (.getfield 19, 3) := by decide +kernel
theorem dX7_best_26 : decode cX7_best 26 = .ok (.iload_n 1, 1) := by decide +kernel
theorem dX7_best_27 : decode cX7_best 27 = .ok (.iload_n 2, 1) := by decide +kernel
theorem dX7_best_28 : decode cX7_best 28 = .ok (.invokevirtual 208, 3) := by decide +kernel
theorem dX7_best_31 : decode cX7_best 31 = .ok (.aload_n 0, 1) := by decide +kernel
theorem dX7_best_32 : decode cX7_best 32 = .ok (.getfield 40, 3) := by decide +kernel
theorem dX7_best_35 : decode cX7_best 35 = .ok (.iload_n 1, 1) := by decide +kernel
theorem dX7_best_36 : decode cX7_best 36 = .ok (.iload_n 2, 1) := by decide +kernel
theorem dX7_best_37 : decode cX7_best 37 = .ok (.invokevirtual 212, 3) := by decide +kernel
theorem dX7_best_40 : decode cX7_best 40 = .ok (.ireturn, 1) := by decide +kernel
set_option maxRecDepth 20000 in
theorem ggX7_bestWorth_X2_hasState : GoodIn wsX7_bestWorth wsX2_hasState := goodIn_r _ [9, 10, 11, 12, 13, 8, 14, 15, 149, 150, 151, 152] (by decide +kernel) (by decide +kernel)
set_option maxRecDepth 20000 in
theorem gX7_bestWorth_X2_hasState : GoodIn wsX7_bestWorth (wsV RX7 92 RX2 yX2_hasState wsX2_hasState) := goodIn_app (goodIn_of _ (by decide +kernel)) ggX7_bestWorth_X2_hasState
set_option maxRecDepth 20000 in
theorem ggX7_bestWorth_X7_within : GoodIn wsX7_bestWorth wsX7_within := goodIn_r _ [19] (by decide +kernel) (by decide +kernel)
set_option maxRecDepth 20000 in
theorem gX7_bestWorth_X7_within : GoodIn wsX7_bestWorth (va_wsS RX7 72 yX7_within wsX7_within) := goodIn_app (goodIn_of _ (by decide +kernel)) ggX7_bestWorth_X7_within
set_option maxRecDepth 20000 in
theorem ggX7_bestWorth_X3_learn : GoodIn wsX7_bestWorth wsX3_learn := goodIn_r _ [24, 25, 26, 27, 28, 23, 29, 30, 31, 32, 33, 34, 35, 36, 37, 38, 39, 40, 8, 41, 10, 42, 43, 44, 45, 46, 47, 48, 49, 50, 51, 52, 53, 54, 55, 56, 57, 58, 59, 60, 61, 62, 63, 64, 65, 66, 67, 68, 69, 70, 71, 72, 73, 74, 75, 76, 77, 78, 79, 80, 81, 82, 83, 84, 85, 86, 87, 88, 89, 90, 91, 92, 93, 94, 95, 96, 97, 98, 99, 100, 101, 102, 103, 104, 105, 106, 107, 108, 109, 110, 111, 112, 113, 114, 115, 116, 117, 118, 119, 120, 121, 122, 123, 124, 125, 126, 127, 128, 129, 130, 131, 132, 133, 134, 153, 154, 155, 156, 157, 158, 159, 160, 161, 162, 163, 149, 150, 151, 152, 164, 165, 166, 167, 168] (by decide +kernel) (by decide +kernel)
set_option maxRecDepth 20000 in
theorem gX7_bestWorth_X3_learn : GoodIn wsX7_bestWorth (wsV RX7 208 RX3 yX3_learn wsX3_learn) := goodIn_app (goodIn_of _ (by decide +kernel)) ggX7_bestWorth_X3_learn
set_option maxRecDepth 20000 in
theorem ggX7_bestWorth_X3_bestPart : GoodIn wsX7_bestWorth wsX3_bestPart := goodIn_r _ [138, 113, 114, 105, 106, 23, 107, 153, 154, 155, 156, 157] (by decide +kernel) (by decide +kernel)
set_option maxRecDepth 20000 in
theorem gX7_bestWorth_X3_bestPart : GoodIn wsX7_bestWorth (wsV RX7 215 RX3 yX3_bestPart wsX3_bestPart) := goodIn_app (goodIn_of _ (by decide +kernel)) ggX7_bestWorth_X3_bestPart
theorem dX7_bestWorth_0 : decode cX7_bestWorth 0 = .ok (.aload_n 0, 1) := by decide +kernel
theorem dX7_bestWorth_1 : decode cX7_bestWorth 1 = .ok (.getfield 19, 3) := by decide +kernel
theorem dX7_bestWorth_4 : decode cX7_bestWorth 4 = .ok (.iload_n 1, 1) := by decide +kernel
theorem dX7_bestWorth_5 : decode cX7_bestWorth 5 = .ok (.iload_n 2, 1) := by decide +kernel
theorem dX7_bestWorth_6 : decode cX7_bestWorth 6 = .ok (.invokevirtual 92, 3) := by decide +kernel
theorem dX7_bestWorth_9 : decode cX7_bestWorth 9 = .ok (.ifCond .eq 12, 3) := by decide +kernel
theorem dX7_bestWorth_12 : decode cX7_bestWorth 12 = .ok (.iload_n 3, 1) := by decide +kernel
theorem dX7_bestWorth_13 : decode cX7_bestWorth 13 = .ok (.iconst 0, 1) := by decide +kernel
theorem dX7_bestWorth_14 : decode cX7_bestWorth 14 = .ok (.iconst 1, 1) := by decide +kernel
theorem dX7_bestWorth_15 : decode cX7_bestWorth 15 = .ok (.invokestatic 72, 3) := by decide +kernel
theorem dX7_bestWorth_18 : decode cX7_bestWorth 18 = .ok (.ifCond .ne 7, 3) := by decide +kernel
theorem dX7_bestWorth_21 : decode cX7_bestWorth 21 = .ok (.ldc2_w 173, 3) := by decide +kernel
theorem dX7_bestWorth_24 : decode cX7_bestWorth 24 = .ok (.lreturn, 1) := by decide +kernel
theorem dX7_bestWorth_25 : decode cX7_bestWorth 25 = .ok (.aload_n 0, 1) := by decide +kernel
theorem dX7_bestWorth_26 : decode cX7_bestWorth 26 = .ok (.getfield 40, 3) := by decide +kernel
theorem dX7_bestWorth_29 : decode cX7_bestWorth 29 = .ok (.aload_n 0, 1) := by decide +kernel
theorem dX7_bestWorth_30 : decode cX7_bestWorth 30 = .ok (.getfield 10, 3) := by decide +kernel
theorem dX7_bestWorth_33 : decode cX7_bestWorth 33 = .ok (.aload_n 0, 1) := by decide +kernel
theorem dX7_bestWorth_34 : decode cX7_bestWorth 34 = .ok (.getfield 19, 3) := by decide +kernel
theorem dX7_bestWorth_37 : decode cX7_bestWorth 37 = .ok (.iload_n 1, 1) := by decide +kernel
theorem dX7_bestWorth_38 : decode cX7_bestWorth 38 = .ok (.iload_n 2, 1) := by decide +kernel
theorem dX7_bestWorth_39 : decode cX7_bestWorth 39 = .ok (.invokevirtual 208, 3) := by decide +kernel
theorem dX7_bestWorth_42 : decode cX7_bestWorth 42 = .ok (.aload_n 0, 1) := by decide +kernel
theorem dX7_bestWorth_43 : decode cX7_bestWorth 43 = .ok (.getfield 40, 3) := by decide +kernel
theorem dX7_bestWorth_46 : decode cX7_bestWorth 46 = .ok (.iload_n 1, 1) := by decide +kernel
theorem dX7_bestWorth_47 : decode cX7_bestWorth 47 = .ok (.iload_n 2, 1) := by decide +kernel
theorem dX7_bestWorth_48 : decode cX7_bestWorth 48 = .ok (.iload_n 3, 1) := by decide +kernel
theorem dX7_bestWorth_49 : decode cX7_bestWorth 49 = .ok (.invokevirtual 215, 3) := by decide +kernel
theorem dX7_bestWorth_52 : decode cX7_bestWorth 52 = .ok (.lreturn, 1) := by decide +kernel
set_option maxRecDepth 20000 in
theorem ggX7_planWorth_X2_hasState : GoodIn wsX7_planWorth wsX2_hasState := goodIn_r _ [10, 11, 12, 13, 14, 9, 15, 16, 119, 120, 121, 122] (by decide +kernel) (by decide +kernel)
set_option maxRecDepth 20000 in
theorem gX7_planWorth_X2_hasState : GoodIn wsX7_planWorth (wsV RX7 92 RX2 yX2_hasState wsX2_hasState) := goodIn_app (goodIn_of _ (by decide +kernel)) ggX7_planWorth_X2_hasState
set_option maxRecDepth 20000 in
theorem ggX7_planWorth_X7_within : GoodIn wsX7_planWorth wsX7_within := goodIn_r _ [20] (by decide +kernel) (by decide +kernel)
set_option maxRecDepth 20000 in
theorem gX7_planWorth_X7_within : GoodIn wsX7_planWorth (va_wsS RX7 72 yX7_within wsX7_within) := goodIn_app (goodIn_of _ (by decide +kernel)) ggX7_planWorth_X7_within
set_option maxRecDepth 20000 in
theorem ggX7_planWorth_X2_statesOf : GoodIn wsX7_planWorth wsX2_statesOf := goodIn_r _ [24, 11, 119, 120, 121, 122] (by decide +kernel) (by decide +kernel)
set_option maxRecDepth 20000 in
theorem gX7_planWorth_X2_statesOf : GoodIn wsX7_planWorth (wsV RX7 219 RX2 yX2_statesOf wsX2_statesOf) := goodIn_app (goodIn_of _ (by decide +kernel)) ggX7_planWorth_X2_statesOf
set_option maxRecDepth 20000 in
theorem ggX7_planWorth_X3_plansAgainst : GoodIn wsX7_planWorth wsX3_plansAgainst := goodIn_r _ [28] (by decide +kernel) (by decide +kernel)
set_option maxRecDepth 20000 in
theorem gX7_planWorth_X3_plansAgainst : GoodIn wsX7_planWorth (va_wsS RX7 222 yX3_plansAgainst wsX3_plansAgainst) := goodIn_app (goodIn_of _ (by decide +kernel)) ggX7_planWorth_X3_plansAgainst
set_option maxRecDepth 20000 in
theorem ggX7_planWorth_X3_weigh : GoodIn wsX7_planWorth wsX3_weigh := goodIn_r _ [32, 33, 34, 35, 36, 37, 38, 39, 40, 41, 22, 23, 9, 24, 11, 42, 43, 44, 45, 46, 47, 48, 49, 50, 51, 52, 53, 54, 55, 56, 57, 58, 59, 60, 61, 62, 63, 64, 65, 66, 67, 68, 69, 70, 71, 72, 73, 74, 75, 76, 77, 78, 79, 80, 81, 82, 83, 84, 85, 86, 87, 88, 89, 90, 91, 92, 93, 94, 95, 96, 97, 98, 99, 100, 101, 102, 103, 104, 123, 124, 125, 126, 127, 128, 129, 130, 131, 132, 133, 119, 120, 121, 122, 134, 135, 136, 137, 138] (by decide +kernel) (by decide +kernel)
set_option maxRecDepth 20000 in
theorem gX7_planWorth_X3_weigh : GoodIn wsX7_planWorth (wsV RX7 225 RX3 yX3_weigh wsX3_weigh) := goodIn_app (goodIn_of _ (by decide +kernel)) ggX7_planWorth_X3_weigh
set_option maxRecDepth 20000 in
theorem ggX7_planWorth_X4_part : GoodIn wsX7_planWorth wsX4_part := goodIn_r _ [108, 100, 101, 137, 138] (by decide +kernel) (by decide +kernel)
set_option maxRecDepth 20000 in
theorem gX7_planWorth_X4_part : GoodIn wsX7_planWorth (wsV RX7 179 RX4 yX4_part wsX4_part) := goodIn_app (goodIn_of _ (by decide +kernel)) ggX7_planWorth_X4_part
theorem dX7_planWorth_0 : decode cX7_planWorth 0 = .ok (.aload_n 0, 1) := by decide +kernel
theorem dX7_planWorth_1 : decode cX7_planWorth 1 = .ok (.getfield 19, 3) := by decide +kernel
theorem dX7_planWorth_4 : decode cX7_planWorth 4 = .ok (.iload_n 1, 1) := by decide +kernel
theorem dX7_planWorth_5 : decode cX7_planWorth 5 = .ok (.iload_n 2, 1) := by decide +kernel
theorem dX7_planWorth_6 : decode cX7_planWorth 6 = .ok (.invokevirtual 92, 3) := by decide +kernel
theorem dX7_planWorth_9 : decode cX7_planWorth 9 = .ok (.ifCond .eq 13, 3) := by decide +kernel
theorem dX7_planWorth_12 : decode cX7_planWorth 12 = .ok (.iload 4, 2) := by decide +kernel
theorem dX7_planWorth_14 : decode cX7_planWorth 14 = .ok (.iconst 0, 1) := by decide +kernel
theorem dX7_planWorth_15 : decode cX7_planWorth 15 = .ok (.iconst 1, 1) := by decide +kernel
theorem dX7_planWorth_16 : decode cX7_planWorth 16 = .ok (.invokestatic 72, 3) := by decide +kernel
theorem dX7_planWorth_19 : decode cX7_planWorth 19 = .ok (.ifCond .ne 7, 3) := by decide +kernel
theorem dX7_planWorth_22 : decode cX7_planWorth 22 = .ok (.ldc2_w 173, 3) := by decide +kernel
theorem dX7_planWorth_25 : decode cX7_planWorth 25 = .ok (.lreturn, 1) := by decide +kernel
theorem dX7_planWorth_26 : decode cX7_planWorth 26 = .ok (.iload_n 3, 1) := by decide +kernel
theorem dX7_planWorth_27 : decode cX7_planWorth 27 = .ok (.iconst 0, 1) := by decide +kernel
theorem dX7_planWorth_28 : decode cX7_planWorth 28 = .ok (.aload_n 0, 1) := by decide +kernel
theorem dX7_planWorth_29 : decode cX7_planWorth 29 = .ok (.getfield 19, 3) := by decide +kernel
theorem dX7_planWorth_32 : decode cX7_planWorth 32 = .ok (.iload_n 1, 1) := by decide +kernel
theorem dX7_planWorth_33 : decode cX7_planWorth 33 = .ok (.invokevirtual 219, 3) := by decide +kernel
theorem dX7_planWorth_36 : decode cX7_planWorth 36 = .ok (.invokestatic 222, 3) := by decide +kernel
theorem dX7_planWorth_39 : decode cX7_planWorth 39 = .ok (.iconst 1, 1) := by decide +kernel
theorem dX7_planWorth_40 : decode cX7_planWorth 40 = .ok (.isub, 1) := by decide +kernel
theorem dX7_planWorth_41 : decode cX7_planWorth 41 = .ok (.invokestatic 72, 3) := by decide +kernel
theorem dX7_planWorth_44 : decode cX7_planWorth 44 = .ok (.ifCond .ne 7, 3) := by decide +kernel
theorem dX7_planWorth_47 : decode cX7_planWorth 47 = .ok (.ldc2_w 173, 3) := by decide +kernel
theorem dX7_planWorth_50 : decode cX7_planWorth 50 = .ok (.lreturn, 1) := by decide +kernel
theorem dX7_planWorth_51 : decode cX7_planWorth 51 = .ok (.aload_n 0, 1) := by decide +kernel
theorem dX7_planWorth_52 : decode cX7_planWorth 52 = .ok (.getfield 40, 3) := by decide +kernel
theorem dX7_planWorth_55 : decode cX7_planWorth 55 = .ok (.aload_n 0, 1) := by decide +kernel
theorem dX7_planWorth_56 : decode cX7_planWorth 56 = .ok (.getfield 10, 3) := by decide +kernel
theorem dX7_planWorth_59 : decode cX7_planWorth 59 = .ok (.aload_n 0, 1) := by decide +kernel
theorem dX7_planWorth_60 : decode cX7_planWorth 60 = .ok (.getfield 19, 3) := by decide +kernel
theorem dX7_planWorth_63 : decode cX7_planWorth 63 = .ok (.iload_n 1, 1) := by decide +kernel
theorem dX7_planWorth_64 : decode cX7_planWorth 64 = .ok (.iload_n 2, 1) := by decide +kernel
theorem dX7_planWorth_65 : decode cX7_planWorth 65 = .ok (.iload_n 3, 1) := by decide +kernel
theorem dX7_planWorth_66 : decode cX7_planWorth 66 = .ok (.aload_n 0, 1) := by decide +kernel
theorem dX7_planWorth_67 : decode cX7_planWorth 67 = .ok (.getfield 57, 3) := by decide +kernel
theorem dX7_planWorth_70 : decode cX7_planWorth 70 = .ok (.invokevirtual 225, 3) := by decide +kernel
theorem dX7_planWorth_73 : decode cX7_planWorth 73 = .ok (.aload_n 0, 1) := by decide +kernel
theorem dX7_planWorth_74 : decode cX7_planWorth 74 = .ok (.getfield 57, 3) := by decide +kernel
theorem dX7_planWorth_77 : decode cX7_planWorth 77 = .ok (.iload 4, 2) := by decide +kernel
theorem dX7_planWorth_79 : decode cX7_planWorth 79 = .ok (.invokevirtual 179, 3) := by decide +kernel
theorem dX7_planWorth_82 : decode cX7_planWorth 82 = .ok (.lreturn, 1) := by decide +kernel
set_option maxRecDepth 20000 in
theorem ggX7_rest_X7_areMachines : GoodIn wsX7_rest wsX7_areMachines := goodIn_r _ [8, 3, 9, 10, 11, 12, 13, 14, 160, 161, 162, 163, 164, 165, 166, 167, 168, 169, 170, 171, 172, 173] (by decide +kernel) (by decide +kernel)
set_option maxRecDepth 20000 in
theorem gX7_rest_X7_areMachines : GoodIn wsX7_rest (wsV RX7 145 RX7 yX7_areMachines wsX7_areMachines) := goodIn_app (goodIn_of _ (by decide +kernel)) ggX7_rest_X7_areMachines
set_option maxRecDepth 20000 in
theorem ggX7_rest_X3_learn : GoodIn wsX7_rest wsX3_learn := goodIn_r _ [19, 20, 21, 22, 23, 18, 24, 25, 26, 27, 28, 29, 30, 31, 32, 33, 34, 35, 12, 36, 37, 38, 39, 40, 41, 42, 43, 44, 45, 46, 47, 48, 49, 50, 51, 52, 53, 54, 55, 56, 57, 58, 59, 60, 61, 62, 63, 64, 65, 66, 67, 68, 69, 70, 71, 72, 73, 74, 75, 76, 77, 78, 79, 80, 81, 82, 83, 84, 85, 86, 87, 88, 89, 90, 91, 92, 93, 94, 95, 96, 97, 98, 99, 100, 101, 102, 103, 104, 105, 106, 107, 108, 109, 110, 111, 112, 113, 114, 115, 116, 117, 118, 119, 120, 121, 122, 123, 124, 125, 126, 127, 128, 129, 130, 174, 175, 176, 177, 178, 179, 180, 181, 182, 183, 184, 170, 171, 172, 173, 185, 186, 187, 188, 189] (by decide +kernel) (by decide +kernel)
set_option maxRecDepth 20000 in
theorem gX7_rest_X3_learn : GoodIn wsX7_rest (wsV RX7 208 RX3 yX3_learn wsX3_learn) := goodIn_app (goodIn_of _ (by decide +kernel)) ggX7_rest_X3_learn
set_option maxRecDepth 20000 in
theorem ggX7_rest_X7_takeBothSides : GoodIn wsX7_rest wsX7_takeBothSides := goodIn_r _ [134, 135, 2, 3, 136, 137, 138, 139, 29, 140, 31, 32, 33, 34, 35, 12, 36, 37, 43, 44, 45, 46, 47, 141, 142, 143, 38, 39, 40, 41, 42, 48, 49, 50, 51, 52, 53, 160, 161, 162, 163, 164, 165, 166, 167, 168, 169, 179, 180, 181, 182, 183, 184, 170, 171, 172, 173, 185, 186, 187] (by decide +kernel) (by decide +kernel)
set_option maxRecDepth 20000 in
theorem gX7_rest_X7_takeBothSides : GoodIn wsX7_rest (wsV RX7 229 RX7 yX7_takeBothSides wsX7_takeBothSides) := goodIn_app (goodIn_of _ (by decide +kernel)) ggX7_rest_X7_takeBothSides
set_option maxRecDepth 20000 in
theorem ggX7_rest_X7_restFrom : GoodIn wsX7_rest wsX7_restFrom := goodIn_r _ [147, 135, 136, 148, 142, 29, 143, 149, 150, 151, 7, 152, 2, 153, 1, 154, 55, 56, 57, 58, 59, 31, 60, 61, 62, 63, 64, 65, 155, 67, 68, 69, 70, 71, 72, 51, 73, 74, 75, 76, 77, 78, 79, 80, 81, 82, 83, 84, 85, 86, 32, 87, 88, 89, 90, 91, 92, 93, 94, 95, 96, 97, 98, 99, 100, 156, 120, 121, 18, 122, 109, 110, 101, 102, 103, 123, 124, 125, 126, 127, 128, 129, 130, 160, 161, 162, 163, 164, 165, 166, 167, 168, 169, 179, 180, 181, 182, 183, 184, 185, 186, 187, 188, 189, 174, 175, 176, 177, 178] (by decide +kernel) (by decide +kernel)
set_option maxRecDepth 20000 in
theorem gX7_rest_X7_restFrom : GoodIn wsX7_rest (wsV RX7 232 RX7 yX7_restFrom wsX7_restFrom) := goodIn_app (goodIn_of _ (by decide +kernel)) ggX7_rest_X7_restFrom
set_option maxRecDepth 20000 in
theorem ggX7_rest_X7_oneIf : GoodIn wsX7_rest wsX7_oneIf := goodIn_r _ [159] (by decide +kernel) (by decide +kernel)
set_option maxRecDepth 20000 in
theorem gX7_rest_X7_oneIf : GoodIn wsX7_rest (va_wsS RX7 197 yX7_oneIf wsX7_oneIf) := goodIn_app (goodIn_of _ (by decide +kernel)) ggX7_rest_X7_oneIf
theorem dX7_rest_0 : decode cX7_rest 0 = .ok (.aload_n 0, 1) := by decide +kernel
theorem dX7_rest_1 : decode cX7_rest 1 = .ok (.iload_n 1, 1) := by decide +kernel
theorem dX7_rest_2 : decode cX7_rest 2 = .ok (.iload_n 2, 1) := by decide +kernel
theorem dX7_rest_3 : decode cX7_rest 3 = .ok (.invokevirtual 145, 3) := by decide +kernel
theorem dX7_rest_6 : decode cX7_rest 6 = .ok (.ifCond .ne 5, 3) := by decide +kernel
theorem dX7_rest_9 : decode cX7_rest 9 = .ok (.iconst (-1), 1) := by decide +kernel
theorem dX7_rest_10 : decode cX7_rest 10 = .ok (.ireturn, 1) := by decide +kernel
theorem dX7_rest_11 : decode cX7_rest 11 = .ok (.aload_n 0, 1) := by decide +kernel
theorem dX7_rest_12 : decode cX7_rest 12 = .ok (.getfield 40, 3) := by decide +kernel
theorem dX7_rest_15 : decode cX7_rest 15 = .ok (.aload_n 0, 1) := by decide +kernel
theorem dX7_rest_16 : decode cX7_rest 16 = .ok (.getfield 10, 3) := by decide +kernel
theorem dX7_rest_19 : decode cX7_rest 19 = .ok (.aload_n 0, 1) := by decide +kernel
theorem dX7_rest_20 : decode cX7_rest 20 = .ok (.getfield 19, 3) := by decide +kernel
theorem dX7_rest_23 : decode cX7_rest 23 = .ok (.iload_n 1, 1) := by decide +kernel
theorem dX7_rest_24 : decode cX7_rest 24 = .ok (.iconst 0, 1) := by decide +kernel
theorem dX7_rest_25 : decode cX7_rest 25 = .ok (.invokevirtual 208, 3) := by decide +kernel
theorem dX7_rest_28 : decode cX7_rest 28 = .ok (.aload_n 0, 1) := by decide +kernel
theorem dX7_rest_29 : decode cX7_rest 29 = .ok (.getfield 40, 3) := by decide +kernel
theorem dX7_rest_32 : decode cX7_rest 32 = .ok (.aload_n 0, 1) := by decide +kernel
theorem dX7_rest_33 : decode cX7_rest 33 = .ok (.getfield 10, 3) := by decide +kernel
theorem dX7_rest_36 : decode cX7_rest 36 = .ok (.aload_n 0, 1) := by decide +kernel
theorem dX7_rest_37 : decode cX7_rest 37 = .ok (.getfield 19, 3) := by decide +kernel
theorem dX7_rest_40 : decode cX7_rest 40 = .ok (.iload_n 2, 1) := by decide +kernel
theorem dX7_rest_41 : decode cX7_rest 41 = .ok (.iconst 0, 1) := by decide +kernel
theorem dX7_rest_42 : decode cX7_rest 42 = .ok (.invokevirtual 208, 3) := by decide +kernel
theorem dX7_rest_45 : decode cX7_rest 45 = .ok (.aload_n 0, 1) := by decide +kernel
theorem dX7_rest_46 : decode cX7_rest 46 = .ok (.iload_n 1, 1) := by decide +kernel
theorem dX7_rest_47 : decode cX7_rest 47 = .ok (.iload_n 2, 1) := by decide +kernel
theorem dX7_rest_48 : decode cX7_rest 48 = .ok (.invokevirtual 229, 3) := by decide +kernel
theorem dX7_rest_51 : decode cX7_rest 51 = .ok (.aload_n 0, 1) := by decide +kernel
theorem dX7_rest_52 : decode cX7_rest 52 = .ok (.iload_n 1, 1) := by decide +kernel
theorem dX7_rest_53 : decode cX7_rest 53 = .ok (.iconst 0, 1) := by decide +kernel
theorem dX7_rest_54 : decode cX7_rest 54 = .ok (.iload_n 2, 1) := by decide +kernel
theorem dX7_rest_55 : decode cX7_rest 55 = .ok (.iconst 0, 1) := by decide +kernel
theorem dX7_rest_56 : decode cX7_rest 56 = .ok (.invokevirtual 232, 3) := by decide +kernel
theorem dX7_rest_59 : decode cX7_rest 59 = .ok (.invokestatic 197, 3) := by decide +kernel
theorem dX7_rest_62 : decode cX7_rest 62 = .ok (.ireturn, 1) := by decide +kernel
set_option maxRecDepth 20000 in
theorem ggX7_everywhere_X7_areMachines : GoodIn wsX7_everywhere wsX7_areMachines := goodIn_r _ [8, 3, 9, 10, 11, 12, 13, 14, 169, 170, 171, 172, 173, 174, 175, 176, 177, 178, 179, 180, 181, 182] (by decide +kernel) (by decide +kernel)
set_option maxRecDepth 20000 in
theorem gX7_everywhere_X7_areMachines : GoodIn wsX7_everywhere (wsV RX7 145 RX7 yX7_areMachines wsX7_areMachines) := goodIn_app (goodIn_of _ (by decide +kernel)) ggX7_everywhere_X7_areMachines
set_option maxRecDepth 20000 in
theorem ggX7_everywhere_X3_learnAll : GoodIn wsX7_everywhere wsX3_learnAll := goodIn_r _ [19, 20, 21, 22, 12, 23, 24, 25, 26, 27, 18, 28, 29, 30, 31, 32, 33, 34, 35, 36, 37, 38, 39, 40, 41, 42, 43, 44, 45, 46, 47, 48, 49, 50, 51, 52, 53, 54, 55, 56, 57, 58, 59, 60, 61, 62, 63, 64, 65, 66, 67, 68, 69, 70, 71, 72, 73, 74, 75, 76, 77, 78, 79, 80, 81, 82, 83, 84, 85, 86, 87, 88, 89, 90, 91, 92, 93, 94, 95, 96, 97, 98, 99, 100, 101, 102, 103, 104, 105, 106, 107, 108, 109, 110, 111, 112, 113, 114, 115, 116, 117, 118, 119, 120, 121, 122, 123, 124, 125, 126, 127, 128, 129, 130, 131, 132, 133, 134, 179, 180, 181, 182, 183, 184, 185, 186, 187, 188, 189, 190, 191, 192, 193, 194, 195, 196, 197, 198] (by decide +kernel) (by decide +kernel)
set_option maxRecDepth 20000 in
theorem gX7_everywhere_X3_learnAll : GoodIn wsX7_everywhere (wsV RX7 236 RX3 yX3_learnAll wsX3_learnAll) := goodIn_app (goodIn_of _ (by decide +kernel)) ggX7_everywhere_X3_learnAll
set_option maxRecDepth 20000 in
theorem ggX7_everywhere_X7_takeBothSides : GoodIn wsX7_everywhere wsX7_takeBothSides := goodIn_r _ [138, 139, 2, 3, 140, 141, 142, 143, 38, 144, 40, 41, 42, 21, 22, 12, 23, 24, 48, 49, 50, 51, 52, 145, 146, 147, 43, 44, 45, 46, 47, 53, 54, 55, 56, 57, 58, 169, 170, 171, 172, 173, 174, 175, 176, 177, 178, 188, 189, 190, 191, 192, 193, 179, 180, 181, 182, 194, 195, 196] (by decide +kernel) (by decide +kernel)
set_option maxRecDepth 20000 in
theorem gX7_everywhere_X7_takeBothSides : GoodIn wsX7_everywhere (wsV RX7 229 RX7 yX7_takeBothSides wsX7_takeBothSides) := goodIn_app (goodIn_of _ (by decide +kernel)) ggX7_everywhere_X7_takeBothSides
set_option maxRecDepth 20000 in
theorem ggX7_everywhere_X7_firstUnrest : GoodIn wsX7_everywhere wsX7_firstUnrest := goodIn_r _ [151, 3, 152, 21, 22, 12, 23, 24, 153, 154, 155, 7, 156, 139, 140, 157, 146, 38, 147, 158, 159, 160, 161, 2, 162, 1, 163, 60, 61, 62, 63, 64, 40, 65, 66, 67, 68, 69, 70, 164, 72, 73, 74, 75, 76, 77, 56, 78, 79, 80, 81, 82, 83, 84, 85, 86, 87, 88, 89, 90, 91, 41, 92, 93, 94, 95, 96, 97, 98, 99, 100, 101, 102, 103, 104, 105, 165, 124, 125, 18, 126, 114, 115, 106, 107, 108, 127, 128, 129, 130, 131, 132, 133, 134, 169, 170, 171, 172, 173, 174, 175, 176, 177, 178, 179, 180, 181, 182, 188, 189, 190, 191, 192, 193, 194, 195, 196, 197, 198, 183, 184, 185, 186, 187] (by decide +kernel) (by decide +kernel)
set_option maxRecDepth 20000 in
theorem gX7_everywhere_X7_firstUnrest : GoodIn wsX7_everywhere (wsV RX7 240 RX7 yX7_firstUnrest wsX7_firstUnrest) := goodIn_app (goodIn_of _ (by decide +kernel)) ggX7_everywhere_X7_firstUnrest
set_option maxRecDepth 20000 in
theorem ggX7_everywhere_X7_oneIf : GoodIn wsX7_everywhere wsX7_oneIf := goodIn_r _ [168] (by decide +kernel) (by decide +kernel)
set_option maxRecDepth 20000 in
theorem gX7_everywhere_X7_oneIf : GoodIn wsX7_everywhere (va_wsS RX7 197 yX7_oneIf wsX7_oneIf) := goodIn_app (goodIn_of _ (by decide +kernel)) ggX7_everywhere_X7_oneIf
theorem dX7_everywhere_0 : decode cX7_everywhere 0 = .ok (.aload_n 0, 1) := by decide +kernel
theorem dX7_everywhere_1 : decode cX7_everywhere 1 = .ok (.iload_n 1, 1) := by decide +kernel
theorem dX7_everywhere_2 : decode cX7_everywhere 2 = .ok (.iload_n 2, 1) := by decide +kernel
theorem dX7_everywhere_3 : decode cX7_everywhere 3 = .ok (.invokevirtual 145, 3) := by decide +kernel
theorem dX7_everywhere_6 : decode cX7_everywhere 6 = .ok (.ifCond .ne 5, 3) := by decide +kernel
theorem dX7_everywhere_9 : decode cX7_everywhere 9 = .ok (.iconst (-1), 1) := by decide +kernel
theorem dX7_everywhere_10 : decode cX7_everywhere 10 = .ok (.ireturn, 1) := by decide +kernel
theorem dX7_everywhere_11 : decode cX7_everywhere 11 = .ok (.aload_n 0, 1) := by decide +kernel
theorem dX7_everywhere_12 : decode cX7_everywhere 12 = .ok (.getfield 40, 3) := by decide +kernel
theorem dX7_everywhere_15 : decode cX7_everywhere 15 = .ok (.aload_n 0, 1) := by decide +kernel
theorem dX7_everywhere_16 : decode cX7_everywhere 16 = .ok (.getfield 10, 3) := by decide +kernel
theorem dX7_everywhere_19 : decode cX7_everywhere 19 = .ok (.aload_n 0, 1) := by decide +kernel
theorem dX7_everywhere_20 : decode cX7_everywhere 20 = .ok (.getfield 19, 3) := by decide +kernel
theorem dX7_everywhere_23 : decode cX7_everywhere 23 = .ok (.iload_n 1, 1) := by decide +kernel
theorem dX7_everywhere_24 : decode cX7_everywhere 24 = .ok (.invokevirtual 236, 3) := by decide +kernel
theorem dX7_everywhere_27 : decode cX7_everywhere 27 = .ok (.aload_n 0, 1) := by decide +kernel
theorem dX7_everywhere_28 : decode cX7_everywhere 28 = .ok (.getfield 40, 3) := by decide +kernel
theorem dX7_everywhere_31 : decode cX7_everywhere 31 = .ok (.aload_n 0, 1) := by decide +kernel
theorem dX7_everywhere_32 : decode cX7_everywhere 32 = .ok (.getfield 10, 3) := by decide +kernel
theorem dX7_everywhere_35 : decode cX7_everywhere 35 = .ok (.aload_n 0, 1) := by decide +kernel
theorem dX7_everywhere_36 : decode cX7_everywhere 36 = .ok (.getfield 19, 3) := by decide +kernel
theorem dX7_everywhere_39 : decode cX7_everywhere 39 = .ok (.iload_n 2, 1) := by decide +kernel
theorem dX7_everywhere_40 : decode cX7_everywhere 40 = .ok (.invokevirtual 236, 3) := by decide +kernel
theorem dX7_everywhere_43 : decode cX7_everywhere 43 = .ok (.aload_n 0, 1) := by decide +kernel
theorem dX7_everywhere_44 : decode cX7_everywhere 44 = .ok (.iload_n 1, 1) := by decide +kernel
theorem dX7_everywhere_45 : decode cX7_everywhere 45 = .ok (.iload_n 2, 1) := by decide +kernel
theorem dX7_everywhere_46 : decode cX7_everywhere 46 = .ok (.invokevirtual 229, 3) := by decide +kernel
theorem dX7_everywhere_49 : decode cX7_everywhere 49 = .ok (.aload_n 0, 1) := by decide +kernel
theorem dX7_everywhere_50 : decode cX7_everywhere 50 = .ok (.iload_n 1, 1) := by decide +kernel
theorem dX7_everywhere_51 : decode cX7_everywhere 51 = .ok (.iload_n 2, 1) := by decide +kernel
theorem dX7_everywhere_52 : decode cX7_everywhere 52 = .ok (.invokevirtual 240, 3) := by decide +kernel
theorem dX7_everywhere_55 : decode cX7_everywhere 55 = .ok (.ifCond .ge 7, 3) := by decide +kernel
theorem dX7_everywhere_58 : decode cX7_everywhere 58 = .ok (.iconst 1, 1) := by decide +kernel
theorem dX7_everywhere_59 : decode cX7_everywhere 59 = .ok (.goto 4, 3) := by decide +kernel
theorem dX7_everywhere_62 : decode cX7_everywhere 62 = .ok (.iconst 0, 1) := by decide +kernel
theorem dX7_everywhere_63 : decode cX7_everywhere 63 = .ok (.invokestatic 197, 3) := by decide +kernel
theorem dX7_everywhere_66 : decode cX7_everywhere 66 = .ok (.ireturn, 1) := by decide +kernel
set_option maxRecDepth 20000 in
theorem ggX7_deviation_X7_areMachines : GoodIn wsX7_deviation wsX7_areMachines := goodIn_r _ [8, 3, 9, 10, 11, 12, 13, 14, 183, 184, 185, 186, 187, 188, 189, 190, 191, 192, 193, 194, 195, 196] (by decide +kernel) (by decide +kernel)
set_option maxRecDepth 20000 in
theorem gX7_deviation_X7_areMachines : GoodIn wsX7_deviation (wsV RX7 145 RX7 yX7_areMachines wsX7_areMachines) := goodIn_app (goodIn_of _ (by decide +kernel)) ggX7_deviation_X7_areMachines
set_option maxRecDepth 20000 in
theorem ggX7_deviation_X7_within : GoodIn wsX7_deviation wsX7_within := goodIn_r _ [17] (by decide +kernel) (by decide +kernel)
set_option maxRecDepth 20000 in
theorem gX7_deviation_X7_within : GoodIn wsX7_deviation (va_wsS RX7 72 yX7_within wsX7_within) := goodIn_app (goodIn_of _ (by decide +kernel)) ggX7_deviation_X7_within
set_option maxRecDepth 20000 in
theorem ggX7_deviation_X3_learnAll : GoodIn wsX7_deviation wsX3_learnAll := goodIn_r _ [22, 23, 24, 25, 12, 26, 27, 28, 29, 30, 21, 31, 32, 33, 34, 35, 36, 37, 38, 39, 40, 41, 42, 43, 44, 45, 46, 47, 48, 49, 50, 51, 52, 53, 54, 55, 56, 57, 58, 59, 60, 61, 62, 63, 64, 65, 66, 67, 68, 69, 70, 71, 72, 73, 74, 75, 76, 77, 78, 79, 80, 81, 82, 83, 84, 85, 86, 87, 88, 89, 90, 91, 92, 93, 94, 95, 96, 97, 98, 99, 100, 101, 102, 103, 104, 105, 106, 107, 108, 109, 110, 111, 112, 113, 114, 115, 116, 117, 118, 119, 120, 121, 122, 123, 124, 125, 126, 127, 128, 129, 130, 131, 132, 133, 134, 135, 136, 137, 193, 194, 195, 196, 197, 198, 199, 200, 201, 202, 203, 204, 205, 206, 207, 208, 209, 210, 211, 212] (by decide +kernel) (by decide +kernel)
set_option maxRecDepth 20000 in
theorem gX7_deviation_X3_learnAll : GoodIn wsX7_deviation (wsV RX7 236 RX3 yX3_learnAll wsX3_learnAll) := goodIn_app (goodIn_of _ (by decide +kernel)) ggX7_deviation_X3_learnAll
set_option maxRecDepth 20000 in
theorem ggX7_deviation_X7_takeBothSides : GoodIn wsX7_deviation wsX7_takeBothSides := goodIn_r _ [141, 142, 2, 3, 143, 144, 145, 146, 41, 147, 43, 44, 45, 24, 25, 12, 26, 27, 51, 52, 53, 54, 55, 148, 149, 150, 46, 47, 48, 49, 50, 56, 57, 58, 59, 60, 61, 183, 184, 185, 186, 187, 188, 189, 190, 191, 192, 202, 203, 204, 205, 206, 207, 193, 194, 195, 196, 208, 209, 210] (by decide +kernel) (by decide +kernel)
set_option maxRecDepth 20000 in
theorem gX7_deviation_X7_takeBothSides : GoodIn wsX7_deviation (wsV RX7 229 RX7 yX7_takeBothSides wsX7_takeBothSides) := goodIn_app (goodIn_of _ (by decide +kernel)) ggX7_deviation_X7_takeBothSides
set_option maxRecDepth 20000 in
theorem ggX7_deviation_X7_firstUnrest : GoodIn wsX7_deviation wsX7_firstUnrest := goodIn_r _ [154, 3, 155, 24, 25, 12, 26, 27, 156, 157, 158, 7, 159, 142, 143, 160, 149, 41, 150, 161, 162, 163, 164, 2, 165, 1, 166, 63, 64, 65, 66, 67, 43, 68, 69, 70, 71, 72, 73, 167, 75, 76, 77, 78, 79, 80, 59, 81, 82, 83, 84, 85, 86, 87, 88, 89, 90, 91, 92, 93, 94, 44, 95, 96, 97, 98, 99, 100, 101, 102, 103, 104, 105, 106, 107, 108, 168, 127, 128, 21, 129, 117, 118, 109, 110, 111, 130, 131, 132, 133, 134, 135, 136, 137, 183, 184, 185, 186, 187, 188, 189, 190, 191, 192, 193, 194, 195, 196, 202, 203, 204, 205, 206, 207, 208, 209, 210, 211, 212, 197, 198, 199, 200, 201] (by decide +kernel) (by decide +kernel)
set_option maxRecDepth 20000 in
theorem gX7_deviation_X7_firstUnrest : GoodIn wsX7_deviation (wsV RX7 240 RX7 yX7_firstUnrest wsX7_firstUnrest) := goodIn_app (goodIn_of _ (by decide +kernel)) ggX7_deviation_X7_firstUnrest
set_option maxRecDepth 20000 in
theorem ggX7_deviation_X6_mine : GoodIn wsX7_deviation wsX6_mine := goodIn_r _ [171] (by decide +kernel) (by decide +kernel)
set_option maxRecDepth 20000 in
theorem gX7_deviation_X6_mine : GoodIn wsX7_deviation (va_wsS RX7 154 yX6_mine wsX6_mine) := goodIn_app (goodIn_of _ (by decide +kernel)) ggX7_deviation_X6_mine
set_option maxRecDepth 20000 in
theorem ggX7_deviation_X6_theirs : GoodIn wsX7_deviation wsX6_theirs := goodIn_r _ [174] (by decide +kernel) (by decide +kernel)
set_option maxRecDepth 20000 in
theorem gX7_deviation_X6_theirs : GoodIn wsX7_deviation (va_wsS RX7 243 yX6_theirs wsX6_theirs) := goodIn_app (goodIn_of _ (by decide +kernel)) ggX7_deviation_X6_theirs
set_option maxRecDepth 20000 in
theorem ggX7_deviation_X7_deviationFrom : GoodIn wsX7_deviation wsX7_deviationFrom := goodIn_r _ [178, 142, 1, 160, 149, 41, 150, 161, 162, 163, 7, 164, 2, 165, 166, 63, 64, 65, 66, 67, 43, 68, 69, 70, 71, 72, 73, 167, 75, 76, 77, 78, 79, 80, 59, 81, 82, 83, 84, 85, 86, 87, 88, 89, 90, 91, 92, 93, 94, 44, 95, 96, 97, 98, 99, 100, 101, 102, 103, 104, 105, 106, 107, 108, 168, 127, 128, 21, 129, 117, 118, 109, 110, 111, 130, 131, 132, 133, 134, 135, 136, 137, 179, 180, 181, 182, 116, 183, 184, 185, 186, 187, 188, 189, 190, 191, 192, 202, 203, 204, 205, 206, 207, 208, 209, 210, 211, 212, 197, 198, 199, 200, 201] (by decide +kernel) (by decide +kernel)
set_option maxRecDepth 20000 in
theorem gX7_deviation_X7_deviationFrom : GoodIn wsX7_deviation (wsV RX7 246 RX7 yX7_deviationFrom wsX7_deviationFrom) := goodIn_app (goodIn_of _ (by decide +kernel)) ggX7_deviation_X7_deviationFrom
theorem dX7_deviation_0 : decode cX7_deviation 0 = .ok (.aload_n 0, 1) := by decide +kernel
theorem dX7_deviation_1 : decode cX7_deviation 1 = .ok (.iload_n 1, 1) := by decide +kernel
theorem dX7_deviation_2 : decode cX7_deviation 2 = .ok (.iload_n 2, 1) := by decide +kernel
theorem dX7_deviation_3 : decode cX7_deviation 3 = .ok (.invokevirtual 145, 3) := by decide +kernel
theorem dX7_deviation_6 : decode cX7_deviation 6 = .ok (.ifCond .eq 12, 3) := by decide +kernel
theorem dX7_deviation_9 : decode cX7_deviation 9 = .ok (.iload_n 3, 1) := by decide +kernel
theorem dX7_deviation_10 : decode cX7_deviation 10 = .ok (.iconst 0, 1) := by decide +kernel
theorem dX7_deviation_11 : decode cX7_deviation 11 = .ok (.iconst 2, 1) := by decide +kernel
theorem dX7_deviation_12 : decode cX7_deviation 12 = .ok (.invokestatic 72, 3) := by decide +kernel
theorem dX7_deviation_15 : decode cX7_deviation 15 = .ok (.ifCond .ne 5, 3) := by decide +kernel
theorem dX7_deviation_18 : decode cX7_deviation 18 = .ok (.iconst (-1), 1) := by decide +kernel
theorem dX7_deviation_19 : decode cX7_deviation 19 = .ok (.ireturn, 1) := by decide +kernel
theorem dX7_deviation_20 : decode cX7_deviation 20 = .ok (.aload_n 0, 1) := by decide +kernel
theorem dX7_deviation_21 : decode cX7_deviation 21 = .ok (.getfield 40, 3) := by decide +kernel
theorem dX7_deviation_24 : decode cX7_deviation 24 = .ok (.aload_n 0, 1) := by decide +kernel
theorem dX7_deviation_25 : decode cX7_deviation 25 = .ok (.getfield 10, 3) := by decide +kernel
theorem dX7_deviation_28 : decode cX7_deviation 28 = .ok (.aload_n 0, 1) := by decide +kernel
theorem dX7_deviation_29 : decode cX7_deviation 29 = .ok (.getfield 19, 3) := by decide +kernel
theorem dX7_deviation_32 : decode cX7_deviation 32 = .ok (.iload_n 1, 1) := by decide +kernel
theorem dX7_deviation_33 : decode cX7_deviation 33 = .ok (.invokevirtual 236, 3) := by decide +kernel
theorem dX7_deviation_36 : decode cX7_deviation 36 = .ok (.aload_n 0, 1) := by decide +kernel
theorem dX7_deviation_37 : decode cX7_deviation 37 = .ok (.getfield 40, 3) := by decide +kernel
theorem dX7_deviation_40 : decode cX7_deviation 40 = .ok (.aload_n 0, 1) := by decide +kernel
theorem dX7_deviation_41 : decode cX7_deviation 41 = .ok (.getfield 10, 3) := by decide +kernel
theorem dX7_deviation_44 : decode cX7_deviation 44 = .ok (.aload_n 0, 1) := by decide +kernel
theorem dX7_deviation_45 : decode cX7_deviation 45 = .ok (.getfield 19, 3) := by decide +kernel
theorem dX7_deviation_48 : decode cX7_deviation 48 = .ok (.iload_n 2, 1) := by decide +kernel
theorem dX7_deviation_49 : decode cX7_deviation 49 = .ok (.invokevirtual 236, 3) := by decide +kernel
theorem dX7_deviation_52 : decode cX7_deviation 52 = .ok (.aload_n 0, 1) := by decide +kernel
theorem dX7_deviation_53 : decode cX7_deviation 53 = .ok (.iload_n 1, 1) := by decide +kernel
theorem dX7_deviation_54 : decode cX7_deviation 54 = .ok (.iload_n 2, 1) := by decide +kernel
theorem dX7_deviation_55 : decode cX7_deviation 55 = .ok (.invokevirtual 229, 3) := by decide +kernel
theorem dX7_deviation_58 : decode cX7_deviation 58 = .ok (.aload_n 0, 1) := by decide +kernel
theorem dX7_deviation_59 : decode cX7_deviation 59 = .ok (.iload_n 1, 1) := by decide +kernel
theorem dX7_deviation_60 : decode cX7_deviation 60 = .ok (.iload_n 2, 1) := by decide +kernel
theorem dX7_deviation_61 : decode cX7_deviation 61 = .ok (.invokevirtual 240, 3) := by decide +kernel
theorem dX7_deviation_64 : decode cX7_deviation 64 = .ok (.istore 4, 2) := by decide +kernel
theorem dX7_deviation_66 : decode cX7_deviation 66 = .ok (.iload 4, 2) := by decide +kernel
theorem dX7_deviation_68 : decode cX7_deviation 68 = .ok (.ifCond .ge 6, 3) := by decide +kernel
theorem dX7_deviation_71 : decode cX7_deviation 71 = .ok (.bipush (-4), 2) := by decide +kernel
theorem dX7_deviation_73 : decode cX7_deviation 73 = .ok (.ireturn, 1) := by decide +kernel
theorem dX7_deviation_74 : decode cX7_deviation 74 = .ok (.iload_n 3, 1) := by decide +kernel
theorem dX7_deviation_75 : decode cX7_deviation 75 = .ok (.ifCond .ne 8, 3) := by decide +kernel
theorem dX7_deviation_78 : decode cX7_deviation 78 = .ok (.iload 4, 2) := by decide +kernel
theorem dX7_deviation_80 : decode cX7_deviation 80 = .ok (.goto 20, 3) := by decide +kernel
theorem dX7_deviation_83 : decode cX7_deviation 83 = .ok (.aload_n 0, 1) := by decide +kernel
theorem dX7_deviation_84 : decode cX7_deviation 84 = .ok (.iload_n 1, 1) := by decide +kernel
theorem dX7_deviation_85 : decode cX7_deviation 85 = .ok (.iload 4, 2) := by decide +kernel
theorem dX7_deviation_87 : decode cX7_deviation 87 = .ok (.invokestatic 154, 3) := by decide +kernel
theorem dX7_deviation_90 : decode cX7_deviation 90 = .ok (.iload_n 2, 1) := by decide +kernel
theorem dX7_deviation_91 : decode cX7_deviation 91 = .ok (.iload 4, 2) := by decide +kernel
theorem dX7_deviation_93 : decode cX7_deviation 93 = .ok (.invokestatic 243, 3) := by decide +kernel
theorem dX7_deviation_96 : decode cX7_deviation 96 = .ok (.iload_n 3, 1) := by decide +kernel
theorem dX7_deviation_97 : decode cX7_deviation 97 = .ok (.invokevirtual 246, 3) := by decide +kernel
theorem dX7_deviation_100 : decode cX7_deviation 100 = .ok (.ireturn, 1) := by decide +kernel
set_option maxRecDepth 20000 in
theorem ggX7_resists_X7_areMachines : GoodIn wsX7_resists wsX7_areMachines := goodIn_r _ [5, 6, 7, 8, 9, 10, 11, 12, 126, 127, 128, 129, 130, 131, 132, 133, 134, 135, 136, 137, 138, 139] (by decide +kernel) (by decide +kernel)
set_option maxRecDepth 20000 in
theorem gX7_resists_X7_areMachines : GoodIn wsX7_resists (wsV RX7 145 RX7 yX7_areMachines wsX7_areMachines) := goodIn_app (goodIn_of _ (by decide +kernel)) ggX7_resists_X7_areMachines
set_option maxRecDepth 20000 in
theorem ggX7_resists_X7_withstands : GoodIn wsX7_resists wsX7_withstands := goodIn_r _ [16, 17, 18, 19, 4, 20, 21, 22, 23, 24, 25, 26, 27, 28, 29, 30, 31, 32, 6, 33, 34, 35, 36, 37, 38, 39, 40, 41, 42, 10, 43, 44, 45, 46, 47, 48, 49, 50, 51, 52, 53, 54, 55, 56, 57, 58, 59, 60, 61, 62, 63, 64, 65, 66, 67, 68, 69, 70, 71, 72, 73, 74, 75, 76, 77, 78, 79, 80, 81, 82, 83, 84, 85, 86, 87, 88, 89, 90, 91, 92, 93, 94, 95, 96, 97, 98, 99, 100, 101, 102, 103, 104, 105, 106, 107, 108, 109, 110, 111, 112, 113, 114, 115, 116, 117, 118, 119, 120, 121, 122, 126, 127, 128, 129, 130, 131, 132, 133, 134, 135, 140, 141, 142, 143, 144, 145, 136, 137, 138, 139, 146, 147, 148, 149, 150] (by decide +kernel) (by decide +kernel)
set_option maxRecDepth 20000 in
theorem gX7_resists_X7_withstands : GoodIn wsX7_resists (wsV RX7 250 RX7 yX7_withstands wsX7_withstands) := goodIn_app (goodIn_of _ (by decide +kernel)) ggX7_resists_X7_withstands
set_option maxRecDepth 20000 in
theorem ggX7_resists_X7_oneIf : GoodIn wsX7_resists wsX7_oneIf := goodIn_r _ [125] (by decide +kernel) (by decide +kernel)
set_option maxRecDepth 20000 in
theorem gX7_resists_X7_oneIf : GoodIn wsX7_resists (va_wsS RX7 197 yX7_oneIf wsX7_oneIf) := goodIn_app (goodIn_of _ (by decide +kernel)) ggX7_resists_X7_oneIf
theorem dX7_resists_0 : decode cX7_resists 0 = .ok (.aload_n 0, 1) := by decide +kernel
theorem dX7_resists_1 : decode cX7_resists 1 = .ok (.iload_n 2, 1) := by decide +kernel
theorem dX7_resists_2 : decode cX7_resists 2 = .ok (.iload_n 1, 1) := by decide +kernel
theorem dX7_resists_3 : decode cX7_resists 3 = .ok (.invokevirtual 145, 3) := by decide +kernel
theorem dX7_resists_6 : decode cX7_resists 6 = .ok (.ifCond .eq 8, 3) := by decide +kernel
theorem dX7_resists_9 : decode cX7_resists 9 = .ok (.iload_n 2, 1) := by decide +kernel
theorem dX7_resists_10 : decode cX7_resists 10 = .ok (.iload_n 1, 1) := by decide +kernel
theorem dX7_resists_11 : decode cX7_resists 11 = .ok (.if_icmp .ne 5, 3) := by decide +kernel
theorem dX7_resists_14 : decode cX7_resists 14 = .ok (.iconst (-1), 1) := by decide +kernel
theorem dX7_resists_15 : decode cX7_resists 15 = .ok (.ireturn, 1) := by decide +kernel
theorem dX7_resists_16 : decode cX7_resists 16 = .ok (.aload_n 0, 1) := by decide +kernel
theorem dX7_resists_17 : decode cX7_resists 17 = .ok (.iload_n 1, 1) := by decide +kernel
theorem dX7_resists_18 : decode cX7_resists 18 = .ok (.iload_n 2, 1) := by decide +kernel
theorem dX7_resists_19 : decode cX7_resists 19 = .ok (.invokevirtual 250, 3) := by decide +kernel
theorem dX7_resists_22 : decode cX7_resists 22 = .ok (.invokestatic 197, 3) := by decide +kernel
theorem dX7_resists_25 : decode cX7_resists 25 = .ok (.ireturn, 1) := by decide +kernel
set_option maxRecDepth 20000 in
theorem ggX7_invaders_X2_has : GoodIn wsX7_invaders wsX2_has := goodIn_r _ [6, 7, 133, 134, 135, 136] (by decide +kernel) (by decide +kernel)
set_option maxRecDepth 20000 in
theorem gX7_invaders_X2_has : GoodIn wsX7_invaders (wsV RX7 201 RX2 yX2_has wsX2_has) := goodIn_app (goodIn_of _ (by decide +kernel)) ggX7_invaders_X2_has
set_option maxRecDepth 20000 in
theorem ggX7_invaders_X2_many : GoodIn wsX7_invaders wsX2_many := goodIn_r _ [11, 7, 133, 134, 135, 136] (by decide +kernel) (by decide +kernel)
set_option maxRecDepth 20000 in
theorem gX7_invaders_X2_many : GoodIn wsX7_invaders (wsV RX7 111 RX2 yX2_many wsX2_many) := goodIn_app (goodIn_of _ (by decide +kernel)) ggX7_invaders_X2_many
set_option maxRecDepth 20000 in
theorem ggX7_invaders_X7_withstands : GoodIn wsX7_invaders wsX7_withstands := goodIn_r _ [16, 17, 18, 19, 15, 20, 21, 22, 23, 24, 25, 26, 27, 28, 29, 30, 31, 32, 1, 33, 34, 35, 36, 37, 38, 39, 40, 41, 42, 5, 43, 44, 45, 46, 47, 48, 49, 50, 51, 52, 53, 54, 55, 56, 57, 58, 59, 60, 61, 62, 63, 64, 65, 66, 67, 68, 69, 70, 71, 72, 73, 74, 75, 76, 77, 78, 79, 80, 81, 82, 83, 84, 85, 86, 87, 88, 89, 90, 91, 92, 93, 94, 95, 96, 97, 98, 99, 100, 101, 102, 103, 104, 105, 106, 107, 108, 109, 110, 111, 112, 113, 114, 115, 116, 117, 118, 119, 120, 121, 122, 123, 124, 125, 126, 127, 128, 129, 130, 131, 132, 137, 138, 139, 140, 141, 142, 133, 134, 135, 136, 143, 144, 145, 146, 147] (by decide +kernel) (by decide +kernel)
set_option maxRecDepth 20000 in
theorem gX7_invaders_X7_withstands : GoodIn wsX7_invaders (wsV RX7 250 RX7 yX7_withstands wsX7_withstands) := goodIn_app (goodIn_of _ (by decide +kernel)) ggX7_invaders_X7_withstands
theorem dX7_invaders_0 : decode cX7_invaders 0 = .ok (.aload_n 0, 1) := by decide +kernel
theorem dX7_invaders_1 : decode cX7_invaders 1 = .ok (.getfield 19, 3) := by decide +kernel
theorem dX7_invaders_4 : decode cX7_invaders 4 = .ok (.iload_n 1, 1) := by decide +kernel
theorem dX7_invaders_5 : decode cX7_invaders 5 = .ok (.invokevirtual 201, 3) := by decide +kernel
theorem dX7_invaders_8 : decode cX7_invaders 8 = .ok (.ifCond .ne 5, 3) := by decide +kernel
theorem dX7_invaders_11 : decode cX7_invaders 11 = .ok (.iconst (-1), 1) := by decide +kernel
theorem dX7_invaders_12 : decode cX7_invaders 12 = .ok (.ireturn, 1) := by decide +kernel
theorem dX7_invaders_13 : decode cX7_invaders 13 = .ok (.iconst 0, 1) := by decide +kernel
theorem dX7_invaders_14 : decode cX7_invaders 14 = .ok (.istore_n 2, 1) := by decide +kernel
theorem dX7_invaders_15 : decode cX7_invaders 15 = .ok (.iconst 0, 1) := by decide +kernel
theorem dX7_invaders_16 : decode cX7_invaders 16 = .ok (.istore_n 3, 1) := by decide +kernel
theorem dX7_invaders_17 : decode cX7_invaders 17 = .ok (.iload_n 3, 1) := by decide +kernel
theorem dX7_invaders_18 : decode cX7_invaders 18 = .ok (.aload_n 0, 1) := by decide +kernel
theorem dX7_invaders_19 : decode cX7_invaders 19 = .ok (.getfield 19, 3) := by decide +kernel
theorem dX7_invaders_22 : decode cX7_invaders 22 = .ok (.invokevirtual 111, 3) := by decide +kernel
theorem dX7_invaders_25 : decode cX7_invaders 25 = .ok (.if_icmp .ge 29, 3) := by decide +kernel
theorem dX7_invaders_28 : decode cX7_invaders 28 = .ok (.iload_n 3, 1) := by decide +kernel
theorem dX7_invaders_29 : decode cX7_invaders 29 = .ok (.iload_n 1, 1) := by decide +kernel
theorem dX7_invaders_30 : decode cX7_invaders 30 = .ok (.if_icmp .eq 18, 3) := by decide +kernel
theorem dX7_invaders_33 : decode cX7_invaders 33 = .ok (.aload_n 0, 1) := by decide +kernel
theorem dX7_invaders_34 : decode cX7_invaders 34 = .ok (.iload_n 1, 1) := by decide +kernel
theorem dX7_invaders_35 : decode cX7_invaders 35 = .ok (.iload_n 3, 1) := by decide +kernel
theorem dX7_invaders_36 : decode cX7_invaders 36 = .ok (.invokevirtual 250, 3) := by decide +kernel
theorem dX7_invaders_39 : decode cX7_invaders 39 = .ok (.ifCond .ne 9, 3) := by decide +kernel
theorem dX7_invaders_42 : decode cX7_invaders 42 = .ok (.iload_n 2, 1) := by decide +kernel
theorem dX7_invaders_43 : decode cX7_invaders 43 = .ok (.iconst 1, 1) := by decide +kernel
theorem dX7_invaders_44 : decode cX7_invaders 44 = .ok (.iload_n 3, 1) := by decide +kernel
theorem dX7_invaders_45 : decode cX7_invaders 45 = .ok (.ishl, 1) := by decide +kernel
theorem dX7_invaders_46 : decode cX7_invaders 46 = .ok (.iadd, 1) := by decide +kernel
theorem dX7_invaders_47 : decode cX7_invaders 47 = .ok (.istore_n 2, 1) := by decide +kernel
theorem dX7_invaders_48 : decode cX7_invaders 48 = .ok (.iinc 3 1, 3) := by decide +kernel
theorem dX7_invaders_51 : decode cX7_invaders 51 = .ok (.goto (-34), 3) := by decide +kernel
theorem dX7_invaders_54 : decode cX7_invaders 54 = .ok (.iload_n 2, 1) := by decide +kernel
theorem dX7_invaders_55 : decode cX7_invaders 55 = .ok (.ireturn, 1) := by decide +kernel
set_option maxRecDepth 20000 in
theorem ggX7_score_X2_has : GoodIn wsX7_score wsX2_has := goodIn_r _ [7, 8, 100, 101, 102, 103] (by decide +kernel) (by decide +kernel)
set_option maxRecDepth 20000 in
theorem gX7_score_X2_has : GoodIn wsX7_score (wsV RX7 201 RX2 yX2_has wsX2_has) := goodIn_app (goodIn_of _ (by decide +kernel)) ggX7_score_X2_has
set_option maxRecDepth 20000 in
theorem ggX7_score_X7_within : GoodIn wsX7_score wsX7_within := goodIn_r _ [12] (by decide +kernel) (by decide +kernel)
set_option maxRecDepth 20000 in
theorem gX7_score_X7_within : GoodIn wsX7_score (va_wsS RX7 72 yX7_within wsX7_within) := goodIn_app (goodIn_of _ (by decide +kernel)) ggX7_score_X7_within
set_option maxRecDepth 20000 in
theorem ggX7_score_X7_gainsAgainstAll : GoodIn wsX7_score wsX7_gainsAgainstAll := goodIn_r _ [16, 1, 17, 18, 19, 6, 20, 8, 21, 22, 23, 11, 24, 25, 26, 27, 28, 29, 30, 31, 32, 33, 34, 35, 36, 37, 38, 39, 40, 41, 42, 43, 44, 45, 46, 47, 48, 49, 50, 51, 52, 53, 54, 55, 56, 57, 58, 59, 60, 61, 62, 63, 64, 65, 66, 67, 68, 69, 70, 71, 72, 73, 74, 75, 76, 77, 78, 79, 80, 81, 82, 83, 84, 85, 86, 87, 88, 89, 90, 91, 92, 93, 94, 95, 96, 97, 98, 99, 100, 101, 102, 103, 104, 105, 106, 107, 108, 109, 110, 111, 112] (by decide +kernel) (by decide +kernel)
set_option maxRecDepth 20000 in
theorem gX7_score_X7_gainsAgainstAll : GoodIn wsX7_score (wsV RX7 253 RX7 yX7_gainsAgainstAll wsX7_gainsAgainstAll) := goodIn_app (goodIn_of _ (by decide +kernel)) ggX7_score_X7_gainsAgainstAll
theorem dX7_score_0 : decode cX7_score 0 = .ok (.aload_n 0, 1) := by decide +kernel
theorem dX7_score_1 : decode cX7_score 1 = .ok (.getfield 19, 3) := by decide +kernel
theorem dX7_score_4 : decode cX7_score 4 = .ok (.iload_n 1, 1) := by decide +kernel
theorem dX7_score_5 : decode cX7_score 5 = .ok (.invokevirtual 201, 3) := by decide +kernel
theorem dX7_score_8 : decode cX7_score 8 = .ok (.ifCond .eq 14, 3) := by decide +kernel
theorem dX7_score_11 : decode cX7_score 11 = .ok (.iload_n 2, 1) := by decide +kernel
theorem dX7_score_12 : decode cX7_score 12 = .ok (.iconst 0, 1) := by decide +kernel
theorem dX7_score_13 : decode cX7_score 13 = .ok (.sipush 1000, 3) := by decide +kernel
theorem dX7_score_16 : decode cX7_score 16 = .ok (.invokestatic 72, 3) := by decide +kernel
theorem dX7_score_19 : decode cX7_score 19 = .ok (.ifCond .ne 6, 3) := by decide +kernel
theorem dX7_score_22 : decode cX7_score 22 = .ok (.ldc 157, 2) := by decide +kernel
theorem dX7_score_24 : decode cX7_score 24 = .ok (.ireturn, 1) := by decide +kernel
theorem dX7_score_25 : decode cX7_score 25 = .ok (.aload_n 0, 1) := by decide +kernel
theorem dX7_score_26 : decode cX7_score 26 = .ok (.iload_n 1, 1) := by decide +kernel
theorem dX7_score_27 : decode cX7_score 27 = .ok (.iload_n 2, 1) := by decide +kernel
theorem dX7_score_28 : decode cX7_score 28 = .ok (.invokevirtual 253, 3) := by decide +kernel
theorem dX7_score_31 : decode cX7_score 31 = .ok (.ireturn, 1) := by decide +kernel
set_option maxRecDepth 20000 in
theorem ggX7_place_X7_within : GoodIn wsX7_place wsX7_within := goodIn_r _ [6] (by decide +kernel) (by decide +kernel)
set_option maxRecDepth 20000 in
theorem gX7_place_X7_within : GoodIn wsX7_place (va_wsS RX7 72 yX7_within wsX7_within) := goodIn_app (goodIn_of _ (by decide +kernel)) ggX7_place_X7_within
set_option maxRecDepth 20000 in
theorem ggX7_place_X2_many : GoodIn wsX7_place wsX2_many := goodIn_r _ [11, 12, 100, 101, 102, 103] (by decide +kernel) (by decide +kernel)
set_option maxRecDepth 20000 in
theorem gX7_place_X2_many : GoodIn wsX7_place (wsV RX7 111 RX2 yX2_many wsX2_many) := goodIn_app (goodIn_of _ (by decide +kernel)) ggX7_place_X2_many
set_option maxRecDepth 20000 in
theorem ggX7_place_X7_gainsAgainstAll : GoodIn wsX7_place wsX7_gainsAgainstAll := goodIn_r _ [16, 1, 7, 8, 9, 10, 11, 12, 17, 18, 19, 5, 20, 21, 22, 23, 24, 25, 26, 27, 28, 29, 30, 31, 32, 33, 34, 35, 36, 37, 38, 39, 40, 41, 42, 43, 44, 45, 46, 47, 48, 49, 50, 51, 52, 53, 54, 55, 56, 57, 58, 59, 60, 61, 62, 63, 64, 65, 66, 67, 68, 69, 70, 71, 72, 73, 74, 75, 76, 77, 78, 79, 80, 81, 82, 83, 84, 85, 90, 91, 92, 93, 94, 95, 96, 97, 98, 99, 100, 101, 102, 103, 104, 105, 106, 107, 108, 109, 110, 111, 112] (by decide +kernel) (by decide +kernel)
set_option maxRecDepth 20000 in
theorem gX7_place_X7_gainsAgainstAll : GoodIn wsX7_place (wsV RX7 253 RX7 yX7_gainsAgainstAll wsX7_gainsAgainstAll) := goodIn_app (goodIn_of _ (by decide +kernel)) ggX7_place_X7_gainsAgainstAll
set_option maxRecDepth 20000 in
theorem ggX7_place_X7_machinesAheadOf : GoodIn wsX7_place wsX7_machinesAheadOf := goodIn_r _ [89, 1, 2, 7, 8, 9, 10, 11, 12, 90, 91, 92, 93, 94, 95, 96, 97, 98, 99, 100, 101, 102, 103] (by decide +kernel) (by decide +kernel)
set_option maxRecDepth 20000 in
theorem gX7_place_X7_machinesAheadOf : GoodIn wsX7_place (wsV RX7 256 RX7 yX7_machinesAheadOf wsX7_machinesAheadOf) := goodIn_app (goodIn_of _ (by decide +kernel)) ggX7_place_X7_machinesAheadOf
theorem dX7_place_0 : decode cX7_place 0 = .ok (.iload_n 1, 1) := by decide +kernel
theorem dX7_place_1 : decode cX7_place 1 = .ok (.ifCond .lt 14, 3) := by decide +kernel
theorem dX7_place_4 : decode cX7_place 4 = .ok (.iload_n 2, 1) := by decide +kernel
theorem dX7_place_5 : decode cX7_place 5 = .ok (.iconst 0, 1) := by decide +kernel
theorem dX7_place_6 : decode cX7_place 6 = .ok (.sipush 1000, 3) := by decide +kernel
theorem dX7_place_9 : decode cX7_place 9 = .ok (.invokestatic 72, 3) := by decide +kernel
theorem dX7_place_12 : decode cX7_place 12 = .ok (.ifCond .ne 5, 3) := by decide +kernel
theorem dX7_place_15 : decode cX7_place 15 = .ok (.iconst (-1), 1) := by decide +kernel
theorem dX7_place_16 : decode cX7_place 16 = .ok (.ireturn, 1) := by decide +kernel
theorem dX7_place_17 : decode cX7_place 17 = .ok (.iconst 0, 1) := by decide +kernel
theorem dX7_place_18 : decode cX7_place 18 = .ok (.istore_n 3, 1) := by decide +kernel
theorem dX7_place_19 : decode cX7_place 19 = .ok (.iload_n 3, 1) := by decide +kernel
theorem dX7_place_20 : decode cX7_place 20 = .ok (.aload_n 0, 1) := by decide +kernel
theorem dX7_place_21 : decode cX7_place 21 = .ok (.getfield 19, 3) := by decide +kernel
theorem dX7_place_24 : decode cX7_place 24 = .ok (.invokevirtual 111, 3) := by decide +kernel
theorem dX7_place_27 : decode cX7_place 27 = .ok (.if_icmp .ge 21, 3) := by decide +kernel
theorem dX7_place_30 : decode cX7_place 30 = .ok (.aload_n 0, 1) := by decide +kernel
theorem dX7_place_31 : decode cX7_place 31 = .ok (.getfield 64, 3) := by decide +kernel
theorem dX7_place_34 : decode cX7_place 34 = .ok (.iload_n 3, 1) := by decide +kernel
theorem dX7_place_35 : decode cX7_place 35 = .ok (.aload_n 0, 1) := by decide +kernel
theorem dX7_place_36 : decode cX7_place 36 = .ok (.iload_n 3, 1) := by decide +kernel
theorem dX7_place_37 : decode cX7_place 37 = .ok (.iload_n 2, 1) := by decide +kernel
theorem dX7_place_38 : decode cX7_place 38 = .ok (.invokevirtual 253, 3) := by decide +kernel
theorem dX7_place_41 : decode cX7_place 41 = .ok (.iastore, 1) := by decide +kernel
theorem dX7_place_42 : decode cX7_place 42 = .ok (.iinc 3 1, 3) := by decide +kernel
theorem dX7_place_45 : decode cX7_place 45 = .ok (.goto (-26), 3) := by decide +kernel
theorem dX7_place_48 : decode cX7_place 48 = .ok (.iconst 0, 1) := by decide +kernel
theorem dX7_place_49 : decode cX7_place 49 = .ok (.istore_n 3, 1) := by decide +kernel
theorem dX7_place_50 : decode cX7_place 50 = .ok (.iload_n 3, 1) := by decide +kernel
theorem dX7_place_51 : decode cX7_place 51 = .ok (.aload_n 0, 1) := by decide +kernel
theorem dX7_place_52 : decode cX7_place 52 = .ok (.getfield 19, 3) := by decide +kernel
theorem dX7_place_55 : decode cX7_place 55 = .ok (.invokevirtual 111, 3) := by decide +kernel
theorem dX7_place_58 : decode cX7_place 58 = .ok (.if_icmp .ge 20, 3) := by decide +kernel
theorem dX7_place_61 : decode cX7_place 61 = .ok (.aload_n 0, 1) := by decide +kernel
theorem dX7_place_62 : decode cX7_place 62 = .ok (.iload_n 3, 1) := by decide +kernel
theorem dX7_place_63 : decode cX7_place 63 = .ok (.invokevirtual 256, 3) := by decide +kernel
theorem dX7_place_66 : decode cX7_place 66 = .ok (.iload_n 1, 1) := by decide +kernel
theorem dX7_place_67 : decode cX7_place 67 = .ok (.if_icmp .ne 5, 3) := by decide +kernel
theorem dX7_place_70 : decode cX7_place 70 = .ok (.iload_n 3, 1) := by decide +kernel
theorem dX7_place_71 : decode cX7_place 71 = .ok (.ireturn, 1) := by decide +kernel
theorem dX7_place_72 : decode cX7_place 72 = .ok (.iinc 3 1, 3) := by decide +kernel
theorem dX7_place_75 : decode cX7_place 75 = .ok (.goto (-25), 3) := by decide +kernel
theorem dX7_place_78 : decode cX7_place 78 = .ok (.bipush (-4), 2) := by decide +kernel
theorem dX7_place_80 : decode cX7_place 80 = .ok (.ireturn, 1) := by decide +kernel
set_option maxRecDepth 20000 in
theorem ggX7_count_X2_many : GoodIn wsX7_count wsX2_many := goodIn_r _ [8, 9, 211, 212, 213, 214] (by decide +kernel) (by decide +kernel)
set_option maxRecDepth 20000 in
theorem gX7_count_X2_many : GoodIn wsX7_count (wsV RX7 111 RX2 yX2_many wsX2_many) := goodIn_app (goodIn_of _ (by decide +kernel)) ggX7_count_X2_many
set_option maxRecDepth 20000 in
theorem ggX7_count_X1_unlikeMachines : GoodIn wsX7_count wsX1_unlikeMachines := goodIn_r _ [14, 15, 5, 6, 7, 8, 9, 16, 17, 18, 13, 19, 20, 21, 22, 23, 24, 25, 26, 27, 28, 29, 30, 31, 32, 33, 34, 35, 36, 37, 38, 39, 40, 41, 42, 43, 44, 45, 46, 47, 48, 49, 50, 51, 211, 212, 213, 214, 215] (by decide +kernel) (by decide +kernel)
set_option maxRecDepth 20000 in
theorem gX7_count_X1_unlikeMachines : GoodIn wsX7_count (wsV RX7 259 RX1 yX1_unlikeMachines wsX1_unlikeMachines) := goodIn_app (goodIn_of _ (by decide +kernel)) ggX7_count_X1_unlikeMachines
set_option maxRecDepth 20000 in
theorem ggX7_count_X7_restingPairs : GoodIn wsX7_count wsX7_restingPairs := goodIn_r _ [56, 1, 57, 58, 4, 5, 6, 7, 8, 9, 59, 60, 61, 62, 63, 64, 65, 66, 67, 68, 69, 70, 71, 72, 31, 73, 74, 75, 76, 77, 78, 79, 80, 81, 45, 46, 47, 48, 82, 40, 41, 42, 43, 83, 84, 85, 86, 87, 88, 89, 90, 91, 92, 93, 94, 95, 96, 97, 98, 99, 100, 101, 102, 103, 104, 105, 106, 107, 108, 109, 110, 111, 112, 113, 114, 115, 116, 117, 118, 119, 120, 121, 122, 123, 124, 125, 126, 127, 128, 129, 130, 131, 132, 133, 134, 135, 136, 137, 138, 139, 140, 141, 142, 143, 144, 145, 146, 147, 148, 149, 150, 151, 152, 153, 154, 155, 156, 157, 158, 159, 160, 161, 162, 163, 164, 165, 166, 167, 168, 55, 169, 170, 171, 172, 173, 174, 175, 176, 30, 32, 177, 178, 179, 180, 181, 182, 183, 184, 185, 186, 187, 188, 189, 201, 202, 203, 204, 205, 206, 207, 208, 209, 210, 211, 212, 213, 214, 216, 217, 218, 219, 220, 221, 222, 223, 224, 225, 226, 227, 228, 229, 230, 231] (by decide +kernel) (by decide +kernel)
set_option maxRecDepth 20000 in
theorem gX7_count_X7_restingPairs : GoodIn wsX7_count (wsV RX7 263 RX7 yX7_restingPairs wsX7_restingPairs) := goodIn_app (goodIn_of _ (by decide +kernel)) ggX7_count_X7_restingPairs
set_option maxRecDepth 20000 in
theorem ggX7_count_X5_isThere : GoodIn wsX7_count wsX5_isThere := goodIn_r _ [194, 195, 232, 233, 234] (by decide +kernel) (by decide +kernel)
set_option maxRecDepth 20000 in
theorem gX7_count_X5_isThere : GoodIn wsX7_count (wsV RX7 127 RX5 yX5_isThere wsX5_isThere) := goodIn_app (goodIn_of _ (by decide +kernel)) ggX7_count_X5_isThere
set_option maxRecDepth 20000 in
theorem ggX7_count_X5_cellsOf : GoodIn wsX7_count wsX5_cellsOf := goodIn_r _ [199, 200, 232, 233, 234] (by decide +kernel) (by decide +kernel)
set_option maxRecDepth 20000 in
theorem gX7_count_X5_cellsOf : GoodIn wsX7_count (wsV RX7 266 RX5 yX5_cellsOf wsX5_cellsOf) := goodIn_app (goodIn_of _ (by decide +kernel)) ggX7_count_X5_cellsOf
theorem dX7_count_0 : decode cX7_count 0 = .ok (.iload_n 1, 1) := by decide +kernel
theorem dX7_count_1 : decode cX7_count 1 = .ok (.tableswitch 81 0 3 #[31, 39, 51, 56], 31) := by decide +kernel
theorem dX7_count_32 : decode cX7_count 32 = .ok (.aload_n 0, 1) := by decide +kernel
theorem dX7_count_33 : decode cX7_count 33 = .ok (.getfield 19, 3) := by decide +kernel
theorem dX7_count_36 : decode cX7_count 36 = .ok (.invokevirtual 111, 3) := by decide +kernel
theorem dX7_count_39 : decode cX7_count 39 = .ok (.ireturn, 1) := by decide +kernel
theorem dX7_count_40 : decode cX7_count 40 = .ok (.aload_n 0, 1) := by decide +kernel
theorem dX7_count_41 : decode cX7_count 41 = .ok (.getfield 33, 3) := by decide +kernel
theorem dX7_count_44 : decode cX7_count 44 = .ok (.aload_n 0, 1) := by decide +kernel
theorem dX7_count_45 : decode cX7_count 45 = .ok (.getfield 19, 3) := by decide +kernel
theorem dX7_count_48 : decode cX7_count 48 = .ok (.invokevirtual 259, 3) := by decide +kernel
theorem dX7_count_51 : decode cX7_count 51 = .ok (.ireturn, 1) := by decide +kernel
theorem dX7_count_52 : decode cX7_count 52 = .ok (.aload_n 0, 1) := by decide +kernel
theorem dX7_count_53 : decode cX7_count 53 = .ok (.invokevirtual 263, 3) := by decide +kernel
theorem dX7_count_56 : decode cX7_count 56 = .ok (.ireturn, 1) := by decide +kernel
theorem dX7_count_57 : decode cX7_count 57 = .ok (.aload_n 0, 1) := by decide +kernel
theorem dX7_count_58 : decode cX7_count 58 = .ok (.getfield 26, 3) := by decide +kernel
theorem dX7_count_61 : decode cX7_count 61 = .ok (.iconst 0, 1) := by decide +kernel
theorem dX7_count_62 : decode cX7_count 62 = .ok (.invokevirtual 127, 3) := by decide +kernel
theorem dX7_count_65 : decode cX7_count 65 = .ok (.ifCond .eq 14, 3) := by decide +kernel
theorem dX7_count_68 : decode cX7_count 68 = .ok (.aload_n 0, 1) := by decide +kernel
theorem dX7_count_69 : decode cX7_count 69 = .ok (.getfield 26, 3) := by decide +kernel
theorem dX7_count_72 : decode cX7_count 72 = .ok (.iconst 0, 1) := by decide +kernel
theorem dX7_count_73 : decode cX7_count 73 = .ok (.invokevirtual 266, 3) := by decide +kernel
theorem dX7_count_76 : decode cX7_count 76 = .ok (.goto 5, 3) := by decide +kernel
theorem dX7_count_79 : decode cX7_count 79 = .ok (.bipush (-4), 2) := by decide +kernel
theorem dX7_count_81 : decode cX7_count 81 = .ok (.ireturn, 1) := by decide +kernel
theorem dX7_count_82 : decode cX7_count 82 = .ok (.iconst (-1), 1) := by decide +kernel
theorem dX7_count_83 : decode cX7_count 83 = .ok (.ireturn, 1) := by decide +kernel
theorem dX7_within_0 : decode cX7_within 0 = .ok (.iload_n 0, 1) := by decide +kernel
theorem dX7_within_1 : decode cX7_within 1 = .ok (.iload_n 1, 1) := by decide +kernel
theorem dX7_within_2 : decode cX7_within 2 = .ok (.if_icmp .lt 12, 3) := by decide +kernel
theorem dX7_within_5 : decode cX7_within 5 = .ok (.iload_n 0, 1) := by decide +kernel
theorem dX7_within_6 : decode cX7_within 6 = .ok (.iload_n 2, 1) := by decide +kernel
theorem dX7_within_7 : decode cX7_within 7 = .ok (.if_icmp .gt 7, 3) := by decide +kernel
theorem dX7_within_10 : decode cX7_within 10 = .ok (.iconst 1, 1) := by decide +kernel
theorem dX7_within_11 : decode cX7_within 11 = .ok (.goto 4, 3) := by decide +kernel
theorem dX7_within_14 : decode cX7_within 14 = .ok (.iconst 0, 1) := by decide +kernel
theorem dX7_within_15 : decode cX7_within 15 = .ok (.ireturn, 1) := by decide +kernel
set_option maxRecDepth 20000 in
theorem ggX7_isAction_X7_within : GoodIn wsX7_isAction wsX7_within := goodIn_r _ [4] (by decide +kernel) (by decide +kernel)
set_option maxRecDepth 20000 in
theorem gX7_isAction_X7_within : GoodIn wsX7_isAction (va_wsS RX7 72 yX7_within wsX7_within) := goodIn_app (goodIn_of _ (by decide +kernel)) ggX7_isAction_X7_within
theorem dX7_isAction_0 : decode cX7_isAction 0 = .ok (.iload_n 0, 1) := by decide +kernel
theorem dX7_isAction_1 : decode cX7_isAction 1 = .ok (.iconst 0, 1) := by decide +kernel
theorem dX7_isAction_2 : decode cX7_isAction 2 = .ok (.iconst 2, 1) := by decide +kernel
theorem dX7_isAction_3 : decode cX7_isAction 3 = .ok (.invokestatic 72, 3) := by decide +kernel
theorem dX7_isAction_6 : decode cX7_isAction 6 = .ok (.ireturn, 1) := by decide +kernel
theorem dX7_oneIf_0 : decode cX7_oneIf 0 = .ok (.iload_n 0, 1) := by decide +kernel
theorem dX7_oneIf_1 : decode cX7_oneIf 1 = .ok (.ifCond .eq 7, 3) := by decide +kernel
theorem dX7_oneIf_4 : decode cX7_oneIf 4 = .ok (.iconst 1, 1) := by decide +kernel
theorem dX7_oneIf_5 : decode cX7_oneIf 5 = .ok (.goto 4, 3) := by decide +kernel
theorem dX7_oneIf_8 : decode cX7_oneIf 8 = .ok (.iconst 0, 1) := by decide +kernel
theorem dX7_oneIf_9 : decode cX7_oneIf 9 = .ok (.ireturn, 1) := by decide +kernel
set_option maxRecDepth 20000 in
theorem ggX7_areMachines_X2_has : GoodIn wsX7_areMachines wsX2_has := goodIn_r _ [6, 7, 18, 19, 20, 21] (by decide +kernel) (by decide +kernel)
set_option maxRecDepth 20000 in
theorem gX7_areMachines_X2_has : GoodIn wsX7_areMachines (wsV RX7 201 RX2 yX2_has wsX2_has) := goodIn_app (goodIn_of _ (by decide +kernel)) ggX7_areMachines_X2_has
theorem dX7_areMachines_0 : decode cX7_areMachines 0 = .ok (.aload_n 0, 1) := by decide +kernel
theorem dX7_areMachines_1 : decode cX7_areMachines 1 = .ok (.getfield 19, 3) := by decide +kernel
theorem dX7_areMachines_4 : decode cX7_areMachines 4 = .ok (.iload_n 1, 1) := by decide +kernel
theorem dX7_areMachines_5 : decode cX7_areMachines 5 = .ok (.invokevirtual 201, 3) := by decide +kernel
theorem dX7_areMachines_8 : decode cX7_areMachines 8 = .ok (.ifCond .eq 18, 3) := by decide +kernel
theorem dX7_areMachines_11 : decode cX7_areMachines 11 = .ok (.aload_n 0, 1) := by decide +kernel
theorem dX7_areMachines_12 : decode cX7_areMachines 12 = .ok (.getfield 19, 3) := by decide +kernel
theorem dX7_areMachines_15 : decode cX7_areMachines 15 = .ok (.iload_n 2, 1) := by decide +kernel
theorem dX7_areMachines_16 : decode cX7_areMachines 16 = .ok (.invokevirtual 201, 3) := by decide +kernel
theorem dX7_areMachines_19 : decode cX7_areMachines 19 = .ok (.ifCond .eq 7, 3) := by decide +kernel
theorem dX7_areMachines_22 : decode cX7_areMachines 22 = .ok (.iconst 1, 1) := by decide +kernel
theorem dX7_areMachines_23 : decode cX7_areMachines 23 = .ok (.goto 4, 3) := by decide +kernel
theorem dX7_areMachines_26 : decode cX7_areMachines 26 = .ok (.iconst 0, 1) := by decide +kernel
theorem dX7_areMachines_27 : decode cX7_areMachines 27 = .ok (.ireturn, 1) := by decide +kernel
set_option maxRecDepth 20000 in
theorem ggX7_cellFault_X5_hasCell : GoodIn wsX7_cellFault wsX5_hasCell := goodIn_r _ [6, 7, 27, 28, 29] (by decide +kernel) (by decide +kernel)
set_option maxRecDepth 20000 in
theorem gX7_cellFault_X5_hasCell : GoodIn wsX7_cellFault (wsV RX7 130 RX5 yX5_hasCell wsX5_hasCell) := goodIn_app (goodIn_of _ (by decide +kernel)) ggX7_cellFault_X5_hasCell
set_option maxRecDepth 20000 in
theorem ggX7_cellFault_X5_cell : GoodIn wsX7_cellFault wsX5_cell := goodIn_r _ [11, 12, 27, 28, 29] (by decide +kernel) (by decide +kernel)
set_option maxRecDepth 20000 in
theorem gX7_cellFault_X5_cell : GoodIn wsX7_cellFault (wsV RX7 269 RX5 yX5_cell wsX5_cell) := goodIn_app (goodIn_of _ (by decide +kernel)) ggX7_cellFault_X5_cell
set_option maxRecDepth 20000 in
theorem ggX7_cellFault_X7_within : GoodIn wsX7_cellFault wsX7_within := goodIn_r _ [16] (by decide +kernel) (by decide +kernel)
set_option maxRecDepth 20000 in
theorem gX7_cellFault_X7_within : GoodIn wsX7_cellFault (va_wsS RX7 72 yX7_within wsX7_within) := goodIn_app (goodIn_of _ (by decide +kernel)) ggX7_cellFault_X7_within
theorem dX7_cellFault_0 : decode cX7_cellFault 0 = .ok (.iconst 0, 1) := by decide +kernel
theorem dX7_cellFault_1 : decode cX7_cellFault 1 = .ok (.istore 4, 2) := by decide +kernel
theorem dX7_cellFault_3 : decode cX7_cellFault 3 = .ok (.iload 4, 2) := by decide +kernel
theorem dX7_cellFault_5 : decode cX7_cellFault 5 = .ok (.iconst 4, 1) := by decide +kernel
theorem dX7_cellFault_6 : decode cX7_cellFault 6 = .ok (.iload_n 3, 1) := by decide +kernel
theorem dX7_cellFault_7 : decode cX7_cellFault 7 = .ok (.imul, 1) := by decide +kernel
theorem dX7_cellFault_8 : decode cX7_cellFault 8 = .ok (.if_icmp .ge 70, 3) := by decide +kernel
theorem dX7_cellFault_11 : decode cX7_cellFault 11 = .ok (.aload_n 0, 1) := by decide +kernel
theorem dX7_cellFault_12 : decode cX7_cellFault 12 = .ok (.getfield 26, 3) := by decide +kernel
theorem dX7_cellFault_15 : decode cX7_cellFault 15 = .ok (.iload_n 1, 1) := by decide +kernel
theorem dX7_cellFault_16 : decode cX7_cellFault 16 = .ok (.iload_n 2, 1) := by decide +kernel
theorem dX7_cellFault_17 : decode cX7_cellFault 17 = .ok (.iload 4, 2) := by decide +kernel
theorem dX7_cellFault_19 : decode cX7_cellFault 19 = .ok (.iadd, 1) := by decide +kernel
theorem dX7_cellFault_20 : decode cX7_cellFault 20 = .ok (.invokevirtual 130, 3) := by decide +kernel
theorem dX7_cellFault_23 : decode cX7_cellFault 23 = .ok (.ifCond .ne 6, 3) := by decide +kernel
theorem dX7_cellFault_26 : decode cX7_cellFault 26 = .ok (.bipush (-12), 2) := by decide +kernel
theorem dX7_cellFault_28 : decode cX7_cellFault 28 = .ok (.ireturn, 1) := by decide +kernel
theorem dX7_cellFault_29 : decode cX7_cellFault 29 = .ok (.iload 4, 2) := by decide +kernel
theorem dX7_cellFault_31 : decode cX7_cellFault 31 = .ok (.iconst 4, 1) := by decide +kernel
theorem dX7_cellFault_32 : decode cX7_cellFault 32 = .ok (.irem, 1) := by decide +kernel
theorem dX7_cellFault_33 : decode cX7_cellFault 33 = .ok (.ifCond .ne 7, 3) := by decide +kernel
theorem dX7_cellFault_36 : decode cX7_cellFault 36 = .ok (.iconst 2, 1) := by decide +kernel
theorem dX7_cellFault_37 : decode cX7_cellFault 37 = .ok (.goto 6, 3) := by decide +kernel
theorem dX7_cellFault_40 : decode cX7_cellFault 40 = .ok (.iload_n 3, 1) := by decide +kernel
theorem dX7_cellFault_41 : decode cX7_cellFault 41 = .ok (.iconst 1, 1) := by decide +kernel
theorem dX7_cellFault_42 : decode cX7_cellFault 42 = .ok (.isub, 1) := by decide +kernel
theorem dX7_cellFault_43 : decode cX7_cellFault 43 = .ok (.istore 5, 2) := by decide +kernel
theorem dX7_cellFault_45 : decode cX7_cellFault 45 = .ok (.aload_n 0, 1) := by decide +kernel
theorem dX7_cellFault_46 : decode cX7_cellFault 46 = .ok (.getfield 26, 3) := by decide +kernel
theorem dX7_cellFault_49 : decode cX7_cellFault 49 = .ok (.iload_n 1, 1) := by decide +kernel
theorem dX7_cellFault_50 : decode cX7_cellFault 50 = .ok (.iload_n 2, 1) := by decide +kernel
theorem dX7_cellFault_51 : decode cX7_cellFault 51 = .ok (.iload 4, 2) := by decide +kernel
theorem dX7_cellFault_53 : decode cX7_cellFault 53 = .ok (.iadd, 1) := by decide +kernel
theorem dX7_cellFault_54 : decode cX7_cellFault 54 = .ok (.invokevirtual 269, 3) := by decide +kernel
theorem dX7_cellFault_57 : decode cX7_cellFault 57 = .ok (.iconst 0, 1) := by decide +kernel
theorem dX7_cellFault_58 : decode cX7_cellFault 58 = .ok (.iload 5, 2) := by decide +kernel
theorem dX7_cellFault_60 : decode cX7_cellFault 60 = .ok (.invokestatic 72, 3) := by decide +kernel
theorem dX7_cellFault_63 : decode cX7_cellFault 63 = .ok (.ifCond .ne 9, 3) := by decide +kernel
theorem dX7_cellFault_66 : decode cX7_cellFault 66 = .ok (.bipush (-20), 2) := by decide +kernel
theorem dX7_cellFault_68 : decode cX7_cellFault 68 = .ok (.iload 4, 2) := by decide +kernel
theorem dX7_cellFault_70 : decode cX7_cellFault 70 = .ok (.isub, 1) := by decide +kernel
theorem dX7_cellFault_71 : decode cX7_cellFault 71 = .ok (.ireturn, 1) := by decide +kernel
theorem dX7_cellFault_72 : decode cX7_cellFault 72 = .ok (.iinc 4 1, 3) := by decide +kernel
theorem dX7_cellFault_75 : decode cX7_cellFault 75 = .ok (.goto (-72), 3) := by decide +kernel
theorem dX7_cellFault_78 : decode cX7_cellFault 78 = .ok (.iconst 0, 1) := by decide +kernel
theorem dX7_cellFault_79 : decode cX7_cellFault 79 = .ok (.ireturn, 1) := by decide +kernel
set_option maxRecDepth 20000 in
theorem ggX7_readMachine_X2_add : GoodIn wsX7_readMachine wsX2_add := goodIn_r _ [7, 8, 9, 10, 11, 12, 6, 13, 14, 15, 16, 17, 18, 19, 38, 39, 40, 41] (by decide +kernel) (by decide +kernel)
set_option maxRecDepth 20000 in
theorem gX7_readMachine_X2_add : GoodIn wsX7_readMachine (wsV RX7 88 RX2 yX2_add wsX2_add) := goodIn_app (goodIn_of _ (by decide +kernel)) ggX7_readMachine_X2_add
set_option maxRecDepth 20000 in
theorem ggX7_readMachine_X5_cell : GoodIn wsX7_readMachine wsX5_cell := goodIn_r _ [24, 25, 42, 43, 44] (by decide +kernel) (by decide +kernel)
set_option maxRecDepth 20000 in
theorem gX7_readMachine_X5_cell : GoodIn wsX7_readMachine (wsV RX7 269 RX5 yX5_cell wsX5_cell) := goodIn_app (goodIn_of _ (by decide +kernel)) ggX7_readMachine_X5_cell
set_option maxRecDepth 20000 in
theorem ggX7_readMachine_X2_setAction : GoodIn wsX7_readMachine wsX2_setAction := goodIn_r _ [13, 14, 38, 39, 40, 41] (by decide +kernel) (by decide +kernel)
set_option maxRecDepth 20000 in
theorem gX7_readMachine_X2_setAction : GoodIn wsX7_readMachine (wsV RX7 96 RX2 yX2_setAction wsX2_setAction) := goodIn_app (goodIn_of _ (by decide +kernel)) ggX7_readMachine_X2_setAction
set_option maxRecDepth 20000 in
theorem ggX7_readMachine_X2_setNext : GoodIn wsX7_readMachine wsX2_setNext := goodIn_r _ [18, 19, 38, 39, 40, 41] (by decide +kernel) (by decide +kernel)
set_option maxRecDepth 20000 in
theorem gX7_readMachine_X2_setNext : GoodIn wsX7_readMachine (wsV RX7 99 RX2 yX2_setNext wsX2_setNext) := goodIn_app (goodIn_of _ (by decide +kernel)) ggX7_readMachine_X2_setNext
theorem dX7_readMachine_0 : decode cX7_readMachine 0 = .ok (.aload_n 0, 1) := by decide +kernel
theorem dX7_readMachine_1 : decode cX7_readMachine 1 = .ok (.getfield 19, 3) := by decide +kernel
theorem dX7_readMachine_4 : decode cX7_readMachine 4 = .ok (.iload_n 3, 1) := by decide +kernel
theorem dX7_readMachine_5 : decode cX7_readMachine 5 = .ok (.invokevirtual 88, 3) := by decide +kernel
theorem dX7_readMachine_8 : decode cX7_readMachine 8 = .ok (.istore 4, 2) := by decide +kernel
theorem dX7_readMachine_10 : decode cX7_readMachine 10 = .ok (.iconst 0, 1) := by decide +kernel
theorem dX7_readMachine_11 : decode cX7_readMachine 11 = .ok (.istore 5, 2) := by decide +kernel
theorem dX7_readMachine_13 : decode cX7_readMachine 13 = .ok (.iload 5, 2) := by decide +kernel
theorem dX7_readMachine_15 : decode cX7_readMachine 15 = .ok (.iload_n 3, 1) := by decide +kernel
theorem dX7_readMachine_16 : decode cX7_readMachine 16 = .ok (.if_icmp .ge 81, 3) := by decide +kernel
theorem dX7_readMachine_19 : decode cX7_readMachine 19 = .ok (.iload_n 2, 1) := by decide +kernel
theorem dX7_readMachine_20 : decode cX7_readMachine 20 = .ok (.iconst 4, 1) := by decide +kernel
theorem dX7_readMachine_21 : decode cX7_readMachine 21 = .ok (.iload 5, 2) := by decide +kernel
theorem dX7_readMachine_23 : decode cX7_readMachine 23 = .ok (.imul, 1) := by decide +kernel
theorem dX7_readMachine_24 : decode cX7_readMachine 24 = .ok (.iadd, 1) := by decide +kernel
theorem dX7_readMachine_25 : decode cX7_readMachine 25 = .ok (.istore 6, 2) := by decide +kernel
theorem dX7_readMachine_27 : decode cX7_readMachine 27 = .ok (.aload_n 0, 1) := by decide +kernel
theorem dX7_readMachine_28 : decode cX7_readMachine 28 = .ok (.getfield 19, 3) := by decide +kernel
theorem dX7_readMachine_31 : decode cX7_readMachine 31 = .ok (.iload 4, 2) := by decide +kernel
theorem dX7_readMachine_33 : decode cX7_readMachine 33 = .ok (.iload 5, 2) := by decide +kernel
theorem dX7_readMachine_35 : decode cX7_readMachine 35 = .ok (.aload_n 0, 1) := by decide +kernel
theorem dX7_readMachine_36 : decode cX7_readMachine 36 = .ok (.getfield 26, 3) := by decide +kernel
theorem dX7_readMachine_39 : decode cX7_readMachine 39 = .ok (.iload_n 1, 1) := by decide +kernel
theorem dX7_readMachine_40 : decode cX7_readMachine 40 = .ok (.iload 6, 2) := by decide +kernel
theorem dX7_readMachine_42 : decode cX7_readMachine 42 = .ok (.invokevirtual 269, 3) := by decide +kernel
theorem dX7_readMachine_45 : decode cX7_readMachine 45 = .ok (.invokevirtual 96, 3) := by decide +kernel
theorem dX7_readMachine_48 : decode cX7_readMachine 48 = .ok (.iconst 0, 1) := by decide +kernel
theorem dX7_readMachine_49 : decode cX7_readMachine 49 = .ok (.istore 7, 2) := by decide +kernel
theorem dX7_readMachine_51 : decode cX7_readMachine 51 = .ok (.iload 7, 2) := by decide +kernel
theorem dX7_readMachine_53 : decode cX7_readMachine 53 = .ok (.iconst 3, 1) := by decide +kernel
theorem dX7_readMachine_54 : decode cX7_readMachine 54 = .ok (.if_icmp .ge 37, 3) := by decide +kernel
theorem dX7_readMachine_57 : decode cX7_readMachine 57 = .ok (.aload_n 0, 1) := by decide +kernel
theorem dX7_readMachine_58 : decode cX7_readMachine 58 = .ok (.getfield 19, 3) := by decide +kernel
theorem dX7_readMachine_61 : decode cX7_readMachine 61 = .ok (.iload 4, 2) := by decide +kernel
theorem dX7_readMachine_63 : decode cX7_readMachine 63 = .ok (.iload 5, 2) := by decide +kernel
theorem dX7_readMachine_65 : decode cX7_readMachine 65 = .ok (.iload 7, 2) := by decide +kernel
theorem dX7_readMachine_67 : decode cX7_readMachine 67 = .ok (.aload_n 0, 1) := by decide +kernel
theorem dX7_readMachine_68 : decode cX7_readMachine 68 = .ok (.getfield 26, 3) := by decide +kernel
theorem dX7_readMachine_71 : decode cX7_readMachine 71 = .ok (.iload_n 1, 1) := by decide +kernel
theorem dX7_readMachine_72 : decode cX7_readMachine 72 = .ok (.iload 6, 2) := by decide +kernel
theorem dX7_readMachine_74 : decode cX7_readMachine 74 = .ok (.iconst 1, 1) := by decide +kernel
theorem dX7_readMachine_75 : decode cX7_readMachine 75 = .ok (.iadd, 1) := by decide +kernel
theorem dX7_readMachine_76 : decode cX7_readMachine 76 = .ok (.iload 7, 2) := by decide +kernel
theorem dX7_readMachine_78 : decode cX7_readMachine 78 = .ok (.iadd, 1) := by decide +kernel
theorem dX7_readMachine_79 : decode cX7_readMachine 79 = .ok (.invokevirtual 269, 3) := by decide +kernel
theorem dX7_readMachine_82 : decode cX7_readMachine 82 = .ok (.invokevirtual 99, 3) := by decide +kernel
theorem dX7_readMachine_85 : decode cX7_readMachine 85 = .ok (.iinc 7 1, 3) := by decide +kernel
theorem dX7_readMachine_88 : decode cX7_readMachine 88 = .ok (.goto (-37), 3) := by decide +kernel
theorem dX7_readMachine_91 : decode cX7_readMachine 91 = .ok (.iinc 5 1, 3) := by decide +kernel
theorem dX7_readMachine_94 : decode cX7_readMachine 94 = .ok (.goto (-81), 3) := by decide +kernel
theorem dX7_readMachine_97 : decode cX7_readMachine 97 = .ok (.iload 4, 2) := by decide +kernel
theorem dX7_readMachine_99 : decode cX7_readMachine 99 = .ok (.ireturn, 1) := by decide +kernel
set_option maxRecDepth 20000 in
theorem ggX7_playOut_X6_takeMatch : GoodIn wsX7_playOut wsX6_takeMatch := goodIn_r _ [8, 9, 10, 11, 12, 13, 14, 15, 16, 17, 18, 19, 20, 21, 22, 23, 7, 24, 25, 26, 27, 28, 29, 30, 31, 32, 33, 34, 35, 58, 59, 60, 61, 62, 63, 64, 65, 66, 67, 68, 69, 70] (by decide +kernel) (by decide +kernel)
set_option maxRecDepth 20000 in
theorem gX7_playOut_X6_takeMatch : GoodIn wsX7_playOut (wsV RX7 272 RX6 yX6_takeMatch wsX6_takeMatch) := goodIn_app (goodIn_of _ (by decide +kernel)) ggX7_playOut_X6_takeMatch
set_option maxRecDepth 20000 in
theorem ggX7_playOut_X6_startAt : GoodIn wsX7_playOut wsX6_startAt := goodIn_r _ [39, 40, 41, 9, 42, 43, 44, 45, 46, 47, 58, 59, 60, 61, 62, 63] (by decide +kernel) (by decide +kernel)
set_option maxRecDepth 20000 in
theorem gX7_playOut_X6_startAt : GoodIn wsX7_playOut (wsV RX7 275 RX6 yX6_startAt wsX6_startAt) := goodIn_app (goodIn_of _ (by decide +kernel)) ggX7_playOut_X6_startAt
theorem dX7_playOut_0 : decode cX7_playOut 0 = .ok (.aload_n 0, 1) := by decide +kernel
theorem dX7_playOut_1 : decode cX7_playOut 1 = .ok (.getfield 47, 3) := by decide +kernel
theorem dX7_playOut_4 : decode cX7_playOut 4 = .ok (.aload_n 0, 1) := by decide +kernel
theorem dX7_playOut_5 : decode cX7_playOut 5 = .ok (.getfield 10, 3) := by decide +kernel
theorem dX7_playOut_8 : decode cX7_playOut 8 = .ok (.aload_n 0, 1) := by decide +kernel
theorem dX7_playOut_9 : decode cX7_playOut 9 = .ok (.getfield 19, 3) := by decide +kernel
theorem dX7_playOut_12 : decode cX7_playOut 12 = .ok (.iload_n 1, 1) := by decide +kernel
theorem dX7_playOut_13 : decode cX7_playOut 13 = .ok (.iload_n 2, 1) := by decide +kernel
theorem dX7_playOut_14 : decode cX7_playOut 14 = .ok (.invokevirtual 272, 3) := by decide +kernel
theorem dX7_playOut_17 : decode cX7_playOut 17 = .ok (.aload_n 0, 1) := by decide +kernel
theorem dX7_playOut_18 : decode cX7_playOut 18 = .ok (.getfield 47, 3) := by decide +kernel
theorem dX7_playOut_21 : decode cX7_playOut 21 = .ok (.iconst 0, 1) := by decide +kernel
theorem dX7_playOut_22 : decode cX7_playOut 22 = .ok (.invokevirtual 275, 3) := by decide +kernel
theorem dX7_playOut_25 : decode cX7_playOut 25 = .ok (.return_, 1) := by decide +kernel
set_option maxRecDepth 20000 in
theorem ggX7_gainsOf_X7_playOut : GoodIn wsX7_gainsOf wsX7_playOut := goodIn_r _ [6, 1, 7, 8, 9, 10, 11, 12, 13, 14, 15, 16, 17, 18, 19, 20, 21, 22, 23, 24, 25, 26, 27, 28, 29, 30, 31, 32, 33, 34, 35, 36, 37, 38, 39, 40, 41, 42, 43, 44, 45, 46, 47, 48, 49, 50, 51, 52, 69, 70, 71, 72, 73, 74, 75, 76, 77, 78, 79, 80, 81, 82, 83, 84, 85, 86, 87, 88, 89, 90, 91] (by decide +kernel) (by decide +kernel)
set_option maxRecDepth 20000 in
theorem gX7_gainsOf_X7_playOut : GoodIn wsX7_gainsOf (wsV RX7 148 RX7 yX7_playOut wsX7_playOut) := goodIn_app (goodIn_of _ (by decide +kernel)) ggX7_gainsOf_X7_playOut
set_option maxRecDepth 20000 in
theorem ggX7_gainsOf_X6_gainsOfFirst : GoodIn wsX7_gainsOf wsX6_gainsOfFirst := goodIn_r _ [56, 47, 48, 57, 58, 59, 12, 60, 15, 46, 61, 62, 63, 64, 65, 66, 67, 68, 79, 80, 81, 82, 83, 84] (by decide +kernel) (by decide +kernel)
set_option maxRecDepth 20000 in
theorem gX7_gainsOf_X6_gainsOfFirst : GoodIn wsX7_gainsOf (wsV RX7 279 RX6 yX6_gainsOfFirst wsX6_gainsOfFirst) := goodIn_app (goodIn_of _ (by decide +kernel)) ggX7_gainsOf_X6_gainsOfFirst
theorem dX7_gainsOf_0 : decode cX7_gainsOf 0 = .ok (.aload_n 0, 1) := by decide +kernel
theorem dX7_gainsOf_1 : decode cX7_gainsOf 1 = .ok (.iload_n 1, 1) := by decide +kernel
theorem dX7_gainsOf_2 : decode cX7_gainsOf 2 = .ok (.iload_n 2, 1) := by decide +kernel
theorem dX7_gainsOf_3 : decode cX7_gainsOf 3 = .ok (.invokevirtual 148, 3) := by decide +kernel
theorem dX7_gainsOf_6 : decode cX7_gainsOf 6 = .ok (.aload_n 0, 1) := by decide +kernel
theorem dX7_gainsOf_7 : decode cX7_gainsOf 7 = .ok (.getfield 47, 3) := by decide +kernel
theorem dX7_gainsOf_10 : decode cX7_gainsOf 10 = .ok (.iload_n 3, 1) := by decide +kernel
theorem dX7_gainsOf_11 : decode cX7_gainsOf 11 = .ok (.invokevirtual 279, 3) := by decide +kernel
theorem dX7_gainsOf_14 : decode cX7_gainsOf 14 = .ok (.ireturn, 1) := by decide +kernel
set_option maxRecDepth 20000 in
theorem ggX7_matchWorth_X7_playOut : GoodIn wsX7_matchWorth wsX7_playOut := goodIn_r _ [7, 1, 2, 8, 9, 10, 11, 12, 13, 14, 15, 16, 17, 18, 19, 20, 21, 22, 23, 24, 25, 26, 27, 28, 29, 30, 31, 32, 33, 34, 35, 36, 37, 38, 39, 40, 41, 42, 43, 44, 45, 46, 47, 48, 49, 50, 51, 52, 88, 89, 90, 91, 92, 93, 94, 95, 96, 97, 98, 99, 100, 101, 102, 103, 104, 105, 106, 107, 108, 109, 110] (by decide +kernel) (by decide +kernel)
set_option maxRecDepth 20000 in
theorem gX7_matchWorth_X7_playOut : GoodIn wsX7_matchWorth (wsV RX7 148 RX7 yX7_playOut wsX7_playOut) := goodIn_app (goodIn_of _ (by decide +kernel)) ggX7_matchWorth_X7_playOut
set_option maxRecDepth 20000 in
theorem ggX7_matchWorth_X6_worthInto : GoodIn wsX7_matchWorth wsX6_worthInto := goodIn_r _ [56, 48, 47, 57, 58, 59, 38, 60, 61, 62, 63, 64, 65, 66, 67, 68, 12, 69, 70, 71, 72, 73, 15, 46, 74, 75, 76, 77, 78, 79, 80, 81, 82, 83, 84, 85, 86, 87, 98, 99, 100, 101, 102, 103, 108, 109, 110, 111, 112] (by decide +kernel) (by decide +kernel)
set_option maxRecDepth 20000 in
theorem gX7_matchWorth_X6_worthInto : GoodIn wsX7_matchWorth (wsV RX7 282 RX6 yX6_worthInto wsX6_worthInto) := goodIn_app (goodIn_of _ (by decide +kernel)) ggX7_matchWorth_X6_worthInto
theorem dX7_matchWorth_0 : decode cX7_matchWorth 0 = .ok (.aload_n 0, 1) := by decide +kernel
theorem dX7_matchWorth_1 : decode cX7_matchWorth 1 = .ok (.iload_n 1, 1) := by decide +kernel
theorem dX7_matchWorth_2 : decode cX7_matchWorth 2 = .ok (.iload_n 2, 1) := by decide +kernel
theorem dX7_matchWorth_3 : decode cX7_matchWorth 3 = .ok (.invokevirtual 148, 3) := by decide +kernel
theorem dX7_matchWorth_6 : decode cX7_matchWorth 6 = .ok (.aload_n 0, 1) := by decide +kernel
theorem dX7_matchWorth_7 : decode cX7_matchWorth 7 = .ok (.getfield 47, 3) := by decide +kernel
theorem dX7_matchWorth_10 : decode cX7_matchWorth 10 = .ok (.aload_n 0, 1) := by decide +kernel
theorem dX7_matchWorth_11 : decode cX7_matchWorth 11 = .ok (.getfield 10, 3) := by decide +kernel
theorem dX7_matchWorth_14 : decode cX7_matchWorth 14 = .ok (.aload_n 3, 1) := by decide +kernel
theorem dX7_matchWorth_15 : decode cX7_matchWorth 15 = .ok (.invokevirtual 282, 3) := by decide +kernel
theorem dX7_matchWorth_18 : decode cX7_matchWorth 18 = .ok (.return_, 1) := by decide +kernel
set_option maxRecDepth 20000 in
theorem ggX7_placeBehindSlip_X6_mine : GoodIn wsX7_placeBehindSlip wsX6_mine := goodIn_r _ [5] (by decide +kernel) (by decide +kernel)
set_option maxRecDepth 20000 in
theorem gX7_placeBehindSlip_X6_mine : GoodIn wsX7_placeBehindSlip (va_wsS RX7 154 yX6_mine wsX6_mine) := goodIn_app (goodIn_of _ (by decide +kernel)) ggX7_placeBehindSlip_X6_mine
set_option maxRecDepth 20000 in
theorem ggX7_placeBehindSlip_X6_theirs : GoodIn wsX7_placeBehindSlip wsX6_theirs := goodIn_r _ [8] (by decide +kernel) (by decide +kernel)
set_option maxRecDepth 20000 in
theorem gX7_placeBehindSlip_X6_theirs : GoodIn wsX7_placeBehindSlip (va_wsS RX7 243 yX6_theirs wsX6_theirs) := goodIn_app (goodIn_of _ (by decide +kernel)) ggX7_placeBehindSlip_X6_theirs
set_option maxRecDepth 20000 in
theorem ggX7_placeBehindSlip_X2_actionOf : GoodIn wsX7_placeBehindSlip wsX2_actionOf := goodIn_r _ [13, 14, 33, 34, 35, 36] (by decide +kernel) (by decide +kernel)
set_option maxRecDepth 20000 in
theorem gX7_placeBehindSlip_X2_actionOf : GoodIn wsX7_placeBehindSlip (wsV RX7 103 RX2 yX2_actionOf wsX2_actionOf) := goodIn_app (goodIn_of _ (by decide +kernel)) ggX7_placeBehindSlip_X2_actionOf
set_option maxRecDepth 20000 in
theorem ggX7_placeBehindSlip_X2_nextOf : GoodIn wsX7_placeBehindSlip wsX2_nextOf := goodIn_r _ [18, 19, 33, 34, 35, 36] (by decide +kernel) (by decide +kernel)
set_option maxRecDepth 20000 in
theorem gX7_placeBehindSlip_X2_nextOf : GoodIn wsX7_placeBehindSlip (wsV RX7 107 RX2 yX2_nextOf wsX2_nextOf) := goodIn_app (goodIn_of _ (by decide +kernel)) ggX7_placeBehindSlip_X2_nextOf
set_option maxRecDepth 20000 in
theorem ggX7_placeBehindSlip_X6_placeOf : GoodIn wsX7_placeBehindSlip wsX6_placeOf := goodIn_r _ [22] (by decide +kernel) (by decide +kernel)
set_option maxRecDepth 20000 in
theorem gX7_placeBehindSlip_X6_placeOf : GoodIn wsX7_placeBehindSlip (va_wsS RX7 286 yX6_placeOf wsX6_placeOf) := goodIn_app (goodIn_of _ (by decide +kernel)) ggX7_placeBehindSlip_X6_placeOf
theorem dX7_placeBehindSlip_0 : decode cX7_placeBehindSlip 0 = .ok (.iload_n 3, 1) := by decide +kernel
theorem dX7_placeBehindSlip_1 : decode cX7_placeBehindSlip 1 = .ok (.invokestatic 154, 3) := by decide +kernel
theorem dX7_placeBehindSlip_4 : decode cX7_placeBehindSlip 4 = .ok (.istore 4, 2) := by decide +kernel
theorem dX7_placeBehindSlip_6 : decode cX7_placeBehindSlip 6 = .ok (.iload_n 3, 1) := by decide +kernel
theorem dX7_placeBehindSlip_7 : decode cX7_placeBehindSlip 7 = .ok (.invokestatic 243, 3) := by decide +kernel
theorem dX7_placeBehindSlip_10 : decode cX7_placeBehindSlip 10 = .ok (.istore 5, 2) := by decide +kernel
theorem dX7_placeBehindSlip_12 : decode cX7_placeBehindSlip 12 = .ok (.aload_n 0, 1) := by decide +kernel
theorem dX7_placeBehindSlip_13 : decode cX7_placeBehindSlip 13 = .ok (.getfield 19, 3) := by decide +kernel
theorem dX7_placeBehindSlip_16 : decode cX7_placeBehindSlip 16 = .ok (.iload_n 1, 1) := by decide +kernel
theorem dX7_placeBehindSlip_17 : decode cX7_placeBehindSlip 17 = .ok (.iload 4, 2) := by decide +kernel
theorem dX7_placeBehindSlip_19 : decode cX7_placeBehindSlip 19 = .ok (.invokevirtual 103, 3) := by decide +kernel
theorem dX7_placeBehindSlip_22 : decode cX7_placeBehindSlip 22 = .ok (.iconst 1, 1) := by decide +kernel
theorem dX7_placeBehindSlip_23 : decode cX7_placeBehindSlip 23 = .ok (.iadd, 1) := by decide +kernel
theorem dX7_placeBehindSlip_24 : decode cX7_placeBehindSlip 24 = .ok (.iconst 3, 1) := by decide +kernel
theorem dX7_placeBehindSlip_25 : decode cX7_placeBehindSlip 25 = .ok (.irem, 1) := by decide +kernel
theorem dX7_placeBehindSlip_26 : decode cX7_placeBehindSlip 26 = .ok (.istore 6, 2) := by decide +kernel
theorem dX7_placeBehindSlip_28 : decode cX7_placeBehindSlip 28 = .ok (.aload_n 0, 1) := by decide +kernel
theorem dX7_placeBehindSlip_29 : decode cX7_placeBehindSlip 29 = .ok (.getfield 19, 3) := by decide +kernel
theorem dX7_placeBehindSlip_32 : decode cX7_placeBehindSlip 32 = .ok (.iload_n 1, 1) := by decide +kernel
theorem dX7_placeBehindSlip_33 : decode cX7_placeBehindSlip 33 = .ok (.iload 4, 2) := by decide +kernel
theorem dX7_placeBehindSlip_35 : decode cX7_placeBehindSlip 35 = .ok (.aload_n 0, 1) := by decide +kernel
theorem dX7_placeBehindSlip_36 : decode cX7_placeBehindSlip 36 = .ok (.getfield 19, 3) := by decide +kernel
theorem dX7_placeBehindSlip_39 : decode cX7_placeBehindSlip 39 = .ok (.iload_n 2, 1) := by decide +kernel
theorem dX7_placeBehindSlip_40 : decode cX7_placeBehindSlip 40 = .ok (.iload 5, 2) := by decide +kernel
theorem dX7_placeBehindSlip_42 : decode cX7_placeBehindSlip 42 = .ok (.invokevirtual 103, 3) := by decide +kernel
theorem dX7_placeBehindSlip_45 : decode cX7_placeBehindSlip 45 = .ok (.invokevirtual 107, 3) := by decide +kernel
theorem dX7_placeBehindSlip_48 : decode cX7_placeBehindSlip 48 = .ok (.aload_n 0, 1) := by decide +kernel
theorem dX7_placeBehindSlip_49 : decode cX7_placeBehindSlip 49 = .ok (.getfield 19, 3) := by decide +kernel
theorem dX7_placeBehindSlip_52 : decode cX7_placeBehindSlip 52 = .ok (.iload_n 2, 1) := by decide +kernel
theorem dX7_placeBehindSlip_53 : decode cX7_placeBehindSlip 53 = .ok (.iload 5, 2) := by decide +kernel
theorem dX7_placeBehindSlip_55 : decode cX7_placeBehindSlip 55 = .ok (.iload 6, 2) := by decide +kernel
theorem dX7_placeBehindSlip_57 : decode cX7_placeBehindSlip 57 = .ok (.invokevirtual 107, 3) := by decide +kernel
theorem dX7_placeBehindSlip_60 : decode cX7_placeBehindSlip 60 = .ok (.invokestatic 286, 3) := by decide +kernel
theorem dX7_placeBehindSlip_63 : decode cX7_placeBehindSlip 63 = .ok (.ireturn, 1) := by decide +kernel
set_option maxRecDepth 20000 in
theorem ggX7_takeBothSides_X6_takeMatch : GoodIn wsX7_takeBothSides wsX6_takeMatch := goodIn_r _ [9, 10, 11, 12, 13, 14, 15, 16, 17, 18, 19, 20, 21, 22, 23, 24, 8, 25, 26, 27, 28, 29, 30, 31, 32, 33, 34, 35, 36, 47, 48, 49, 50, 51, 52, 53, 54, 55, 56, 57, 58, 59] (by decide +kernel) (by decide +kernel)
set_option maxRecDepth 20000 in
theorem gX7_takeBothSides_X6_takeMatch : GoodIn wsX7_takeBothSides (wsV RX7 272 RX6 yX6_takeMatch wsX6_takeMatch) := goodIn_app (goodIn_of _ (by decide +kernel)) ggX7_takeBothSides_X6_takeMatch
theorem dX7_takeBothSides_0 : decode cX7_takeBothSides 0 = .ok (.aload_n 0, 1) := by decide +kernel
theorem dX7_takeBothSides_1 : decode cX7_takeBothSides 1 = .ok (.getfield 47, 3) := by decide +kernel
theorem dX7_takeBothSides_4 : decode cX7_takeBothSides 4 = .ok (.aload_n 0, 1) := by decide +kernel
theorem dX7_takeBothSides_5 : decode cX7_takeBothSides 5 = .ok (.getfield 10, 3) := by decide +kernel
theorem dX7_takeBothSides_8 : decode cX7_takeBothSides 8 = .ok (.aload_n 0, 1) := by decide +kernel
theorem dX7_takeBothSides_9 : decode cX7_takeBothSides 9 = .ok (.getfield 19, 3) := by decide +kernel
theorem dX7_takeBothSides_12 : decode cX7_takeBothSides 12 = .ok (.iload_n 1, 1) := by decide +kernel
theorem dX7_takeBothSides_13 : decode cX7_takeBothSides 13 = .ok (.iload_n 2, 1) := by decide +kernel
theorem dX7_takeBothSides_14 : decode cX7_takeBothSides 14 = .ok (.invokevirtual 272, 3) := by decide +kernel
theorem dX7_takeBothSides_17 : decode cX7_takeBothSides 17 = .ok (.aload_n 0, 1) := by decide +kernel
theorem dX7_takeBothSides_18 : decode cX7_takeBothSides 18 = .ok (.getfield 51, 3) := by decide +kernel
theorem dX7_takeBothSides_21 : decode cX7_takeBothSides 21 = .ok (.aload_n 0, 1) := by decide +kernel
theorem dX7_takeBothSides_22 : decode cX7_takeBothSides 22 = .ok (.getfield 10, 3) := by decide +kernel
theorem dX7_takeBothSides_25 : decode cX7_takeBothSides 25 = .ok (.aload_n 0, 1) := by decide +kernel
theorem dX7_takeBothSides_26 : decode cX7_takeBothSides 26 = .ok (.getfield 19, 3) := by decide +kernel
theorem dX7_takeBothSides_29 : decode cX7_takeBothSides 29 = .ok (.iload_n 2, 1) := by decide +kernel
theorem dX7_takeBothSides_30 : decode cX7_takeBothSides 30 = .ok (.iload_n 1, 1) := by decide +kernel
theorem dX7_takeBothSides_31 : decode cX7_takeBothSides 31 = .ok (.invokevirtual 272, 3) := by decide +kernel
theorem dX7_takeBothSides_34 : decode cX7_takeBothSides 34 = .ok (.return_, 1) := by decide +kernel
set_option maxRecDepth 20000 in
theorem ggX7_gainsByPlan_X6_startAt : GoodIn wsX7_gainsByPlan wsX6_startAt := goodIn_r _ [8, 9, 10, 11, 12, 13, 14, 15, 16, 17, 83, 84, 85, 86, 87, 88] (by decide +kernel) (by decide +kernel)
set_option maxRecDepth 20000 in
theorem gX7_gainsByPlan_X6_startAt : GoodIn wsX7_gainsByPlan (wsV RX7 275 RX6 yX6_startAt wsX6_startAt) := goodIn_app (goodIn_of _ (by decide +kernel)) ggX7_gainsByPlan_X6_startAt
set_option maxRecDepth 20000 in
theorem ggX7_gainsByPlan_X6_worthInto : GoodIn wsX7_gainsByPlan wsX6_worthInto := goodIn_r _ [21, 13, 12, 22, 23, 24, 25, 26, 27, 28, 29, 30, 31, 32, 33, 34, 7, 35, 36, 37, 38, 39, 40, 10, 41, 42, 43, 44, 45, 46, 47, 48, 49, 50, 51, 52, 53, 54, 83, 84, 85, 86, 87, 88, 89, 90, 91, 92, 93] (by decide +kernel) (by decide +kernel)
set_option maxRecDepth 20000 in
theorem gX7_gainsByPlan_X6_worthInto : GoodIn wsX7_gainsByPlan (wsV RX7 282 RX6 yX6_worthInto wsX6_worthInto) := goodIn_app (goodIn_of _ (by decide +kernel)) ggX7_gainsByPlan_X6_worthInto
set_option maxRecDepth 20000 in
theorem ggX7_gainsByPlan_X3_bestCompared : GoodIn wsX7_gainsByPlan wsX3_bestCompared := goodIn_r _ [59, 60, 61, 62, 63, 58, 64, 65, 66, 67, 44, 68, 50, 51, 69, 70, 71, 72, 94, 95, 96, 97, 98, 92, 93] (by decide +kernel) (by decide +kernel)
set_option maxRecDepth 20000 in
theorem gX7_gainsByPlan_X3_bestCompared : GoodIn wsX7_gainsByPlan (wsV RX7 289 RX3 yX3_bestCompared wsX3_bestCompared) := goodIn_app (goodIn_of _ (by decide +kernel)) ggX7_gainsByPlan_X3_bestCompared
theorem dX7_gainsByPlan_0 : decode cX7_gainsByPlan 0 = .ok (.aload_n 1, 1) := by decide +kernel
theorem dX7_gainsByPlan_1 : decode cX7_gainsByPlan 1 = .ok (.iload_n 2, 1) := by decide +kernel
theorem dX7_gainsByPlan_2 : decode cX7_gainsByPlan 2 = .ok (.invokevirtual 275, 3) := by decide +kernel
theorem dX7_gainsByPlan_5 : decode cX7_gainsByPlan 5 = .ok (.aload_n 1, 1) := by decide +kernel
theorem dX7_gainsByPlan_6 : decode cX7_gainsByPlan 6 = .ok (.aload_n 0, 1) := by decide +kernel
theorem dX7_gainsByPlan_7 : decode cX7_gainsByPlan 7 = .ok (.getfield 10, 3) := by decide +kernel
theorem dX7_gainsByPlan_10 : decode cX7_gainsByPlan 10 = .ok (.aload_n 0, 1) := by decide +kernel
theorem dX7_gainsByPlan_11 : decode cX7_gainsByPlan 11 = .ok (.getfield 57, 3) := by decide +kernel
theorem dX7_gainsByPlan_14 : decode cX7_gainsByPlan 14 = .ok (.invokevirtual 282, 3) := by decide +kernel
theorem dX7_gainsByPlan_17 : decode cX7_gainsByPlan 17 = .ok (.aload_n 0, 1) := by decide +kernel
theorem dX7_gainsByPlan_18 : decode cX7_gainsByPlan 18 = .ok (.getfield 40, 3) := by decide +kernel
theorem dX7_gainsByPlan_21 : decode cX7_gainsByPlan 21 = .ok (.iload_n 3, 1) := by decide +kernel
theorem dX7_gainsByPlan_22 : decode cX7_gainsByPlan 22 = .ok (.iload 4, 2) := by decide +kernel
theorem dX7_gainsByPlan_24 : decode cX7_gainsByPlan 24 = .ok (.aload_n 0, 1) := by decide +kernel
theorem dX7_gainsByPlan_25 : decode cX7_gainsByPlan 25 = .ok (.getfield 57, 3) := by decide +kernel
theorem dX7_gainsByPlan_28 : decode cX7_gainsByPlan 28 = .ok (.invokevirtual 289, 3) := by decide +kernel
theorem dX7_gainsByPlan_31 : decode cX7_gainsByPlan 31 = .ok (.ifCond .le 7, 3) := by decide +kernel
theorem dX7_gainsByPlan_34 : decode cX7_gainsByPlan 34 = .ok (.iconst 1, 1) := by decide +kernel
theorem dX7_gainsByPlan_35 : decode cX7_gainsByPlan 35 = .ok (.goto 4, 3) := by decide +kernel
theorem dX7_gainsByPlan_38 : decode cX7_gainsByPlan 38 = .ok (.iconst 0, 1) := by decide +kernel
theorem dX7_gainsByPlan_39 : decode cX7_gainsByPlan 39 = .ok (.ireturn, 1) := by decide +kernel
set_option maxRecDepth 20000 in
theorem ggX7_restFrom_X6_placeOf : GoodIn wsX7_restFrom wsX6_placeOf := goodIn_r _ [6] (by decide +kernel) (by decide +kernel)
set_option maxRecDepth 20000 in
theorem gX7_restFrom_X6_placeOf : GoodIn wsX7_restFrom (va_wsS RX7 286 yX6_placeOf wsX6_placeOf) := goodIn_app (goodIn_of _ (by decide +kernel)) ggX7_restFrom_X6_placeOf
set_option maxRecDepth 20000 in
theorem ggX7_restFrom_X7_gainsByPlan : GoodIn wsX7_restFrom wsX7_gainsByPlan := goodIn_r _ [11, 12, 13, 14, 15, 16, 17, 5, 18, 19, 20, 21, 22, 23, 24, 25, 26, 27, 28, 29, 30, 31, 32, 33, 34, 35, 36, 37, 38, 39, 40, 41, 42, 43, 44, 45, 46, 47, 48, 49, 50, 51, 52, 53, 54, 55, 56, 57, 58, 59, 60, 61, 62, 63, 64, 65, 66, 67, 68, 69, 70, 71, 72, 73, 74, 75, 76, 77, 78, 79, 80, 81, 82, 83, 84, 85, 86, 87, 88, 89, 90, 91, 92, 93, 94, 95, 96, 97, 98, 99, 100, 101, 102, 103, 104, 105, 106, 107, 108] (by decide +kernel) (by decide +kernel)
set_option maxRecDepth 20000 in
theorem gX7_restFrom_X7_gainsByPlan : GoodIn wsX7_restFrom (wsV RX7 293 RX7 yX7_gainsByPlan wsX7_gainsByPlan) := goodIn_app (goodIn_of _ (by decide +kernel)) ggX7_restFrom_X7_gainsByPlan
theorem dX7_restFrom_0 : decode cX7_restFrom 0 = .ok (.aload_n 0, 1) := by decide +kernel
theorem dX7_restFrom_1 : decode cX7_restFrom 1 = .ok (.aload_n 0, 1) := by decide +kernel
theorem dX7_restFrom_2 : decode cX7_restFrom 2 = .ok (.getfield 47, 3) := by decide +kernel
theorem dX7_restFrom_5 : decode cX7_restFrom 5 = .ok (.iload_n 2, 1) := by decide +kernel
theorem dX7_restFrom_6 : decode cX7_restFrom 6 = .ok (.iload 4, 2) := by decide +kernel
theorem dX7_restFrom_8 : decode cX7_restFrom 8 = .ok (.invokestatic 286, 3) := by decide +kernel
theorem dX7_restFrom_11 : decode cX7_restFrom 11 = .ok (.iload_n 3, 1) := by decide +kernel
theorem dX7_restFrom_12 : decode cX7_restFrom 12 = .ok (.iload 4, 2) := by decide +kernel
theorem dX7_restFrom_14 : decode cX7_restFrom 14 = .ok (.invokevirtual 293, 3) := by decide +kernel
theorem dX7_restFrom_17 : decode cX7_restFrom 17 = .ok (.ifCond .ne 26, 3) := by decide +kernel
theorem dX7_restFrom_20 : decode cX7_restFrom 20 = .ok (.aload_n 0, 1) := by decide +kernel
theorem dX7_restFrom_21 : decode cX7_restFrom 21 = .ok (.aload_n 0, 1) := by decide +kernel
theorem dX7_restFrom_22 : decode cX7_restFrom 22 = .ok (.getfield 51, 3) := by decide +kernel
theorem dX7_restFrom_25 : decode cX7_restFrom 25 = .ok (.iload 4, 2) := by decide +kernel
theorem dX7_restFrom_27 : decode cX7_restFrom 27 = .ok (.iload_n 2, 1) := by decide +kernel
theorem dX7_restFrom_28 : decode cX7_restFrom 28 = .ok (.invokestatic 286, 3) := by decide +kernel
theorem dX7_restFrom_31 : decode cX7_restFrom 31 = .ok (.iload_n 1, 1) := by decide +kernel
theorem dX7_restFrom_32 : decode cX7_restFrom 32 = .ok (.iload_n 2, 1) := by decide +kernel
theorem dX7_restFrom_33 : decode cX7_restFrom 33 = .ok (.invokevirtual 293, 3) := by decide +kernel
theorem dX7_restFrom_36 : decode cX7_restFrom 36 = .ok (.ifCond .ne 7, 3) := by decide +kernel
theorem dX7_restFrom_39 : decode cX7_restFrom 39 = .ok (.iconst 1, 1) := by decide +kernel
theorem dX7_restFrom_40 : decode cX7_restFrom 40 = .ok (.goto 4, 3) := by decide +kernel
theorem dX7_restFrom_43 : decode cX7_restFrom 43 = .ok (.iconst 0, 1) := by decide +kernel
theorem dX7_restFrom_44 : decode cX7_restFrom 44 = .ok (.ireturn, 1) := by decide +kernel
set_option maxRecDepth 20000 in
theorem ggX7_deviationFrom_X6_placeOf : GoodIn wsX7_deviationFrom wsX6_placeOf := goodIn_r _ [6] (by decide +kernel) (by decide +kernel)
set_option maxRecDepth 20000 in
theorem gX7_deviationFrom_X6_placeOf : GoodIn wsX7_deviationFrom (va_wsS RX7 286 yX6_placeOf wsX6_placeOf) := goodIn_app (goodIn_of _ (by decide +kernel)) ggX7_deviationFrom_X6_placeOf
set_option maxRecDepth 20000 in
theorem ggX7_deviationFrom_X7_gainsByPlan : GoodIn wsX7_deviationFrom wsX7_gainsByPlan := goodIn_r _ [11, 12, 13, 2, 14, 15, 16, 5, 17, 18, 19, 20, 21, 22, 23, 24, 25, 26, 27, 28, 29, 30, 31, 32, 33, 34, 35, 36, 37, 38, 39, 40, 41, 42, 43, 44, 45, 46, 47, 48, 49, 50, 51, 52, 53, 54, 55, 56, 57, 58, 59, 60, 61, 62, 63, 64, 65, 66, 67, 68, 69, 70, 71, 72, 73, 74, 75, 76, 77, 78, 79, 80, 81, 87, 88, 89, 90, 91, 92, 93, 94, 95, 96, 97, 98, 99, 100, 101, 102, 103, 104, 105, 106, 107, 108, 109, 110, 111, 112] (by decide +kernel) (by decide +kernel)
set_option maxRecDepth 20000 in
theorem gX7_deviationFrom_X7_gainsByPlan : GoodIn wsX7_deviationFrom (wsV RX7 293 RX7 yX7_gainsByPlan wsX7_gainsByPlan) := goodIn_app (goodIn_of _ (by decide +kernel)) ggX7_deviationFrom_X7_gainsByPlan
set_option maxRecDepth 20000 in
theorem ggX7_deviationFrom_X3_bestPlan : GoodIn wsX7_deviationFrom wsX3_bestPlan := goodIn_r _ [85, 86, 71, 72, 67, 73, 108, 109, 110, 111, 112] (by decide +kernel) (by decide +kernel)
set_option maxRecDepth 20000 in
theorem gX7_deviationFrom_X3_bestPlan : GoodIn wsX7_deviationFrom (wsV RX7 212 RX3 yX3_bestPlan wsX3_bestPlan) := goodIn_app (goodIn_of _ (by decide +kernel)) ggX7_deviationFrom_X3_bestPlan
theorem dX7_deviationFrom_0 : decode cX7_deviationFrom 0 = .ok (.aload_n 0, 1) := by decide +kernel
theorem dX7_deviationFrom_1 : decode cX7_deviationFrom 1 = .ok (.aload_n 0, 1) := by decide +kernel
theorem dX7_deviationFrom_2 : decode cX7_deviationFrom 2 = .ok (.getfield 47, 3) := by decide +kernel
theorem dX7_deviationFrom_5 : decode cX7_deviationFrom 5 = .ok (.iload_n 2, 1) := by decide +kernel
theorem dX7_deviationFrom_6 : decode cX7_deviationFrom 6 = .ok (.iload 4, 2) := by decide +kernel
theorem dX7_deviationFrom_8 : decode cX7_deviationFrom 8 = .ok (.invokestatic 286, 3) := by decide +kernel
theorem dX7_deviationFrom_11 : decode cX7_deviationFrom 11 = .ok (.iload_n 3, 1) := by decide +kernel
theorem dX7_deviationFrom_12 : decode cX7_deviationFrom 12 = .ok (.iload 4, 2) := by decide +kernel
theorem dX7_deviationFrom_14 : decode cX7_deviationFrom 14 = .ok (.invokevirtual 293, 3) := by decide +kernel
theorem dX7_deviationFrom_17 : decode cX7_deviationFrom 17 = .ok (.istore 6, 2) := by decide +kernel
theorem dX7_deviationFrom_19 : decode cX7_deviationFrom 19 = .ok (.iload 5, 2) := by decide +kernel
theorem dX7_deviationFrom_21 : decode cX7_deviationFrom 21 = .ok (.iconst 1, 1) := by decide +kernel
theorem dX7_deviationFrom_22 : decode cX7_deviationFrom 22 = .ok (.if_icmp .ne 14, 3) := by decide +kernel
theorem dX7_deviationFrom_25 : decode cX7_deviationFrom 25 = .ok (.iload 6, 2) := by decide +kernel
theorem dX7_deviationFrom_27 : decode cX7_deviationFrom 27 = .ok (.ifCond .eq 7, 3) := by decide +kernel
theorem dX7_deviationFrom_30 : decode cX7_deviationFrom 30 = .ok (.iconst 0, 1) := by decide +kernel
theorem dX7_deviationFrom_31 : decode cX7_deviationFrom 31 = .ok (.goto 4, 3) := by decide +kernel
theorem dX7_deviationFrom_34 : decode cX7_deviationFrom 34 = .ok (.iconst 1, 1) := by decide +kernel
theorem dX7_deviationFrom_35 : decode cX7_deviationFrom 35 = .ok (.ireturn, 1) := by decide +kernel
theorem dX7_deviationFrom_36 : decode cX7_deviationFrom 36 = .ok (.iload 6, 2) := by decide +kernel
theorem dX7_deviationFrom_38 : decode cX7_deviationFrom 38 = .ok (.ifCond .eq 16, 3) := by decide +kernel
theorem dX7_deviationFrom_41 : decode cX7_deviationFrom 41 = .ok (.aload_n 0, 1) := by decide +kernel
theorem dX7_deviationFrom_42 : decode cX7_deviationFrom 42 = .ok (.getfield 40, 3) := by decide +kernel
theorem dX7_deviationFrom_45 : decode cX7_deviationFrom 45 = .ok (.iload_n 3, 1) := by decide +kernel
theorem dX7_deviationFrom_46 : decode cX7_deviationFrom 46 = .ok (.iload 4, 2) := by decide +kernel
theorem dX7_deviationFrom_48 : decode cX7_deviationFrom 48 = .ok (.invokevirtual 212, 3) := by decide +kernel
theorem dX7_deviationFrom_51 : decode cX7_deviationFrom 51 = .ok (.goto 12, 3) := by decide +kernel
theorem dX7_deviationFrom_54 : decode cX7_deviationFrom 54 = .ok (.aload_n 0, 1) := by decide +kernel
theorem dX7_deviationFrom_55 : decode cX7_deviationFrom 55 = .ok (.getfield 40, 3) := by decide +kernel
theorem dX7_deviationFrom_58 : decode cX7_deviationFrom 58 = .ok (.iload_n 1, 1) := by decide +kernel
theorem dX7_deviationFrom_59 : decode cX7_deviationFrom 59 = .ok (.iload_n 2, 1) := by decide +kernel
theorem dX7_deviationFrom_60 : decode cX7_deviationFrom 60 = .ok (.invokevirtual 212, 3) := by decide +kernel
theorem dX7_deviationFrom_63 : decode cX7_deviationFrom 63 = .ok (.ireturn, 1) := by decide +kernel
set_option maxRecDepth 20000 in
theorem ggX7_firstUnrest_X2_statesOf : GoodIn wsX7_firstUnrest wsX2_statesOf := goodIn_r _ [6, 7, 104, 105, 106, 107] (by decide +kernel) (by decide +kernel)
set_option maxRecDepth 20000 in
theorem gX7_firstUnrest_X2_statesOf : GoodIn wsX7_firstUnrest (wsV RX7 219 RX2 yX2_statesOf wsX2_statesOf) := goodIn_app (goodIn_of _ (by decide +kernel)) ggX7_firstUnrest_X2_statesOf
set_option maxRecDepth 20000 in
theorem ggX7_firstUnrest_X7_restFrom : GoodIn wsX7_firstUnrest wsX7_restFrom := goodIn_r _ [12, 13, 14, 15, 16, 17, 18, 19, 20, 21, 11, 22, 23, 24, 25, 26, 27, 28, 29, 30, 31, 32, 33, 34, 35, 36, 37, 38, 39, 40, 41, 42, 43, 44, 45, 46, 47, 48, 49, 50, 51, 52, 53, 54, 55, 56, 57, 58, 59, 60, 61, 62, 63, 64, 65, 66, 67, 68, 69, 70, 71, 72, 73, 74, 75, 76, 77, 78, 79, 80, 81, 82, 83, 84, 85, 86, 87, 88, 89, 90, 91, 92, 93, 94, 95, 96, 97, 98, 99, 100, 101, 102, 103, 108, 109, 110, 111, 112, 113, 114, 115, 116, 117, 118, 119, 120, 121, 122, 123] (by decide +kernel) (by decide +kernel)
set_option maxRecDepth 20000 in
theorem gX7_firstUnrest_X7_restFrom : GoodIn wsX7_firstUnrest (wsV RX7 232 RX7 yX7_restFrom wsX7_restFrom) := goodIn_app (goodIn_of _ (by decide +kernel)) ggX7_firstUnrest_X7_restFrom
set_option maxRecDepth 20000 in
theorem ggX7_firstUnrest_X6_placeOf : GoodIn wsX7_firstUnrest wsX6_placeOf := goodIn_r _ [18] (by decide +kernel) (by decide +kernel)
set_option maxRecDepth 20000 in
theorem gX7_firstUnrest_X6_placeOf : GoodIn wsX7_firstUnrest (va_wsS RX7 286 yX6_placeOf wsX6_placeOf) := goodIn_app (goodIn_of _ (by decide +kernel)) ggX7_firstUnrest_X6_placeOf
theorem dX7_firstUnrest_0 : decode cX7_firstUnrest 0 = .ok (.iconst 0, 1) := by decide +kernel
theorem dX7_firstUnrest_1 : decode cX7_firstUnrest 1 = .ok (.istore_n 3, 1) := by decide +kernel
theorem dX7_firstUnrest_2 : decode cX7_firstUnrest 2 = .ok (.iload_n 3, 1) := by decide +kernel
theorem dX7_firstUnrest_3 : decode cX7_firstUnrest 3 = .ok (.aload_n 0, 1) := by decide +kernel
theorem dX7_firstUnrest_4 : decode cX7_firstUnrest 4 = .ok (.getfield 19, 3) := by decide +kernel
theorem dX7_firstUnrest_7 : decode cX7_firstUnrest 7 = .ok (.iload_n 1, 1) := by decide +kernel
theorem dX7_firstUnrest_8 : decode cX7_firstUnrest 8 = .ok (.invokevirtual 219, 3) := by decide +kernel
theorem dX7_firstUnrest_11 : decode cX7_firstUnrest 11 = .ok (.if_icmp .ge 50, 3) := by decide +kernel
theorem dX7_firstUnrest_14 : decode cX7_firstUnrest 14 = .ok (.iconst 0, 1) := by decide +kernel
theorem dX7_firstUnrest_15 : decode cX7_firstUnrest 15 = .ok (.istore 4, 2) := by decide +kernel
theorem dX7_firstUnrest_17 : decode cX7_firstUnrest 17 = .ok (.iload 4, 2) := by decide +kernel
theorem dX7_firstUnrest_19 : decode cX7_firstUnrest 19 = .ok (.aload_n 0, 1) := by decide +kernel
theorem dX7_firstUnrest_20 : decode cX7_firstUnrest 20 = .ok (.getfield 19, 3) := by decide +kernel
theorem dX7_firstUnrest_23 : decode cX7_firstUnrest 23 = .ok (.iload_n 2, 1) := by decide +kernel
theorem dX7_firstUnrest_24 : decode cX7_firstUnrest 24 = .ok (.invokevirtual 219, 3) := by decide +kernel
theorem dX7_firstUnrest_27 : decode cX7_firstUnrest 27 = .ok (.if_icmp .ge 28, 3) := by decide +kernel
theorem dX7_firstUnrest_30 : decode cX7_firstUnrest 30 = .ok (.aload_n 0, 1) := by decide +kernel
theorem dX7_firstUnrest_31 : decode cX7_firstUnrest 31 = .ok (.iload_n 1, 1) := by decide +kernel
theorem dX7_firstUnrest_32 : decode cX7_firstUnrest 32 = .ok (.iload_n 3, 1) := by decide +kernel
theorem dX7_firstUnrest_33 : decode cX7_firstUnrest 33 = .ok (.iload_n 2, 1) := by decide +kernel
theorem dX7_firstUnrest_34 : decode cX7_firstUnrest 34 = .ok (.iload 4, 2) := by decide +kernel
theorem dX7_firstUnrest_36 : decode cX7_firstUnrest 36 = .ok (.invokevirtual 232, 3) := by decide +kernel
theorem dX7_firstUnrest_39 : decode cX7_firstUnrest 39 = .ok (.ifCond .ne 10, 3) := by decide +kernel
theorem dX7_firstUnrest_42 : decode cX7_firstUnrest 42 = .ok (.iload_n 3, 1) := by decide +kernel
theorem dX7_firstUnrest_43 : decode cX7_firstUnrest 43 = .ok (.iload 4, 2) := by decide +kernel
theorem dX7_firstUnrest_45 : decode cX7_firstUnrest 45 = .ok (.invokestatic 286, 3) := by decide +kernel
theorem dX7_firstUnrest_48 : decode cX7_firstUnrest 48 = .ok (.ireturn, 1) := by decide +kernel
theorem dX7_firstUnrest_49 : decode cX7_firstUnrest 49 = .ok (.iinc 4 1, 3) := by decide +kernel
theorem dX7_firstUnrest_52 : decode cX7_firstUnrest 52 = .ok (.goto (-35), 3) := by decide +kernel
theorem dX7_firstUnrest_55 : decode cX7_firstUnrest 55 = .ok (.iinc 3 1, 3) := by decide +kernel
theorem dX7_firstUnrest_58 : decode cX7_firstUnrest 58 = .ok (.goto (-56), 3) := by decide +kernel
theorem dX7_firstUnrest_61 : decode cX7_firstUnrest 61 = .ok (.iconst (-1), 1) := by decide +kernel
theorem dX7_firstUnrest_62 : decode cX7_firstUnrest 62 = .ok (.ireturn, 1) := by decide +kernel
set_option maxRecDepth 20000 in
theorem ggX7_compareWorths_X7_matchWorth : GoodIn wsX7_compareWorths wsX7_matchWorth := goodIn_r _ [7, 8, 9, 10, 11, 12, 6, 13, 14, 15, 16, 17, 18, 19, 20, 21, 22, 23, 24, 25, 26, 27, 28, 29, 30, 31, 32, 33, 34, 35, 36, 37, 38, 39, 40, 41, 42, 43, 44, 45, 46, 47, 48, 49, 50, 51, 52, 53, 54, 55, 56, 57, 58, 59, 60, 61, 62, 63, 64, 65, 66, 67, 68, 69, 70, 71, 72, 73, 74, 75, 76, 77, 78, 79, 80, 81, 82, 83, 84, 85, 86, 87, 88, 89, 90, 91, 92, 93, 106, 107, 108, 109, 110, 111, 112, 113, 114, 115, 116, 117, 118, 119, 120, 121, 122, 123, 124, 125, 126, 127, 128, 129, 130] (by decide +kernel) (by decide +kernel)
set_option maxRecDepth 20000 in
theorem gX7_compareWorths_X7_matchWorth : GoodIn wsX7_compareWorths (wsV RX7 183 RX7 yX7_matchWorth wsX7_matchWorth) := goodIn_app (goodIn_of _ (by decide +kernel)) ggX7_compareWorths_X7_matchWorth
set_option maxRecDepth 20000 in
theorem ggX7_compareWorths_X4_part : GoodIn wsX7_compareWorths wsX4_part := goodIn_r _ [97, 89, 90, 129, 130] (by decide +kernel) (by decide +kernel)
set_option maxRecDepth 20000 in
theorem gX7_compareWorths_X4_part : GoodIn wsX7_compareWorths (wsV RX7 179 RX4 yX4_part wsX4_part) := goodIn_app (goodIn_of _ (by decide +kernel)) ggX7_compareWorths_X4_part
set_option maxRecDepth 20000 in
theorem ggX7_compareWorths_X4_compareWith : GoodIn wsX7_compareWorths wsX4_compareWith := goodIn_r _ [101, 89, 90, 102, 103, 104, 105, 129, 130] (by decide +kernel) (by decide +kernel)
set_option maxRecDepth 20000 in
theorem gX7_compareWorths_X4_compareWith : GoodIn wsX7_compareWorths (wsV RX7 297 RX4 yX4_compareWith wsX4_compareWith) := goodIn_app (goodIn_of _ (by decide +kernel)) ggX7_compareWorths_X4_compareWith
theorem dX7_compareWorths_0 : decode cX7_compareWorths 0 = .ok (.aload_n 0, 1) := by decide +kernel
theorem dX7_compareWorths_1 : decode cX7_compareWorths 1 = .ok (.iload_n 1, 1) := by decide +kernel
theorem dX7_compareWorths_2 : decode cX7_compareWorths 2 = .ok (.iload_n 2, 1) := by decide +kernel
theorem dX7_compareWorths_3 : decode cX7_compareWorths 3 = .ok (.aload_n 0, 1) := by decide +kernel
theorem dX7_compareWorths_4 : decode cX7_compareWorths 4 = .ok (.getfield 57, 3) := by decide +kernel
theorem dX7_compareWorths_7 : decode cX7_compareWorths 7 = .ok (.invokevirtual 183, 3) := by decide +kernel
theorem dX7_compareWorths_10 : decode cX7_compareWorths 10 = .ok (.aload_n 0, 1) := by decide +kernel
theorem dX7_compareWorths_11 : decode cX7_compareWorths 11 = .ok (.iload_n 3, 1) := by decide +kernel
theorem dX7_compareWorths_12 : decode cX7_compareWorths 12 = .ok (.iload 4, 2) := by decide +kernel
theorem dX7_compareWorths_14 : decode cX7_compareWorths 14 = .ok (.aload_n 0, 1) := by decide +kernel
theorem dX7_compareWorths_15 : decode cX7_compareWorths 15 = .ok (.getfield 61, 3) := by decide +kernel
theorem dX7_compareWorths_18 : decode cX7_compareWorths 18 = .ok (.invokevirtual 183, 3) := by decide +kernel
theorem dX7_compareWorths_21 : decode cX7_compareWorths 21 = .ok (.aload_n 0, 1) := by decide +kernel
theorem dX7_compareWorths_22 : decode cX7_compareWorths 22 = .ok (.getfield 57, 3) := by decide +kernel
theorem dX7_compareWorths_25 : decode cX7_compareWorths 25 = .ok (.aload_n 0, 1) := by decide +kernel
theorem dX7_compareWorths_26 : decode cX7_compareWorths 26 = .ok (.getfield 61, 3) := by decide +kernel
theorem dX7_compareWorths_29 : decode cX7_compareWorths 29 = .ok (.iconst 0, 1) := by decide +kernel
theorem dX7_compareWorths_30 : decode cX7_compareWorths 30 = .ok (.invokevirtual 179, 3) := by decide +kernel
theorem dX7_compareWorths_33 : decode cX7_compareWorths 33 = .ok (.aload_n 0, 1) := by decide +kernel
theorem dX7_compareWorths_34 : decode cX7_compareWorths 34 = .ok (.getfield 61, 3) := by decide +kernel
theorem dX7_compareWorths_37 : decode cX7_compareWorths 37 = .ok (.iconst 1, 1) := by decide +kernel
theorem dX7_compareWorths_38 : decode cX7_compareWorths 38 = .ok (.invokevirtual 179, 3) := by decide +kernel
theorem dX7_compareWorths_41 : decode cX7_compareWorths 41 = .ok (.invokevirtual 297, 3) := by decide +kernel
theorem dX7_compareWorths_44 : decode cX7_compareWorths 44 = .ok (.ireturn, 1) := by decide +kernel
set_option maxRecDepth 20000 in
theorem ggX7_withstands_X7_compareWorths : GoodIn wsX7_withstands wsX7_compareWorths := goodIn_r _ [5, 6, 7, 8, 9, 10, 4, 11, 12, 13, 14, 15, 16, 17, 18, 19, 20, 21, 22, 23, 24, 25, 26, 27, 28, 29, 30, 31, 32, 33, 34, 35, 36, 37, 38, 39, 40, 41, 42, 43, 44, 45, 46, 47, 48, 49, 50, 51, 52, 53, 54, 55, 56, 57, 58, 59, 60, 61, 62, 63, 64, 65, 66, 67, 68, 69, 70, 71, 72, 73, 74, 75, 76, 77, 78, 79, 80, 81, 82, 83, 84, 85, 86, 87, 88, 89, 90, 91, 92, 93, 94, 95, 96, 97, 98, 99, 100, 101, 102, 103, 104, 105, 106, 107, 108, 109, 110, 111, 112, 113, 114, 115, 116, 117, 118, 119, 120, 121, 122, 123, 124, 125, 126, 127, 128, 129, 130, 131, 132, 133, 134] (by decide +kernel) (by decide +kernel)
set_option maxRecDepth 20000 in
theorem gX7_withstands_X7_compareWorths : GoodIn wsX7_withstands (wsV RX7 301 RX7 yX7_compareWorths wsX7_compareWorths) := goodIn_app (goodIn_of _ (by decide +kernel)) ggX7_withstands_X7_compareWorths
theorem dX7_withstands_0 : decode cX7_withstands 0 = .ok (.aload_n 0, 1) := by decide +kernel
theorem dX7_withstands_1 : decode cX7_withstands 1 = .ok (.iload_n 1, 1) := by decide +kernel
theorem dX7_withstands_2 : decode cX7_withstands 2 = .ok (.iload_n 1, 1) := by decide +kernel
theorem dX7_withstands_3 : decode cX7_withstands 3 = .ok (.iload_n 2, 1) := by decide +kernel
theorem dX7_withstands_4 : decode cX7_withstands 4 = .ok (.iload_n 1, 1) := by decide +kernel
theorem dX7_withstands_5 : decode cX7_withstands 5 = .ok (.invokevirtual 301, 3) := by decide +kernel
theorem dX7_withstands_8 : decode cX7_withstands 8 = .ok (.istore_n 3, 1) := by decide +kernel
theorem dX7_withstands_9 : decode cX7_withstands 9 = .ok (.iload_n 3, 1) := by decide +kernel
theorem dX7_withstands_10 : decode cX7_withstands 10 = .ok (.ifCond .gt 18, 3) := by decide +kernel
theorem dX7_withstands_13 : decode cX7_withstands 13 = .ok (.iload_n 3, 1) := by decide +kernel
theorem dX7_withstands_14 : decode cX7_withstands 14 = .ok (.ifCond .ne 18, 3) := by decide +kernel
theorem dX7_withstands_17 : decode cX7_withstands 17 = .ok (.aload_n 0, 1) := by decide +kernel
theorem dX7_withstands_18 : decode cX7_withstands 18 = .ok (.iload_n 1, 1) := by decide +kernel
theorem dX7_withstands_19 : decode cX7_withstands 19 = .ok (.iload_n 2, 1) := by decide +kernel
theorem dX7_withstands_20 : decode cX7_withstands 20 = .ok (.iload_n 2, 1) := by decide +kernel
theorem dX7_withstands_21 : decode cX7_withstands 21 = .ok (.iload_n 2, 1) := by decide +kernel
theorem dX7_withstands_22 : decode cX7_withstands 22 = .ok (.invokevirtual 301, 3) := by decide +kernel
theorem dX7_withstands_25 : decode cX7_withstands 25 = .ok (.ifCond .le 7, 3) := by decide +kernel
theorem dX7_withstands_28 : decode cX7_withstands 28 = .ok (.iconst 1, 1) := by decide +kernel
theorem dX7_withstands_29 : decode cX7_withstands 29 = .ok (.goto 4, 3) := by decide +kernel
theorem dX7_withstands_32 : decode cX7_withstands 32 = .ok (.iconst 0, 1) := by decide +kernel
theorem dX7_withstands_33 : decode cX7_withstands 33 = .ok (.ireturn, 1) := by decide +kernel
set_option maxRecDepth 20000 in
theorem ggX7_gainsAgainstAll_X2_many : GoodIn wsX7_gainsAgainstAll wsX2_many := goodIn_r _ [6, 7, 88, 89, 90, 91] (by decide +kernel) (by decide +kernel)
set_option maxRecDepth 20000 in
theorem gX7_gainsAgainstAll_X2_many : GoodIn wsX7_gainsAgainstAll (wsV RX7 111 RX2 yX2_many wsX2_many) := goodIn_app (goodIn_of _ (by decide +kernel)) ggX7_gainsAgainstAll_X2_many
set_option maxRecDepth 20000 in
theorem ggX7_gainsAgainstAll_X7_gainsOf : GoodIn wsX7_gainsAgainstAll wsX7_gainsOf := goodIn_r _ [12, 13, 14, 15, 16, 11, 17, 18, 1, 19, 20, 21, 22, 23, 24, 25, 26, 27, 28, 5, 29, 30, 31, 32, 33, 34, 35, 36, 37, 38, 39, 40, 41, 42, 43, 44, 45, 46, 47, 48, 49, 50, 51, 52, 53, 54, 55, 56, 57, 58, 59, 60, 61, 62, 63, 64, 65, 66, 67, 68, 69, 70, 71, 72, 73, 74, 75, 76, 77, 78, 79, 80, 81, 82, 83, 84, 85, 86, 87, 92, 93, 94, 95, 96, 97, 88, 89, 90, 91, 98, 99, 100] (by decide +kernel) (by decide +kernel)
set_option maxRecDepth 20000 in
theorem gX7_gainsAgainstAll_X7_gainsOf : GoodIn wsX7_gainsAgainstAll (wsV RX7 170 RX7 yX7_gainsOf wsX7_gainsOf) := goodIn_app (goodIn_of _ (by decide +kernel)) ggX7_gainsAgainstAll_X7_gainsOf
theorem dX7_gainsAgainstAll_0 : decode cX7_gainsAgainstAll 0 = .ok (.iconst 0, 1) := by decide +kernel
theorem dX7_gainsAgainstAll_1 : decode cX7_gainsAgainstAll 1 = .ok (.istore_n 3, 1) := by decide +kernel
theorem dX7_gainsAgainstAll_2 : decode cX7_gainsAgainstAll 2 = .ok (.iconst 0, 1) := by decide +kernel
theorem dX7_gainsAgainstAll_3 : decode cX7_gainsAgainstAll 3 = .ok (.istore 4, 2) := by decide +kernel
theorem dX7_gainsAgainstAll_5 : decode cX7_gainsAgainstAll 5 = .ok (.iload 4, 2) := by decide +kernel
theorem dX7_gainsAgainstAll_7 : decode cX7_gainsAgainstAll 7 = .ok (.aload_n 0, 1) := by decide +kernel
theorem dX7_gainsAgainstAll_8 : decode cX7_gainsAgainstAll 8 = .ok (.getfield 19, 3) := by decide +kernel
theorem dX7_gainsAgainstAll_11 : decode cX7_gainsAgainstAll 11 = .ok (.invokevirtual 111, 3) := by decide +kernel
theorem dX7_gainsAgainstAll_14 : decode cX7_gainsAgainstAll 14 = .ok (.if_icmp .ge 20, 3) := by decide +kernel
theorem dX7_gainsAgainstAll_17 : decode cX7_gainsAgainstAll 17 = .ok (.iload_n 3, 1) := by decide +kernel
theorem dX7_gainsAgainstAll_18 : decode cX7_gainsAgainstAll 18 = .ok (.aload_n 0, 1) := by decide +kernel
theorem dX7_gainsAgainstAll_19 : decode cX7_gainsAgainstAll 19 = .ok (.iload_n 1, 1) := by decide +kernel
theorem dX7_gainsAgainstAll_20 : decode cX7_gainsAgainstAll 20 = .ok (.iload 4, 2) := by decide +kernel
theorem dX7_gainsAgainstAll_22 : decode cX7_gainsAgainstAll 22 = .ok (.iload_n 2, 1) := by decide +kernel
theorem dX7_gainsAgainstAll_23 : decode cX7_gainsAgainstAll 23 = .ok (.invokevirtual 170, 3) := by decide +kernel
theorem dX7_gainsAgainstAll_26 : decode cX7_gainsAgainstAll 26 = .ok (.iadd, 1) := by decide +kernel
theorem dX7_gainsAgainstAll_27 : decode cX7_gainsAgainstAll 27 = .ok (.istore_n 3, 1) := by decide +kernel
theorem dX7_gainsAgainstAll_28 : decode cX7_gainsAgainstAll 28 = .ok (.iinc 4 1, 3) := by decide +kernel
theorem dX7_gainsAgainstAll_31 : decode cX7_gainsAgainstAll 31 = .ok (.goto (-26), 3) := by decide +kernel
theorem dX7_gainsAgainstAll_34 : decode cX7_gainsAgainstAll 34 = .ok (.iload_n 3, 1) := by decide +kernel
theorem dX7_gainsAgainstAll_35 : decode cX7_gainsAgainstAll 35 = .ok (.ireturn, 1) := by decide +kernel
set_option maxRecDepth 20000 in
theorem ggX7_machinesAheadOf_X2_many : GoodIn wsX7_machinesAheadOf wsX2_many := goodIn_r _ [7, 8, 19, 20, 21, 22] (by decide +kernel) (by decide +kernel)
set_option maxRecDepth 20000 in
theorem gX7_machinesAheadOf_X2_many : GoodIn wsX7_machinesAheadOf (wsV RX7 111 RX2 yX2_many wsX2_many) := goodIn_app (goodIn_of _ (by decide +kernel)) ggX7_machinesAheadOf_X2_many
theorem dX7_machinesAheadOf_0 : decode cX7_machinesAheadOf 0 = .ok (.iconst 0, 1) := by decide +kernel
theorem dX7_machinesAheadOf_1 : decode cX7_machinesAheadOf 1 = .ok (.istore_n 2, 1) := by decide +kernel
theorem dX7_machinesAheadOf_2 : decode cX7_machinesAheadOf 2 = .ok (.iconst 0, 1) := by decide +kernel
theorem dX7_machinesAheadOf_3 : decode cX7_machinesAheadOf 3 = .ok (.istore_n 3, 1) := by decide +kernel
theorem dX7_machinesAheadOf_4 : decode cX7_machinesAheadOf 4 = .ok (.iload_n 3, 1) := by decide +kernel
theorem dX7_machinesAheadOf_5 : decode cX7_machinesAheadOf 5 = .ok (.aload_n 0, 1) := by decide +kernel
theorem dX7_machinesAheadOf_6 : decode cX7_machinesAheadOf 6 = .ok (.getfield 19, 3) := by decide +kernel
theorem dX7_machinesAheadOf_9 : decode cX7_machinesAheadOf 9 = .ok (.invokevirtual 111, 3) := by decide +kernel
theorem dX7_machinesAheadOf_12 : decode cX7_machinesAheadOf 12 = .ok (.if_icmp .ge 47, 3) := by decide +kernel
theorem dX7_machinesAheadOf_15 : decode cX7_machinesAheadOf 15 = .ok (.aload_n 0, 1) := by decide +kernel
theorem dX7_machinesAheadOf_16 : decode cX7_machinesAheadOf 16 = .ok (.getfield 64, 3) := by decide +kernel
theorem dX7_machinesAheadOf_19 : decode cX7_machinesAheadOf 19 = .ok (.iload_n 3, 1) := by decide +kernel
theorem dX7_machinesAheadOf_20 : decode cX7_machinesAheadOf 20 = .ok (.iaload, 1) := by decide +kernel
theorem dX7_machinesAheadOf_21 : decode cX7_machinesAheadOf 21 = .ok (.aload_n 0, 1) := by decide +kernel
theorem dX7_machinesAheadOf_22 : decode cX7_machinesAheadOf 22 = .ok (.getfield 64, 3) := by decide +kernel
theorem dX7_machinesAheadOf_25 : decode cX7_machinesAheadOf 25 = .ok (.iload_n 1, 1) := by decide +kernel
theorem dX7_machinesAheadOf_26 : decode cX7_machinesAheadOf 26 = .ok (.iaload, 1) := by decide +kernel
theorem dX7_machinesAheadOf_27 : decode cX7_machinesAheadOf 27 = .ok (.if_icmp .gt 23, 3) := by decide +kernel
theorem dX7_machinesAheadOf_30 : decode cX7_machinesAheadOf 30 = .ok (.aload_n 0, 1) := by decide +kernel
theorem dX7_machinesAheadOf_31 : decode cX7_machinesAheadOf 31 = .ok (.getfield 64, 3) := by decide +kernel
theorem dX7_machinesAheadOf_34 : decode cX7_machinesAheadOf 34 = .ok (.iload_n 3, 1) := by decide +kernel
theorem dX7_machinesAheadOf_35 : decode cX7_machinesAheadOf 35 = .ok (.iaload, 1) := by decide +kernel
theorem dX7_machinesAheadOf_36 : decode cX7_machinesAheadOf 36 = .ok (.aload_n 0, 1) := by decide +kernel
theorem dX7_machinesAheadOf_37 : decode cX7_machinesAheadOf 37 = .ok (.getfield 64, 3) := by decide +kernel
theorem dX7_machinesAheadOf_40 : decode cX7_machinesAheadOf 40 = .ok (.iload_n 1, 1) := by decide +kernel
theorem dX7_machinesAheadOf_41 : decode cX7_machinesAheadOf 41 = .ok (.iaload, 1) := by decide +kernel
theorem dX7_machinesAheadOf_42 : decode cX7_machinesAheadOf 42 = .ok (.if_icmp .ne 11, 3) := by decide +kernel
theorem dX7_machinesAheadOf_45 : decode cX7_machinesAheadOf 45 = .ok (.iload_n 3, 1) := by decide +kernel
theorem dX7_machinesAheadOf_46 : decode cX7_machinesAheadOf 46 = .ok (.iload_n 1, 1) := by decide +kernel
theorem dX7_machinesAheadOf_47 : decode cX7_machinesAheadOf 47 = .ok (.if_icmp .ge 6, 3) := by decide +kernel
theorem dX7_machinesAheadOf_50 : decode cX7_machinesAheadOf 50 = .ok (.iinc 2 1, 3) := by decide +kernel
theorem dX7_machinesAheadOf_53 : decode cX7_machinesAheadOf 53 = .ok (.iinc 3 1, 3) := by decide +kernel
theorem dX7_machinesAheadOf_56 : decode cX7_machinesAheadOf 56 = .ok (.goto (-52), 3) := by decide +kernel
theorem dX7_machinesAheadOf_59 : decode cX7_machinesAheadOf 59 = .ok (.iload_n 2, 1) := by decide +kernel
theorem dX7_machinesAheadOf_60 : decode cX7_machinesAheadOf 60 = .ok (.ireturn, 1) := by decide +kernel
set_option maxRecDepth 20000 in
theorem ggX7_restingPairs_X2_many : GoodIn wsX7_restingPairs wsX2_many := goodIn_r _ [8, 9, 163, 164, 165, 166] (by decide +kernel) (by decide +kernel)
set_option maxRecDepth 20000 in
theorem gX7_restingPairs_X2_many : GoodIn wsX7_restingPairs (wsV RX7 111 RX2 yX2_many wsX2_many) := goodIn_app (goodIn_of _ (by decide +kernel)) ggX7_restingPairs_X2_many
set_option maxRecDepth 20000 in
theorem ggX7_restingPairs_X3_learn : GoodIn wsX7_restingPairs wsX3_learn := goodIn_r _ [14, 15, 16, 17, 18, 13, 19, 20, 21, 22, 23, 24, 25, 26, 27, 28, 29, 30, 7, 31, 32, 33, 34, 35, 36, 37, 38, 39, 40, 41, 42, 43, 44, 45, 46, 47, 48, 49, 50, 51, 52, 53, 54, 55, 56, 57, 58, 59, 60, 61, 62, 63, 64, 65, 66, 67, 68, 69, 70, 71, 72, 73, 74, 75, 76, 77, 78, 79, 80, 81, 82, 83, 84, 85, 86, 87, 88, 89, 90, 91, 92, 93, 94, 95, 96, 97, 98, 99, 100, 101, 102, 103, 104, 105, 106, 107, 108, 109, 110, 111, 112, 113, 114, 115, 116, 117, 118, 119, 120, 121, 122, 123, 124, 125, 167, 168, 169, 170, 171, 172, 173, 174, 175, 176, 177, 163, 164, 165, 166, 178, 179, 180, 181, 182] (by decide +kernel) (by decide +kernel)
set_option maxRecDepth 20000 in
theorem gX7_restingPairs_X3_learn : GoodIn wsX7_restingPairs (wsV RX7 208 RX3 yX3_learn wsX3_learn) := goodIn_app (goodIn_of _ (by decide +kernel)) ggX7_restingPairs_X3_learn
set_option maxRecDepth 20000 in
theorem ggX7_restingPairs_X7_takeBothSides : GoodIn wsX7_restingPairs wsX7_takeBothSides := goodIn_r _ [130, 131, 3, 1, 132, 133, 134, 135, 24, 136, 26, 27, 28, 29, 30, 7, 31, 32, 38, 39, 40, 41, 42, 137, 138, 139, 33, 34, 35, 36, 37, 43, 44, 45, 46, 47, 48, 153, 154, 155, 156, 157, 158, 159, 160, 161, 162, 172, 173, 174, 175, 176, 177, 163, 164, 165, 166, 178, 179, 180] (by decide +kernel) (by decide +kernel)
set_option maxRecDepth 20000 in
theorem gX7_restingPairs_X7_takeBothSides : GoodIn wsX7_restingPairs (wsV RX7 229 RX7 yX7_takeBothSides wsX7_takeBothSides) := goodIn_app (goodIn_of _ (by decide +kernel)) ggX7_restingPairs_X7_takeBothSides
set_option maxRecDepth 20000 in
theorem ggX7_restingPairs_X7_restFrom : GoodIn wsX7_restingPairs wsX7_restFrom := goodIn_r _ [143, 131, 132, 144, 138, 24, 139, 145, 146, 147, 129, 148, 3, 149, 2, 150, 50, 51, 52, 53, 54, 26, 55, 56, 57, 58, 59, 60, 151, 62, 63, 64, 65, 66, 67, 46, 68, 69, 70, 71, 72, 73, 74, 75, 76, 77, 78, 79, 80, 81, 27, 82, 83, 84, 85, 86, 87, 88, 89, 90, 91, 92, 93, 94, 95, 152, 115, 116, 13, 117, 104, 105, 96, 97, 98, 118, 119, 120, 121, 122, 123, 124, 125, 153, 154, 155, 156, 157, 158, 159, 160, 161, 162, 172, 173, 174, 175, 176, 177, 178, 179, 180, 181, 182, 167, 168, 169, 170, 171] (by decide +kernel) (by decide +kernel)
set_option maxRecDepth 20000 in
theorem gX7_restingPairs_X7_restFrom : GoodIn wsX7_restingPairs (wsV RX7 232 RX7 yX7_restFrom wsX7_restFrom) := goodIn_app (goodIn_of _ (by decide +kernel)) ggX7_restingPairs_X7_restFrom
theorem dX7_restingPairs_0 : decode cX7_restingPairs 0 = .ok (.iconst 0, 1) := by decide +kernel
theorem dX7_restingPairs_1 : decode cX7_restingPairs 1 = .ok (.istore_n 1, 1) := by decide +kernel
theorem dX7_restingPairs_2 : decode cX7_restingPairs 2 = .ok (.iload_n 1, 1) := by decide +kernel
theorem dX7_restingPairs_3 : decode cX7_restingPairs 3 = .ok (.aload_n 0, 1) := by decide +kernel
theorem dX7_restingPairs_4 : decode cX7_restingPairs 4 = .ok (.getfield 19, 3) := by decide +kernel
theorem dX7_restingPairs_7 : decode cX7_restingPairs 7 = .ok (.invokevirtual 111, 3) := by decide +kernel
theorem dX7_restingPairs_10 : decode cX7_restingPairs 10 = .ok (.if_icmp .ge 26, 3) := by decide +kernel
theorem dX7_restingPairs_13 : decode cX7_restingPairs 13 = .ok (.aload_n 0, 1) := by decide +kernel
theorem dX7_restingPairs_14 : decode cX7_restingPairs 14 = .ok (.getfield 40, 3) := by decide +kernel
theorem dX7_restingPairs_17 : decode cX7_restingPairs 17 = .ok (.aload_n 0, 1) := by decide +kernel
theorem dX7_restingPairs_18 : decode cX7_restingPairs 18 = .ok (.getfield 10, 3) := by decide +kernel
theorem dX7_restingPairs_21 : decode cX7_restingPairs 21 = .ok (.aload_n 0, 1) := by decide +kernel
theorem dX7_restingPairs_22 : decode cX7_restingPairs 22 = .ok (.getfield 19, 3) := by decide +kernel
theorem dX7_restingPairs_25 : decode cX7_restingPairs 25 = .ok (.iload_n 1, 1) := by decide +kernel
theorem dX7_restingPairs_26 : decode cX7_restingPairs 26 = .ok (.iconst 0, 1) := by decide +kernel
theorem dX7_restingPairs_27 : decode cX7_restingPairs 27 = .ok (.invokevirtual 208, 3) := by decide +kernel
theorem dX7_restingPairs_30 : decode cX7_restingPairs 30 = .ok (.iinc 1 1, 3) := by decide +kernel
theorem dX7_restingPairs_33 : decode cX7_restingPairs 33 = .ok (.goto (-31), 3) := by decide +kernel
theorem dX7_restingPairs_36 : decode cX7_restingPairs 36 = .ok (.iconst 0, 1) := by decide +kernel
theorem dX7_restingPairs_37 : decode cX7_restingPairs 37 = .ok (.istore_n 1, 1) := by decide +kernel
theorem dX7_restingPairs_38 : decode cX7_restingPairs 38 = .ok (.iconst 0, 1) := by decide +kernel
theorem dX7_restingPairs_39 : decode cX7_restingPairs 39 = .ok (.istore_n 2, 1) := by decide +kernel
theorem dX7_restingPairs_40 : decode cX7_restingPairs 40 = .ok (.iload_n 2, 1) := by decide +kernel
theorem dX7_restingPairs_41 : decode cX7_restingPairs 41 = .ok (.aload_n 0, 1) := by decide +kernel
theorem dX7_restingPairs_42 : decode cX7_restingPairs 42 = .ok (.getfield 19, 3) := by decide +kernel
theorem dX7_restingPairs_45 : decode cX7_restingPairs 45 = .ok (.invokevirtual 111, 3) := by decide +kernel
theorem dX7_restingPairs_48 : decode cX7_restingPairs 48 = .ok (.if_icmp .ge 48, 3) := by decide +kernel
theorem dX7_restingPairs_51 : decode cX7_restingPairs 51 = .ok (.iload_n 2, 1) := by decide +kernel
theorem dX7_restingPairs_52 : decode cX7_restingPairs 52 = .ok (.istore_n 3, 1) := by decide +kernel
theorem dX7_restingPairs_53 : decode cX7_restingPairs 53 = .ok (.iload_n 3, 1) := by decide +kernel
theorem dX7_restingPairs_54 : decode cX7_restingPairs 54 = .ok (.aload_n 0, 1) := by decide +kernel
theorem dX7_restingPairs_55 : decode cX7_restingPairs 55 = .ok (.getfield 19, 3) := by decide +kernel
theorem dX7_restingPairs_58 : decode cX7_restingPairs 58 = .ok (.invokevirtual 111, 3) := by decide +kernel
theorem dX7_restingPairs_61 : decode cX7_restingPairs 61 = .ok (.if_icmp .ge 29, 3) := by decide +kernel
theorem dX7_restingPairs_64 : decode cX7_restingPairs 64 = .ok (.aload_n 0, 1) := by decide +kernel
theorem dX7_restingPairs_65 : decode cX7_restingPairs 65 = .ok (.iload_n 2, 1) := by decide +kernel
theorem dX7_restingPairs_66 : decode cX7_restingPairs 66 = .ok (.iload_n 3, 1) := by decide +kernel
theorem dX7_restingPairs_67 : decode cX7_restingPairs 67 = .ok (.invokevirtual 229, 3) := by decide +kernel
theorem dX7_restingPairs_70 : decode cX7_restingPairs 70 = .ok (.aload_n 0, 1) := by decide +kernel
theorem dX7_restingPairs_71 : decode cX7_restingPairs 71 = .ok (.iload_n 2, 1) := by decide +kernel
theorem dX7_restingPairs_72 : decode cX7_restingPairs 72 = .ok (.iconst 0, 1) := by decide +kernel
theorem dX7_restingPairs_73 : decode cX7_restingPairs 73 = .ok (.iload_n 3, 1) := by decide +kernel
theorem dX7_restingPairs_74 : decode cX7_restingPairs 74 = .ok (.iconst 0, 1) := by decide +kernel
theorem dX7_restingPairs_75 : decode cX7_restingPairs 75 = .ok (.invokevirtual 232, 3) := by decide +kernel
theorem dX7_restingPairs_78 : decode cX7_restingPairs 78 = .ok (.ifCond .eq 6, 3) := by decide +kernel
theorem dX7_restingPairs_81 : decode cX7_restingPairs 81 = .ok (.iinc 1 1, 3) := by decide +kernel
theorem dX7_restingPairs_84 : decode cX7_restingPairs 84 = .ok (.iinc 3 1, 3) := by decide +kernel
theorem dX7_restingPairs_87 : decode cX7_restingPairs 87 = .ok (.goto (-34), 3) := by decide +kernel
theorem dX7_restingPairs_90 : decode cX7_restingPairs 90 = .ok (.iinc 2 1, 3) := by decide +kernel
theorem dX7_restingPairs_93 : decode cX7_restingPairs 93 = .ok (.goto (-53), 3) := by decide +kernel
theorem dX7_restingPairs_96 : decode cX7_restingPairs 96 = .ok (.iload_n 1, 1) := by decide +kernel
theorem dX7_restingPairs_97 : decode cX7_restingPairs 97 = .ok (.ireturn, 1) := by decide +kernel
end
section
theorem dX8_init_0 : decode cX8_init 0 = .ok (.aload_n 0, 1) := by decide +kernel
theorem dX8_init_1 : decode cX8_init 1 = .ok (.invokespecial 1, 3) := by decide +kernel
theorem dX8_init_4 : decode cX8_init 4 = .ok (.aload_n 0, 1) := by decide +kernel
theorem dX8_init_5 : decode cX8_init 5 = .ok (.bipush 9, 2) := by decide +kernel
theorem dX8_init_7 : decode cX8_init 7 = .ok (.newarray .int, 2) := by decide +kernel
theorem dX8_init_9 : decode cX8_init 9 = .ok (.putfield 7, 3) := by decide +kernel
theorem dX8_init_12 : decode cX8_init 12 = .ok (.aload_n 0, 1) := by decide +kernel
theorem dX8_init_13 : decode cX8_init 13 = .ok (.iconst 1, 1) := by decide +kernel
theorem dX8_init_14 : decode cX8_init 14 = .ok (.putfield 13, 3) := by decide +kernel
theorem dX8_init_17 : decode cX8_init 17 = .ok (.aload_n 0, 1) := by decide +kernel
theorem dX8_init_18 : decode cX8_init 18 = .ok (.iconst 2, 1) := by decide +kernel
theorem dX8_init_19 : decode cX8_init 19 = .ok (.putfield 17, 3) := by decide +kernel
theorem dX8_init_22 : decode cX8_init 22 = .ok (.aload_n 0, 1) := by decide +kernel
theorem dX8_init_23 : decode cX8_init 23 = .ok (.bipush 12, 2) := by decide +kernel
theorem dX8_init_25 : decode cX8_init 25 = .ok (.newarray .int, 2) := by decide +kernel
theorem dX8_init_27 : decode cX8_init 27 = .ok (.putfield 20, 3) := by decide +kernel
theorem dX8_init_30 : decode cX8_init 30 = .ok (.aload_n 0, 1) := by decide +kernel
theorem dX8_init_31 : decode cX8_init 31 = .ok (.bipush 48, 2) := by decide +kernel
theorem dX8_init_33 : decode cX8_init 33 = .ok (.newarray .int, 2) := by decide +kernel
theorem dX8_init_35 : decode cX8_init 35 = .ok (.putfield 23, 3) := by decide +kernel
theorem dX8_init_38 : decode cX8_init 38 = .ok (.aload_n 0, 1) := by decide +kernel
theorem dX8_init_39 : decode cX8_init 39 = .ok (.sipush 144, 3) := by decide +kernel
theorem dX8_init_42 : decode cX8_init 42 = .ok (.newarray .int, 2) := by decide +kernel
theorem dX8_init_44 : decode cX8_init 44 = .ok (.putfield 26, 3) := by decide +kernel
theorem dX8_init_47 : decode cX8_init 47 = .ok (.aload_n 0, 1) := by decide +kernel
theorem dX8_init_48 : decode cX8_init 48 = .ok (.iconst 4, 1) := by decide +kernel
theorem dX8_init_49 : decode cX8_init 49 = .ok (.newarray .int, 2) := by decide +kernel
theorem dX8_init_51 : decode cX8_init 51 = .ok (.putfield 29, 3) := by decide +kernel
theorem dX8_init_54 : decode cX8_init 54 = .ok (.aload_n 0, 1) := by decide +kernel
theorem dX8_init_55 : decode cX8_init 55 = .ok (.iconst 4, 1) := by decide +kernel
theorem dX8_init_56 : decode cX8_init 56 = .ok (.newarray .int, 2) := by decide +kernel
theorem dX8_init_58 : decode cX8_init 58 = .ok (.putfield 32, 3) := by decide +kernel
theorem dX8_init_61 : decode cX8_init 61 = .ok (.aload_n 0, 1) := by decide +kernel
theorem dX8_init_62 : decode cX8_init 62 = .ok (.sipush 240, 3) := by decide +kernel
theorem dX8_init_65 : decode cX8_init 65 = .ok (.newarray .int, 2) := by decide +kernel
theorem dX8_init_67 : decode cX8_init 67 = .ok (.putfield 35, 3) := by decide +kernel
theorem dX8_init_70 : decode cX8_init 70 = .ok (.aload_n 0, 1) := by decide +kernel
theorem dX8_init_71 : decode cX8_init 71 = .ok (.bipush 17, 2) := by decide +kernel
theorem dX8_init_73 : decode cX8_init 73 = .ok (.newarray .int, 2) := by decide +kernel
theorem dX8_init_75 : decode cX8_init 75 = .ok (.putfield 38, 3) := by decide +kernel
theorem dX8_init_78 : decode cX8_init 78 = .ok (.aload_n 0, 1) := by decide +kernel
theorem dX8_init_79 : decode cX8_init 79 = .ok (.bipush 16, 2) := by decide +kernel
theorem dX8_init_81 : decode cX8_init 81 = .ok (.newarray .int, 2) := by decide +kernel
theorem dX8_init_83 : decode cX8_init 83 = .ok (.putfield 41, 3) := by decide +kernel
theorem dX8_init_86 : decode cX8_init 86 = .ok (.aload_n 0, 1) := by decide +kernel
theorem dX8_init_87 : decode cX8_init 87 = .ok (.bipush 16, 2) := by decide +kernel
theorem dX8_init_89 : decode cX8_init 89 = .ok (.newarray .boolean, 2) := by decide +kernel
theorem dX8_init_91 : decode cX8_init 91 = .ok (.putfield 44, 3) := by decide +kernel
theorem dX8_init_94 : decode cX8_init 94 = .ok (.aload_n 0, 1) := by decide +kernel
theorem dX8_init_95 : decode cX8_init 95 = .ok (.bipush 12, 2) := by decide +kernel
theorem dX8_init_97 : decode cX8_init 97 = .ok (.newarray .int, 2) := by decide +kernel
theorem dX8_init_99 : decode cX8_init 99 = .ok (.putfield 48, 3) := by decide +kernel
theorem dX8_init_102 : decode cX8_init 102 = .ok (.iconst 0, 1) := by decide +kernel
theorem dX8_init_103 : decode cX8_init 103 = .ok (.istore_n 1, 1) := by decide +kernel
theorem dX8_init_104 : decode cX8_init 104 = .ok (.iload_n 1, 1) := by decide +kernel
theorem dX8_init_105 : decode cX8_init 105 = .ok (.iconst 4, 1) := by decide +kernel
theorem dX8_init_106 : decode cX8_init 106 = .ok (.if_icmp .ge 17, 3) := by decide +kernel
theorem dX8_init_109 : decode cX8_init 109 = .ok (.aload_n 0, 1) := by decide +kernel
theorem dX8_init_110 : decode cX8_init 110 = .ok (.getfield 29, 3) := by decide +kernel
theorem dX8_init_113 : decode cX8_init 113 = .ok (.iload_n 1, 1) := by decide +kernel
theorem dX8_init_114 : decode cX8_init 114 = .ok (.bipush (-4), 2) := by decide +kernel
theorem dX8_init_116 : decode cX8_init 116 = .ok (.iastore, 1) := by decide +kernel
theorem dX8_init_117 : decode cX8_init 117 = .ok (.iinc 1 1, 3) := by decide +kernel
theorem dX8_init_120 : decode cX8_init 120 = .ok (.goto (-16), 3) := by decide +kernel
theorem dX8_init_123 : decode cX8_init 123 = .ok (.return_, 1) := by decide +kernel
theorem dX8_in_0 : decode cX8_in 0 = .ok (.lload_n 0, 1) := by decide +kernel
theorem dX8_in_1 : decode cX8_in 1 = .ok (.lload_n 2, 1) := by decide +kernel
theorem dX8_in_2 : decode cX8_in 2 = .ok (.lcmp, 1) := by decide +kernel
theorem dX8_in_3 : decode cX8_in 3 = .ok (.ifCond .lt 14, 3) := by decide +kernel
theorem dX8_in_6 : decode cX8_in 6 = .ok (.lload_n 0, 1) := by decide +kernel
theorem dX8_in_7 : decode cX8_in 7 = .ok (.lload 4, 2) := by decide +kernel
theorem dX8_in_9 : decode cX8_in 9 = .ok (.lcmp, 1) := by decide +kernel
theorem dX8_in_10 : decode cX8_in 10 = .ok (.ifCond .gt 7, 3) := by decide +kernel
theorem dX8_in_13 : decode cX8_in 13 = .ok (.iconst 1, 1) := by decide +kernel
theorem dX8_in_14 : decode cX8_in 14 = .ok (.goto 4, 3) := by decide +kernel
theorem dX8_in_17 : decode cX8_in 17 = .ok (.iconst 0, 1) := by decide +kernel
theorem dX8_in_18 : decode cX8_in 18 = .ok (.ireturn, 1) := by decide +kernel
set_option maxRecDepth 20000 in
theorem ggX8_pay_X8_in : GoodIn wsX8_pay wsX8_in := goodIn_r _ [8] (by decide +kernel) (by decide +kernel)
set_option maxRecDepth 20000 in
theorem gX8_pay_X8_in : GoodIn wsX8_pay (va_wsS RX8 53 yX8_in wsX8_in) := goodIn_app (goodIn_of _ (by decide +kernel)) ggX8_pay_X8_in
theorem dX8_pay_0 : decode cX8_pay 0 = .ok (.iload_n 1, 1) := by decide +kernel
theorem dX8_pay_1 : decode cX8_pay 1 = .ok (.i2l, 1) := by decide +kernel
theorem dX8_pay_2 : decode cX8_pay 2 = .ok (.lconst 0, 1) := by decide +kernel
theorem dX8_pay_3 : decode cX8_pay 3 = .ok (.ldc2_w 51, 3) := by decide +kernel
theorem dX8_pay_6 : decode cX8_pay 6 = .ok (.invokestatic 53, 3) := by decide +kernel
theorem dX8_pay_9 : decode cX8_pay 9 = .ok (.ifCond .eq 29, 3) := by decide +kernel
theorem dX8_pay_12 : decode cX8_pay 12 = .ok (.iload_n 2, 1) := by decide +kernel
theorem dX8_pay_13 : decode cX8_pay 13 = .ok (.i2l, 1) := by decide +kernel
theorem dX8_pay_14 : decode cX8_pay 14 = .ok (.lconst 0, 1) := by decide +kernel
theorem dX8_pay_15 : decode cX8_pay 15 = .ok (.ldc2_w 51, 3) := by decide +kernel
theorem dX8_pay_18 : decode cX8_pay 18 = .ok (.invokestatic 53, 3) := by decide +kernel
theorem dX8_pay_21 : decode cX8_pay 21 = .ok (.ifCond .eq 17, 3) := by decide +kernel
theorem dX8_pay_24 : decode cX8_pay 24 = .ok (.iload_n 3, 1) := by decide +kernel
theorem dX8_pay_25 : decode cX8_pay 25 = .ok (.i2l, 1) := by decide +kernel
theorem dX8_pay_26 : decode cX8_pay 26 = .ok (.ldc2_w 57, 3) := by decide +kernel
theorem dX8_pay_29 : decode cX8_pay 29 = .ok (.ldc2_w 59, 3) := by decide +kernel
theorem dX8_pay_32 : decode cX8_pay 32 = .ok (.invokestatic 53, 3) := by decide +kernel
theorem dX8_pay_35 : decode cX8_pay 35 = .ok (.ifCond .ne 5, 3) := by decide +kernel
theorem dX8_pay_38 : decode cX8_pay 38 = .ok (.iconst (-1), 1) := by decide +kernel
theorem dX8_pay_39 : decode cX8_pay 39 = .ok (.ireturn, 1) := by decide +kernel
theorem dX8_pay_40 : decode cX8_pay 40 = .ok (.aload_n 0, 1) := by decide +kernel
theorem dX8_pay_41 : decode cX8_pay 41 = .ok (.getfield 7, 3) := by decide +kernel
theorem dX8_pay_44 : decode cX8_pay 44 = .ok (.iconst 3, 1) := by decide +kernel
theorem dX8_pay_45 : decode cX8_pay 45 = .ok (.iload_n 1, 1) := by decide +kernel
theorem dX8_pay_46 : decode cX8_pay 46 = .ok (.imul, 1) := by decide +kernel
theorem dX8_pay_47 : decode cX8_pay 47 = .ok (.iload_n 2, 1) := by decide +kernel
theorem dX8_pay_48 : decode cX8_pay 48 = .ok (.iadd, 1) := by decide +kernel
theorem dX8_pay_49 : decode cX8_pay 49 = .ok (.iload_n 3, 1) := by decide +kernel
theorem dX8_pay_50 : decode cX8_pay 50 = .ok (.iastore, 1) := by decide +kernel
theorem dX8_pay_51 : decode cX8_pay 51 = .ok (.iconst 1, 1) := by decide +kernel
theorem dX8_pay_52 : decode cX8_pay 52 = .ok (.ireturn, 1) := by decide +kernel
set_option maxRecDepth 20000 in
theorem ggX8_discount_X8_in : GoodIn wsX8_discount wsX8_in := goodIn_r _ [8] (by decide +kernel) (by decide +kernel)
set_option maxRecDepth 20000 in
theorem gX8_discount_X8_in : GoodIn wsX8_discount (va_wsS RX8 53 yX8_in wsX8_in) := goodIn_app (goodIn_of _ (by decide +kernel)) ggX8_discount_X8_in
theorem dX8_discount_0 : decode cX8_discount 0 = .ok (.iload_n 2, 1) := by decide +kernel
theorem dX8_discount_1 : decode cX8_discount 1 = .ok (.i2l, 1) := by decide +kernel
theorem dX8_discount_2 : decode cX8_discount 2 = .ok (.ldc2_w 51, 3) := by decide +kernel
theorem dX8_discount_5 : decode cX8_discount 5 = .ok (.ldc2_w 61, 3) := by decide +kernel
theorem dX8_discount_8 : decode cX8_discount 8 = .ok (.invokestatic 53, 3) := by decide +kernel
theorem dX8_discount_11 : decode cX8_discount 11 = .ok (.ifCond .eq 16, 3) := by decide +kernel
theorem dX8_discount_14 : decode cX8_discount 14 = .ok (.iload_n 1, 1) := by decide +kernel
theorem dX8_discount_15 : decode cX8_discount 15 = .ok (.i2l, 1) := by decide +kernel
theorem dX8_discount_16 : decode cX8_discount 16 = .ok (.lconst 1, 1) := by decide +kernel
theorem dX8_discount_17 : decode cX8_discount 17 = .ok (.iload_n 2, 1) := by decide +kernel
theorem dX8_discount_18 : decode cX8_discount 18 = .ok (.iconst 1, 1) := by decide +kernel
theorem dX8_discount_19 : decode cX8_discount 19 = .ok (.isub, 1) := by decide +kernel
theorem dX8_discount_20 : decode cX8_discount 20 = .ok (.i2l, 1) := by decide +kernel
theorem dX8_discount_21 : decode cX8_discount 21 = .ok (.invokestatic 53, 3) := by decide +kernel
theorem dX8_discount_24 : decode cX8_discount 24 = .ok (.ifCond .ne 5, 3) := by decide +kernel
theorem dX8_discount_27 : decode cX8_discount 27 = .ok (.iconst (-1), 1) := by decide +kernel
theorem dX8_discount_28 : decode cX8_discount 28 = .ok (.ireturn, 1) := by decide +kernel
theorem dX8_discount_29 : decode cX8_discount 29 = .ok (.aload_n 0, 1) := by decide +kernel
theorem dX8_discount_30 : decode cX8_discount 30 = .ok (.iload_n 1, 1) := by decide +kernel
theorem dX8_discount_31 : decode cX8_discount 31 = .ok (.putfield 13, 3) := by decide +kernel
theorem dX8_discount_34 : decode cX8_discount 34 = .ok (.aload_n 0, 1) := by decide +kernel
theorem dX8_discount_35 : decode cX8_discount 35 = .ok (.iload_n 2, 1) := by decide +kernel
theorem dX8_discount_36 : decode cX8_discount 36 = .ok (.putfield 17, 3) := by decide +kernel
theorem dX8_discount_39 : decode cX8_discount 39 = .ok (.iconst 1, 1) := by decide +kernel
theorem dX8_discount_40 : decode cX8_discount 40 = .ok (.ireturn, 1) := by decide +kernel
set_option maxRecDepth 20000 in
theorem ggX8_isMachine_X8_in : GoodIn wsX8_isMachine wsX8_in := goodIn_r _ [5] (by decide +kernel) (by decide +kernel)
set_option maxRecDepth 20000 in
theorem gX8_isMachine_X8_in : GoodIn wsX8_isMachine (va_wsS RX8 53 yX8_in wsX8_in) := goodIn_app (goodIn_of _ (by decide +kernel)) ggX8_isMachine_X8_in
theorem dX8_isMachine_0 : decode cX8_isMachine 0 = .ok (.iload_n 1, 1) := by decide +kernel
theorem dX8_isMachine_1 : decode cX8_isMachine 1 = .ok (.i2l, 1) := by decide +kernel
theorem dX8_isMachine_2 : decode cX8_isMachine 2 = .ok (.lconst 0, 1) := by decide +kernel
theorem dX8_isMachine_3 : decode cX8_isMachine 3 = .ok (.aload_n 0, 1) := by decide +kernel
theorem dX8_isMachine_4 : decode cX8_isMachine 4 = .ok (.getfield 63, 3) := by decide +kernel
theorem dX8_isMachine_7 : decode cX8_isMachine 7 = .ok (.iconst 1, 1) := by decide +kernel
theorem dX8_isMachine_8 : decode cX8_isMachine 8 = .ok (.isub, 1) := by decide +kernel
theorem dX8_isMachine_9 : decode cX8_isMachine 9 = .ok (.i2l, 1) := by decide +kernel
theorem dX8_isMachine_10 : decode cX8_isMachine 10 = .ok (.invokestatic 53, 3) := by decide +kernel
theorem dX8_isMachine_13 : decode cX8_isMachine 13 = .ok (.ireturn, 1) := by decide +kernel
set_option maxRecDepth 20000 in
theorem ggX8_isState_X8_isMachine : GoodIn wsX8_isState wsX8_isMachine := goodIn_r _ [6, 7, 8, 9, 5, 10, 11, 12, 13, 14, 15, 16, 17, 18, 19, 20, 21, 22, 23, 24, 25, 26, 27, 28, 29, 30, 31] (by decide +kernel) (by decide +kernel)
set_option maxRecDepth 20000 in
theorem gX8_isState_X8_isMachine : GoodIn wsX8_isState (wsV RX8 66 RX8 yX8_isMachine wsX8_isMachine) := goodIn_app (goodIn_of _ (by decide +kernel)) ggX8_isState_X8_isMachine
set_option maxRecDepth 20000 in
theorem ggX8_isState_X8_in : GoodIn wsX8_isState wsX8_in := goodIn_r _ [10] (by decide +kernel) (by decide +kernel)
set_option maxRecDepth 20000 in
theorem gX8_isState_X8_in : GoodIn wsX8_isState (va_wsS RX8 53 yX8_in wsX8_in) := goodIn_app (goodIn_of _ (by decide +kernel)) ggX8_isState_X8_in
theorem dX8_isState_0 : decode cX8_isState 0 = .ok (.aload_n 0, 1) := by decide +kernel
theorem dX8_isState_1 : decode cX8_isState 1 = .ok (.iload_n 1, 1) := by decide +kernel
theorem dX8_isState_2 : decode cX8_isState 2 = .ok (.invokevirtual 66, 3) := by decide +kernel
theorem dX8_isState_5 : decode cX8_isState 5 = .ok (.ifCond .eq 25, 3) := by decide +kernel
theorem dX8_isState_8 : decode cX8_isState 8 = .ok (.iload_n 2, 1) := by decide +kernel
theorem dX8_isState_9 : decode cX8_isState 9 = .ok (.i2l, 1) := by decide +kernel
theorem dX8_isState_10 : decode cX8_isState 10 = .ok (.lconst 0, 1) := by decide +kernel
theorem dX8_isState_11 : decode cX8_isState 11 = .ok (.aload_n 0, 1) := by decide +kernel
theorem dX8_isState_12 : decode cX8_isState 12 = .ok (.getfield 20, 3) := by decide +kernel
theorem dX8_isState_15 : decode cX8_isState 15 = .ok (.iload_n 1, 1) := by decide +kernel
theorem dX8_isState_16 : decode cX8_isState 16 = .ok (.iaload, 1) := by decide +kernel
theorem dX8_isState_17 : decode cX8_isState 17 = .ok (.iconst 1, 1) := by decide +kernel
theorem dX8_isState_18 : decode cX8_isState 18 = .ok (.isub, 1) := by decide +kernel
theorem dX8_isState_19 : decode cX8_isState 19 = .ok (.i2l, 1) := by decide +kernel
theorem dX8_isState_20 : decode cX8_isState 20 = .ok (.invokestatic 53, 3) := by decide +kernel
theorem dX8_isState_23 : decode cX8_isState 23 = .ok (.ifCond .eq 7, 3) := by decide +kernel
theorem dX8_isState_26 : decode cX8_isState 26 = .ok (.iconst 1, 1) := by decide +kernel
theorem dX8_isState_27 : decode cX8_isState 27 = .ok (.goto 4, 3) := by decide +kernel
theorem dX8_isState_30 : decode cX8_isState 30 = .ok (.iconst 0, 1) := by decide +kernel
theorem dX8_isState_31 : decode cX8_isState 31 = .ok (.ireturn, 1) := by decide +kernel
set_option maxRecDepth 20000 in
theorem ggX8_machine_X8_in : GoodIn wsX8_machine wsX8_in := goodIn_r _ [9] (by decide +kernel) (by decide +kernel)
set_option maxRecDepth 20000 in
theorem gX8_machine_X8_in : GoodIn wsX8_machine (va_wsS RX8 53 yX8_in wsX8_in) := goodIn_app (goodIn_of _ (by decide +kernel)) ggX8_machine_X8_in
theorem dX8_machine_0 : decode cX8_machine 0 = .ok (.iload_n 1, 1) := by decide +kernel
theorem dX8_machine_1 : decode cX8_machine 1 = .ok (.i2l, 1) := by decide +kernel
theorem dX8_machine_2 : decode cX8_machine 2 = .ok (.lconst 1, 1) := by decide +kernel
theorem dX8_machine_3 : decode cX8_machine 3 = .ok (.ldc2_w 61, 3) := by decide +kernel
theorem dX8_machine_6 : decode cX8_machine 6 = .ok (.invokestatic 53, 3) := by decide +kernel
theorem dX8_machine_9 : decode cX8_machine 9 = .ok (.ifCond .ne 5, 3) := by decide +kernel
theorem dX8_machine_12 : decode cX8_machine 12 = .ok (.iconst (-1), 1) := by decide +kernel
theorem dX8_machine_13 : decode cX8_machine 13 = .ok (.ireturn, 1) := by decide +kernel
theorem dX8_machine_14 : decode cX8_machine 14 = .ok (.aload_n 0, 1) := by decide +kernel
theorem dX8_machine_15 : decode cX8_machine 15 = .ok (.getfield 63, 3) := by decide +kernel
theorem dX8_machine_18 : decode cX8_machine 18 = .ok (.bipush 12, 2) := by decide +kernel
theorem dX8_machine_20 : decode cX8_machine 20 = .ok (.if_icmp .ne 6, 3) := by decide +kernel
theorem dX8_machine_23 : decode cX8_machine 23 = .ok (.bipush (-3), 2) := by decide +kernel
theorem dX8_machine_25 : decode cX8_machine 25 = .ok (.ireturn, 1) := by decide +kernel
theorem dX8_machine_26 : decode cX8_machine 26 = .ok (.aload_n 0, 1) := by decide +kernel
theorem dX8_machine_27 : decode cX8_machine 27 = .ok (.getfield 20, 3) := by decide +kernel
theorem dX8_machine_30 : decode cX8_machine 30 = .ok (.aload_n 0, 1) := by decide +kernel
theorem dX8_machine_31 : decode cX8_machine 31 = .ok (.getfield 63, 3) := by decide +kernel
theorem dX8_machine_34 : decode cX8_machine 34 = .ok (.iload_n 1, 1) := by decide +kernel
theorem dX8_machine_35 : decode cX8_machine 35 = .ok (.iastore, 1) := by decide +kernel
theorem dX8_machine_36 : decode cX8_machine 36 = .ok (.iconst 0, 1) := by decide +kernel
theorem dX8_machine_37 : decode cX8_machine 37 = .ok (.istore_n 2, 1) := by decide +kernel
theorem dX8_machine_38 : decode cX8_machine 38 = .ok (.iload_n 2, 1) := by decide +kernel
theorem dX8_machine_39 : decode cX8_machine 39 = .ok (.iconst 4, 1) := by decide +kernel
theorem dX8_machine_40 : decode cX8_machine 40 = .ok (.if_icmp .ge 55, 3) := by decide +kernel
theorem dX8_machine_43 : decode cX8_machine 43 = .ok (.aload_n 0, 1) := by decide +kernel
theorem dX8_machine_44 : decode cX8_machine 44 = .ok (.getfield 23, 3) := by decide +kernel
theorem dX8_machine_47 : decode cX8_machine 47 = .ok (.iconst 4, 1) := by decide +kernel
theorem dX8_machine_48 : decode cX8_machine 48 = .ok (.aload_n 0, 1) := by decide +kernel
theorem dX8_machine_49 : decode cX8_machine 49 = .ok (.getfield 63, 3) := by decide +kernel
theorem dX8_machine_52 : decode cX8_machine 52 = .ok (.imul, 1) := by decide +kernel
theorem dX8_machine_53 : decode cX8_machine 53 = .ok (.iload_n 2, 1) := by decide +kernel
theorem dX8_machine_54 : decode cX8_machine 54 = .ok (.iadd, 1) := by decide +kernel
theorem dX8_machine_55 : decode cX8_machine 55 = .ok (.iconst 0, 1) := by decide +kernel
theorem dX8_machine_56 : decode cX8_machine 56 = .ok (.iastore, 1) := by decide +kernel
theorem dX8_machine_57 : decode cX8_machine 57 = .ok (.iconst 0, 1) := by decide +kernel
theorem dX8_machine_58 : decode cX8_machine 58 = .ok (.istore_n 3, 1) := by decide +kernel
theorem dX8_machine_59 : decode cX8_machine 59 = .ok (.iload_n 3, 1) := by decide +kernel
theorem dX8_machine_60 : decode cX8_machine 60 = .ok (.iconst 3, 1) := by decide +kernel
theorem dX8_machine_61 : decode cX8_machine 61 = .ok (.if_icmp .ge 28, 3) := by decide +kernel
theorem dX8_machine_64 : decode cX8_machine 64 = .ok (.aload_n 0, 1) := by decide +kernel
theorem dX8_machine_65 : decode cX8_machine 65 = .ok (.getfield 26, 3) := by decide +kernel
theorem dX8_machine_68 : decode cX8_machine 68 = .ok (.bipush 12, 2) := by decide +kernel
theorem dX8_machine_70 : decode cX8_machine 70 = .ok (.aload_n 0, 1) := by decide +kernel
theorem dX8_machine_71 : decode cX8_machine 71 = .ok (.getfield 63, 3) := by decide +kernel
theorem dX8_machine_74 : decode cX8_machine 74 = .ok (.imul, 1) := by decide +kernel
theorem dX8_machine_75 : decode cX8_machine 75 = .ok (.iconst 3, 1) := by decide +kernel
theorem dX8_machine_76 : decode cX8_machine 76 = .ok (.iload_n 2, 1) := by decide +kernel
theorem dX8_machine_77 : decode cX8_machine 77 = .ok (.imul, 1) := by decide +kernel
theorem dX8_machine_78 : decode cX8_machine 78 = .ok (.iadd, 1) := by decide +kernel
theorem dX8_machine_79 : decode cX8_machine 79 = .ok (.iload_n 3, 1) := by decide +kernel
theorem dX8_machine_80 : decode cX8_machine 80 = .ok (.iadd, 1) := by decide +kernel
theorem dX8_machine_81 : decode cX8_machine 81 = .ok (.iload_n 2, 1) := by decide +kernel
theorem dX8_machine_82 : decode cX8_machine 82 = .ok (.iastore, 1) := by decide +kernel
theorem dX8_machine_83 : decode cX8_machine 83 = .ok (.iinc 3 1, 3) := by decide +kernel
theorem dX8_machine_86 : decode cX8_machine 86 = .ok (.goto (-27), 3) := by decide +kernel
theorem dX8_machine_89 : decode cX8_machine 89 = .ok (.iinc 2 1, 3) := by decide +kernel
theorem dX8_machine_92 : decode cX8_machine 92 = .ok (.goto (-54), 3) := by decide +kernel
theorem dX8_machine_95 : decode cX8_machine 95 = .ok (.aload_n 0, 1) := by decide +kernel
theorem dX8_machine_96 : decode cX8_machine 96 = .ok (.dup, 1) := by decide +kernel
theorem dX8_machine_97 : decode cX8_machine 97 = .ok (.getfield 63, 3) := by decide +kernel
theorem dX8_machine_100 : decode cX8_machine 100 = .ok (.iconst 1, 1) := by decide +kernel
theorem dX8_machine_101 : decode cX8_machine 101 = .ok (.iadd, 1) := by decide +kernel
theorem dX8_machine_102 : decode cX8_machine 102 = .ok (.putfield 63, 3) := by decide +kernel
theorem dX8_machine_105 : decode cX8_machine 105 = .ok (.aload_n 0, 1) := by decide +kernel
theorem dX8_machine_106 : decode cX8_machine 106 = .ok (.getfield 63, 3) := by decide +kernel
theorem dX8_machine_109 : decode cX8_machine 109 = .ok (.iconst 1, 1) := by decide +kernel
theorem dX8_machine_110 : decode cX8_machine 110 = .ok (.isub, 1) := by decide +kernel
theorem dX8_machine_111 : decode cX8_machine 111 = .ok (.ireturn, 1) := by decide +kernel
set_option maxRecDepth 20000 in
theorem ggX8_does_X8_isState : GoodIn wsX8_does wsX8_isState := goodIn_r _ [7, 8, 9, 10, 11, 6, 12, 13, 14, 15, 16, 17, 18, 19, 20, 21, 22, 23, 24, 25, 26, 27, 28, 29, 30, 31, 32, 33, 34, 35, 36, 37] (by decide +kernel) (by decide +kernel)
set_option maxRecDepth 20000 in
theorem gX8_does_X8_isState : GoodIn wsX8_does (wsV RX8 70 RX8 yX8_isState wsX8_isState) := goodIn_app (goodIn_of _ (by decide +kernel)) ggX8_does_X8_isState
set_option maxRecDepth 20000 in
theorem ggX8_does_X8_in : GoodIn wsX8_does wsX8_in := goodIn_r _ [16] (by decide +kernel) (by decide +kernel)
set_option maxRecDepth 20000 in
theorem gX8_does_X8_in : GoodIn wsX8_does (va_wsS RX8 53 yX8_in wsX8_in) := goodIn_app (goodIn_of _ (by decide +kernel)) ggX8_does_X8_in
theorem dX8_does_0 : decode cX8_does 0 = .ok (.aload_n 0, 1) := by decide +kernel
theorem dX8_does_1 : decode cX8_does 1 = .ok (.iload_n 1, 1) := by decide +kernel
theorem dX8_does_2 : decode cX8_does 2 = .ok (.iload_n 2, 1) := by decide +kernel
theorem dX8_does_3 : decode cX8_does 3 = .ok (.invokevirtual 70, 3) := by decide +kernel
theorem dX8_does_6 : decode cX8_does 6 = .ok (.ifCond .eq 15, 3) := by decide +kernel
theorem dX8_does_9 : decode cX8_does 9 = .ok (.iload_n 3, 1) := by decide +kernel
theorem dX8_does_10 : decode cX8_does 10 = .ok (.i2l, 1) := by decide +kernel
theorem dX8_does_11 : decode cX8_does 11 = .ok (.lconst 0, 1) := by decide +kernel
theorem dX8_does_12 : decode cX8_does 12 = .ok (.ldc2_w 51, 3) := by decide +kernel
theorem dX8_does_15 : decode cX8_does 15 = .ok (.invokestatic 53, 3) := by decide +kernel
theorem dX8_does_18 : decode cX8_does 18 = .ok (.ifCond .ne 5, 3) := by decide +kernel
theorem dX8_does_21 : decode cX8_does 21 = .ok (.iconst (-1), 1) := by decide +kernel
theorem dX8_does_22 : decode cX8_does 22 = .ok (.ireturn, 1) := by decide +kernel
theorem dX8_does_23 : decode cX8_does 23 = .ok (.aload_n 0, 1) := by decide +kernel
theorem dX8_does_24 : decode cX8_does 24 = .ok (.getfield 23, 3) := by decide +kernel
theorem dX8_does_27 : decode cX8_does 27 = .ok (.iconst 4, 1) := by decide +kernel
theorem dX8_does_28 : decode cX8_does 28 = .ok (.iload_n 1, 1) := by decide +kernel
theorem dX8_does_29 : decode cX8_does 29 = .ok (.imul, 1) := by decide +kernel
theorem dX8_does_30 : decode cX8_does 30 = .ok (.iload_n 2, 1) := by decide +kernel
theorem dX8_does_31 : decode cX8_does 31 = .ok (.iadd, 1) := by decide +kernel
theorem dX8_does_32 : decode cX8_does 32 = .ok (.iload_n 3, 1) := by decide +kernel
theorem dX8_does_33 : decode cX8_does 33 = .ok (.iastore, 1) := by decide +kernel
theorem dX8_does_34 : decode cX8_does 34 = .ok (.iconst 1, 1) := by decide +kernel
theorem dX8_does_35 : decode cX8_does 35 = .ok (.ireturn, 1) := by decide +kernel
set_option maxRecDepth 20000 in
theorem ggX8_goes_X8_isState : GoodIn wsX8_goes wsX8_isState := goodIn_r _ [7, 8, 9, 10, 11, 6, 12, 13, 14, 15, 16, 17, 18, 19, 20, 21, 22, 23, 24, 25, 26, 27, 28, 29, 30, 31, 32, 33, 34, 35, 36, 37] (by decide +kernel) (by decide +kernel)
set_option maxRecDepth 20000 in
theorem gX8_goes_X8_isState : GoodIn wsX8_goes (wsV RX8 70 RX8 yX8_isState wsX8_isState) := goodIn_app (goodIn_of _ (by decide +kernel)) ggX8_goes_X8_isState
set_option maxRecDepth 20000 in
theorem ggX8_goes_X8_in : GoodIn wsX8_goes wsX8_in := goodIn_r _ [16] (by decide +kernel) (by decide +kernel)
set_option maxRecDepth 20000 in
theorem gX8_goes_X8_in : GoodIn wsX8_goes (va_wsS RX8 53 yX8_in wsX8_in) := goodIn_app (goodIn_of _ (by decide +kernel)) ggX8_goes_X8_in
theorem dX8_goes_0 : decode cX8_goes 0 = .ok (.aload_n 0, 1) := by decide +kernel
theorem dX8_goes_1 : decode cX8_goes 1 = .ok (.iload_n 1, 1) := by decide +kernel
theorem dX8_goes_2 : decode cX8_goes 2 = .ok (.iload_n 2, 1) := by decide +kernel
theorem dX8_goes_3 : decode cX8_goes 3 = .ok (.invokevirtual 70, 3) := by decide +kernel
theorem dX8_goes_6 : decode cX8_goes 6 = .ok (.ifCond .eq 25, 3) := by decide +kernel
theorem dX8_goes_9 : decode cX8_goes 9 = .ok (.iload_n 3, 1) := by decide +kernel
theorem dX8_goes_10 : decode cX8_goes 10 = .ok (.i2l, 1) := by decide +kernel
theorem dX8_goes_11 : decode cX8_goes 11 = .ok (.lconst 0, 1) := by decide +kernel
theorem dX8_goes_12 : decode cX8_goes 12 = .ok (.ldc2_w 51, 3) := by decide +kernel
theorem dX8_goes_15 : decode cX8_goes 15 = .ok (.invokestatic 53, 3) := by decide +kernel
theorem dX8_goes_18 : decode cX8_goes 18 = .ok (.ifCond .eq 13, 3) := by decide +kernel
theorem dX8_goes_21 : decode cX8_goes 21 = .ok (.aload_n 0, 1) := by decide +kernel
theorem dX8_goes_22 : decode cX8_goes 22 = .ok (.iload_n 1, 1) := by decide +kernel
theorem dX8_goes_23 : decode cX8_goes 23 = .ok (.iload 4, 2) := by decide +kernel
theorem dX8_goes_25 : decode cX8_goes 25 = .ok (.invokevirtual 70, 3) := by decide +kernel
theorem dX8_goes_28 : decode cX8_goes 28 = .ok (.ifCond .ne 5, 3) := by decide +kernel
theorem dX8_goes_31 : decode cX8_goes 31 = .ok (.iconst (-1), 1) := by decide +kernel
theorem dX8_goes_32 : decode cX8_goes 32 = .ok (.ireturn, 1) := by decide +kernel
theorem dX8_goes_33 : decode cX8_goes 33 = .ok (.aload_n 0, 1) := by decide +kernel
theorem dX8_goes_34 : decode cX8_goes 34 = .ok (.getfield 26, 3) := by decide +kernel
theorem dX8_goes_37 : decode cX8_goes 37 = .ok (.bipush 12, 2) := by decide +kernel
theorem dX8_goes_39 : decode cX8_goes 39 = .ok (.iload_n 1, 1) := by decide +kernel
theorem dX8_goes_40 : decode cX8_goes 40 = .ok (.imul, 1) := by decide +kernel
theorem dX8_goes_41 : decode cX8_goes 41 = .ok (.iconst 3, 1) := by decide +kernel
theorem dX8_goes_42 : decode cX8_goes 42 = .ok (.iload_n 2, 1) := by decide +kernel
theorem dX8_goes_43 : decode cX8_goes 43 = .ok (.imul, 1) := by decide +kernel
theorem dX8_goes_44 : decode cX8_goes 44 = .ok (.iadd, 1) := by decide +kernel
theorem dX8_goes_45 : decode cX8_goes 45 = .ok (.iload_n 3, 1) := by decide +kernel
theorem dX8_goes_46 : decode cX8_goes 46 = .ok (.iadd, 1) := by decide +kernel
theorem dX8_goes_47 : decode cX8_goes 47 = .ok (.iload 4, 2) := by decide +kernel
theorem dX8_goes_49 : decode cX8_goes 49 = .ok (.iastore, 1) := by decide +kernel
theorem dX8_goes_50 : decode cX8_goes 50 = .ok (.iconst 1, 1) := by decide +kernel
theorem dX8_goes_51 : decode cX8_goes 51 = .ok (.ireturn, 1) := by decide +kernel
set_option maxRecDepth 20000 in
theorem ggX8_told_X8_isState : GoodIn wsX8_told wsX8_isState := goodIn_r _ [8, 9, 10, 11, 12, 7, 13, 14, 15, 16, 17, 18, 19, 20, 21, 22, 23, 24, 25, 26, 27, 28, 29, 30, 31, 32, 33, 34, 35, 36, 37, 38] (by decide +kernel) (by decide +kernel)
set_option maxRecDepth 20000 in
theorem gX8_told_X8_isState : GoodIn wsX8_told (wsV RX8 70 RX8 yX8_isState wsX8_isState) := goodIn_app (goodIn_of _ (by decide +kernel)) ggX8_told_X8_isState
set_option maxRecDepth 20000 in
theorem ggX8_told_X8_in : GoodIn wsX8_told wsX8_in := goodIn_r _ [17] (by decide +kernel) (by decide +kernel)
set_option maxRecDepth 20000 in
theorem gX8_told_X8_in : GoodIn wsX8_told (va_wsS RX8 53 yX8_in wsX8_in) := goodIn_app (goodIn_of _ (by decide +kernel)) ggX8_told_X8_in
theorem dX8_told_0 : decode cX8_told 0 = .ok (.aload_n 0, 1) := by decide +kernel
theorem dX8_told_1 : decode cX8_told 1 = .ok (.iload_n 1, 1) := by decide +kernel
theorem dX8_told_2 : decode cX8_told 2 = .ok (.iload_n 2, 1) := by decide +kernel
theorem dX8_told_3 : decode cX8_told 3 = .ok (.invokevirtual 70, 3) := by decide +kernel
theorem dX8_told_6 : decode cX8_told 6 = .ok (.ifCond .eq 15, 3) := by decide +kernel
theorem dX8_told_9 : decode cX8_told 9 = .ok (.iload_n 3, 1) := by decide +kernel
theorem dX8_told_10 : decode cX8_told 10 = .ok (.i2l, 1) := by decide +kernel
theorem dX8_told_11 : decode cX8_told 11 = .ok (.lconst 0, 1) := by decide +kernel
theorem dX8_told_12 : decode cX8_told 12 = .ok (.ldc2_w 74, 3) := by decide +kernel
theorem dX8_told_15 : decode cX8_told 15 = .ok (.invokestatic 53, 3) := by decide +kernel
theorem dX8_told_18 : decode cX8_told 18 = .ok (.ifCond .ne 7, 3) := by decide +kernel
theorem dX8_told_21 : decode cX8_told 21 = .ok (.iconst (-1), 1) := by decide +kernel
theorem dX8_told_22 : decode cX8_told 22 = .ok (.goto 37, 3) := by decide +kernel
theorem dX8_told_25 : decode cX8_told 25 = .ok (.iload_n 3, 1) := by decide +kernel
theorem dX8_told_26 : decode cX8_told 26 = .ok (.ifCond .ne 16, 3) := by decide +kernel
theorem dX8_told_29 : decode cX8_told 29 = .ok (.aload_n 0, 1) := by decide +kernel
theorem dX8_told_30 : decode cX8_told 30 = .ok (.getfield 23, 3) := by decide +kernel
theorem dX8_told_33 : decode cX8_told 33 = .ok (.iconst 4, 1) := by decide +kernel
theorem dX8_told_34 : decode cX8_told 34 = .ok (.iload_n 1, 1) := by decide +kernel
theorem dX8_told_35 : decode cX8_told 35 = .ok (.imul, 1) := by decide +kernel
theorem dX8_told_36 : decode cX8_told 36 = .ok (.iload_n 2, 1) := by decide +kernel
theorem dX8_told_37 : decode cX8_told 37 = .ok (.iadd, 1) := by decide +kernel
theorem dX8_told_38 : decode cX8_told 38 = .ok (.iaload, 1) := by decide +kernel
theorem dX8_told_39 : decode cX8_told 39 = .ok (.goto 20, 3) := by decide +kernel
theorem dX8_told_42 : decode cX8_told 42 = .ok (.aload_n 0, 1) := by decide +kernel
theorem dX8_told_43 : decode cX8_told 43 = .ok (.getfield 26, 3) := by decide +kernel
theorem dX8_told_46 : decode cX8_told 46 = .ok (.bipush 12, 2) := by decide +kernel
theorem dX8_told_48 : decode cX8_told 48 = .ok (.iload_n 1, 1) := by decide +kernel
theorem dX8_told_49 : decode cX8_told 49 = .ok (.imul, 1) := by decide +kernel
theorem dX8_told_50 : decode cX8_told 50 = .ok (.iconst 3, 1) := by decide +kernel
theorem dX8_told_51 : decode cX8_told 51 = .ok (.iload_n 2, 1) := by decide +kernel
theorem dX8_told_52 : decode cX8_told 52 = .ok (.imul, 1) := by decide +kernel
theorem dX8_told_53 : decode cX8_told 53 = .ok (.iadd, 1) := by decide +kernel
theorem dX8_told_54 : decode cX8_told 54 = .ok (.iload_n 3, 1) := by decide +kernel
theorem dX8_told_55 : decode cX8_told 55 = .ok (.iadd, 1) := by decide +kernel
theorem dX8_told_56 : decode cX8_told 56 = .ok (.iconst 1, 1) := by decide +kernel
theorem dX8_told_57 : decode cX8_told 57 = .ok (.isub, 1) := by decide +kernel
theorem dX8_told_58 : decode cX8_told 58 = .ok (.iaload, 1) := by decide +kernel
theorem dX8_told_59 : decode cX8_told 59 = .ok (.ireturn, 1) := by decide +kernel
theorem dX8_drop_0 : decode cX8_drop 0 = .ok (.aload_n 0, 1) := by decide +kernel
theorem dX8_drop_1 : decode cX8_drop 1 = .ok (.getfield 63, 3) := by decide +kernel
theorem dX8_drop_4 : decode cX8_drop 4 = .ok (.ifCond .ne 6, 3) := by decide +kernel
theorem dX8_drop_7 : decode cX8_drop 7 = .ok (.bipush (-4), 2) := by decide +kernel
theorem dX8_drop_9 : decode cX8_drop 9 = .ok (.ireturn, 1) := by decide +kernel
theorem dX8_drop_10 : decode cX8_drop 10 = .ok (.aload_n 0, 1) := by decide +kernel
theorem dX8_drop_11 : decode cX8_drop 11 = .ok (.dup, 1) := by decide +kernel
theorem dX8_drop_12 : decode cX8_drop 12 = .ok (.getfield 63, 3) := by decide +kernel
theorem dX8_drop_15 : decode cX8_drop 15 = .ok (.iconst 1, 1) := by decide +kernel
theorem dX8_drop_16 : decode cX8_drop 16 = .ok (.isub, 1) := by decide +kernel
theorem dX8_drop_17 : decode cX8_drop 17 = .ok (.putfield 63, 3) := by decide +kernel
theorem dX8_drop_20 : decode cX8_drop 20 = .ok (.aload_n 0, 1) := by decide +kernel
theorem dX8_drop_21 : decode cX8_drop 21 = .ok (.getfield 63, 3) := by decide +kernel
theorem dX8_drop_24 : decode cX8_drop 24 = .ok (.ireturn, 1) := by decide +kernel
set_option maxRecDepth 20000 in
theorem ggX8_isSheet_X8_in : GoodIn wsX8_isSheet wsX8_in := goodIn_r _ [6] (by decide +kernel) (by decide +kernel)
set_option maxRecDepth 20000 in
theorem gX8_isSheet_X8_in : GoodIn wsX8_isSheet (va_wsS RX8 53 yX8_in wsX8_in) := goodIn_app (goodIn_of _ (by decide +kernel)) ggX8_isSheet_X8_in
theorem dX8_isSheet_0 : decode cX8_isSheet 0 = .ok (.iload_n 0, 1) := by decide +kernel
theorem dX8_isSheet_1 : decode cX8_isSheet 1 = .ok (.i2l, 1) := by decide +kernel
theorem dX8_isSheet_2 : decode cX8_isSheet 2 = .ok (.lconst 0, 1) := by decide +kernel
theorem dX8_isSheet_3 : decode cX8_isSheet 3 = .ok (.ldc2_w 74, 3) := by decide +kernel
theorem dX8_isSheet_6 : decode cX8_isSheet 6 = .ok (.invokestatic 53, 3) := by decide +kernel
theorem dX8_isSheet_9 : decode cX8_isSheet 9 = .ok (.ifCond .eq 19, 3) := by decide +kernel
theorem dX8_isSheet_12 : decode cX8_isSheet 12 = .ok (.iload_n 1, 1) := by decide +kernel
theorem dX8_isSheet_13 : decode cX8_isSheet 13 = .ok (.i2l, 1) := by decide +kernel
theorem dX8_isSheet_14 : decode cX8_isSheet 14 = .ok (.lconst 0, 1) := by decide +kernel
theorem dX8_isSheet_15 : decode cX8_isSheet 15 = .ok (.ldc2_w 51, 3) := by decide +kernel
theorem dX8_isSheet_18 : decode cX8_isSheet 18 = .ok (.invokestatic 53, 3) := by decide +kernel
theorem dX8_isSheet_21 : decode cX8_isSheet 21 = .ok (.ifCond .eq 7, 3) := by decide +kernel
theorem dX8_isSheet_24 : decode cX8_isSheet 24 = .ok (.iconst 1, 1) := by decide +kernel
theorem dX8_isSheet_25 : decode cX8_isSheet 25 = .ok (.goto 4, 3) := by decide +kernel
theorem dX8_isSheet_28 : decode cX8_isSheet 28 = .ok (.iconst 0, 1) := by decide +kernel
theorem dX8_isSheet_29 : decode cX8_isSheet 29 = .ok (.ireturn, 1) := by decide +kernel
set_option maxRecDepth 20000 in
theorem ggX8_sheet_X8_isSheet : GoodIn wsX8_sheet wsX8_isSheet := goodIn_r _ [7, 8, 9, 10, 11, 6, 12] (by decide +kernel) (by decide +kernel)
set_option maxRecDepth 20000 in
theorem gX8_sheet_X8_isSheet : GoodIn wsX8_sheet (va_wsS RX8 76 yX8_isSheet wsX8_isSheet) := goodIn_app (goodIn_of _ (by decide +kernel)) ggX8_sheet_X8_isSheet
theorem dX8_sheet_0 : decode cX8_sheet 0 = .ok (.iload_n 1, 1) := by decide +kernel
theorem dX8_sheet_1 : decode cX8_sheet 1 = .ok (.iload_n 2, 1) := by decide +kernel
theorem dX8_sheet_2 : decode cX8_sheet 2 = .ok (.invokestatic 76, 3) := by decide +kernel
theorem dX8_sheet_5 : decode cX8_sheet 5 = .ok (.ifCond .eq 9, 3) := by decide +kernel
theorem dX8_sheet_8 : decode cX8_sheet 8 = .ok (.iload_n 3, 1) := by decide +kernel
theorem dX8_sheet_9 : decode cX8_sheet 9 = .ok (.bipush 60, 2) := by decide +kernel
theorem dX8_sheet_11 : decode cX8_sheet 11 = .ok (.if_icmp .le 5, 3) := by decide +kernel
theorem dX8_sheet_14 : decode cX8_sheet 14 = .ok (.iconst (-1), 1) := by decide +kernel
theorem dX8_sheet_15 : decode cX8_sheet 15 = .ok (.ireturn, 1) := by decide +kernel
theorem dX8_sheet_16 : decode cX8_sheet 16 = .ok (.iload_n 3, 1) := by decide +kernel
theorem dX8_sheet_17 : decode cX8_sheet 17 = .ok (.ifCond .ge 6, 3) := by decide +kernel
theorem dX8_sheet_20 : decode cX8_sheet 20 = .ok (.bipush (-14), 2) := by decide +kernel
theorem dX8_sheet_22 : decode cX8_sheet 22 = .ok (.ireturn, 1) := by decide +kernel
theorem dX8_sheet_23 : decode cX8_sheet 23 = .ok (.aload_n 0, 1) := by decide +kernel
theorem dX8_sheet_24 : decode cX8_sheet 24 = .ok (.getfield 29, 3) := by decide +kernel
theorem dX8_sheet_27 : decode cX8_sheet 27 = .ok (.iload_n 1, 1) := by decide +kernel
theorem dX8_sheet_28 : decode cX8_sheet 28 = .ok (.iload_n 2, 1) := by decide +kernel
theorem dX8_sheet_29 : decode cX8_sheet 29 = .ok (.iastore, 1) := by decide +kernel
theorem dX8_sheet_30 : decode cX8_sheet 30 = .ok (.aload_n 0, 1) := by decide +kernel
theorem dX8_sheet_31 : decode cX8_sheet 31 = .ok (.getfield 32, 3) := by decide +kernel
theorem dX8_sheet_34 : decode cX8_sheet 34 = .ok (.iload_n 1, 1) := by decide +kernel
theorem dX8_sheet_35 : decode cX8_sheet 35 = .ok (.iload_n 3, 1) := by decide +kernel
theorem dX8_sheet_36 : decode cX8_sheet 36 = .ok (.iastore, 1) := by decide +kernel
theorem dX8_sheet_37 : decode cX8_sheet 37 = .ok (.iconst 0, 1) := by decide +kernel
theorem dX8_sheet_38 : decode cX8_sheet 38 = .ok (.istore 4, 2) := by decide +kernel
theorem dX8_sheet_40 : decode cX8_sheet 40 = .ok (.iload 4, 2) := by decide +kernel
theorem dX8_sheet_42 : decode cX8_sheet 42 = .ok (.bipush 60, 2) := by decide +kernel
theorem dX8_sheet_44 : decode cX8_sheet 44 = .ok (.if_icmp .ge 22, 3) := by decide +kernel
theorem dX8_sheet_47 : decode cX8_sheet 47 = .ok (.aload_n 0, 1) := by decide +kernel
theorem dX8_sheet_48 : decode cX8_sheet 48 = .ok (.getfield 35, 3) := by decide +kernel
theorem dX8_sheet_51 : decode cX8_sheet 51 = .ok (.bipush 60, 2) := by decide +kernel
theorem dX8_sheet_53 : decode cX8_sheet 53 = .ok (.iload_n 1, 1) := by decide +kernel
theorem dX8_sheet_54 : decode cX8_sheet 54 = .ok (.imul, 1) := by decide +kernel
theorem dX8_sheet_55 : decode cX8_sheet 55 = .ok (.iload 4, 2) := by decide +kernel
theorem dX8_sheet_57 : decode cX8_sheet 57 = .ok (.iadd, 1) := by decide +kernel
theorem dX8_sheet_58 : decode cX8_sheet 58 = .ok (.iconst 0, 1) := by decide +kernel
theorem dX8_sheet_59 : decode cX8_sheet 59 = .ok (.iastore, 1) := by decide +kernel
theorem dX8_sheet_60 : decode cX8_sheet 60 = .ok (.iinc 4 1, 3) := by decide +kernel
theorem dX8_sheet_63 : decode cX8_sheet 63 = .ok (.goto (-23), 3) := by decide +kernel
theorem dX8_sheet_66 : decode cX8_sheet 66 = .ok (.iconst 1, 1) := by decide +kernel
theorem dX8_sheet_67 : decode cX8_sheet 67 = .ok (.ireturn, 1) := by decide +kernel
set_option maxRecDepth 20000 in
theorem ggX8_lay_X8_isSheet : GoodIn wsX8_lay wsX8_isSheet := goodIn_r _ [7, 8, 9, 10, 11, 6, 12] (by decide +kernel) (by decide +kernel)
set_option maxRecDepth 20000 in
theorem gX8_lay_X8_isSheet : GoodIn wsX8_lay (va_wsS RX8 76 yX8_isSheet wsX8_isSheet) := goodIn_app (goodIn_of _ (by decide +kernel)) ggX8_lay_X8_isSheet
set_option maxRecDepth 20000 in
theorem ggX8_lay_X8_in : GoodIn wsX8_lay wsX8_in := goodIn_r _ [12] (by decide +kernel) (by decide +kernel)
set_option maxRecDepth 20000 in
theorem gX8_lay_X8_in : GoodIn wsX8_lay (va_wsS RX8 53 yX8_in wsX8_in) := goodIn_app (goodIn_of _ (by decide +kernel)) ggX8_lay_X8_in
theorem dX8_lay_0 : decode cX8_lay 0 = .ok (.iload_n 1, 1) := by decide +kernel
theorem dX8_lay_1 : decode cX8_lay 1 = .ok (.iconst 0, 1) := by decide +kernel
theorem dX8_lay_2 : decode cX8_lay 2 = .ok (.invokestatic 76, 3) := by decide +kernel
theorem dX8_lay_5 : decode cX8_lay 5 = .ok (.ifCond .ne 5, 3) := by decide +kernel
theorem dX8_lay_8 : decode cX8_lay 8 = .ok (.iconst (-1), 1) := by decide +kernel
theorem dX8_lay_9 : decode cX8_lay 9 = .ok (.ireturn, 1) := by decide +kernel
theorem dX8_lay_10 : decode cX8_lay 10 = .ok (.aload_n 0, 1) := by decide +kernel
theorem dX8_lay_11 : decode cX8_lay 11 = .ok (.getfield 29, 3) := by decide +kernel
theorem dX8_lay_14 : decode cX8_lay 14 = .ok (.iload_n 1, 1) := by decide +kernel
theorem dX8_lay_15 : decode cX8_lay 15 = .ok (.iaload, 1) := by decide +kernel
theorem dX8_lay_16 : decode cX8_lay 16 = .ok (.bipush (-4), 2) := by decide +kernel
theorem dX8_lay_18 : decode cX8_lay 18 = .ok (.if_icmp .ne 6, 3) := by decide +kernel
theorem dX8_lay_21 : decode cX8_lay 21 = .ok (.bipush (-11), 2) := by decide +kernel
theorem dX8_lay_23 : decode cX8_lay 23 = .ok (.ireturn, 1) := by decide +kernel
theorem dX8_lay_24 : decode cX8_lay 24 = .ok (.iload_n 2, 1) := by decide +kernel
theorem dX8_lay_25 : decode cX8_lay 25 = .ok (.i2l, 1) := by decide +kernel
theorem dX8_lay_26 : decode cX8_lay 26 = .ok (.lconst 0, 1) := by decide +kernel
theorem dX8_lay_27 : decode cX8_lay 27 = .ok (.aload_n 0, 1) := by decide +kernel
theorem dX8_lay_28 : decode cX8_lay 28 = .ok (.getfield 32, 3) := by decide +kernel
theorem dX8_lay_31 : decode cX8_lay 31 = .ok (.iload_n 1, 1) := by decide +kernel
theorem dX8_lay_32 : decode cX8_lay 32 = .ok (.iaload, 1) := by decide +kernel
theorem dX8_lay_33 : decode cX8_lay 33 = .ok (.iconst 1, 1) := by decide +kernel
theorem dX8_lay_34 : decode cX8_lay 34 = .ok (.isub, 1) := by decide +kernel
theorem dX8_lay_35 : decode cX8_lay 35 = .ok (.i2l, 1) := by decide +kernel
theorem dX8_lay_36 : decode cX8_lay 36 = .ok (.invokestatic 53, 3) := by decide +kernel
theorem dX8_lay_39 : decode cX8_lay 39 = .ok (.ifCond .ne 6, 3) := by decide +kernel
theorem dX8_lay_42 : decode cX8_lay 42 = .ok (.bipush (-12), 2) := by decide +kernel
theorem dX8_lay_44 : decode cX8_lay 44 = .ok (.ireturn, 1) := by decide +kernel
theorem dX8_lay_45 : decode cX8_lay 45 = .ok (.aload_n 0, 1) := by decide +kernel
theorem dX8_lay_46 : decode cX8_lay 46 = .ok (.getfield 35, 3) := by decide +kernel
theorem dX8_lay_49 : decode cX8_lay 49 = .ok (.bipush 60, 2) := by decide +kernel
theorem dX8_lay_51 : decode cX8_lay 51 = .ok (.iload_n 1, 1) := by decide +kernel
theorem dX8_lay_52 : decode cX8_lay 52 = .ok (.imul, 1) := by decide +kernel
theorem dX8_lay_53 : decode cX8_lay 53 = .ok (.iload_n 2, 1) := by decide +kernel
theorem dX8_lay_54 : decode cX8_lay 54 = .ok (.iadd, 1) := by decide +kernel
theorem dX8_lay_55 : decode cX8_lay 55 = .ok (.aload_n 0, 1) := by decide +kernel
theorem dX8_lay_56 : decode cX8_lay 56 = .ok (.getfield 29, 3) := by decide +kernel
theorem dX8_lay_59 : decode cX8_lay 59 = .ok (.iload_n 1, 1) := by decide +kernel
theorem dX8_lay_60 : decode cX8_lay 60 = .ok (.iaload, 1) := by decide +kernel
theorem dX8_lay_61 : decode cX8_lay 61 = .ok (.ifCond .ne 8, 3) := by decide +kernel
theorem dX8_lay_64 : decode cX8_lay 64 = .ok (.iload_n 3, 1) := by decide +kernel
theorem dX8_lay_65 : decode cX8_lay 65 = .ok (.i2b, 1) := by decide +kernel
theorem dX8_lay_66 : decode cX8_lay 66 = .ok (.goto 19, 3) := by decide +kernel
theorem dX8_lay_69 : decode cX8_lay 69 = .ok (.aload_n 0, 1) := by decide +kernel
theorem dX8_lay_70 : decode cX8_lay 70 = .ok (.getfield 29, 3) := by decide +kernel
theorem dX8_lay_73 : decode cX8_lay 73 = .ok (.iload_n 1, 1) := by decide +kernel
theorem dX8_lay_74 : decode cX8_lay 74 = .ok (.iaload, 1) := by decide +kernel
theorem dX8_lay_75 : decode cX8_lay 75 = .ok (.iconst 1, 1) := by decide +kernel
theorem dX8_lay_76 : decode cX8_lay 76 = .ok (.if_icmp .ne 8, 3) := by decide +kernel
theorem dX8_lay_79 : decode cX8_lay 79 = .ok (.iload_n 3, 1) := by decide +kernel
theorem dX8_lay_80 : decode cX8_lay 80 = .ok (.i2s, 1) := by decide +kernel
theorem dX8_lay_81 : decode cX8_lay 81 = .ok (.goto 4, 3) := by decide +kernel
theorem dX8_lay_84 : decode cX8_lay 84 = .ok (.iload_n 3, 1) := by decide +kernel
theorem dX8_lay_85 : decode cX8_lay 85 = .ok (.iastore, 1) := by decide +kernel
theorem dX8_lay_86 : decode cX8_lay 86 = .ok (.iconst 1, 1) := by decide +kernel
theorem dX8_lay_87 : decode cX8_lay 87 = .ok (.ireturn, 1) := by decide +kernel
set_option maxRecDepth 20000 in
theorem ggX8_draw_X8_isSheet : GoodIn wsX8_draw wsX8_isSheet := goodIn_r _ [11, 12, 5, 13, 14, 10, 15] (by decide +kernel) (by decide +kernel)
set_option maxRecDepth 20000 in
theorem gX8_draw_X8_isSheet : GoodIn wsX8_draw (va_wsS RX8 76 yX8_isSheet wsX8_isSheet) := goodIn_app (goodIn_of _ (by decide +kernel)) ggX8_draw_X8_isSheet
set_option maxRecDepth 20000 in
theorem ggX8_draw_X8_in : GoodIn wsX8_draw wsX8_in := goodIn_r _ [15] (by decide +kernel) (by decide +kernel)
set_option maxRecDepth 20000 in
theorem gX8_draw_X8_in : GoodIn wsX8_draw (va_wsS RX8 53 yX8_in wsX8_in) := goodIn_app (goodIn_of _ (by decide +kernel)) ggX8_draw_X8_in
set_option maxRecDepth 20000 in
theorem ggX8_draw_X8_machine : GoodIn wsX8_draw wsX8_machine := goodIn_r _ [19, 1, 20, 21, 6, 7, 13, 14, 10, 15, 22, 23, 24, 25, 26, 27, 28, 29, 30, 31, 32, 33, 34, 35, 36, 37, 38, 39, 40, 41, 42] (by decide +kernel) (by decide +kernel)
set_option maxRecDepth 20000 in
theorem gX8_draw_X8_machine : GoodIn wsX8_draw (wsV RX8 79 RX8 yX8_machine wsX8_machine) := goodIn_app (goodIn_of _ (by decide +kernel)) ggX8_draw_X8_machine
theorem dX8_draw_0 : decode cX8_draw 0 = .ok (.iload_n 1, 1) := by decide +kernel
theorem dX8_draw_1 : decode cX8_draw 1 = .ok (.iload_n 2, 1) := by decide +kernel
theorem dX8_draw_2 : decode cX8_draw 2 = .ok (.invokestatic 76, 3) := by decide +kernel
theorem dX8_draw_5 : decode cX8_draw 5 = .ok (.ifCond .eq 16, 3) := by decide +kernel
theorem dX8_draw_8 : decode cX8_draw 8 = .ok (.iload 4, 2) := by decide +kernel
theorem dX8_draw_10 : decode cX8_draw 10 = .ok (.i2l, 1) := by decide +kernel
theorem dX8_draw_11 : decode cX8_draw 11 = .ok (.lconst 1, 1) := by decide +kernel
theorem dX8_draw_12 : decode cX8_draw 12 = .ok (.ldc2_w 61, 3) := by decide +kernel
theorem dX8_draw_15 : decode cX8_draw 15 = .ok (.invokestatic 53, 3) := by decide +kernel
theorem dX8_draw_18 : decode cX8_draw 18 = .ok (.ifCond .ne 5, 3) := by decide +kernel
theorem dX8_draw_21 : decode cX8_draw 21 = .ok (.iconst (-1), 1) := by decide +kernel
theorem dX8_draw_22 : decode cX8_draw 22 = .ok (.ireturn, 1) := by decide +kernel
theorem dX8_draw_23 : decode cX8_draw 23 = .ok (.aload_n 0, 1) := by decide +kernel
theorem dX8_draw_24 : decode cX8_draw 24 = .ok (.getfield 29, 3) := by decide +kernel
theorem dX8_draw_27 : decode cX8_draw 27 = .ok (.iload_n 1, 1) := by decide +kernel
theorem dX8_draw_28 : decode cX8_draw 28 = .ok (.iaload, 1) := by decide +kernel
theorem dX8_draw_29 : decode cX8_draw 29 = .ok (.iload_n 2, 1) := by decide +kernel
theorem dX8_draw_30 : decode cX8_draw 30 = .ok (.if_icmp .eq 22, 3) := by decide +kernel
theorem dX8_draw_33 : decode cX8_draw 33 = .ok (.aload_n 0, 1) := by decide +kernel
theorem dX8_draw_34 : decode cX8_draw 34 = .ok (.getfield 29, 3) := by decide +kernel
theorem dX8_draw_37 : decode cX8_draw 37 = .ok (.iload_n 1, 1) := by decide +kernel
theorem dX8_draw_38 : decode cX8_draw 38 = .ok (.iaload, 1) := by decide +kernel
theorem dX8_draw_39 : decode cX8_draw 39 = .ok (.bipush (-4), 2) := by decide +kernel
theorem dX8_draw_41 : decode cX8_draw 41 = .ok (.if_icmp .ne 8, 3) := by decide +kernel
theorem dX8_draw_44 : decode cX8_draw 44 = .ok (.bipush (-11), 2) := by decide +kernel
theorem dX8_draw_46 : decode cX8_draw 46 = .ok (.goto 5, 3) := by decide +kernel
theorem dX8_draw_49 : decode cX8_draw 49 = .ok (.bipush (-13), 2) := by decide +kernel
theorem dX8_draw_51 : decode cX8_draw 51 = .ok (.ireturn, 1) := by decide +kernel
theorem dX8_draw_52 : decode cX8_draw 52 = .ok (.iconst 0, 1) := by decide +kernel
theorem dX8_draw_53 : decode cX8_draw 53 = .ok (.istore 5, 2) := by decide +kernel
theorem dX8_draw_55 : decode cX8_draw 55 = .ok (.iload 5, 2) := by decide +kernel
theorem dX8_draw_57 : decode cX8_draw 57 = .ok (.iconst 4, 1) := by decide +kernel
theorem dX8_draw_58 : decode cX8_draw 58 = .ok (.iload 4, 2) := by decide +kernel
theorem dX8_draw_60 : decode cX8_draw 60 = .ok (.imul, 1) := by decide +kernel
theorem dX8_draw_61 : decode cX8_draw 61 = .ok (.if_icmp .ge 85, 3) := by decide +kernel
theorem dX8_draw_64 : decode cX8_draw 64 = .ok (.iload_n 3, 1) := by decide +kernel
theorem dX8_draw_65 : decode cX8_draw 65 = .ok (.i2l, 1) := by decide +kernel
theorem dX8_draw_66 : decode cX8_draw 66 = .ok (.iload 5, 2) := by decide +kernel
theorem dX8_draw_68 : decode cX8_draw 68 = .ok (.i2l, 1) := by decide +kernel
theorem dX8_draw_69 : decode cX8_draw 69 = .ok (.ladd, 1) := by decide +kernel
theorem dX8_draw_70 : decode cX8_draw 70 = .ok (.lstore 6, 2) := by decide +kernel
theorem dX8_draw_72 : decode cX8_draw 72 = .ok (.lload 6, 2) := by decide +kernel
theorem dX8_draw_74 : decode cX8_draw 74 = .ok (.lconst 0, 1) := by decide +kernel
theorem dX8_draw_75 : decode cX8_draw 75 = .ok (.lcmp, 1) := by decide +kernel
theorem dX8_draw_76 : decode cX8_draw 76 = .ok (.ifCond .lt 16, 3) := by decide +kernel
theorem dX8_draw_79 : decode cX8_draw 79 = .ok (.lload 6, 2) := by decide +kernel
theorem dX8_draw_81 : decode cX8_draw 81 = .ok (.aload_n 0, 1) := by decide +kernel
theorem dX8_draw_82 : decode cX8_draw 82 = .ok (.getfield 32, 3) := by decide +kernel
theorem dX8_draw_85 : decode cX8_draw 85 = .ok (.iload_n 1, 1) := by decide +kernel
theorem dX8_draw_86 : decode cX8_draw 86 = .ok (.iaload, 1) := by decide +kernel
theorem dX8_draw_87 : decode cX8_draw 87 = .ok (.i2l, 1) := by decide +kernel
theorem dX8_draw_88 : decode cX8_draw 88 = .ok (.lcmp, 1) := by decide +kernel
theorem dX8_draw_89 : decode cX8_draw 89 = .ok (.ifCond .lt 6, 3) := by decide +kernel
theorem dX8_draw_92 : decode cX8_draw 92 = .ok (.bipush (-12), 2) := by decide +kernel
theorem dX8_draw_94 : decode cX8_draw 94 = .ok (.ireturn, 1) := by decide +kernel
theorem dX8_draw_95 : decode cX8_draw 95 = .ok (.aload_n 0, 1) := by decide +kernel
theorem dX8_draw_96 : decode cX8_draw 96 = .ok (.getfield 35, 3) := by decide +kernel
theorem dX8_draw_99 : decode cX8_draw 99 = .ok (.bipush 60, 2) := by decide +kernel
theorem dX8_draw_101 : decode cX8_draw 101 = .ok (.iload_n 1, 1) := by decide +kernel
theorem dX8_draw_102 : decode cX8_draw 102 = .ok (.imul, 1) := by decide +kernel
theorem dX8_draw_103 : decode cX8_draw 103 = .ok (.lload 6, 2) := by decide +kernel
theorem dX8_draw_105 : decode cX8_draw 105 = .ok (.l2i, 1) := by decide +kernel
theorem dX8_draw_106 : decode cX8_draw 106 = .ok (.iadd, 1) := by decide +kernel
theorem dX8_draw_107 : decode cX8_draw 107 = .ok (.iaload, 1) := by decide +kernel
theorem dX8_draw_108 : decode cX8_draw 108 = .ok (.i2l, 1) := by decide +kernel
theorem dX8_draw_109 : decode cX8_draw 109 = .ok (.lconst 0, 1) := by decide +kernel
theorem dX8_draw_110 : decode cX8_draw 110 = .ok (.iload 5, 2) := by decide +kernel
theorem dX8_draw_112 : decode cX8_draw 112 = .ok (.iconst 4, 1) := by decide +kernel
theorem dX8_draw_113 : decode cX8_draw 113 = .ok (.irem, 1) := by decide +kernel
theorem dX8_draw_114 : decode cX8_draw 114 = .ok (.ifCond .ne 9, 3) := by decide +kernel
theorem dX8_draw_117 : decode cX8_draw 117 = .ok (.ldc2_w 51, 3) := by decide +kernel
theorem dX8_draw_120 : decode cX8_draw 120 = .ok (.goto 8, 3) := by decide +kernel
theorem dX8_draw_123 : decode cX8_draw 123 = .ok (.iload 4, 2) := by decide +kernel
theorem dX8_draw_125 : decode cX8_draw 125 = .ok (.iconst 1, 1) := by decide +kernel
theorem dX8_draw_126 : decode cX8_draw 126 = .ok (.isub, 1) := by decide +kernel
theorem dX8_draw_127 : decode cX8_draw 127 = .ok (.i2l, 1) := by decide +kernel
theorem dX8_draw_128 : decode cX8_draw 128 = .ok (.invokestatic 53, 3) := by decide +kernel
theorem dX8_draw_131 : decode cX8_draw 131 = .ok (.ifCond .ne 9, 3) := by decide +kernel
theorem dX8_draw_134 : decode cX8_draw 134 = .ok (.bipush (-20), 2) := by decide +kernel
theorem dX8_draw_136 : decode cX8_draw 136 = .ok (.iload 5, 2) := by decide +kernel
theorem dX8_draw_138 : decode cX8_draw 138 = .ok (.isub, 1) := by decide +kernel
theorem dX8_draw_139 : decode cX8_draw 139 = .ok (.ireturn, 1) := by decide +kernel
theorem dX8_draw_140 : decode cX8_draw 140 = .ok (.iinc 5 1, 3) := by decide +kernel
theorem dX8_draw_143 : decode cX8_draw 143 = .ok (.goto (-88), 3) := by decide +kernel
theorem dX8_draw_146 : decode cX8_draw 146 = .ok (.aload_n 0, 1) := by decide +kernel
theorem dX8_draw_147 : decode cX8_draw 147 = .ok (.iload 4, 2) := by decide +kernel
theorem dX8_draw_149 : decode cX8_draw 149 = .ok (.invokevirtual 79, 3) := by decide +kernel
theorem dX8_draw_152 : decode cX8_draw 152 = .ok (.istore 5, 2) := by decide +kernel
theorem dX8_draw_154 : decode cX8_draw 154 = .ok (.iconst 0, 1) := by decide +kernel
theorem dX8_draw_155 : decode cX8_draw 155 = .ok (.istore 6, 2) := by decide +kernel
theorem dX8_draw_157 : decode cX8_draw 157 = .ok (.iload 6, 2) := by decide +kernel
theorem dX8_draw_159 : decode cX8_draw 159 = .ok (.iconst 4, 1) := by decide +kernel
theorem dX8_draw_160 : decode cX8_draw 160 = .ok (.iload 4, 2) := by decide +kernel
theorem dX8_draw_162 : decode cX8_draw 162 = .ok (.imul, 1) := by decide +kernel
theorem dX8_draw_163 : decode cX8_draw 163 = .ok (.if_icmp .ge 82, 3) := by decide +kernel
theorem dX8_draw_166 : decode cX8_draw 166 = .ok (.iload 5, 2) := by decide +kernel
theorem dX8_draw_168 : decode cX8_draw 168 = .ok (.ifCond .lt 77, 3) := by decide +kernel
theorem dX8_draw_171 : decode cX8_draw 171 = .ok (.aload_n 0, 1) := by decide +kernel
theorem dX8_draw_172 : decode cX8_draw 172 = .ok (.getfield 35, 3) := by decide +kernel
theorem dX8_draw_175 : decode cX8_draw 175 = .ok (.bipush 60, 2) := by decide +kernel
theorem dX8_draw_177 : decode cX8_draw 177 = .ok (.iload_n 1, 1) := by decide +kernel
theorem dX8_draw_178 : decode cX8_draw 178 = .ok (.imul, 1) := by decide +kernel
theorem dX8_draw_179 : decode cX8_draw 179 = .ok (.iload_n 3, 1) := by decide +kernel
theorem dX8_draw_180 : decode cX8_draw 180 = .ok (.iadd, 1) := by decide +kernel
theorem dX8_draw_181 : decode cX8_draw 181 = .ok (.iload 6, 2) := by decide +kernel
theorem dX8_draw_183 : decode cX8_draw 183 = .ok (.iadd, 1) := by decide +kernel
theorem dX8_draw_184 : decode cX8_draw 184 = .ok (.iaload, 1) := by decide +kernel
theorem dX8_draw_185 : decode cX8_draw 185 = .ok (.istore 7, 2) := by decide +kernel
theorem dX8_draw_187 : decode cX8_draw 187 = .ok (.iload 6, 2) := by decide +kernel
theorem dX8_draw_189 : decode cX8_draw 189 = .ok (.iconst 4, 1) := by decide +kernel
theorem dX8_draw_190 : decode cX8_draw 190 = .ok (.irem, 1) := by decide +kernel
theorem dX8_draw_191 : decode cX8_draw 191 = .ok (.ifCond .ne 22, 3) := by decide +kernel
theorem dX8_draw_194 : decode cX8_draw 194 = .ok (.aload_n 0, 1) := by decide +kernel
theorem dX8_draw_195 : decode cX8_draw 195 = .ok (.getfield 23, 3) := by decide +kernel
theorem dX8_draw_198 : decode cX8_draw 198 = .ok (.iconst 4, 1) := by decide +kernel
theorem dX8_draw_199 : decode cX8_draw 199 = .ok (.iload 5, 2) := by decide +kernel
theorem dX8_draw_201 : decode cX8_draw 201 = .ok (.imul, 1) := by decide +kernel
theorem dX8_draw_202 : decode cX8_draw 202 = .ok (.iload 6, 2) := by decide +kernel
theorem dX8_draw_204 : decode cX8_draw 204 = .ok (.iconst 4, 1) := by decide +kernel
theorem dX8_draw_205 : decode cX8_draw 205 = .ok (.idiv, 1) := by decide +kernel
theorem dX8_draw_206 : decode cX8_draw 206 = .ok (.iadd, 1) := by decide +kernel
theorem dX8_draw_207 : decode cX8_draw 207 = .ok (.iload 7, 2) := by decide +kernel
theorem dX8_draw_209 : decode cX8_draw 209 = .ok (.iastore, 1) := by decide +kernel
theorem dX8_draw_210 : decode cX8_draw 210 = .ok (.goto 29, 3) := by decide +kernel
theorem dX8_draw_213 : decode cX8_draw 213 = .ok (.aload_n 0, 1) := by decide +kernel
theorem dX8_draw_214 : decode cX8_draw 214 = .ok (.getfield 26, 3) := by decide +kernel
theorem dX8_draw_217 : decode cX8_draw 217 = .ok (.bipush 12, 2) := by decide +kernel
theorem dX8_draw_219 : decode cX8_draw 219 = .ok (.iload 5, 2) := by decide +kernel
theorem dX8_draw_221 : decode cX8_draw 221 = .ok (.imul, 1) := by decide +kernel
theorem dX8_draw_222 : decode cX8_draw 222 = .ok (.iconst 3, 1) := by decide +kernel
theorem dX8_draw_223 : decode cX8_draw 223 = .ok (.iload 6, 2) := by decide +kernel
theorem dX8_draw_225 : decode cX8_draw 225 = .ok (.iconst 4, 1) := by decide +kernel
theorem dX8_draw_226 : decode cX8_draw 226 = .ok (.idiv, 1) := by decide +kernel
theorem dX8_draw_227 : decode cX8_draw 227 = .ok (.imul, 1) := by decide +kernel
theorem dX8_draw_228 : decode cX8_draw 228 = .ok (.iadd, 1) := by decide +kernel
theorem dX8_draw_229 : decode cX8_draw 229 = .ok (.iload 6, 2) := by decide +kernel
theorem dX8_draw_231 : decode cX8_draw 231 = .ok (.iconst 4, 1) := by decide +kernel
theorem dX8_draw_232 : decode cX8_draw 232 = .ok (.irem, 1) := by decide +kernel
theorem dX8_draw_233 : decode cX8_draw 233 = .ok (.iadd, 1) := by decide +kernel
theorem dX8_draw_234 : decode cX8_draw 234 = .ok (.iconst 1, 1) := by decide +kernel
theorem dX8_draw_235 : decode cX8_draw 235 = .ok (.isub, 1) := by decide +kernel
theorem dX8_draw_236 : decode cX8_draw 236 = .ok (.iload 7, 2) := by decide +kernel
theorem dX8_draw_238 : decode cX8_draw 238 = .ok (.iastore, 1) := by decide +kernel
theorem dX8_draw_239 : decode cX8_draw 239 = .ok (.iinc 6 1, 3) := by decide +kernel
theorem dX8_draw_242 : decode cX8_draw 242 = .ok (.goto (-85), 3) := by decide +kernel
theorem dX8_draw_245 : decode cX8_draw 245 = .ok (.iload 5, 2) := by decide +kernel
theorem dX8_draw_247 : decode cX8_draw 247 = .ok (.ireturn, 1) := by decide +kernel
theorem dX8_after_0 : decode cX8_after 0 = .ok (.iconst 4, 1) := by decide +kernel
theorem dX8_after_1 : decode cX8_after 1 = .ok (.aload_n 0, 1) := by decide +kernel
theorem dX8_after_2 : decode cX8_after 2 = .ok (.getfield 26, 3) := by decide +kernel
theorem dX8_after_5 : decode cX8_after 5 = .ok (.bipush 12, 2) := by decide +kernel
theorem dX8_after_7 : decode cX8_after 7 = .ok (.iload_n 1, 1) := by decide +kernel
theorem dX8_after_8 : decode cX8_after 8 = .ok (.imul, 1) := by decide +kernel
theorem dX8_after_9 : decode cX8_after 9 = .ok (.iconst 3, 1) := by decide +kernel
theorem dX8_after_10 : decode cX8_after 10 = .ok (.iload_n 3, 1) := by decide +kernel
theorem dX8_after_11 : decode cX8_after 11 = .ok (.iconst 4, 1) := by decide +kernel
theorem dX8_after_12 : decode cX8_after 12 = .ok (.idiv, 1) := by decide +kernel
theorem dX8_after_13 : decode cX8_after 13 = .ok (.imul, 1) := by decide +kernel
theorem dX8_after_14 : decode cX8_after 14 = .ok (.iadd, 1) := by decide +kernel
theorem dX8_after_15 : decode cX8_after 15 = .ok (.iload 5, 2) := by decide +kernel
theorem dX8_after_17 : decode cX8_after 17 = .ok (.iadd, 1) := by decide +kernel
theorem dX8_after_18 : decode cX8_after 18 = .ok (.iaload, 1) := by decide +kernel
theorem dX8_after_19 : decode cX8_after 19 = .ok (.imul, 1) := by decide +kernel
theorem dX8_after_20 : decode cX8_after 20 = .ok (.aload_n 0, 1) := by decide +kernel
theorem dX8_after_21 : decode cX8_after 21 = .ok (.getfield 26, 3) := by decide +kernel
theorem dX8_after_24 : decode cX8_after 24 = .ok (.bipush 12, 2) := by decide +kernel
theorem dX8_after_26 : decode cX8_after 26 = .ok (.iload_n 2, 1) := by decide +kernel
theorem dX8_after_27 : decode cX8_after 27 = .ok (.imul, 1) := by decide +kernel
theorem dX8_after_28 : decode cX8_after 28 = .ok (.iconst 3, 1) := by decide +kernel
theorem dX8_after_29 : decode cX8_after 29 = .ok (.iload_n 3, 1) := by decide +kernel
theorem dX8_after_30 : decode cX8_after 30 = .ok (.iconst 4, 1) := by decide +kernel
theorem dX8_after_31 : decode cX8_after 31 = .ok (.irem, 1) := by decide +kernel
theorem dX8_after_32 : decode cX8_after 32 = .ok (.imul, 1) := by decide +kernel
theorem dX8_after_33 : decode cX8_after 33 = .ok (.iadd, 1) := by decide +kernel
theorem dX8_after_34 : decode cX8_after 34 = .ok (.iload 4, 2) := by decide +kernel
theorem dX8_after_36 : decode cX8_after 36 = .ok (.iadd, 1) := by decide +kernel
theorem dX8_after_37 : decode cX8_after 37 = .ok (.iaload, 1) := by decide +kernel
theorem dX8_after_38 : decode cX8_after 38 = .ok (.iadd, 1) := by decide +kernel
theorem dX8_after_39 : decode cX8_after 39 = .ok (.ireturn, 1) := by decide +kernel
theorem dX8_mine_0 : decode cX8_mine 0 = .ok (.aload_n 0, 1) := by decide +kernel
theorem dX8_mine_1 : decode cX8_mine 1 = .ok (.getfield 23, 3) := by decide +kernel
theorem dX8_mine_4 : decode cX8_mine 4 = .ok (.iconst 4, 1) := by decide +kernel
theorem dX8_mine_5 : decode cX8_mine 5 = .ok (.iload_n 1, 1) := by decide +kernel
theorem dX8_mine_6 : decode cX8_mine 6 = .ok (.imul, 1) := by decide +kernel
theorem dX8_mine_7 : decode cX8_mine 7 = .ok (.iload_n 2, 1) := by decide +kernel
theorem dX8_mine_8 : decode cX8_mine 8 = .ok (.iconst 4, 1) := by decide +kernel
theorem dX8_mine_9 : decode cX8_mine 9 = .ok (.idiv, 1) := by decide +kernel
theorem dX8_mine_10 : decode cX8_mine 10 = .ok (.iadd, 1) := by decide +kernel
theorem dX8_mine_11 : decode cX8_mine 11 = .ok (.iaload, 1) := by decide +kernel
theorem dX8_mine_12 : decode cX8_mine 12 = .ok (.ireturn, 1) := by decide +kernel
theorem dX8_theirs_0 : decode cX8_theirs 0 = .ok (.aload_n 0, 1) := by decide +kernel
theorem dX8_theirs_1 : decode cX8_theirs 1 = .ok (.getfield 23, 3) := by decide +kernel
theorem dX8_theirs_4 : decode cX8_theirs 4 = .ok (.iconst 4, 1) := by decide +kernel
theorem dX8_theirs_5 : decode cX8_theirs 5 = .ok (.iload_n 1, 1) := by decide +kernel
theorem dX8_theirs_6 : decode cX8_theirs 6 = .ok (.imul, 1) := by decide +kernel
theorem dX8_theirs_7 : decode cX8_theirs 7 = .ok (.iload_n 2, 1) := by decide +kernel
theorem dX8_theirs_8 : decode cX8_theirs 8 = .ok (.iconst 4, 1) := by decide +kernel
theorem dX8_theirs_9 : decode cX8_theirs 9 = .ok (.irem, 1) := by decide +kernel
theorem dX8_theirs_10 : decode cX8_theirs 10 = .ok (.iadd, 1) := by decide +kernel
theorem dX8_theirs_11 : decode cX8_theirs 11 = .ok (.iaload, 1) := by decide +kernel
theorem dX8_theirs_12 : decode cX8_theirs 12 = .ok (.ireturn, 1) := by decide +kernel
set_option maxRecDepth 20000 in
theorem ggX8_next_X8_mine : GoodIn wsX8_next wsX8_mine := goodIn_r _ [5, 6, 16, 17, 18, 19, 20, 21, 22, 23, 24, 25, 26, 27, 28, 29, 30, 31, 32, 33, 34, 35, 36] (by decide +kernel) (by decide +kernel)
set_option maxRecDepth 20000 in
theorem gX8_next_X8_mine : GoodIn wsX8_next (wsV RX8 83 RX8 yX8_mine wsX8_mine) := goodIn_app (goodIn_of _ (by decide +kernel)) ggX8_next_X8_mine
set_option maxRecDepth 20000 in
theorem ggX8_next_X8_theirs : GoodIn wsX8_next wsX8_theirs := goodIn_r _ [10, 6, 16, 17, 18, 19, 20, 21, 22, 23, 24, 25, 26, 27, 28, 29, 30, 31, 32, 33, 34, 35, 36] (by decide +kernel) (by decide +kernel)
set_option maxRecDepth 20000 in
theorem gX8_next_X8_theirs : GoodIn wsX8_next (wsV RX8 87 RX8 yX8_theirs wsX8_theirs) := goodIn_app (goodIn_of _ (by decide +kernel)) ggX8_next_X8_theirs
set_option maxRecDepth 20000 in
theorem ggX8_next_X8_after : GoodIn wsX8_next wsX8_after := goodIn_r _ [14, 15, 16, 17, 18, 19, 20, 21, 22, 23, 24, 25, 26, 27, 28, 29, 30, 31, 32, 33, 34, 35, 36] (by decide +kernel) (by decide +kernel)
set_option maxRecDepth 20000 in
theorem gX8_next_X8_after : GoodIn wsX8_next (wsV RX8 90 RX8 yX8_after wsX8_after) := goodIn_app (goodIn_of _ (by decide +kernel)) ggX8_next_X8_after
theorem dX8_next_0 : decode cX8_next 0 = .ok (.aload_n 0, 1) := by decide +kernel
theorem dX8_next_1 : decode cX8_next 1 = .ok (.iload_n 1, 1) := by decide +kernel
theorem dX8_next_2 : decode cX8_next 2 = .ok (.iload_n 2, 1) := by decide +kernel
theorem dX8_next_3 : decode cX8_next 3 = .ok (.iload_n 3, 1) := by decide +kernel
theorem dX8_next_4 : decode cX8_next 4 = .ok (.aload_n 0, 1) := by decide +kernel
theorem dX8_next_5 : decode cX8_next 5 = .ok (.iload_n 1, 1) := by decide +kernel
theorem dX8_next_6 : decode cX8_next 6 = .ok (.iload_n 3, 1) := by decide +kernel
theorem dX8_next_7 : decode cX8_next 7 = .ok (.invokevirtual 83, 3) := by decide +kernel
theorem dX8_next_10 : decode cX8_next 10 = .ok (.aload_n 0, 1) := by decide +kernel
theorem dX8_next_11 : decode cX8_next 11 = .ok (.iload_n 2, 1) := by decide +kernel
theorem dX8_next_12 : decode cX8_next 12 = .ok (.iload_n 3, 1) := by decide +kernel
theorem dX8_next_13 : decode cX8_next 13 = .ok (.invokevirtual 87, 3) := by decide +kernel
theorem dX8_next_16 : decode cX8_next 16 = .ok (.invokevirtual 90, 3) := by decide +kernel
theorem dX8_next_19 : decode cX8_next 19 = .ok (.ireturn, 1) := by decide +kernel
set_option maxRecDepth 20000 in
theorem ggX8_payOf_X8_mine : GoodIn wsX8_payOf wsX8_mine := goodIn_r _ [6, 7, 12, 13, 14, 15, 16, 17, 18, 19, 20, 21, 22, 23, 24, 25, 26, 27, 28, 29, 30, 31, 32] (by decide +kernel) (by decide +kernel)
set_option maxRecDepth 20000 in
theorem gX8_payOf_X8_mine : GoodIn wsX8_payOf (wsV RX8 83 RX8 yX8_mine wsX8_mine) := goodIn_app (goodIn_of _ (by decide +kernel)) ggX8_payOf_X8_mine
set_option maxRecDepth 20000 in
theorem ggX8_payOf_X8_theirs : GoodIn wsX8_payOf wsX8_theirs := goodIn_r _ [11, 7, 12, 13, 14, 15, 16, 17, 18, 19, 20, 21, 22, 23, 24, 25, 26, 27, 28, 29, 30, 31, 32] (by decide +kernel) (by decide +kernel)
set_option maxRecDepth 20000 in
theorem gX8_payOf_X8_theirs : GoodIn wsX8_payOf (wsV RX8 87 RX8 yX8_theirs wsX8_theirs) := goodIn_app (goodIn_of _ (by decide +kernel)) ggX8_payOf_X8_theirs
theorem dX8_payOf_0 : decode cX8_payOf 0 = .ok (.aload_n 0, 1) := by decide +kernel
theorem dX8_payOf_1 : decode cX8_payOf 1 = .ok (.getfield 7, 3) := by decide +kernel
theorem dX8_payOf_4 : decode cX8_payOf 4 = .ok (.iconst 3, 1) := by decide +kernel
theorem dX8_payOf_5 : decode cX8_payOf 5 = .ok (.aload_n 0, 1) := by decide +kernel
theorem dX8_payOf_6 : decode cX8_payOf 6 = .ok (.iload_n 1, 1) := by decide +kernel
theorem dX8_payOf_7 : decode cX8_payOf 7 = .ok (.iload_n 3, 1) := by decide +kernel
theorem dX8_payOf_8 : decode cX8_payOf 8 = .ok (.invokevirtual 83, 3) := by decide +kernel
theorem dX8_payOf_11 : decode cX8_payOf 11 = .ok (.imul, 1) := by decide +kernel
theorem dX8_payOf_12 : decode cX8_payOf 12 = .ok (.aload_n 0, 1) := by decide +kernel
theorem dX8_payOf_13 : decode cX8_payOf 13 = .ok (.iload_n 2, 1) := by decide +kernel
theorem dX8_payOf_14 : decode cX8_payOf 14 = .ok (.iload_n 3, 1) := by decide +kernel
theorem dX8_payOf_15 : decode cX8_payOf 15 = .ok (.invokevirtual 87, 3) := by decide +kernel
theorem dX8_payOf_18 : decode cX8_payOf 18 = .ok (.iadd, 1) := by decide +kernel
theorem dX8_payOf_19 : decode cX8_payOf 19 = .ok (.iaload, 1) := by decide +kernel
theorem dX8_payOf_20 : decode cX8_payOf 20 = .ok (.ireturn, 1) := by decide +kernel
set_option maxRecDepth 20000 in
theorem ggX8_plays_X8_payOf : GoodIn wsX8_plays wsX8_payOf := goodIn_r _ [9, 10, 11, 12, 13, 8, 14, 15, 16, 17, 18, 19, 29, 30, 31, 32, 33, 34, 35, 36, 37, 38, 39, 40, 41, 42, 43, 44, 45, 46, 47, 48, 49] (by decide +kernel) (by decide +kernel)
set_option maxRecDepth 20000 in
theorem gX8_plays_X8_payOf : GoodIn wsX8_plays (wsV RX8 94 RX8 yX8_payOf wsX8_payOf) := goodIn_app (goodIn_of _ (by decide +kernel)) ggX8_plays_X8_payOf
set_option maxRecDepth 20000 in
theorem ggX8_plays_X8_next : GoodIn wsX8_plays wsX8_next := goodIn_r _ [23, 11, 12, 13, 8, 14, 15, 16, 17, 18, 19, 24, 25, 26, 27, 28, 29, 30, 31, 32, 33, 34, 35, 36, 37, 38, 39, 40, 41, 42, 43, 44, 45, 46, 47, 48, 49] (by decide +kernel) (by decide +kernel)
set_option maxRecDepth 20000 in
theorem gX8_plays_X8_next : GoodIn wsX8_plays (wsV RX8 98 RX8 yX8_next wsX8_next) := goodIn_app (goodIn_of _ (by decide +kernel)) ggX8_plays_X8_next
theorem dX8_plays_0 : decode cX8_plays 0 = .ok (.iconst 0, 1) := by decide +kernel
theorem dX8_plays_1 : decode cX8_plays 1 = .ok (.istore 4, 2) := by decide +kernel
theorem dX8_plays_3 : decode cX8_plays 3 = .ok (.iload 4, 2) := by decide +kernel
theorem dX8_plays_5 : decode cX8_plays 5 = .ok (.bipush 16, 2) := by decide +kernel
theorem dX8_plays_7 : decode cX8_plays 7 = .ok (.if_icmp .ge 18, 3) := by decide +kernel
theorem dX8_plays_10 : decode cX8_plays 10 = .ok (.aload_n 0, 1) := by decide +kernel
theorem dX8_plays_11 : decode cX8_plays 11 = .ok (.getfield 41, 3) := by decide +kernel
theorem dX8_plays_14 : decode cX8_plays 14 = .ok (.iload 4, 2) := by decide +kernel
theorem dX8_plays_16 : decode cX8_plays 16 = .ok (.bipush (-4), 2) := by decide +kernel
theorem dX8_plays_18 : decode cX8_plays 18 = .ok (.iastore, 1) := by decide +kernel
theorem dX8_plays_19 : decode cX8_plays 19 = .ok (.iinc 4 1, 3) := by decide +kernel
theorem dX8_plays_22 : decode cX8_plays 22 = .ok (.goto (-19), 3) := by decide +kernel
theorem dX8_plays_25 : decode cX8_plays 25 = .ok (.iload_n 3, 1) := by decide +kernel
theorem dX8_plays_26 : decode cX8_plays 26 = .ok (.istore 4, 2) := by decide +kernel
theorem dX8_plays_28 : decode cX8_plays 28 = .ok (.iconst 0, 1) := by decide +kernel
theorem dX8_plays_29 : decode cX8_plays 29 = .ok (.istore 5, 2) := by decide +kernel
theorem dX8_plays_31 : decode cX8_plays 31 = .ok (.aload_n 0, 1) := by decide +kernel
theorem dX8_plays_32 : decode cX8_plays 32 = .ok (.getfield 41, 3) := by decide +kernel
theorem dX8_plays_35 : decode cX8_plays 35 = .ok (.iload 4, 2) := by decide +kernel
theorem dX8_plays_37 : decode cX8_plays 37 = .ok (.iaload, 1) := by decide +kernel
theorem dX8_plays_38 : decode cX8_plays 38 = .ok (.bipush (-4), 2) := by decide +kernel
theorem dX8_plays_40 : decode cX8_plays 40 = .ok (.if_icmp .ne 43, 3) := by decide +kernel
theorem dX8_plays_43 : decode cX8_plays 43 = .ok (.aload_n 0, 1) := by decide +kernel
theorem dX8_plays_44 : decode cX8_plays 44 = .ok (.getfield 41, 3) := by decide +kernel
theorem dX8_plays_47 : decode cX8_plays 47 = .ok (.iload 4, 2) := by decide +kernel
theorem dX8_plays_49 : decode cX8_plays 49 = .ok (.iload 5, 2) := by decide +kernel
theorem dX8_plays_51 : decode cX8_plays 51 = .ok (.iastore, 1) := by decide +kernel
theorem dX8_plays_52 : decode cX8_plays 52 = .ok (.aload_n 0, 1) := by decide +kernel
theorem dX8_plays_53 : decode cX8_plays 53 = .ok (.getfield 38, 3) := by decide +kernel
theorem dX8_plays_56 : decode cX8_plays 56 = .ok (.iload 5, 2) := by decide +kernel
theorem dX8_plays_58 : decode cX8_plays 58 = .ok (.aload_n 0, 1) := by decide +kernel
theorem dX8_plays_59 : decode cX8_plays 59 = .ok (.iload_n 1, 1) := by decide +kernel
theorem dX8_plays_60 : decode cX8_plays 60 = .ok (.iload_n 2, 1) := by decide +kernel
theorem dX8_plays_61 : decode cX8_plays 61 = .ok (.iload 4, 2) := by decide +kernel
theorem dX8_plays_63 : decode cX8_plays 63 = .ok (.invokevirtual 94, 3) := by decide +kernel
theorem dX8_plays_66 : decode cX8_plays 66 = .ok (.iastore, 1) := by decide +kernel
theorem dX8_plays_67 : decode cX8_plays 67 = .ok (.iinc 5 1, 3) := by decide +kernel
theorem dX8_plays_70 : decode cX8_plays 70 = .ok (.aload_n 0, 1) := by decide +kernel
theorem dX8_plays_71 : decode cX8_plays 71 = .ok (.iload_n 1, 1) := by decide +kernel
theorem dX8_plays_72 : decode cX8_plays 72 = .ok (.iload_n 2, 1) := by decide +kernel
theorem dX8_plays_73 : decode cX8_plays 73 = .ok (.iload 4, 2) := by decide +kernel
theorem dX8_plays_75 : decode cX8_plays 75 = .ok (.invokevirtual 98, 3) := by decide +kernel
theorem dX8_plays_78 : decode cX8_plays 78 = .ok (.istore 4, 2) := by decide +kernel
theorem dX8_plays_80 : decode cX8_plays 80 = .ok (.goto (-49), 3) := by decide +kernel
theorem dX8_plays_83 : decode cX8_plays 83 = .ok (.aload_n 0, 1) := by decide +kernel
theorem dX8_plays_84 : decode cX8_plays 84 = .ok (.aload_n 0, 1) := by decide +kernel
theorem dX8_plays_85 : decode cX8_plays 85 = .ok (.getfield 41, 3) := by decide +kernel
theorem dX8_plays_88 : decode cX8_plays 88 = .ok (.iload 4, 2) := by decide +kernel
theorem dX8_plays_90 : decode cX8_plays 90 = .ok (.iaload, 1) := by decide +kernel
theorem dX8_plays_91 : decode cX8_plays 91 = .ok (.putfield 101, 3) := by decide +kernel
theorem dX8_plays_94 : decode cX8_plays 94 = .ok (.aload_n 0, 1) := by decide +kernel
theorem dX8_plays_95 : decode cX8_plays 95 = .ok (.iload 5, 2) := by decide +kernel
theorem dX8_plays_97 : decode cX8_plays 97 = .ok (.aload_n 0, 1) := by decide +kernel
theorem dX8_plays_98 : decode cX8_plays 98 = .ok (.getfield 101, 3) := by decide +kernel
theorem dX8_plays_101 : decode cX8_plays 101 = .ok (.isub, 1) := by decide +kernel
theorem dX8_plays_102 : decode cX8_plays 102 = .ok (.putfield 104, 3) := by decide +kernel
theorem dX8_plays_105 : decode cX8_plays 105 = .ok (.return_, 1) := by decide +kernel
set_option maxRecDepth 20000 in
theorem ggX8_areBoth_X8_isMachine : GoodIn wsX8_areBoth wsX8_isMachine := goodIn_r _ [5, 6, 7, 8, 4, 9, 10, 11, 12, 13, 14, 15, 16, 17, 18, 19, 20, 21, 22, 23, 24, 25, 26, 27, 28, 29, 30] (by decide +kernel) (by decide +kernel)
set_option maxRecDepth 20000 in
theorem gX8_areBoth_X8_isMachine : GoodIn wsX8_areBoth (wsV RX8 66 RX8 yX8_isMachine wsX8_isMachine) := goodIn_app (goodIn_of _ (by decide +kernel)) ggX8_areBoth_X8_isMachine
theorem dX8_areBoth_0 : decode cX8_areBoth 0 = .ok (.aload_n 0, 1) := by decide +kernel
theorem dX8_areBoth_1 : decode cX8_areBoth 1 = .ok (.iload_n 1, 1) := by decide +kernel
theorem dX8_areBoth_2 : decode cX8_areBoth 2 = .ok (.invokevirtual 66, 3) := by decide +kernel
theorem dX8_areBoth_5 : decode cX8_areBoth 5 = .ok (.ifCond .eq 15, 3) := by decide +kernel
theorem dX8_areBoth_8 : decode cX8_areBoth 8 = .ok (.aload_n 0, 1) := by decide +kernel
theorem dX8_areBoth_9 : decode cX8_areBoth 9 = .ok (.iload_n 2, 1) := by decide +kernel
theorem dX8_areBoth_10 : decode cX8_areBoth 10 = .ok (.invokevirtual 66, 3) := by decide +kernel
theorem dX8_areBoth_13 : decode cX8_areBoth 13 = .ok (.ifCond .eq 7, 3) := by decide +kernel
theorem dX8_areBoth_16 : decode cX8_areBoth 16 = .ok (.iconst 1, 1) := by decide +kernel
theorem dX8_areBoth_17 : decode cX8_areBoth 17 = .ok (.goto 4, 3) := by decide +kernel
theorem dX8_areBoth_20 : decode cX8_areBoth 20 = .ok (.iconst 0, 1) := by decide +kernel
theorem dX8_areBoth_21 : decode cX8_areBoth 21 = .ok (.ireturn, 1) := by decide +kernel
set_option maxRecDepth 20000 in
theorem ggX8_action_X8_areBoth : GoodIn wsX8_action wsX8_areBoth := goodIn_r _ [6, 7, 8, 9, 5, 10, 11, 12, 13, 14, 33, 34, 35, 36, 37, 38, 39, 40, 41, 42, 43, 44, 45, 46, 47, 48, 49, 50, 51, 52, 53] (by decide +kernel) (by decide +kernel)
set_option maxRecDepth 20000 in
theorem gX8_action_X8_areBoth : GoodIn wsX8_action (wsV RX8 107 RX8 yX8_areBoth wsX8_areBoth) := goodIn_app (goodIn_of _ (by decide +kernel)) ggX8_action_X8_areBoth
set_option maxRecDepth 20000 in
theorem ggX8_action_X8_in : GoodIn wsX8_action wsX8_in := goodIn_r _ [14] (by decide +kernel) (by decide +kernel)
set_option maxRecDepth 20000 in
theorem gX8_action_X8_in : GoodIn wsX8_action (va_wsS RX8 53 yX8_in wsX8_in) := goodIn_app (goodIn_of _ (by decide +kernel)) ggX8_action_X8_in
set_option maxRecDepth 20000 in
theorem ggX8_action_X8_next : GoodIn wsX8_action wsX8_next := goodIn_r _ [18, 19, 20, 21, 5, 22, 23, 24, 25, 26, 27, 28, 29, 30, 31, 32, 33, 34, 35, 36, 37, 38, 39, 40, 41, 42, 43, 44, 45, 46, 47, 48, 49, 50, 51, 52, 53] (by decide +kernel) (by decide +kernel)
set_option maxRecDepth 20000 in
theorem gX8_action_X8_next : GoodIn wsX8_action (wsV RX8 98 RX8 yX8_next wsX8_next) := goodIn_app (goodIn_of _ (by decide +kernel)) ggX8_action_X8_next
set_option maxRecDepth 20000 in
theorem ggX8_action_X8_mine : GoodIn wsX8_action wsX8_mine := goodIn_r _ [22, 23, 33, 34, 35, 36, 37, 38, 39, 40, 41, 42, 43, 44, 45, 46, 47, 48, 49, 50, 51, 52, 53] (by decide +kernel) (by decide +kernel)
set_option maxRecDepth 20000 in
theorem gX8_action_X8_mine : GoodIn wsX8_action (wsV RX8 83 RX8 yX8_mine wsX8_mine) := goodIn_app (goodIn_of _ (by decide +kernel)) ggX8_action_X8_mine
theorem dX8_action_0 : decode cX8_action 0 = .ok (.aload_n 0, 1) := by decide +kernel
theorem dX8_action_1 : decode cX8_action 1 = .ok (.iload_n 1, 1) := by decide +kernel
theorem dX8_action_2 : decode cX8_action 2 = .ok (.iload_n 2, 1) := by decide +kernel
theorem dX8_action_3 : decode cX8_action 3 = .ok (.invokevirtual 107, 3) := by decide +kernel
theorem dX8_action_6 : decode cX8_action 6 = .ok (.ifCond .eq 15, 3) := by decide +kernel
theorem dX8_action_9 : decode cX8_action 9 = .ok (.iload_n 3, 1) := by decide +kernel
theorem dX8_action_10 : decode cX8_action 10 = .ok (.i2l, 1) := by decide +kernel
theorem dX8_action_11 : decode cX8_action 11 = .ok (.lconst 0, 1) := by decide +kernel
theorem dX8_action_12 : decode cX8_action 12 = .ok (.ldc2_w 110, 3) := by decide +kernel
theorem dX8_action_15 : decode cX8_action 15 = .ok (.invokestatic 53, 3) := by decide +kernel
theorem dX8_action_18 : decode cX8_action 18 = .ok (.ifCond .ne 5, 3) := by decide +kernel
theorem dX8_action_21 : decode cX8_action 21 = .ok (.iconst (-1), 1) := by decide +kernel
theorem dX8_action_22 : decode cX8_action 22 = .ok (.ireturn, 1) := by decide +kernel
theorem dX8_action_23 : decode cX8_action 23 = .ok (.iconst 0, 1) := by decide +kernel
theorem dX8_action_24 : decode cX8_action 24 = .ok (.istore 4, 2) := by decide +kernel
theorem dX8_action_26 : decode cX8_action 26 = .ok (.iconst 0, 1) := by decide +kernel
theorem dX8_action_27 : decode cX8_action 27 = .ok (.istore 5, 2) := by decide +kernel
theorem dX8_action_29 : decode cX8_action 29 = .ok (.iload 5, 2) := by decide +kernel
theorem dX8_action_31 : decode cX8_action 31 = .ok (.iload_n 3, 1) := by decide +kernel
theorem dX8_action_32 : decode cX8_action 32 = .ok (.if_icmp .ge 19, 3) := by decide +kernel
theorem dX8_action_35 : decode cX8_action 35 = .ok (.aload_n 0, 1) := by decide +kernel
theorem dX8_action_36 : decode cX8_action 36 = .ok (.iload_n 1, 1) := by decide +kernel
theorem dX8_action_37 : decode cX8_action 37 = .ok (.iload_n 2, 1) := by decide +kernel
theorem dX8_action_38 : decode cX8_action 38 = .ok (.iload 4, 2) := by decide +kernel
theorem dX8_action_40 : decode cX8_action 40 = .ok (.invokevirtual 98, 3) := by decide +kernel
theorem dX8_action_43 : decode cX8_action 43 = .ok (.istore 4, 2) := by decide +kernel
theorem dX8_action_45 : decode cX8_action 45 = .ok (.iinc 5 1, 3) := by decide +kernel
theorem dX8_action_48 : decode cX8_action 48 = .ok (.goto (-19), 3) := by decide +kernel
theorem dX8_action_51 : decode cX8_action 51 = .ok (.aload_n 0, 1) := by decide +kernel
theorem dX8_action_52 : decode cX8_action 52 = .ok (.iload_n 1, 1) := by decide +kernel
theorem dX8_action_53 : decode cX8_action 53 = .ok (.iload 4, 2) := by decide +kernel
theorem dX8_action_55 : decode cX8_action 55 = .ok (.invokevirtual 83, 3) := by decide +kernel
theorem dX8_action_58 : decode cX8_action 58 = .ok (.ireturn, 1) := by decide +kernel
theorem dX8_sumOf_0 : decode cX8_sumOf 0 = .ok (.iconst 0, 1) := by decide +kernel
theorem dX8_sumOf_1 : decode cX8_sumOf 1 = .ok (.istore_n 3, 1) := by decide +kernel
theorem dX8_sumOf_2 : decode cX8_sumOf 2 = .ok (.iload_n 1, 1) := by decide +kernel
theorem dX8_sumOf_3 : decode cX8_sumOf 3 = .ok (.istore 4, 2) := by decide +kernel
theorem dX8_sumOf_5 : decode cX8_sumOf 5 = .ok (.iload 4, 2) := by decide +kernel
theorem dX8_sumOf_7 : decode cX8_sumOf 7 = .ok (.iload_n 2, 1) := by decide +kernel
theorem dX8_sumOf_8 : decode cX8_sumOf 8 = .ok (.if_icmp .ge 19, 3) := by decide +kernel
theorem dX8_sumOf_11 : decode cX8_sumOf 11 = .ok (.iload_n 3, 1) := by decide +kernel
theorem dX8_sumOf_12 : decode cX8_sumOf 12 = .ok (.aload_n 0, 1) := by decide +kernel
theorem dX8_sumOf_13 : decode cX8_sumOf 13 = .ok (.getfield 38, 3) := by decide +kernel
theorem dX8_sumOf_16 : decode cX8_sumOf 16 = .ok (.iload 4, 2) := by decide +kernel
theorem dX8_sumOf_18 : decode cX8_sumOf 18 = .ok (.iaload, 1) := by decide +kernel
theorem dX8_sumOf_19 : decode cX8_sumOf 19 = .ok (.iadd, 1) := by decide +kernel
theorem dX8_sumOf_20 : decode cX8_sumOf 20 = .ok (.istore_n 3, 1) := by decide +kernel
theorem dX8_sumOf_21 : decode cX8_sumOf 21 = .ok (.iinc 4 1, 3) := by decide +kernel
theorem dX8_sumOf_24 : decode cX8_sumOf 24 = .ok (.goto (-19), 3) := by decide +kernel
theorem dX8_sumOf_27 : decode cX8_sumOf 27 = .ok (.iload_n 3, 1) := by decide +kernel
theorem dX8_sumOf_28 : decode cX8_sumOf 28 = .ok (.ireturn, 1) := by decide +kernel
set_option maxRecDepth 20000 in
theorem ggX8_match_X8_areBoth : GoodIn wsX8_match wsX8_areBoth := goodIn_r _ [9, 10, 11, 12, 8, 13, 14, 15, 16, 17, 51, 52, 53, 54, 55, 56, 57, 58, 59, 60, 61, 62, 63, 64, 65, 66, 67, 68, 69, 70, 71] (by decide +kernel) (by decide +kernel)
set_option maxRecDepth 20000 in
theorem gX8_match_X8_areBoth : GoodIn wsX8_match (wsV RX8 107 RX8 yX8_areBoth wsX8_areBoth) := goodIn_app (goodIn_of _ (by decide +kernel)) ggX8_match_X8_areBoth
set_option maxRecDepth 20000 in
theorem ggX8_match_X8_in : GoodIn wsX8_match wsX8_in := goodIn_r _ [17] (by decide +kernel) (by decide +kernel)
set_option maxRecDepth 20000 in
theorem gX8_match_X8_in : GoodIn wsX8_match (va_wsS RX8 53 yX8_in wsX8_in) := goodIn_app (goodIn_of _ (by decide +kernel)) ggX8_match_X8_in
set_option maxRecDepth 20000 in
theorem ggX8_match_X8_plays : GoodIn wsX8_match wsX8_plays := goodIn_r _ [21, 22, 23, 3, 4, 24, 25, 26, 8, 27, 28, 29, 30, 31, 32, 33, 34, 35, 36, 37, 38, 39, 40, 41, 42, 43, 44, 45, 46, 51, 52, 53, 54, 55, 56, 57, 58, 59, 60, 61, 62, 63, 64, 65, 66, 67, 68, 69, 70, 71] (by decide +kernel) (by decide +kernel)
set_option maxRecDepth 20000 in
theorem gX8_match_X8_plays : GoodIn wsX8_match (wsV RX8 113 RX8 yX8_plays wsX8_plays) := goodIn_app (goodIn_of _ (by decide +kernel)) ggX8_match_X8_plays
set_option maxRecDepth 20000 in
theorem ggX8_match_X8_sumOf : GoodIn wsX8_match wsX8_sumOf := goodIn_r _ [50, 23, 51, 52, 53, 54, 55, 56, 57, 58, 59, 60, 61, 62, 63, 64, 65, 66, 67, 68, 69, 70, 71] (by decide +kernel) (by decide +kernel)
set_option maxRecDepth 20000 in
theorem gX8_match_X8_sumOf : GoodIn wsX8_match (wsV RX8 117 RX8 yX8_sumOf wsX8_sumOf) := goodIn_app (goodIn_of _ (by decide +kernel)) ggX8_match_X8_sumOf
theorem dX8_match_0 : decode cX8_match 0 = .ok (.aload_n 0, 1) := by decide +kernel
theorem dX8_match_1 : decode cX8_match 1 = .ok (.iload_n 1, 1) := by decide +kernel
theorem dX8_match_2 : decode cX8_match 2 = .ok (.iload_n 2, 1) := by decide +kernel
theorem dX8_match_3 : decode cX8_match 3 = .ok (.invokevirtual 107, 3) := by decide +kernel
theorem dX8_match_6 : decode cX8_match 6 = .ok (.ifCond .eq 15, 3) := by decide +kernel
theorem dX8_match_9 : decode cX8_match 9 = .ok (.iload_n 3, 1) := by decide +kernel
theorem dX8_match_10 : decode cX8_match 10 = .ok (.i2l, 1) := by decide +kernel
theorem dX8_match_11 : decode cX8_match 11 = .ok (.lconst 0, 1) := by decide +kernel
theorem dX8_match_12 : decode cX8_match 12 = .ok (.ldc2_w 74, 3) := by decide +kernel
theorem dX8_match_15 : decode cX8_match 15 = .ok (.invokestatic 53, 3) := by decide +kernel
theorem dX8_match_18 : decode cX8_match 18 = .ok (.ifCond .ne 6, 3) := by decide +kernel
theorem dX8_match_21 : decode cX8_match 21 = .ok (.ldc 112, 2) := by decide +kernel
theorem dX8_match_23 : decode cX8_match 23 = .ok (.ireturn, 1) := by decide +kernel
theorem dX8_match_24 : decode cX8_match 24 = .ok (.aload_n 0, 1) := by decide +kernel
theorem dX8_match_25 : decode cX8_match 25 = .ok (.iload_n 1, 1) := by decide +kernel
theorem dX8_match_26 : decode cX8_match 26 = .ok (.iload_n 2, 1) := by decide +kernel
theorem dX8_match_27 : decode cX8_match 27 = .ok (.iconst 0, 1) := by decide +kernel
theorem dX8_match_28 : decode cX8_match 28 = .ok (.invokevirtual 113, 3) := by decide +kernel
theorem dX8_match_31 : decode cX8_match 31 = .ok (.iload_n 3, 1) := by decide +kernel
theorem dX8_match_32 : decode cX8_match 32 = .ok (.ifCond .ne 10, 3) := by decide +kernel
theorem dX8_match_35 : decode cX8_match 35 = .ok (.aload_n 0, 1) := by decide +kernel
theorem dX8_match_36 : decode cX8_match 36 = .ok (.getfield 101, 3) := by decide +kernel
theorem dX8_match_39 : decode cX8_match 39 = .ok (.goto 49, 3) := by decide +kernel
theorem dX8_match_42 : decode cX8_match 42 = .ok (.iload_n 3, 1) := by decide +kernel
theorem dX8_match_43 : decode cX8_match 43 = .ok (.iconst 1, 1) := by decide +kernel
theorem dX8_match_44 : decode cX8_match 44 = .ok (.if_icmp .ne 10, 3) := by decide +kernel
theorem dX8_match_47 : decode cX8_match 47 = .ok (.aload_n 0, 1) := by decide +kernel
theorem dX8_match_48 : decode cX8_match 48 = .ok (.getfield 104, 3) := by decide +kernel
theorem dX8_match_51 : decode cX8_match 51 = .ok (.goto 37, 3) := by decide +kernel
theorem dX8_match_54 : decode cX8_match 54 = .ok (.iload_n 3, 1) := by decide +kernel
theorem dX8_match_55 : decode cX8_match 55 = .ok (.iconst 2, 1) := by decide +kernel
theorem dX8_match_56 : decode cX8_match 56 = .ok (.if_icmp .ne 15, 3) := by decide +kernel
theorem dX8_match_59 : decode cX8_match 59 = .ok (.aload_n 0, 1) := by decide +kernel
theorem dX8_match_60 : decode cX8_match 60 = .ok (.iconst 0, 1) := by decide +kernel
theorem dX8_match_61 : decode cX8_match 61 = .ok (.aload_n 0, 1) := by decide +kernel
theorem dX8_match_62 : decode cX8_match 62 = .ok (.getfield 101, 3) := by decide +kernel
theorem dX8_match_65 : decode cX8_match 65 = .ok (.invokevirtual 117, 3) := by decide +kernel
theorem dX8_match_68 : decode cX8_match 68 = .ok (.goto 20, 3) := by decide +kernel
theorem dX8_match_71 : decode cX8_match 71 = .ok (.aload_n 0, 1) := by decide +kernel
theorem dX8_match_72 : decode cX8_match 72 = .ok (.aload_n 0, 1) := by decide +kernel
theorem dX8_match_73 : decode cX8_match 73 = .ok (.getfield 101, 3) := by decide +kernel
theorem dX8_match_76 : decode cX8_match 76 = .ok (.aload_n 0, 1) := by decide +kernel
theorem dX8_match_77 : decode cX8_match 77 = .ok (.getfield 101, 3) := by decide +kernel
theorem dX8_match_80 : decode cX8_match 80 = .ok (.aload_n 0, 1) := by decide +kernel
theorem dX8_match_81 : decode cX8_match 81 = .ok (.getfield 104, 3) := by decide +kernel
theorem dX8_match_84 : decode cX8_match 84 = .ok (.iadd, 1) := by decide +kernel
theorem dX8_match_85 : decode cX8_match 85 = .ok (.invokevirtual 117, 3) := by decide +kernel
theorem dX8_match_88 : decode cX8_match 88 = .ok (.ireturn, 1) := by decide +kernel
set_option maxRecDepth 20000 in
theorem ggX8_sumUp_X8_payOf : GoodIn wsX8_sumUp wsX8_payOf := goodIn_r _ [5, 6, 7, 8, 9, 4, 10, 11, 12, 13, 14, 15, 25, 26, 27, 28, 29, 30, 31, 32, 33, 34, 35, 36, 37, 38, 39, 40, 41, 42, 43, 44, 45] (by decide +kernel) (by decide +kernel)
set_option maxRecDepth 20000 in
theorem gX8_sumUp_X8_payOf : GoodIn wsX8_sumUp (wsV RX8 94 RX8 yX8_payOf wsX8_payOf) := goodIn_app (goodIn_of _ (by decide +kernel)) ggX8_sumUp_X8_payOf
set_option maxRecDepth 20000 in
theorem ggX8_sumUp_X8_next : GoodIn wsX8_sumUp wsX8_next := goodIn_r _ [19, 7, 8, 9, 4, 10, 11, 12, 13, 14, 15, 20, 21, 22, 23, 24, 25, 26, 27, 28, 29, 30, 31, 32, 33, 34, 35, 36, 37, 38, 39, 40, 41, 42, 43, 44, 45] (by decide +kernel) (by decide +kernel)
set_option maxRecDepth 20000 in
theorem gX8_sumUp_X8_next : GoodIn wsX8_sumUp (wsV RX8 98 RX8 yX8_next wsX8_next) := goodIn_app (goodIn_of _ (by decide +kernel)) ggX8_sumUp_X8_next
theorem dX8_sumUp_0 : decode cX8_sumUp 0 = .ok (.iconst 0, 1) := by decide +kernel
theorem dX8_sumUp_1 : decode cX8_sumUp 1 = .ok (.istore 4, 2) := by decide +kernel
theorem dX8_sumUp_3 : decode cX8_sumUp 3 = .ok (.iconst 0, 1) := by decide +kernel
theorem dX8_sumUp_4 : decode cX8_sumUp 4 = .ok (.istore 5, 2) := by decide +kernel
theorem dX8_sumUp_6 : decode cX8_sumUp 6 = .ok (.iconst 0, 1) := by decide +kernel
theorem dX8_sumUp_7 : decode cX8_sumUp 7 = .ok (.istore 6, 2) := by decide +kernel
theorem dX8_sumUp_9 : decode cX8_sumUp 9 = .ok (.iload 6, 2) := by decide +kernel
theorem dX8_sumUp_11 : decode cX8_sumUp 11 = .ok (.iload_n 3, 1) := by decide +kernel
theorem dX8_sumUp_12 : decode cX8_sumUp 12 = .ok (.if_icmp .ge 32, 3) := by decide +kernel
theorem dX8_sumUp_15 : decode cX8_sumUp 15 = .ok (.iload 4, 2) := by decide +kernel
theorem dX8_sumUp_17 : decode cX8_sumUp 17 = .ok (.aload_n 0, 1) := by decide +kernel
theorem dX8_sumUp_18 : decode cX8_sumUp 18 = .ok (.iload_n 1, 1) := by decide +kernel
theorem dX8_sumUp_19 : decode cX8_sumUp 19 = .ok (.iload_n 2, 1) := by decide +kernel
theorem dX8_sumUp_20 : decode cX8_sumUp 20 = .ok (.iload 5, 2) := by decide +kernel
theorem dX8_sumUp_22 : decode cX8_sumUp 22 = .ok (.invokevirtual 94, 3) := by decide +kernel
theorem dX8_sumUp_25 : decode cX8_sumUp 25 = .ok (.iadd, 1) := by decide +kernel
theorem dX8_sumUp_26 : decode cX8_sumUp 26 = .ok (.istore 4, 2) := by decide +kernel
theorem dX8_sumUp_28 : decode cX8_sumUp 28 = .ok (.aload_n 0, 1) := by decide +kernel
theorem dX8_sumUp_29 : decode cX8_sumUp 29 = .ok (.iload_n 1, 1) := by decide +kernel
theorem dX8_sumUp_30 : decode cX8_sumUp 30 = .ok (.iload_n 2, 1) := by decide +kernel
theorem dX8_sumUp_31 : decode cX8_sumUp 31 = .ok (.iload 5, 2) := by decide +kernel
theorem dX8_sumUp_33 : decode cX8_sumUp 33 = .ok (.invokevirtual 98, 3) := by decide +kernel
theorem dX8_sumUp_36 : decode cX8_sumUp 36 = .ok (.istore 5, 2) := by decide +kernel
theorem dX8_sumUp_38 : decode cX8_sumUp 38 = .ok (.iinc 6 1, 3) := by decide +kernel
theorem dX8_sumUp_41 : decode cX8_sumUp 41 = .ok (.goto (-32), 3) := by decide +kernel
theorem dX8_sumUp_44 : decode cX8_sumUp 44 = .ok (.iload 4, 2) := by decide +kernel
theorem dX8_sumUp_46 : decode cX8_sumUp 46 = .ok (.ireturn, 1) := by decide +kernel
set_option maxRecDepth 20000 in
theorem ggX8_sum_X8_areBoth : GoodIn wsX8_sum wsX8_areBoth := goodIn_r _ [7, 8, 9, 10, 6, 11, 12, 13, 14, 15, 43, 44, 45, 46, 47, 48, 49, 50, 51, 52, 53, 54, 55, 56, 57, 58, 59, 60, 61, 62, 63] (by decide +kernel) (by decide +kernel)
set_option maxRecDepth 20000 in
theorem gX8_sum_X8_areBoth : GoodIn wsX8_sum (wsV RX8 107 RX8 yX8_areBoth wsX8_areBoth) := goodIn_app (goodIn_of _ (by decide +kernel)) ggX8_sum_X8_areBoth
set_option maxRecDepth 20000 in
theorem ggX8_sum_X8_in : GoodIn wsX8_sum wsX8_in := goodIn_r _ [15] (by decide +kernel) (by decide +kernel)
set_option maxRecDepth 20000 in
theorem gX8_sum_X8_in : GoodIn wsX8_sum (va_wsS RX8 53 yX8_in wsX8_in) := goodIn_app (goodIn_of _ (by decide +kernel)) ggX8_sum_X8_in
set_option maxRecDepth 20000 in
theorem ggX8_sum_X8_sumUp : GoodIn wsX8_sum wsX8_sumUp := goodIn_r _ [19, 20, 21, 22, 6, 23, 24, 25, 26, 27, 28, 29, 30, 31, 32, 33, 34, 35, 36, 37, 38, 39, 40, 41, 42, 43, 44, 45, 46, 47, 48, 49, 50, 51, 52, 53, 54, 55, 56, 57, 58, 59, 60, 61, 62, 63] (by decide +kernel) (by decide +kernel)
set_option maxRecDepth 20000 in
theorem gX8_sum_X8_sumUp : GoodIn wsX8_sum (wsV RX8 120 RX8 yX8_sumUp wsX8_sumUp) := goodIn_app (goodIn_of _ (by decide +kernel)) ggX8_sum_X8_sumUp
theorem dX8_sum_0 : decode cX8_sum 0 = .ok (.aload_n 0, 1) := by decide +kernel
theorem dX8_sum_1 : decode cX8_sum 1 = .ok (.iload_n 1, 1) := by decide +kernel
theorem dX8_sum_2 : decode cX8_sum 2 = .ok (.iload_n 2, 1) := by decide +kernel
theorem dX8_sum_3 : decode cX8_sum 3 = .ok (.invokevirtual 107, 3) := by decide +kernel
theorem dX8_sum_6 : decode cX8_sum 6 = .ok (.ifCond .eq 25, 3) := by decide +kernel
theorem dX8_sum_9 : decode cX8_sum 9 = .ok (.iload_n 3, 1) := by decide +kernel
theorem dX8_sum_10 : decode cX8_sum 10 = .ok (.i2l, 1) := by decide +kernel
theorem dX8_sum_11 : decode cX8_sum 11 = .ok (.lconst 0, 1) := by decide +kernel
theorem dX8_sum_12 : decode cX8_sum 12 = .ok (.ldc2_w 110, 3) := by decide +kernel
theorem dX8_sum_15 : decode cX8_sum 15 = .ok (.invokestatic 53, 3) := by decide +kernel
theorem dX8_sum_18 : decode cX8_sum 18 = .ok (.ifCond .eq 13, 3) := by decide +kernel
theorem dX8_sum_21 : decode cX8_sum 21 = .ok (.aload_n 0, 1) := by decide +kernel
theorem dX8_sum_22 : decode cX8_sum 22 = .ok (.iload_n 1, 1) := by decide +kernel
theorem dX8_sum_23 : decode cX8_sum 23 = .ok (.iload_n 2, 1) := by decide +kernel
theorem dX8_sum_24 : decode cX8_sum 24 = .ok (.iload_n 3, 1) := by decide +kernel
theorem dX8_sum_25 : decode cX8_sum 25 = .ok (.invokevirtual 120, 3) := by decide +kernel
theorem dX8_sum_28 : decode cX8_sum 28 = .ok (.goto 5, 3) := by decide +kernel
theorem dX8_sum_31 : decode cX8_sum 31 = .ok (.ldc 112, 2) := by decide +kernel
theorem dX8_sum_33 : decode cX8_sum 33 = .ok (.ireturn, 1) := by decide +kernel
theorem dX8_lowest_0 : decode cX8_lowest 0 = .ok (.lload_n 1, 1) := by decide +kernel
theorem dX8_lowest_1 : decode cX8_lowest 1 = .ok (.lconst 0, 1) := by decide +kernel
theorem dX8_lowest_2 : decode cX8_lowest 2 = .ok (.lcmp, 1) := by decide +kernel
theorem dX8_lowest_3 : decode cX8_lowest 3 = .ok (.ifCond .ge 8, 3) := by decide +kernel
theorem dX8_lowest_6 : decode cX8_lowest 6 = .ok (.lload_n 1, 1) := by decide +kernel
theorem dX8_lowest_7 : decode cX8_lowest 7 = .ok (.lneg, 1) := by decide +kernel
theorem dX8_lowest_8 : decode cX8_lowest 8 = .ok (.goto 4, 3) := by decide +kernel
theorem dX8_lowest_11 : decode cX8_lowest 11 = .ok (.lload_n 1, 1) := by decide +kernel
theorem dX8_lowest_12 : decode cX8_lowest 12 = .ok (.lstore 5, 2) := by decide +kernel
theorem dX8_lowest_14 : decode cX8_lowest 14 = .ok (.lload_n 3, 1) := by decide +kernel
theorem dX8_lowest_15 : decode cX8_lowest 15 = .ok (.lstore 7, 2) := by decide +kernel
theorem dX8_lowest_17 : decode cX8_lowest 17 = .ok (.lload 7, 2) := by decide +kernel
theorem dX8_lowest_19 : decode cX8_lowest 19 = .ok (.lconst 0, 1) := by decide +kernel
theorem dX8_lowest_20 : decode cX8_lowest 20 = .ok (.lcmp, 1) := by decide +kernel
theorem dX8_lowest_21 : decode cX8_lowest 21 = .ok (.ifCond .eq 21, 3) := by decide +kernel
theorem dX8_lowest_24 : decode cX8_lowest 24 = .ok (.lload 5, 2) := by decide +kernel
theorem dX8_lowest_26 : decode cX8_lowest 26 = .ok (.lload 7, 2) := by decide +kernel
theorem dX8_lowest_28 : decode cX8_lowest 28 = .ok (.lrem, 1) := by decide +kernel
theorem dX8_lowest_29 : decode cX8_lowest 29 = .ok (.lstore 9, 2) := by decide +kernel
theorem dX8_lowest_31 : decode cX8_lowest 31 = .ok (.lload 7, 2) := by decide +kernel
theorem dX8_lowest_33 : decode cX8_lowest 33 = .ok (.lstore 5, 2) := by decide +kernel
theorem dX8_lowest_35 : decode cX8_lowest 35 = .ok (.lload 9, 2) := by decide +kernel
theorem dX8_lowest_37 : decode cX8_lowest 37 = .ok (.lstore 7, 2) := by decide +kernel
theorem dX8_lowest_39 : decode cX8_lowest 39 = .ok (.goto (-22), 3) := by decide +kernel
theorem dX8_lowest_42 : decode cX8_lowest 42 = .ok (.aload_n 0, 1) := by decide +kernel
theorem dX8_lowest_43 : decode cX8_lowest 43 = .ok (.lload_n 1, 1) := by decide +kernel
theorem dX8_lowest_44 : decode cX8_lowest 44 = .ok (.lload 5, 2) := by decide +kernel
theorem dX8_lowest_46 : decode cX8_lowest 46 = .ok (.ldiv, 1) := by decide +kernel
theorem dX8_lowest_47 : decode cX8_lowest 47 = .ok (.putfield 123, 3) := by decide +kernel
theorem dX8_lowest_50 : decode cX8_lowest 50 = .ok (.aload_n 0, 1) := by decide +kernel
theorem dX8_lowest_51 : decode cX8_lowest 51 = .ok (.lload_n 3, 1) := by decide +kernel
theorem dX8_lowest_52 : decode cX8_lowest 52 = .ok (.lload 5, 2) := by decide +kernel
theorem dX8_lowest_54 : decode cX8_lowest 54 = .ok (.ldiv, 1) := by decide +kernel
theorem dX8_lowest_55 : decode cX8_lowest 55 = .ok (.putfield 127, 3) := by decide +kernel
theorem dX8_lowest_58 : decode cX8_lowest 58 = .ok (.return_, 1) := by decide +kernel
theorem dX8_power_0 : decode cX8_power 0 = .ok (.lconst 1, 1) := by decide +kernel
theorem dX8_power_1 : decode cX8_power 1 = .ok (.lstore_n 3, 1) := by decide +kernel
theorem dX8_power_2 : decode cX8_power 2 = .ok (.iconst 0, 1) := by decide +kernel
theorem dX8_power_3 : decode cX8_power 3 = .ok (.istore 5, 2) := by decide +kernel
theorem dX8_power_5 : decode cX8_power 5 = .ok (.iload 5, 2) := by decide +kernel
theorem dX8_power_7 : decode cX8_power 7 = .ok (.iload_n 2, 1) := by decide +kernel
theorem dX8_power_8 : decode cX8_power 8 = .ok (.if_icmp .ge 13, 3) := by decide +kernel
theorem dX8_power_11 : decode cX8_power 11 = .ok (.lload_n 3, 1) := by decide +kernel
theorem dX8_power_12 : decode cX8_power 12 = .ok (.lload_n 0, 1) := by decide +kernel
theorem dX8_power_13 : decode cX8_power 13 = .ok (.lmul, 1) := by decide +kernel
theorem dX8_power_14 : decode cX8_power 14 = .ok (.lstore_n 3, 1) := by decide +kernel
theorem dX8_power_15 : decode cX8_power 15 = .ok (.iinc 5 1, 3) := by decide +kernel
theorem dX8_power_18 : decode cX8_power 18 = .ok (.goto (-13), 3) := by decide +kernel
theorem dX8_power_21 : decode cX8_power 21 = .ok (.lload_n 3, 1) := by decide +kernel
theorem dX8_power_22 : decode cX8_power 22 = .ok (.lreturn, 1) := by decide +kernel
set_option maxRecDepth 20000 in
theorem ggX8_worthOfRow_X8_power : GoodIn wsX8_worthOfRow wsX8_power := goodIn_r _ [9] (by decide +kernel) (by decide +kernel)
set_option maxRecDepth 20000 in
theorem gX8_worthOfRow_X8_power : GoodIn wsX8_worthOfRow (va_wsS RX8 130 yX8_power wsX8_power) := goodIn_app (goodIn_of _ (by decide +kernel)) ggX8_worthOfRow_X8_power
set_option maxRecDepth 20000 in
theorem ggX8_worthOfRow_X8_lowest : GoodIn wsX8_worthOfRow wsX8_lowest := goodIn_r _ [13, 14, 15, 16, 17, 18, 19, 20, 21, 22, 23, 24, 25, 26, 27, 28, 29, 30, 31, 32, 33, 34, 35, 36] (by decide +kernel) (by decide +kernel)
set_option maxRecDepth 20000 in
theorem gX8_worthOfRow_X8_lowest : GoodIn wsX8_worthOfRow (wsV RX8 134 RX8 yX8_lowest wsX8_lowest) := goodIn_app (goodIn_of _ (by decide +kernel)) ggX8_worthOfRow_X8_lowest
theorem dX8_worthOfRow_0 : decode cX8_worthOfRow 0 = .ok (.lconst 0, 1) := by decide +kernel
theorem dX8_worthOfRow_1 : decode cX8_worthOfRow 1 = .ok (.lstore_n 1, 1) := by decide +kernel
theorem dX8_worthOfRow_2 : decode cX8_worthOfRow 2 = .ok (.iconst 0, 1) := by decide +kernel
theorem dX8_worthOfRow_3 : decode cX8_worthOfRow 3 = .ok (.istore_n 3, 1) := by decide +kernel
theorem dX8_worthOfRow_4 : decode cX8_worthOfRow 4 = .ok (.iload_n 3, 1) := by decide +kernel
theorem dX8_worthOfRow_5 : decode cX8_worthOfRow 5 = .ok (.aload_n 0, 1) := by decide +kernel
theorem dX8_worthOfRow_6 : decode cX8_worthOfRow 6 = .ok (.getfield 101, 3) := by decide +kernel
theorem dX8_worthOfRow_9 : decode cX8_worthOfRow 9 = .ok (.if_icmp .ge 44, 3) := by decide +kernel
theorem dX8_worthOfRow_12 : decode cX8_worthOfRow 12 = .ok (.lload_n 1, 1) := by decide +kernel
theorem dX8_worthOfRow_13 : decode cX8_worthOfRow 13 = .ok (.aload_n 0, 1) := by decide +kernel
theorem dX8_worthOfRow_14 : decode cX8_worthOfRow 14 = .ok (.getfield 38, 3) := by decide +kernel
theorem dX8_worthOfRow_17 : decode cX8_worthOfRow 17 = .ok (.iload_n 3, 1) := by decide +kernel
theorem dX8_worthOfRow_18 : decode cX8_worthOfRow 18 = .ok (.iaload, 1) := by decide +kernel
theorem dX8_worthOfRow_19 : decode cX8_worthOfRow 19 = .ok (.i2l, 1) := by decide +kernel
theorem dX8_worthOfRow_20 : decode cX8_worthOfRow 20 = .ok (.aload_n 0, 1) := by decide +kernel
theorem dX8_worthOfRow_21 : decode cX8_worthOfRow 21 = .ok (.getfield 13, 3) := by decide +kernel
theorem dX8_worthOfRow_24 : decode cX8_worthOfRow 24 = .ok (.i2l, 1) := by decide +kernel
theorem dX8_worthOfRow_25 : decode cX8_worthOfRow 25 = .ok (.iload_n 3, 1) := by decide +kernel
theorem dX8_worthOfRow_26 : decode cX8_worthOfRow 26 = .ok (.invokestatic 130, 3) := by decide +kernel
theorem dX8_worthOfRow_29 : decode cX8_worthOfRow 29 = .ok (.lmul, 1) := by decide +kernel
theorem dX8_worthOfRow_30 : decode cX8_worthOfRow 30 = .ok (.aload_n 0, 1) := by decide +kernel
theorem dX8_worthOfRow_31 : decode cX8_worthOfRow 31 = .ok (.getfield 17, 3) := by decide +kernel
theorem dX8_worthOfRow_34 : decode cX8_worthOfRow 34 = .ok (.i2l, 1) := by decide +kernel
theorem dX8_worthOfRow_35 : decode cX8_worthOfRow 35 = .ok (.aload_n 0, 1) := by decide +kernel
theorem dX8_worthOfRow_36 : decode cX8_worthOfRow 36 = .ok (.getfield 101, 3) := by decide +kernel
theorem dX8_worthOfRow_39 : decode cX8_worthOfRow 39 = .ok (.iload_n 3, 1) := by decide +kernel
theorem dX8_worthOfRow_40 : decode cX8_worthOfRow 40 = .ok (.isub, 1) := by decide +kernel
theorem dX8_worthOfRow_41 : decode cX8_worthOfRow 41 = .ok (.invokestatic 130, 3) := by decide +kernel
theorem dX8_worthOfRow_44 : decode cX8_worthOfRow 44 = .ok (.lmul, 1) := by decide +kernel
theorem dX8_worthOfRow_45 : decode cX8_worthOfRow 45 = .ok (.ladd, 1) := by decide +kernel
theorem dX8_worthOfRow_46 : decode cX8_worthOfRow 46 = .ok (.lstore_n 1, 1) := by decide +kernel
theorem dX8_worthOfRow_47 : decode cX8_worthOfRow 47 = .ok (.iinc 3 1, 3) := by decide +kernel
theorem dX8_worthOfRow_50 : decode cX8_worthOfRow 50 = .ok (.goto (-46), 3) := by decide +kernel
theorem dX8_worthOfRow_53 : decode cX8_worthOfRow 53 = .ok (.lconst 0, 1) := by decide +kernel
theorem dX8_worthOfRow_54 : decode cX8_worthOfRow 54 = .ok (.lstore_n 3, 1) := by decide +kernel
theorem dX8_worthOfRow_55 : decode cX8_worthOfRow 55 = .ok (.iconst 0, 1) := by decide +kernel
theorem dX8_worthOfRow_56 : decode cX8_worthOfRow 56 = .ok (.istore 5, 2) := by decide +kernel
theorem dX8_worthOfRow_58 : decode cX8_worthOfRow 58 = .ok (.iload 5, 2) := by decide +kernel
theorem dX8_worthOfRow_60 : decode cX8_worthOfRow 60 = .ok (.aload_n 0, 1) := by decide +kernel
theorem dX8_worthOfRow_61 : decode cX8_worthOfRow 61 = .ok (.getfield 104, 3) := by decide +kernel
theorem dX8_worthOfRow_64 : decode cX8_worthOfRow 64 = .ok (.if_icmp .ge 52, 3) := by decide +kernel
theorem dX8_worthOfRow_67 : decode cX8_worthOfRow 67 = .ok (.lload_n 3, 1) := by decide +kernel
theorem dX8_worthOfRow_68 : decode cX8_worthOfRow 68 = .ok (.aload_n 0, 1) := by decide +kernel
theorem dX8_worthOfRow_69 : decode cX8_worthOfRow 69 = .ok (.getfield 38, 3) := by decide +kernel
theorem dX8_worthOfRow_72 : decode cX8_worthOfRow 72 = .ok (.aload_n 0, 1) := by decide +kernel
theorem dX8_worthOfRow_73 : decode cX8_worthOfRow 73 = .ok (.getfield 101, 3) := by decide +kernel
theorem dX8_worthOfRow_76 : decode cX8_worthOfRow 76 = .ok (.iload 5, 2) := by decide +kernel
theorem dX8_worthOfRow_78 : decode cX8_worthOfRow 78 = .ok (.iadd, 1) := by decide +kernel
theorem dX8_worthOfRow_79 : decode cX8_worthOfRow 79 = .ok (.iaload, 1) := by decide +kernel
theorem dX8_worthOfRow_80 : decode cX8_worthOfRow 80 = .ok (.i2l, 1) := by decide +kernel
theorem dX8_worthOfRow_81 : decode cX8_worthOfRow 81 = .ok (.aload_n 0, 1) := by decide +kernel
theorem dX8_worthOfRow_82 : decode cX8_worthOfRow 82 = .ok (.getfield 13, 3) := by decide +kernel
theorem dX8_worthOfRow_85 : decode cX8_worthOfRow 85 = .ok (.i2l, 1) := by decide +kernel
theorem dX8_worthOfRow_86 : decode cX8_worthOfRow 86 = .ok (.iload 5, 2) := by decide +kernel
theorem dX8_worthOfRow_88 : decode cX8_worthOfRow 88 = .ok (.invokestatic 130, 3) := by decide +kernel
theorem dX8_worthOfRow_91 : decode cX8_worthOfRow 91 = .ok (.lmul, 1) := by decide +kernel
theorem dX8_worthOfRow_92 : decode cX8_worthOfRow 92 = .ok (.aload_n 0, 1) := by decide +kernel
theorem dX8_worthOfRow_93 : decode cX8_worthOfRow 93 = .ok (.getfield 17, 3) := by decide +kernel
theorem dX8_worthOfRow_96 : decode cX8_worthOfRow 96 = .ok (.i2l, 1) := by decide +kernel
theorem dX8_worthOfRow_97 : decode cX8_worthOfRow 97 = .ok (.aload_n 0, 1) := by decide +kernel
theorem dX8_worthOfRow_98 : decode cX8_worthOfRow 98 = .ok (.getfield 104, 3) := by decide +kernel
theorem dX8_worthOfRow_101 : decode cX8_worthOfRow 101 = .ok (.iload 5, 2) := by decide +kernel
theorem dX8_worthOfRow_103 : decode cX8_worthOfRow 103 = .ok (.isub, 1) := by decide +kernel
theorem dX8_worthOfRow_104 : decode cX8_worthOfRow 104 = .ok (.invokestatic 130, 3) := by decide +kernel
theorem dX8_worthOfRow_107 : decode cX8_worthOfRow 107 = .ok (.lmul, 1) := by decide +kernel
theorem dX8_worthOfRow_108 : decode cX8_worthOfRow 108 = .ok (.ladd, 1) := by decide +kernel
theorem dX8_worthOfRow_109 : decode cX8_worthOfRow 109 = .ok (.lstore_n 3, 1) := by decide +kernel
theorem dX8_worthOfRow_110 : decode cX8_worthOfRow 110 = .ok (.iinc 5 1, 3) := by decide +kernel
theorem dX8_worthOfRow_113 : decode cX8_worthOfRow 113 = .ok (.goto (-55), 3) := by decide +kernel
theorem dX8_worthOfRow_116 : decode cX8_worthOfRow 116 = .ok (.aload_n 0, 1) := by decide +kernel
theorem dX8_worthOfRow_117 : decode cX8_worthOfRow 117 = .ok (.getfield 17, 3) := by decide +kernel
theorem dX8_worthOfRow_120 : decode cX8_worthOfRow 120 = .ok (.i2l, 1) := by decide +kernel
theorem dX8_worthOfRow_121 : decode cX8_worthOfRow 121 = .ok (.aload_n 0, 1) := by decide +kernel
theorem dX8_worthOfRow_122 : decode cX8_worthOfRow 122 = .ok (.getfield 104, 3) := by decide +kernel
theorem dX8_worthOfRow_125 : decode cX8_worthOfRow 125 = .ok (.invokestatic 130, 3) := by decide +kernel
theorem dX8_worthOfRow_128 : decode cX8_worthOfRow 128 = .ok (.aload_n 0, 1) := by decide +kernel
theorem dX8_worthOfRow_129 : decode cX8_worthOfRow 129 = .ok (.getfield 13, 3) := by decide +kernel
theorem dX8_worthOfRow_132 : decode cX8_worthOfRow 132 = .ok (.i2l, 1) := by decide +kernel
theorem dX8_worthOfRow_133 : decode cX8_worthOfRow 133 = .ok (.aload_n 0, 1) := by decide +kernel
theorem dX8_worthOfRow_134 : decode cX8_worthOfRow 134 = .ok (.getfield 104, 3) := by decide +kernel
theorem dX8_worthOfRow_137 : decode cX8_worthOfRow 137 = .ok (.invokestatic 130, 3) := by decide +kernel
theorem dX8_worthOfRow_140 : decode cX8_worthOfRow 140 = .ok (.lsub, 1) := by decide +kernel
theorem dX8_worthOfRow_141 : decode cX8_worthOfRow 141 = .ok (.lstore 5, 2) := by decide +kernel
theorem dX8_worthOfRow_143 : decode cX8_worthOfRow 143 = .ok (.aload_n 0, 1) := by decide +kernel
theorem dX8_worthOfRow_144 : decode cX8_worthOfRow 144 = .ok (.lload_n 1, 1) := by decide +kernel
theorem dX8_worthOfRow_145 : decode cX8_worthOfRow 145 = .ok (.lload 5, 2) := by decide +kernel
theorem dX8_worthOfRow_147 : decode cX8_worthOfRow 147 = .ok (.lmul, 1) := by decide +kernel
theorem dX8_worthOfRow_148 : decode cX8_worthOfRow 148 = .ok (.aload_n 0, 1) := by decide +kernel
theorem dX8_worthOfRow_149 : decode cX8_worthOfRow 149 = .ok (.getfield 13, 3) := by decide +kernel
theorem dX8_worthOfRow_152 : decode cX8_worthOfRow 152 = .ok (.i2l, 1) := by decide +kernel
theorem dX8_worthOfRow_153 : decode cX8_worthOfRow 153 = .ok (.aload_n 0, 1) := by decide +kernel
theorem dX8_worthOfRow_154 : decode cX8_worthOfRow 154 = .ok (.getfield 101, 3) := by decide +kernel
theorem dX8_worthOfRow_157 : decode cX8_worthOfRow 157 = .ok (.invokestatic 130, 3) := by decide +kernel
theorem dX8_worthOfRow_160 : decode cX8_worthOfRow 160 = .ok (.lload_n 3, 1) := by decide +kernel
theorem dX8_worthOfRow_161 : decode cX8_worthOfRow 161 = .ok (.lmul, 1) := by decide +kernel
theorem dX8_worthOfRow_162 : decode cX8_worthOfRow 162 = .ok (.ladd, 1) := by decide +kernel
theorem dX8_worthOfRow_163 : decode cX8_worthOfRow 163 = .ok (.aload_n 0, 1) := by decide +kernel
theorem dX8_worthOfRow_164 : decode cX8_worthOfRow 164 = .ok (.getfield 17, 3) := by decide +kernel
theorem dX8_worthOfRow_167 : decode cX8_worthOfRow 167 = .ok (.i2l, 1) := by decide +kernel
theorem dX8_worthOfRow_168 : decode cX8_worthOfRow 168 = .ok (.aload_n 0, 1) := by decide +kernel
theorem dX8_worthOfRow_169 : decode cX8_worthOfRow 169 = .ok (.getfield 101, 3) := by decide +kernel
theorem dX8_worthOfRow_172 : decode cX8_worthOfRow 172 = .ok (.invokestatic 130, 3) := by decide +kernel
theorem dX8_worthOfRow_175 : decode cX8_worthOfRow 175 = .ok (.lload 5, 2) := by decide +kernel
theorem dX8_worthOfRow_177 : decode cX8_worthOfRow 177 = .ok (.lmul, 1) := by decide +kernel
theorem dX8_worthOfRow_178 : decode cX8_worthOfRow 178 = .ok (.invokevirtual 134, 3) := by decide +kernel
theorem dX8_worthOfRow_181 : decode cX8_worthOfRow 181 = .ok (.return_, 1) := by decide +kernel
theorem dX8_part_0 : decode cX8_part 0 = .ok (.iload_n 1, 1) := by decide +kernel
theorem dX8_part_1 : decode cX8_part 1 = .ok (.ifCond .ne 10, 3) := by decide +kernel
theorem dX8_part_4 : decode cX8_part 4 = .ok (.aload_n 0, 1) := by decide +kernel
theorem dX8_part_5 : decode cX8_part 5 = .ok (.getfield 123, 3) := by decide +kernel
theorem dX8_part_8 : decode cX8_part 8 = .ok (.goto 7, 3) := by decide +kernel
theorem dX8_part_11 : decode cX8_part 11 = .ok (.aload_n 0, 1) := by decide +kernel
theorem dX8_part_12 : decode cX8_part 12 = .ok (.getfield 127, 3) := by decide +kernel
theorem dX8_part_15 : decode cX8_part 15 = .ok (.lreturn, 1) := by decide +kernel
set_option maxRecDepth 20000 in
theorem ggX8_mean_X8_areBoth : GoodIn wsX8_mean wsX8_areBoth := goodIn_r _ [8, 9, 10, 11, 7, 12, 13, 14, 15, 16, 60, 61, 62, 63, 64, 65, 66, 67, 68, 69, 70, 71, 72, 73, 74, 75, 76, 77, 78, 79, 80] (by decide +kernel) (by decide +kernel)
set_option maxRecDepth 20000 in
theorem gX8_mean_X8_areBoth : GoodIn wsX8_mean (wsV RX8 107 RX8 yX8_areBoth wsX8_areBoth) := goodIn_app (goodIn_of _ (by decide +kernel)) ggX8_mean_X8_areBoth
set_option maxRecDepth 20000 in
theorem ggX8_mean_X8_in : GoodIn wsX8_mean wsX8_in := goodIn_r _ [16] (by decide +kernel) (by decide +kernel)
set_option maxRecDepth 20000 in
theorem gX8_mean_X8_in : GoodIn wsX8_mean (va_wsS RX8 53 yX8_in wsX8_in) := goodIn_app (goodIn_of _ (by decide +kernel)) ggX8_mean_X8_in
set_option maxRecDepth 20000 in
theorem ggX8_mean_X8_plays : GoodIn wsX8_mean wsX8_plays := goodIn_r _ [20, 21, 22, 2, 3, 23, 24, 25, 7, 26, 27, 28, 29, 30, 31, 32, 33, 34, 35, 36, 37, 38, 39, 40, 41, 42, 43, 44, 45, 60, 61, 62, 63, 64, 65, 66, 67, 68, 69, 70, 71, 72, 73, 74, 75, 76, 77, 78, 79, 80] (by decide +kernel) (by decide +kernel)
set_option maxRecDepth 20000 in
theorem gX8_mean_X8_plays : GoodIn wsX8_mean (wsV RX8 113 RX8 yX8_plays wsX8_plays) := goodIn_app (goodIn_of _ (by decide +kernel)) ggX8_mean_X8_plays
set_option maxRecDepth 20000 in
theorem ggX8_mean_X8_sumOf : GoodIn wsX8_mean wsX8_sumOf := goodIn_r _ [49, 22, 60, 61, 62, 63, 64, 65, 66, 67, 68, 69, 70, 71, 72, 73, 74, 75, 76, 77, 78, 79, 80] (by decide +kernel) (by decide +kernel)
set_option maxRecDepth 20000 in
theorem gX8_mean_X8_sumOf : GoodIn wsX8_mean (wsV RX8 117 RX8 yX8_sumOf wsX8_sumOf) := goodIn_app (goodIn_of _ (by decide +kernel)) ggX8_mean_X8_sumOf
set_option maxRecDepth 20000 in
theorem ggX8_mean_X8_lowest : GoodIn wsX8_mean wsX8_lowest := goodIn_r _ [53, 54, 55, 60, 61, 62, 63, 64, 65, 66, 67, 68, 69, 70, 71, 72, 73, 74, 75, 76, 77, 78, 79, 80] (by decide +kernel) (by decide +kernel)
set_option maxRecDepth 20000 in
theorem gX8_mean_X8_lowest : GoodIn wsX8_mean (wsV RX8 134 RX8 yX8_lowest wsX8_lowest) := goodIn_app (goodIn_of _ (by decide +kernel)) ggX8_mean_X8_lowest
set_option maxRecDepth 20000 in
theorem ggX8_mean_X8_part : GoodIn wsX8_mean wsX8_part := goodIn_r _ [59, 54, 55, 60, 61, 62, 63, 64, 65, 66, 67, 68, 69, 70, 71, 72, 73, 74, 75, 76, 77, 78, 79, 80] (by decide +kernel) (by decide +kernel)
set_option maxRecDepth 20000 in
theorem gX8_mean_X8_part : GoodIn wsX8_mean (wsV RX8 140 RX8 yX8_part wsX8_part) := goodIn_app (goodIn_of _ (by decide +kernel)) ggX8_mean_X8_part
theorem dX8_mean_0 : decode cX8_mean 0 = .ok (.aload_n 0, 1) := by decide +kernel
theorem dX8_mean_1 : decode cX8_mean 1 = .ok (.iload_n 1, 1) := by decide +kernel
theorem dX8_mean_2 : decode cX8_mean 2 = .ok (.iload_n 2, 1) := by decide +kernel
theorem dX8_mean_3 : decode cX8_mean 3 = .ok (.invokevirtual 107, 3) := by decide +kernel
theorem dX8_mean_6 : decode cX8_mean 6 = .ok (.ifCond .eq 13, 3) := by decide +kernel
theorem dX8_mean_9 : decode cX8_mean 9 = .ok (.iload_n 3, 1) := by decide +kernel
theorem dX8_mean_10 : decode cX8_mean 10 = .ok (.i2l, 1) := by decide +kernel
theorem dX8_mean_11 : decode cX8_mean 11 = .ok (.lconst 0, 1) := by decide +kernel
theorem dX8_mean_12 : decode cX8_mean 12 = .ok (.lconst 1, 1) := by decide +kernel
theorem dX8_mean_13 : decode cX8_mean 13 = .ok (.invokestatic 53, 3) := by decide +kernel
theorem dX8_mean_16 : decode cX8_mean 16 = .ok (.ifCond .ne 7, 3) := by decide +kernel
theorem dX8_mean_19 : decode cX8_mean 19 = .ok (.ldc2_w 138, 3) := by decide +kernel
theorem dX8_mean_22 : decode cX8_mean 22 = .ok (.lreturn, 1) := by decide +kernel
theorem dX8_mean_23 : decode cX8_mean 23 = .ok (.aload_n 0, 1) := by decide +kernel
theorem dX8_mean_24 : decode cX8_mean 24 = .ok (.iload_n 1, 1) := by decide +kernel
theorem dX8_mean_25 : decode cX8_mean 25 = .ok (.iload_n 2, 1) := by decide +kernel
theorem dX8_mean_26 : decode cX8_mean 26 = .ok (.iconst 0, 1) := by decide +kernel
theorem dX8_mean_27 : decode cX8_mean 27 = .ok (.invokevirtual 113, 3) := by decide +kernel
theorem dX8_mean_30 : decode cX8_mean 30 = .ok (.aload_n 0, 1) := by decide +kernel
theorem dX8_mean_31 : decode cX8_mean 31 = .ok (.aload_n 0, 1) := by decide +kernel
theorem dX8_mean_32 : decode cX8_mean 32 = .ok (.aload_n 0, 1) := by decide +kernel
theorem dX8_mean_33 : decode cX8_mean 33 = .ok (.getfield 101, 3) := by decide +kernel
theorem dX8_mean_36 : decode cX8_mean 36 = .ok (.aload_n 0, 1) := by decide +kernel
theorem dX8_mean_37 : decode cX8_mean 37 = .ok (.getfield 101, 3) := by decide +kernel
theorem dX8_mean_40 : decode cX8_mean 40 = .ok (.aload_n 0, 1) := by decide +kernel
theorem dX8_mean_41 : decode cX8_mean 41 = .ok (.getfield 104, 3) := by decide +kernel
theorem dX8_mean_44 : decode cX8_mean 44 = .ok (.iadd, 1) := by decide +kernel
theorem dX8_mean_45 : decode cX8_mean 45 = .ok (.invokevirtual 117, 3) := by decide +kernel
theorem dX8_mean_48 : decode cX8_mean 48 = .ok (.i2l, 1) := by decide +kernel
theorem dX8_mean_49 : decode cX8_mean 49 = .ok (.aload_n 0, 1) := by decide +kernel
theorem dX8_mean_50 : decode cX8_mean 50 = .ok (.getfield 104, 3) := by decide +kernel
theorem dX8_mean_53 : decode cX8_mean 53 = .ok (.i2l, 1) := by decide +kernel
theorem dX8_mean_54 : decode cX8_mean 54 = .ok (.invokevirtual 134, 3) := by decide +kernel
theorem dX8_mean_57 : decode cX8_mean 57 = .ok (.aload_n 0, 1) := by decide +kernel
theorem dX8_mean_58 : decode cX8_mean 58 = .ok (.iload_n 3, 1) := by decide +kernel
theorem dX8_mean_59 : decode cX8_mean 59 = .ok (.invokevirtual 140, 3) := by decide +kernel
theorem dX8_mean_62 : decode cX8_mean 62 = .ok (.lreturn, 1) := by decide +kernel
set_option maxRecDepth 20000 in
theorem ggX8_findWorth_X8_plays : GoodIn wsX8_findWorth wsX8_plays := goodIn_r _ [5, 6, 7, 8, 9, 10, 11, 12, 4, 13, 14, 15, 16, 17, 18, 19, 20, 21, 22, 23, 24, 25, 26, 27, 28, 29, 30, 31, 32, 48, 49, 50, 51, 52, 53, 54, 55, 56, 57, 58, 59, 60, 61, 62, 63, 64, 65, 66, 67, 68] (by decide +kernel) (by decide +kernel)
set_option maxRecDepth 20000 in
theorem gX8_findWorth_X8_plays : GoodIn wsX8_findWorth (wsV RX8 113 RX8 yX8_plays wsX8_plays) := goodIn_app (goodIn_of _ (by decide +kernel)) ggX8_findWorth_X8_plays
set_option maxRecDepth 20000 in
theorem ggX8_findWorth_X8_worthOfRow : GoodIn wsX8_findWorth wsX8_worthOfRow := goodIn_r _ [36, 8, 7, 37, 38, 9, 39, 40, 4, 41, 42, 43, 44, 45, 46, 47, 48, 49, 50, 51, 52, 53, 54, 55, 56, 57, 58, 59, 60, 61, 62, 63, 64, 65, 66, 67, 68] (by decide +kernel) (by decide +kernel)
set_option maxRecDepth 20000 in
theorem gX8_findWorth_X8_worthOfRow : GoodIn wsX8_findWorth (wsV RX8 144 RX8 yX8_worthOfRow wsX8_worthOfRow) := goodIn_app (goodIn_of _ (by decide +kernel)) ggX8_findWorth_X8_worthOfRow
theorem dX8_findWorth_0 : decode cX8_findWorth 0 = .ok (.aload_n 0, 1) := by decide +kernel
theorem dX8_findWorth_1 : decode cX8_findWorth 1 = .ok (.iload_n 1, 1) := by decide +kernel
theorem dX8_findWorth_2 : decode cX8_findWorth 2 = .ok (.iload_n 2, 1) := by decide +kernel
theorem dX8_findWorth_3 : decode cX8_findWorth 3 = .ok (.iload_n 3, 1) := by decide +kernel
theorem dX8_findWorth_4 : decode cX8_findWorth 4 = .ok (.invokevirtual 113, 3) := by decide +kernel
theorem dX8_findWorth_7 : decode cX8_findWorth 7 = .ok (.aload_n 0, 1) := by decide +kernel
theorem dX8_findWorth_8 : decode cX8_findWorth 8 = .ok (.invokevirtual 144, 3) := by decide +kernel
theorem dX8_findWorth_11 : decode cX8_findWorth 11 = .ok (.return_, 1) := by decide +kernel
set_option maxRecDepth 20000 in
theorem ggX8_worth_X8_areBoth : GoodIn wsX8_worth wsX8_areBoth := goodIn_r _ [6, 7, 8, 9, 5, 10, 11, 12, 13, 14, 69, 70, 71, 72, 73, 74, 75, 76, 77, 78, 79, 80, 81, 82, 83, 84, 85, 86, 87, 88, 89] (by decide +kernel) (by decide +kernel)
set_option maxRecDepth 20000 in
theorem gX8_worth_X8_areBoth : GoodIn wsX8_worth (wsV RX8 107 RX8 yX8_areBoth wsX8_areBoth) := goodIn_app (goodIn_of _ (by decide +kernel)) ggX8_worth_X8_areBoth
set_option maxRecDepth 20000 in
theorem ggX8_worth_X8_in : GoodIn wsX8_worth wsX8_in := goodIn_r _ [14] (by decide +kernel) (by decide +kernel)
set_option maxRecDepth 20000 in
theorem gX8_worth_X8_in : GoodIn wsX8_worth (va_wsS RX8 53 yX8_in wsX8_in) := goodIn_app (goodIn_of _ (by decide +kernel)) ggX8_worth_X8_in
set_option maxRecDepth 20000 in
theorem ggX8_worth_X8_findWorth : GoodIn wsX8_worth wsX8_findWorth := goodIn_r _ [18, 19, 20, 21, 5, 22, 23, 24, 25, 26, 27, 28, 29, 30, 31, 32, 33, 34, 35, 36, 37, 38, 39, 40, 41, 42, 43, 44, 45, 46, 47, 48, 49, 50, 51, 52, 53, 54, 55, 56, 57, 58, 59, 60, 61, 62, 63, 64, 69, 70, 71, 72, 73, 74, 75, 76, 77, 78, 79, 80, 81, 82, 83, 84, 85, 86, 87, 88, 89] (by decide +kernel) (by decide +kernel)
set_option maxRecDepth 20000 in
theorem gX8_worth_X8_findWorth : GoodIn wsX8_worth (wsV RX8 147 RX8 yX8_findWorth wsX8_findWorth) := goodIn_app (goodIn_of _ (by decide +kernel)) ggX8_worth_X8_findWorth
set_option maxRecDepth 20000 in
theorem ggX8_worth_X8_part : GoodIn wsX8_worth wsX8_part := goodIn_r _ [68, 63, 64, 69, 70, 71, 72, 73, 74, 75, 76, 77, 78, 79, 80, 81, 82, 83, 84, 85, 86, 87, 88, 89] (by decide +kernel) (by decide +kernel)
set_option maxRecDepth 20000 in
theorem gX8_worth_X8_part : GoodIn wsX8_worth (wsV RX8 140 RX8 yX8_part wsX8_part) := goodIn_app (goodIn_of _ (by decide +kernel)) ggX8_worth_X8_part
theorem dX8_worth_0 : decode cX8_worth 0 = .ok (.aload_n 0, 1) := by decide +kernel
theorem dX8_worth_1 : decode cX8_worth 1 = .ok (.iload_n 1, 1) := by decide +kernel
theorem dX8_worth_2 : decode cX8_worth 2 = .ok (.iload_n 2, 1) := by decide +kernel
theorem dX8_worth_3 : decode cX8_worth 3 = .ok (.invokevirtual 107, 3) := by decide +kernel
theorem dX8_worth_6 : decode cX8_worth 6 = .ok (.ifCond .eq 13, 3) := by decide +kernel
theorem dX8_worth_9 : decode cX8_worth 9 = .ok (.iload_n 3, 1) := by decide +kernel
theorem dX8_worth_10 : decode cX8_worth 10 = .ok (.i2l, 1) := by decide +kernel
theorem dX8_worth_11 : decode cX8_worth 11 = .ok (.lconst 0, 1) := by decide +kernel
theorem dX8_worth_12 : decode cX8_worth 12 = .ok (.lconst 1, 1) := by decide +kernel
theorem dX8_worth_13 : decode cX8_worth 13 = .ok (.invokestatic 53, 3) := by decide +kernel
theorem dX8_worth_16 : decode cX8_worth 16 = .ok (.ifCond .ne 7, 3) := by decide +kernel
theorem dX8_worth_19 : decode cX8_worth 19 = .ok (.ldc2_w 138, 3) := by decide +kernel
theorem dX8_worth_22 : decode cX8_worth 22 = .ok (.lreturn, 1) := by decide +kernel
theorem dX8_worth_23 : decode cX8_worth 23 = .ok (.aload_n 0, 1) := by decide +kernel
theorem dX8_worth_24 : decode cX8_worth 24 = .ok (.iload_n 1, 1) := by decide +kernel
theorem dX8_worth_25 : decode cX8_worth 25 = .ok (.iload_n 2, 1) := by decide +kernel
theorem dX8_worth_26 : decode cX8_worth 26 = .ok (.iconst 0, 1) := by decide +kernel
theorem dX8_worth_27 : decode cX8_worth 27 = .ok (.invokevirtual 147, 3) := by decide +kernel
theorem dX8_worth_30 : decode cX8_worth 30 = .ok (.aload_n 0, 1) := by decide +kernel
theorem dX8_worth_31 : decode cX8_worth 31 = .ok (.iload_n 3, 1) := by decide +kernel
theorem dX8_worth_32 : decode cX8_worth 32 = .ok (.invokevirtual 140, 3) := by decide +kernel
theorem dX8_worth_35 : decode cX8_worth 35 = .ok (.lreturn, 1) := by decide +kernel
set_option maxRecDepth 20000 in
theorem ggX8_slip_X8_areBoth : GoodIn wsX8_slip wsX8_areBoth := goodIn_r _ [6, 7, 8, 9, 5, 10, 11, 12, 13, 14, 33, 34, 35, 36, 37, 38, 39, 40, 41, 42, 43, 44, 45, 46, 47, 48, 49, 50, 51, 52, 53] (by decide +kernel) (by decide +kernel)
set_option maxRecDepth 20000 in
theorem gX8_slip_X8_areBoth : GoodIn wsX8_slip (wsV RX8 107 RX8 yX8_areBoth wsX8_areBoth) := goodIn_app (goodIn_of _ (by decide +kernel)) ggX8_slip_X8_areBoth
set_option maxRecDepth 20000 in
theorem ggX8_slip_X8_in : GoodIn wsX8_slip wsX8_in := goodIn_r _ [14] (by decide +kernel) (by decide +kernel)
set_option maxRecDepth 20000 in
theorem gX8_slip_X8_in : GoodIn wsX8_slip (va_wsS RX8 53 yX8_in wsX8_in) := goodIn_app (goodIn_of _ (by decide +kernel)) ggX8_slip_X8_in
set_option maxRecDepth 20000 in
theorem ggX8_slip_X8_next : GoodIn wsX8_slip wsX8_next := goodIn_r _ [18, 19, 20, 21, 5, 22, 23, 24, 25, 26, 27, 28, 29, 30, 31, 32, 33, 34, 35, 36, 37, 38, 39, 40, 41, 42, 43, 44, 45, 46, 47, 48, 49, 50, 51, 52, 53] (by decide +kernel) (by decide +kernel)
set_option maxRecDepth 20000 in
theorem gX8_slip_X8_next : GoodIn wsX8_slip (wsV RX8 98 RX8 yX8_next wsX8_next) := goodIn_app (goodIn_of _ (by decide +kernel)) ggX8_slip_X8_next
set_option maxRecDepth 20000 in
theorem ggX8_slip_X8_mine : GoodIn wsX8_slip wsX8_mine := goodIn_r _ [22, 23, 33, 34, 35, 36, 37, 38, 39, 40, 41, 42, 43, 44, 45, 46, 47, 48, 49, 50, 51, 52, 53] (by decide +kernel) (by decide +kernel)
set_option maxRecDepth 20000 in
theorem gX8_slip_X8_mine : GoodIn wsX8_slip (wsV RX8 83 RX8 yX8_mine wsX8_mine) := goodIn_app (goodIn_of _ (by decide +kernel)) ggX8_slip_X8_mine
set_option maxRecDepth 20000 in
theorem ggX8_slip_X8_theirs : GoodIn wsX8_slip wsX8_theirs := goodIn_r _ [27, 23, 33, 34, 35, 36, 37, 38, 39, 40, 41, 42, 43, 44, 45, 46, 47, 48, 49, 50, 51, 52, 53] (by decide +kernel) (by decide +kernel)
set_option maxRecDepth 20000 in
theorem gX8_slip_X8_theirs : GoodIn wsX8_slip (wsV RX8 87 RX8 yX8_theirs wsX8_theirs) := goodIn_app (goodIn_of _ (by decide +kernel)) ggX8_slip_X8_theirs
set_option maxRecDepth 20000 in
theorem ggX8_slip_X8_after : GoodIn wsX8_slip wsX8_after := goodIn_r _ [31, 32, 33, 34, 35, 36, 37, 38, 39, 40, 41, 42, 43, 44, 45, 46, 47, 48, 49, 50, 51, 52, 53] (by decide +kernel) (by decide +kernel)
set_option maxRecDepth 20000 in
theorem gX8_slip_X8_after : GoodIn wsX8_slip (wsV RX8 90 RX8 yX8_after wsX8_after) := goodIn_app (goodIn_of _ (by decide +kernel)) ggX8_slip_X8_after
theorem dX8_slip_0 : decode cX8_slip 0 = .ok (.aload_n 0, 1) := by decide +kernel
theorem dX8_slip_1 : decode cX8_slip 1 = .ok (.iload_n 1, 1) := by decide +kernel
theorem dX8_slip_2 : decode cX8_slip 2 = .ok (.iload_n 2, 1) := by decide +kernel
theorem dX8_slip_3 : decode cX8_slip 3 = .ok (.invokevirtual 107, 3) := by decide +kernel
theorem dX8_slip_6 : decode cX8_slip 6 = .ok (.ifCond .eq 15, 3) := by decide +kernel
theorem dX8_slip_9 : decode cX8_slip 9 = .ok (.iload_n 3, 1) := by decide +kernel
theorem dX8_slip_10 : decode cX8_slip 10 = .ok (.i2l, 1) := by decide +kernel
theorem dX8_slip_11 : decode cX8_slip 11 = .ok (.lconst 0, 1) := by decide +kernel
theorem dX8_slip_12 : decode cX8_slip 12 = .ok (.ldc2_w 150, 3) := by decide +kernel
theorem dX8_slip_15 : decode cX8_slip 15 = .ok (.invokestatic 53, 3) := by decide +kernel
theorem dX8_slip_18 : decode cX8_slip 18 = .ok (.ifCond .ne 5, 3) := by decide +kernel
theorem dX8_slip_21 : decode cX8_slip 21 = .ok (.iconst (-1), 1) := by decide +kernel
theorem dX8_slip_22 : decode cX8_slip 22 = .ok (.ireturn, 1) := by decide +kernel
theorem dX8_slip_23 : decode cX8_slip 23 = .ok (.iconst 0, 1) := by decide +kernel
theorem dX8_slip_24 : decode cX8_slip 24 = .ok (.istore 4, 2) := by decide +kernel
theorem dX8_slip_26 : decode cX8_slip 26 = .ok (.iconst 0, 1) := by decide +kernel
theorem dX8_slip_27 : decode cX8_slip 27 = .ok (.istore 5, 2) := by decide +kernel
theorem dX8_slip_29 : decode cX8_slip 29 = .ok (.iload 5, 2) := by decide +kernel
theorem dX8_slip_31 : decode cX8_slip 31 = .ok (.iload_n 3, 1) := by decide +kernel
theorem dX8_slip_32 : decode cX8_slip 32 = .ok (.if_icmp .ge 19, 3) := by decide +kernel
theorem dX8_slip_35 : decode cX8_slip 35 = .ok (.aload_n 0, 1) := by decide +kernel
theorem dX8_slip_36 : decode cX8_slip 36 = .ok (.iload_n 1, 1) := by decide +kernel
theorem dX8_slip_37 : decode cX8_slip 37 = .ok (.iload_n 2, 1) := by decide +kernel
theorem dX8_slip_38 : decode cX8_slip 38 = .ok (.iload 4, 2) := by decide +kernel
theorem dX8_slip_40 : decode cX8_slip 40 = .ok (.invokevirtual 98, 3) := by decide +kernel
theorem dX8_slip_43 : decode cX8_slip 43 = .ok (.istore 4, 2) := by decide +kernel
theorem dX8_slip_45 : decode cX8_slip 45 = .ok (.iinc 5 1, 3) := by decide +kernel
theorem dX8_slip_48 : decode cX8_slip 48 = .ok (.goto (-19), 3) := by decide +kernel
theorem dX8_slip_51 : decode cX8_slip 51 = .ok (.aload_n 0, 1) := by decide +kernel
theorem dX8_slip_52 : decode cX8_slip 52 = .ok (.iload_n 1, 1) := by decide +kernel
theorem dX8_slip_53 : decode cX8_slip 53 = .ok (.iload_n 2, 1) := by decide +kernel
theorem dX8_slip_54 : decode cX8_slip 54 = .ok (.iload 4, 2) := by decide +kernel
theorem dX8_slip_56 : decode cX8_slip 56 = .ok (.aload_n 0, 1) := by decide +kernel
theorem dX8_slip_57 : decode cX8_slip 57 = .ok (.iload_n 1, 1) := by decide +kernel
theorem dX8_slip_58 : decode cX8_slip 58 = .ok (.iload 4, 2) := by decide +kernel
theorem dX8_slip_60 : decode cX8_slip 60 = .ok (.invokevirtual 83, 3) := by decide +kernel
theorem dX8_slip_63 : decode cX8_slip 63 = .ok (.iconst 1, 1) := by decide +kernel
theorem dX8_slip_64 : decode cX8_slip 64 = .ok (.iadd, 1) := by decide +kernel
theorem dX8_slip_65 : decode cX8_slip 65 = .ok (.iconst 3, 1) := by decide +kernel
theorem dX8_slip_66 : decode cX8_slip 66 = .ok (.irem, 1) := by decide +kernel
theorem dX8_slip_67 : decode cX8_slip 67 = .ok (.aload_n 0, 1) := by decide +kernel
theorem dX8_slip_68 : decode cX8_slip 68 = .ok (.iload_n 2, 1) := by decide +kernel
theorem dX8_slip_69 : decode cX8_slip 69 = .ok (.iload 4, 2) := by decide +kernel
theorem dX8_slip_71 : decode cX8_slip 71 = .ok (.invokevirtual 87, 3) := by decide +kernel
theorem dX8_slip_74 : decode cX8_slip 74 = .ok (.invokevirtual 90, 3) := by decide +kernel
theorem dX8_slip_77 : decode cX8_slip 77 = .ok (.istore 5, 2) := by decide +kernel
theorem dX8_slip_79 : decode cX8_slip 79 = .ok (.aload_n 0, 1) := by decide +kernel
theorem dX8_slip_80 : decode cX8_slip 80 = .ok (.iload_n 1, 1) := by decide +kernel
theorem dX8_slip_81 : decode cX8_slip 81 = .ok (.iload_n 2, 1) := by decide +kernel
theorem dX8_slip_82 : decode cX8_slip 82 = .ok (.iload 4, 2) := by decide +kernel
theorem dX8_slip_84 : decode cX8_slip 84 = .ok (.invokevirtual 98, 3) := by decide +kernel
theorem dX8_slip_87 : decode cX8_slip 87 = .ok (.istore 4, 2) := by decide +kernel
theorem dX8_slip_89 : decode cX8_slip 89 = .ok (.iconst 0, 1) := by decide +kernel
theorem dX8_slip_90 : decode cX8_slip 90 = .ok (.istore 6, 2) := by decide +kernel
theorem dX8_slip_92 : decode cX8_slip 92 = .ok (.iload 6, 2) := by decide +kernel
theorem dX8_slip_94 : decode cX8_slip 94 = .ok (.sipush 300, 3) := by decide +kernel
theorem dX8_slip_97 : decode cX8_slip 97 = .ok (.if_icmp .ge 41, 3) := by decide +kernel
theorem dX8_slip_100 : decode cX8_slip 100 = .ok (.iload 4, 2) := by decide +kernel
theorem dX8_slip_102 : decode cX8_slip 102 = .ok (.iload 5, 2) := by decide +kernel
theorem dX8_slip_104 : decode cX8_slip 104 = .ok (.if_icmp .ne 8, 3) := by decide +kernel
theorem dX8_slip_107 : decode cX8_slip 107 = .ok (.iload 6, 2) := by decide +kernel
theorem dX8_slip_109 : decode cX8_slip 109 = .ok (.iconst 1, 1) := by decide +kernel
theorem dX8_slip_110 : decode cX8_slip 110 = .ok (.iadd, 1) := by decide +kernel
theorem dX8_slip_111 : decode cX8_slip 111 = .ok (.ireturn, 1) := by decide +kernel
theorem dX8_slip_112 : decode cX8_slip 112 = .ok (.aload_n 0, 1) := by decide +kernel
theorem dX8_slip_113 : decode cX8_slip 113 = .ok (.iload_n 1, 1) := by decide +kernel
theorem dX8_slip_114 : decode cX8_slip 114 = .ok (.iload_n 2, 1) := by decide +kernel
theorem dX8_slip_115 : decode cX8_slip 115 = .ok (.iload 4, 2) := by decide +kernel
theorem dX8_slip_117 : decode cX8_slip 117 = .ok (.invokevirtual 98, 3) := by decide +kernel
theorem dX8_slip_120 : decode cX8_slip 120 = .ok (.istore 4, 2) := by decide +kernel
theorem dX8_slip_122 : decode cX8_slip 122 = .ok (.aload_n 0, 1) := by decide +kernel
theorem dX8_slip_123 : decode cX8_slip 123 = .ok (.iload_n 1, 1) := by decide +kernel
theorem dX8_slip_124 : decode cX8_slip 124 = .ok (.iload_n 2, 1) := by decide +kernel
theorem dX8_slip_125 : decode cX8_slip 125 = .ok (.iload 5, 2) := by decide +kernel
theorem dX8_slip_127 : decode cX8_slip 127 = .ok (.invokevirtual 98, 3) := by decide +kernel
theorem dX8_slip_130 : decode cX8_slip 130 = .ok (.istore 5, 2) := by decide +kernel
theorem dX8_slip_132 : decode cX8_slip 132 = .ok (.iinc 6 1, 3) := by decide +kernel
theorem dX8_slip_135 : decode cX8_slip 135 = .ok (.goto (-43), 3) := by decide +kernel
theorem dX8_slip_138 : decode cX8_slip 138 = .ok (.bipush (-4), 2) := by decide +kernel
theorem dX8_slip_140 : decode cX8_slip 140 = .ok (.ireturn, 1) := by decide +kernel
theorem dX8_findUnlike_0 : decode cX8_findUnlike 0 = .ok (.iconst 0, 1) := by decide +kernel
theorem dX8_findUnlike_1 : decode cX8_findUnlike 1 = .ok (.istore_n 3, 1) := by decide +kernel
theorem dX8_findUnlike_2 : decode cX8_findUnlike 2 = .ok (.iload_n 3, 1) := by decide +kernel
theorem dX8_findUnlike_3 : decode cX8_findUnlike 3 = .ok (.aload_n 0, 1) := by decide +kernel
theorem dX8_findUnlike_4 : decode cX8_findUnlike 4 = .ok (.getfield 20, 3) := by decide +kernel
theorem dX8_findUnlike_7 : decode cX8_findUnlike 7 = .ok (.iload_n 1, 1) := by decide +kernel
theorem dX8_findUnlike_8 : decode cX8_findUnlike 8 = .ok (.iaload, 1) := by decide +kernel
theorem dX8_findUnlike_9 : decode cX8_findUnlike 9 = .ok (.if_icmp .ge 69, 3) := by decide +kernel
theorem dX8_findUnlike_12 : decode cX8_findUnlike 12 = .ok (.iconst 0, 1) := by decide +kernel
theorem dX8_findUnlike_13 : decode cX8_findUnlike 13 = .ok (.istore 4, 2) := by decide +kernel
theorem dX8_findUnlike_15 : decode cX8_findUnlike 15 = .ok (.iload 4, 2) := by decide +kernel
theorem dX8_findUnlike_17 : decode cX8_findUnlike 17 = .ok (.aload_n 0, 1) := by decide +kernel
theorem dX8_findUnlike_18 : decode cX8_findUnlike 18 = .ok (.getfield 20, 3) := by decide +kernel
theorem dX8_findUnlike_21 : decode cX8_findUnlike 21 = .ok (.iload_n 2, 1) := by decide +kernel
theorem dX8_findUnlike_22 : decode cX8_findUnlike 22 = .ok (.iaload, 1) := by decide +kernel
theorem dX8_findUnlike_23 : decode cX8_findUnlike 23 = .ok (.if_icmp .ge 49, 3) := by decide +kernel
theorem dX8_findUnlike_26 : decode cX8_findUnlike 26 = .ok (.aload_n 0, 1) := by decide +kernel
theorem dX8_findUnlike_27 : decode cX8_findUnlike 27 = .ok (.getfield 44, 3) := by decide +kernel
theorem dX8_findUnlike_30 : decode cX8_findUnlike 30 = .ok (.iconst 4, 1) := by decide +kernel
theorem dX8_findUnlike_31 : decode cX8_findUnlike 31 = .ok (.iload_n 3, 1) := by decide +kernel
theorem dX8_findUnlike_32 : decode cX8_findUnlike 32 = .ok (.imul, 1) := by decide +kernel
theorem dX8_findUnlike_33 : decode cX8_findUnlike 33 = .ok (.iload 4, 2) := by decide +kernel
theorem dX8_findUnlike_35 : decode cX8_findUnlike 35 = .ok (.iadd, 1) := by decide +kernel
theorem dX8_findUnlike_36 : decode cX8_findUnlike 36 = .ok (.aload_n 0, 1) := by decide +kernel
theorem dX8_findUnlike_37 : decode cX8_findUnlike 37 = .ok (.getfield 23, 3) := by decide +kernel
theorem dX8_findUnlike_40 : decode cX8_findUnlike 40 = .ok (.iconst 4, 1) := by decide +kernel
theorem dX8_findUnlike_41 : decode cX8_findUnlike 41 = .ok (.iload_n 1, 1) := by decide +kernel
theorem dX8_findUnlike_42 : decode cX8_findUnlike 42 = .ok (.imul, 1) := by decide +kernel
theorem dX8_findUnlike_43 : decode cX8_findUnlike 43 = .ok (.iload_n 3, 1) := by decide +kernel
theorem dX8_findUnlike_44 : decode cX8_findUnlike 44 = .ok (.iadd, 1) := by decide +kernel
theorem dX8_findUnlike_45 : decode cX8_findUnlike 45 = .ok (.iaload, 1) := by decide +kernel
theorem dX8_findUnlike_46 : decode cX8_findUnlike 46 = .ok (.aload_n 0, 1) := by decide +kernel
theorem dX8_findUnlike_47 : decode cX8_findUnlike 47 = .ok (.getfield 23, 3) := by decide +kernel
theorem dX8_findUnlike_50 : decode cX8_findUnlike 50 = .ok (.iconst 4, 1) := by decide +kernel
theorem dX8_findUnlike_51 : decode cX8_findUnlike 51 = .ok (.iload_n 2, 1) := by decide +kernel
theorem dX8_findUnlike_52 : decode cX8_findUnlike 52 = .ok (.imul, 1) := by decide +kernel
theorem dX8_findUnlike_53 : decode cX8_findUnlike 53 = .ok (.iload 4, 2) := by decide +kernel
theorem dX8_findUnlike_55 : decode cX8_findUnlike 55 = .ok (.iadd, 1) := by decide +kernel
theorem dX8_findUnlike_56 : decode cX8_findUnlike 56 = .ok (.iaload, 1) := by decide +kernel
theorem dX8_findUnlike_57 : decode cX8_findUnlike 57 = .ok (.if_icmp .eq 7, 3) := by decide +kernel
theorem dX8_findUnlike_60 : decode cX8_findUnlike 60 = .ok (.iconst 1, 1) := by decide +kernel
theorem dX8_findUnlike_61 : decode cX8_findUnlike 61 = .ok (.goto 4, 3) := by decide +kernel
theorem dX8_findUnlike_64 : decode cX8_findUnlike 64 = .ok (.iconst 0, 1) := by decide +kernel
theorem dX8_findUnlike_65 : decode cX8_findUnlike 65 = .ok (.bastore, 1) := by decide +kernel
theorem dX8_findUnlike_66 : decode cX8_findUnlike 66 = .ok (.iinc 4 1, 3) := by decide +kernel
theorem dX8_findUnlike_69 : decode cX8_findUnlike 69 = .ok (.goto (-54), 3) := by decide +kernel
theorem dX8_findUnlike_72 : decode cX8_findUnlike 72 = .ok (.iinc 3 1, 3) := by decide +kernel
theorem dX8_findUnlike_75 : decode cX8_findUnlike 75 = .ok (.goto (-73), 3) := by decide +kernel
theorem dX8_findUnlike_78 : decode cX8_findUnlike 78 = .ok (.iconst 0, 1) := by decide +kernel
theorem dX8_findUnlike_79 : decode cX8_findUnlike 79 = .ok (.istore_n 3, 1) := by decide +kernel
theorem dX8_findUnlike_80 : decode cX8_findUnlike 80 = .ok (.iload_n 3, 1) := by decide +kernel
theorem dX8_findUnlike_81 : decode cX8_findUnlike 81 = .ok (.bipush 16, 2) := by decide +kernel
theorem dX8_findUnlike_83 : decode cX8_findUnlike 83 = .ok (.if_icmp .ge 141, 3) := by decide +kernel
theorem dX8_findUnlike_86 : decode cX8_findUnlike 86 = .ok (.iconst 0, 1) := by decide +kernel
theorem dX8_findUnlike_87 : decode cX8_findUnlike 87 = .ok (.istore 4, 2) := by decide +kernel
theorem dX8_findUnlike_89 : decode cX8_findUnlike 89 = .ok (.iload 4, 2) := by decide +kernel
theorem dX8_findUnlike_91 : decode cX8_findUnlike 91 = .ok (.aload_n 0, 1) := by decide +kernel
theorem dX8_findUnlike_92 : decode cX8_findUnlike 92 = .ok (.getfield 20, 3) := by decide +kernel
theorem dX8_findUnlike_95 : decode cX8_findUnlike 95 = .ok (.iload_n 1, 1) := by decide +kernel
theorem dX8_findUnlike_96 : decode cX8_findUnlike 96 = .ok (.iaload, 1) := by decide +kernel
theorem dX8_findUnlike_97 : decode cX8_findUnlike 97 = .ok (.if_icmp .ge 121, 3) := by decide +kernel
theorem dX8_findUnlike_100 : decode cX8_findUnlike 100 = .ok (.iconst 0, 1) := by decide +kernel
theorem dX8_findUnlike_101 : decode cX8_findUnlike 101 = .ok (.istore 5, 2) := by decide +kernel
theorem dX8_findUnlike_103 : decode cX8_findUnlike 103 = .ok (.iload 5, 2) := by decide +kernel
theorem dX8_findUnlike_105 : decode cX8_findUnlike 105 = .ok (.aload_n 0, 1) := by decide +kernel
theorem dX8_findUnlike_106 : decode cX8_findUnlike 106 = .ok (.getfield 20, 3) := by decide +kernel
theorem dX8_findUnlike_109 : decode cX8_findUnlike 109 = .ok (.iload_n 2, 1) := by decide +kernel
theorem dX8_findUnlike_110 : decode cX8_findUnlike 110 = .ok (.iaload, 1) := by decide +kernel
theorem dX8_findUnlike_111 : decode cX8_findUnlike 111 = .ok (.if_icmp .ge 101, 3) := by decide +kernel
theorem dX8_findUnlike_114 : decode cX8_findUnlike 114 = .ok (.iconst 0, 1) := by decide +kernel
theorem dX8_findUnlike_115 : decode cX8_findUnlike 115 = .ok (.istore 6, 2) := by decide +kernel
theorem dX8_findUnlike_117 : decode cX8_findUnlike 117 = .ok (.iload 6, 2) := by decide +kernel
theorem dX8_findUnlike_119 : decode cX8_findUnlike 119 = .ok (.iconst 3, 1) := by decide +kernel
theorem dX8_findUnlike_120 : decode cX8_findUnlike 120 = .ok (.if_icmp .ge 86, 3) := by decide +kernel
theorem dX8_findUnlike_123 : decode cX8_findUnlike 123 = .ok (.aload_n 0, 1) := by decide +kernel
theorem dX8_findUnlike_124 : decode cX8_findUnlike 124 = .ok (.getfield 44, 3) := by decide +kernel
theorem dX8_findUnlike_127 : decode cX8_findUnlike 127 = .ok (.iconst 4, 1) := by decide +kernel
theorem dX8_findUnlike_128 : decode cX8_findUnlike 128 = .ok (.iload 4, 2) := by decide +kernel
theorem dX8_findUnlike_130 : decode cX8_findUnlike 130 = .ok (.imul, 1) := by decide +kernel
theorem dX8_findUnlike_131 : decode cX8_findUnlike 131 = .ok (.iload 5, 2) := by decide +kernel
theorem dX8_findUnlike_133 : decode cX8_findUnlike 133 = .ok (.iadd, 1) := by decide +kernel
theorem dX8_findUnlike_134 : decode cX8_findUnlike 134 = .ok (.aload_n 0, 1) := by decide +kernel
theorem dX8_findUnlike_135 : decode cX8_findUnlike 135 = .ok (.getfield 44, 3) := by decide +kernel
theorem dX8_findUnlike_138 : decode cX8_findUnlike 138 = .ok (.iconst 4, 1) := by decide +kernel
theorem dX8_findUnlike_139 : decode cX8_findUnlike 139 = .ok (.iload 4, 2) := by decide +kernel
theorem dX8_findUnlike_141 : decode cX8_findUnlike 141 = .ok (.imul, 1) := by decide +kernel
theorem dX8_findUnlike_142 : decode cX8_findUnlike 142 = .ok (.iload 5, 2) := by decide +kernel
theorem dX8_findUnlike_144 : decode cX8_findUnlike 144 = .ok (.iadd, 1) := by decide +kernel
theorem dX8_findUnlike_145 : decode cX8_findUnlike 145 = .ok (.baload, 1) := by decide +kernel
theorem dX8_findUnlike_146 : decode cX8_findUnlike 146 = .ok (.ifCond .ne 48, 3) := by decide +kernel
theorem dX8_findUnlike_149 : decode cX8_findUnlike 149 = .ok (.aload_n 0, 1) := by decide +kernel
theorem dX8_findUnlike_150 : decode cX8_findUnlike 150 = .ok (.getfield 44, 3) := by decide +kernel
theorem dX8_findUnlike_153 : decode cX8_findUnlike 153 = .ok (.iconst 4, 1) := by decide +kernel
theorem dX8_findUnlike_154 : decode cX8_findUnlike 154 = .ok (.aload_n 0, 1) := by decide +kernel
theorem dX8_findUnlike_155 : decode cX8_findUnlike 155 = .ok (.getfield 26, 3) := by decide +kernel
theorem dX8_findUnlike_158 : decode cX8_findUnlike 158 = .ok (.bipush 12, 2) := by decide +kernel
theorem dX8_findUnlike_160 : decode cX8_findUnlike 160 = .ok (.iload_n 1, 1) := by decide +kernel
theorem dX8_findUnlike_161 : decode cX8_findUnlike 161 = .ok (.imul, 1) := by decide +kernel
theorem dX8_findUnlike_162 : decode cX8_findUnlike 162 = .ok (.iconst 3, 1) := by decide +kernel
theorem dX8_findUnlike_163 : decode cX8_findUnlike 163 = .ok (.iload 4, 2) := by decide +kernel
theorem dX8_findUnlike_165 : decode cX8_findUnlike 165 = .ok (.imul, 1) := by decide +kernel
theorem dX8_findUnlike_166 : decode cX8_findUnlike 166 = .ok (.iadd, 1) := by decide +kernel
theorem dX8_findUnlike_167 : decode cX8_findUnlike 167 = .ok (.iload 6, 2) := by decide +kernel
theorem dX8_findUnlike_169 : decode cX8_findUnlike 169 = .ok (.iadd, 1) := by decide +kernel
theorem dX8_findUnlike_170 : decode cX8_findUnlike 170 = .ok (.iaload, 1) := by decide +kernel
theorem dX8_findUnlike_171 : decode cX8_findUnlike 171 = .ok (.imul, 1) := by decide +kernel
theorem dX8_findUnlike_172 : decode cX8_findUnlike 172 = .ok (.aload_n 0, 1) := by decide +kernel
theorem dX8_findUnlike_173 : decode cX8_findUnlike 173 = .ok (.getfield 26, 3) := by decide +kernel
theorem dX8_findUnlike_176 : decode cX8_findUnlike 176 = .ok (.bipush 12, 2) := by decide +kernel
theorem dX8_findUnlike_178 : decode cX8_findUnlike 178 = .ok (.iload_n 2, 1) := by decide +kernel
theorem dX8_findUnlike_179 : decode cX8_findUnlike 179 = .ok (.imul, 1) := by decide +kernel
theorem dX8_findUnlike_180 : decode cX8_findUnlike 180 = .ok (.iconst 3, 1) := by decide +kernel
theorem dX8_findUnlike_181 : decode cX8_findUnlike 181 = .ok (.iload 5, 2) := by decide +kernel
theorem dX8_findUnlike_183 : decode cX8_findUnlike 183 = .ok (.imul, 1) := by decide +kernel
theorem dX8_findUnlike_184 : decode cX8_findUnlike 184 = .ok (.iadd, 1) := by decide +kernel
theorem dX8_findUnlike_185 : decode cX8_findUnlike 185 = .ok (.iload 6, 2) := by decide +kernel
theorem dX8_findUnlike_187 : decode cX8_findUnlike 187 = .ok (.iadd, 1) := by decide +kernel
theorem dX8_findUnlike_188 : decode cX8_findUnlike 188 = .ok (.iaload, 1) := by decide +kernel
theorem dX8_findUnlike_189 : decode cX8_findUnlike 189 = .ok (.iadd, 1) := by decide +kernel
theorem dX8_findUnlike_190 : decode cX8_findUnlike 190 = .ok (.baload, 1) := by decide +kernel
theorem dX8_findUnlike_191 : decode cX8_findUnlike 191 = .ok (.ifCond .eq 7, 3) := by decide +kernel
theorem dX8_findUnlike_194 : decode cX8_findUnlike 194 = .ok (.iconst 1, 1) := by decide +kernel
theorem dX8_findUnlike_195 : decode cX8_findUnlike 195 = .ok (.goto 4, 3) := by decide +kernel
theorem dX8_findUnlike_198 : decode cX8_findUnlike 198 = .ok (.iconst 0, 1) := by decide +kernel
theorem dX8_findUnlike_199 : decode cX8_findUnlike 199 = .ok (.bastore, 1) := by decide +kernel
theorem dX8_findUnlike_200 : decode cX8_findUnlike 200 = .ok (.iinc 6 1, 3) := by decide +kernel
theorem dX8_findUnlike_203 : decode cX8_findUnlike 203 = .ok (.goto (-86), 3) := by decide +kernel
theorem dX8_findUnlike_206 : decode cX8_findUnlike 206 = .ok (.iinc 5 1, 3) := by decide +kernel
theorem dX8_findUnlike_209 : decode cX8_findUnlike 209 = .ok (.goto (-106), 3) := by decide +kernel
theorem dX8_findUnlike_212 : decode cX8_findUnlike 212 = .ok (.iinc 4 1, 3) := by decide +kernel
theorem dX8_findUnlike_215 : decode cX8_findUnlike 215 = .ok (.goto (-126), 3) := by decide +kernel
theorem dX8_findUnlike_218 : decode cX8_findUnlike 218 = .ok (.iinc 3 1, 3) := by decide +kernel
theorem dX8_findUnlike_221 : decode cX8_findUnlike 221 = .ok (.goto (-141), 3) := by decide +kernel
theorem dX8_findUnlike_224 : decode cX8_findUnlike 224 = .ok (.return_, 1) := by decide +kernel
set_option maxRecDepth 20000 in
theorem ggX8_areLike_X8_findUnlike : GoodIn wsX8_areLike wsX8_findUnlike := goodIn_r _ [6, 7, 1, 8, 9, 10, 11, 12, 13, 14, 15, 16, 17, 18, 19, 20, 21, 22, 23, 24, 25, 26, 27, 28, 29, 30] (by decide +kernel) (by decide +kernel)
set_option maxRecDepth 20000 in
theorem gX8_areLike_X8_findUnlike : GoodIn wsX8_areLike (wsV RX8 152 RX8 yX8_findUnlike wsX8_findUnlike) := goodIn_app (goodIn_of _ (by decide +kernel)) ggX8_areLike_X8_findUnlike
theorem dX8_areLike_0 : decode cX8_areLike 0 = .ok (.aload_n 0, 1) := by decide +kernel
theorem dX8_areLike_1 : decode cX8_areLike 1 = .ok (.iload_n 1, 1) := by decide +kernel
theorem dX8_areLike_2 : decode cX8_areLike 2 = .ok (.iload_n 2, 1) := by decide +kernel
theorem dX8_areLike_3 : decode cX8_areLike 3 = .ok (.invokevirtual 152, 3) := by decide +kernel
theorem dX8_areLike_6 : decode cX8_areLike 6 = .ok (.aload_n 0, 1) := by decide +kernel
theorem dX8_areLike_7 : decode cX8_areLike 7 = .ok (.getfield 44, 3) := by decide +kernel
theorem dX8_areLike_10 : decode cX8_areLike 10 = .ok (.iconst 0, 1) := by decide +kernel
theorem dX8_areLike_11 : decode cX8_areLike 11 = .ok (.baload, 1) := by decide +kernel
theorem dX8_areLike_12 : decode cX8_areLike 12 = .ok (.ifCond .ne 7, 3) := by decide +kernel
theorem dX8_areLike_15 : decode cX8_areLike 15 = .ok (.iconst 1, 1) := by decide +kernel
theorem dX8_areLike_16 : decode cX8_areLike 16 = .ok (.goto 4, 3) := by decide +kernel
theorem dX8_areLike_19 : decode cX8_areLike 19 = .ok (.iconst 0, 1) := by decide +kernel
theorem dX8_areLike_20 : decode cX8_areLike 20 = .ok (.ireturn, 1) := by decide +kernel
set_option maxRecDepth 20000 in
theorem ggX8_like_X8_areBoth : GoodIn wsX8_like wsX8_areBoth := goodIn_r _ [5, 6, 7, 8, 4, 9, 10, 11, 12, 13, 26, 27, 28, 29, 30, 31, 32, 33, 34, 35, 36, 37, 38, 39, 40, 41, 42, 43, 44, 45, 46] (by decide +kernel) (by decide +kernel)
set_option maxRecDepth 20000 in
theorem gX8_like_X8_areBoth : GoodIn wsX8_like (wsV RX8 107 RX8 yX8_areBoth wsX8_areBoth) := goodIn_app (goodIn_of _ (by decide +kernel)) ggX8_like_X8_areBoth
set_option maxRecDepth 20000 in
theorem ggX8_like_X8_areLike : GoodIn wsX8_like wsX8_areLike := goodIn_r _ [17, 18, 19, 20, 21, 4, 22, 23, 24, 25, 26, 27, 28, 29, 30, 31, 32, 33, 34, 35, 36, 37, 38, 39, 40, 41, 42, 43, 44, 45, 46] (by decide +kernel) (by decide +kernel)
set_option maxRecDepth 20000 in
theorem gX8_like_X8_areLike : GoodIn wsX8_like (wsV RX8 156 RX8 yX8_areLike wsX8_areLike) := goodIn_app (goodIn_of _ (by decide +kernel)) ggX8_like_X8_areLike
theorem dX8_like_0 : decode cX8_like 0 = .ok (.aload_n 0, 1) := by decide +kernel
theorem dX8_like_1 : decode cX8_like 1 = .ok (.iload_n 1, 1) := by decide +kernel
theorem dX8_like_2 : decode cX8_like 2 = .ok (.iload_n 2, 1) := by decide +kernel
theorem dX8_like_3 : decode cX8_like 3 = .ok (.invokevirtual 107, 3) := by decide +kernel
theorem dX8_like_6 : decode cX8_like 6 = .ok (.ifCond .ne 7, 3) := by decide +kernel
theorem dX8_like_9 : decode cX8_like 9 = .ok (.iconst (-1), 1) := by decide +kernel
theorem dX8_like_10 : decode cX8_like 10 = .ok (.goto 17, 3) := by decide +kernel
theorem dX8_like_13 : decode cX8_like 13 = .ok (.aload_n 0, 1) := by decide +kernel
theorem dX8_like_14 : decode cX8_like 14 = .ok (.iload_n 1, 1) := by decide +kernel
theorem dX8_like_15 : decode cX8_like 15 = .ok (.iload_n 2, 1) := by decide +kernel
theorem dX8_like_16 : decode cX8_like 16 = .ok (.invokevirtual 156, 3) := by decide +kernel
theorem dX8_like_19 : decode cX8_like 19 = .ok (.ifCond .eq 7, 3) := by decide +kernel
theorem dX8_like_22 : decode cX8_like 22 = .ok (.iconst 1, 1) := by decide +kernel
theorem dX8_like_23 : decode cX8_like 23 = .ok (.goto 4, 3) := by decide +kernel
theorem dX8_like_26 : decode cX8_like 26 = .ok (.iconst 0, 1) := by decide +kernel
theorem dX8_like_27 : decode cX8_like 27 = .ok (.ireturn, 1) := by decide +kernel
set_option maxRecDepth 20000 in
theorem ggX8_smallest_X8_isMachine : GoodIn wsX8_smallest wsX8_isMachine := goodIn_r _ [8, 9, 10, 11, 7, 12, 18, 19, 20, 21, 22, 23, 24, 25, 26, 27, 28, 29, 30, 31, 32, 33, 34, 35, 36, 37, 38] (by decide +kernel) (by decide +kernel)
set_option maxRecDepth 20000 in
theorem gX8_smallest_X8_isMachine : GoodIn wsX8_smallest (wsV RX8 66 RX8 yX8_isMachine wsX8_isMachine) := goodIn_app (goodIn_of _ (by decide +kernel)) ggX8_smallest_X8_isMachine
set_option maxRecDepth 20000 in
theorem ggX8_smallest_X8_findUnlike : GoodIn wsX8_smallest wsX8_findUnlike := goodIn_r _ [16, 1, 3, 17, 2, 18, 19, 20, 21, 22, 23, 24, 25, 26, 27, 28, 29, 30, 31, 32, 33, 34, 35, 36, 37, 38] (by decide +kernel) (by decide +kernel)
set_option maxRecDepth 20000 in
theorem gX8_smallest_X8_findUnlike : GoodIn wsX8_smallest (wsV RX8 152 RX8 yX8_findUnlike wsX8_findUnlike) := goodIn_app (goodIn_of _ (by decide +kernel)) ggX8_smallest_X8_findUnlike
theorem dX8_smallest_0 : decode cX8_smallest 0 = .ok (.aload_n 0, 1) := by decide +kernel
theorem dX8_smallest_1 : decode cX8_smallest 1 = .ok (.iload_n 1, 1) := by decide +kernel
theorem dX8_smallest_2 : decode cX8_smallest 2 = .ok (.invokevirtual 66, 3) := by decide +kernel
theorem dX8_smallest_5 : decode cX8_smallest 5 = .ok (.ifCond .ne 5, 3) := by decide +kernel
theorem dX8_smallest_8 : decode cX8_smallest 8 = .ok (.iconst (-1), 1) := by decide +kernel
theorem dX8_smallest_9 : decode cX8_smallest 9 = .ok (.ireturn, 1) := by decide +kernel
theorem dX8_smallest_10 : decode cX8_smallest 10 = .ok (.aload_n 0, 1) := by decide +kernel
theorem dX8_smallest_11 : decode cX8_smallest 11 = .ok (.iload_n 1, 1) := by decide +kernel
theorem dX8_smallest_12 : decode cX8_smallest 12 = .ok (.iload_n 1, 1) := by decide +kernel
theorem dX8_smallest_13 : decode cX8_smallest 13 = .ok (.invokevirtual 152, 3) := by decide +kernel
theorem dX8_smallest_16 : decode cX8_smallest 16 = .ok (.iconst 1, 1) := by decide +kernel
theorem dX8_smallest_17 : decode cX8_smallest 17 = .ok (.istore_n 2, 1) := by decide +kernel
theorem dX8_smallest_18 : decode cX8_smallest 18 = .ok (.iconst 0, 1) := by decide +kernel
theorem dX8_smallest_19 : decode cX8_smallest 19 = .ok (.istore_n 3, 1) := by decide +kernel
theorem dX8_smallest_20 : decode cX8_smallest 20 = .ok (.iload_n 3, 1) := by decide +kernel
theorem dX8_smallest_21 : decode cX8_smallest 21 = .ok (.iconst 4, 1) := by decide +kernel
theorem dX8_smallest_22 : decode cX8_smallest 22 = .ok (.if_icmp .ge 80, 3) := by decide +kernel
theorem dX8_smallest_25 : decode cX8_smallest 25 = .ok (.iconst 0, 1) := by decide +kernel
theorem dX8_smallest_26 : decode cX8_smallest 26 = .ok (.istore 4, 2) := by decide +kernel
theorem dX8_smallest_28 : decode cX8_smallest 28 = .ok (.iload 4, 2) := by decide +kernel
theorem dX8_smallest_30 : decode cX8_smallest 30 = .ok (.aload_n 0, 1) := by decide +kernel
theorem dX8_smallest_31 : decode cX8_smallest 31 = .ok (.getfield 20, 3) := by decide +kernel
theorem dX8_smallest_34 : decode cX8_smallest 34 = .ok (.iload_n 1, 1) := by decide +kernel
theorem dX8_smallest_35 : decode cX8_smallest 35 = .ok (.iaload, 1) := by decide +kernel
theorem dX8_smallest_36 : decode cX8_smallest 36 = .ok (.if_icmp .ge 60, 3) := by decide +kernel
theorem dX8_smallest_39 : decode cX8_smallest 39 = .ok (.iconst 0, 1) := by decide +kernel
theorem dX8_smallest_40 : decode cX8_smallest 40 = .ok (.istore 5, 2) := by decide +kernel
theorem dX8_smallest_42 : decode cX8_smallest 42 = .ok (.iload 5, 2) := by decide +kernel
theorem dX8_smallest_44 : decode cX8_smallest 44 = .ok (.iconst 3, 1) := by decide +kernel
theorem dX8_smallest_45 : decode cX8_smallest 45 = .ok (.if_icmp .ge 45, 3) := by decide +kernel
theorem dX8_smallest_48 : decode cX8_smallest 48 = .ok (.iload_n 2, 1) := by decide +kernel
theorem dX8_smallest_49 : decode cX8_smallest 49 = .ok (.iload_n 2, 1) := by decide +kernel
theorem dX8_smallest_50 : decode cX8_smallest 50 = .ok (.iload 4, 2) := by decide +kernel
theorem dX8_smallest_52 : decode cX8_smallest 52 = .ok (.ishr, 1) := by decide +kernel
theorem dX8_smallest_53 : decode cX8_smallest 53 = .ok (.iconst 1, 1) := by decide +kernel
theorem dX8_smallest_54 : decode cX8_smallest 54 = .ok (.iand, 1) := by decide +kernel
theorem dX8_smallest_55 : decode cX8_smallest 55 = .ok (.iconst 1, 1) := by decide +kernel
theorem dX8_smallest_56 : decode cX8_smallest 56 = .ok (.if_icmp .ne 25, 3) := by decide +kernel
theorem dX8_smallest_59 : decode cX8_smallest 59 = .ok (.iconst 1, 1) := by decide +kernel
theorem dX8_smallest_60 : decode cX8_smallest 60 = .ok (.aload_n 0, 1) := by decide +kernel
theorem dX8_smallest_61 : decode cX8_smallest 61 = .ok (.getfield 26, 3) := by decide +kernel
theorem dX8_smallest_64 : decode cX8_smallest 64 = .ok (.bipush 12, 2) := by decide +kernel
theorem dX8_smallest_66 : decode cX8_smallest 66 = .ok (.iload_n 1, 1) := by decide +kernel
theorem dX8_smallest_67 : decode cX8_smallest 67 = .ok (.imul, 1) := by decide +kernel
theorem dX8_smallest_68 : decode cX8_smallest 68 = .ok (.iconst 3, 1) := by decide +kernel
theorem dX8_smallest_69 : decode cX8_smallest 69 = .ok (.iload 4, 2) := by decide +kernel
theorem dX8_smallest_71 : decode cX8_smallest 71 = .ok (.imul, 1) := by decide +kernel
theorem dX8_smallest_72 : decode cX8_smallest 72 = .ok (.iadd, 1) := by decide +kernel
theorem dX8_smallest_73 : decode cX8_smallest 73 = .ok (.iload 5, 2) := by decide +kernel
theorem dX8_smallest_75 : decode cX8_smallest 75 = .ok (.iadd, 1) := by decide +kernel
theorem dX8_smallest_76 : decode cX8_smallest 76 = .ok (.iaload, 1) := by decide +kernel
theorem dX8_smallest_77 : decode cX8_smallest 77 = .ok (.ishl, 1) := by decide +kernel
theorem dX8_smallest_78 : decode cX8_smallest 78 = .ok (.goto 4, 3) := by decide +kernel
theorem dX8_smallest_81 : decode cX8_smallest 81 = .ok (.iconst 0, 1) := by decide +kernel
theorem dX8_smallest_82 : decode cX8_smallest 82 = .ok (.ior, 1) := by decide +kernel
theorem dX8_smallest_83 : decode cX8_smallest 83 = .ok (.istore_n 2, 1) := by decide +kernel
theorem dX8_smallest_84 : decode cX8_smallest 84 = .ok (.iinc 5 1, 3) := by decide +kernel
theorem dX8_smallest_87 : decode cX8_smallest 87 = .ok (.goto (-45), 3) := by decide +kernel
theorem dX8_smallest_90 : decode cX8_smallest 90 = .ok (.iinc 4 1, 3) := by decide +kernel
theorem dX8_smallest_93 : decode cX8_smallest 93 = .ok (.goto (-65), 3) := by decide +kernel
theorem dX8_smallest_96 : decode cX8_smallest 96 = .ok (.iinc 3 1, 3) := by decide +kernel
theorem dX8_smallest_99 : decode cX8_smallest 99 = .ok (.goto (-79), 3) := by decide +kernel
theorem dX8_smallest_102 : decode cX8_smallest 102 = .ok (.iconst 0, 1) := by decide +kernel
theorem dX8_smallest_103 : decode cX8_smallest 103 = .ok (.istore_n 3, 1) := by decide +kernel
theorem dX8_smallest_104 : decode cX8_smallest 104 = .ok (.iconst 0, 1) := by decide +kernel
theorem dX8_smallest_105 : decode cX8_smallest 105 = .ok (.istore 4, 2) := by decide +kernel
theorem dX8_smallest_107 : decode cX8_smallest 107 = .ok (.iload 4, 2) := by decide +kernel
theorem dX8_smallest_109 : decode cX8_smallest 109 = .ok (.aload_n 0, 1) := by decide +kernel
theorem dX8_smallest_110 : decode cX8_smallest 110 = .ok (.getfield 20, 3) := by decide +kernel
theorem dX8_smallest_113 : decode cX8_smallest 113 = .ok (.iload_n 1, 1) := by decide +kernel
theorem dX8_smallest_114 : decode cX8_smallest 114 = .ok (.iaload, 1) := by decide +kernel
theorem dX8_smallest_115 : decode cX8_smallest 115 = .ok (.if_icmp .ge 91, 3) := by decide +kernel
theorem dX8_smallest_118 : decode cX8_smallest 118 = .ok (.iload_n 2, 1) := by decide +kernel
theorem dX8_smallest_119 : decode cX8_smallest 119 = .ok (.iload 4, 2) := by decide +kernel
theorem dX8_smallest_121 : decode cX8_smallest 121 = .ok (.ishr, 1) := by decide +kernel
theorem dX8_smallest_122 : decode cX8_smallest 122 = .ok (.iconst 1, 1) := by decide +kernel
theorem dX8_smallest_123 : decode cX8_smallest 123 = .ok (.iand, 1) := by decide +kernel
theorem dX8_smallest_124 : decode cX8_smallest 124 = .ok (.iconst 1, 1) := by decide +kernel
theorem dX8_smallest_125 : decode cX8_smallest 125 = .ok (.if_icmp .ne 7, 3) := by decide +kernel
theorem dX8_smallest_128 : decode cX8_smallest 128 = .ok (.iconst 1, 1) := by decide +kernel
theorem dX8_smallest_129 : decode cX8_smallest 129 = .ok (.goto 4, 3) := by decide +kernel
theorem dX8_smallest_132 : decode cX8_smallest 132 = .ok (.iconst 0, 1) := by decide +kernel
theorem dX8_smallest_133 : decode cX8_smallest 133 = .ok (.istore 5, 2) := by decide +kernel
theorem dX8_smallest_135 : decode cX8_smallest 135 = .ok (.iconst 0, 1) := by decide +kernel
theorem dX8_smallest_136 : decode cX8_smallest 136 = .ok (.istore 6, 2) := by decide +kernel
theorem dX8_smallest_138 : decode cX8_smallest 138 = .ok (.iload 6, 2) := by decide +kernel
theorem dX8_smallest_140 : decode cX8_smallest 140 = .ok (.iload 4, 2) := by decide +kernel
theorem dX8_smallest_142 : decode cX8_smallest 142 = .ok (.if_icmp .ge 45, 3) := by decide +kernel
theorem dX8_smallest_145 : decode cX8_smallest 145 = .ok (.iload 5, 2) := by decide +kernel
theorem dX8_smallest_147 : decode cX8_smallest 147 = .ok (.ifCond .eq 31, 3) := by decide +kernel
theorem dX8_smallest_150 : decode cX8_smallest 150 = .ok (.iload_n 2, 1) := by decide +kernel
theorem dX8_smallest_151 : decode cX8_smallest 151 = .ok (.iload 6, 2) := by decide +kernel
theorem dX8_smallest_153 : decode cX8_smallest 153 = .ok (.ishr, 1) := by decide +kernel
theorem dX8_smallest_154 : decode cX8_smallest 154 = .ok (.iconst 1, 1) := by decide +kernel
theorem dX8_smallest_155 : decode cX8_smallest 155 = .ok (.iand, 1) := by decide +kernel
theorem dX8_smallest_156 : decode cX8_smallest 156 = .ok (.ifCond .eq 18, 3) := by decide +kernel
theorem dX8_smallest_159 : decode cX8_smallest 159 = .ok (.aload_n 0, 1) := by decide +kernel
theorem dX8_smallest_160 : decode cX8_smallest 160 = .ok (.getfield 44, 3) := by decide +kernel
theorem dX8_smallest_163 : decode cX8_smallest 163 = .ok (.iconst 4, 1) := by decide +kernel
theorem dX8_smallest_164 : decode cX8_smallest 164 = .ok (.iload 4, 2) := by decide +kernel
theorem dX8_smallest_166 : decode cX8_smallest 166 = .ok (.imul, 1) := by decide +kernel
theorem dX8_smallest_167 : decode cX8_smallest 167 = .ok (.iload 6, 2) := by decide +kernel
theorem dX8_smallest_169 : decode cX8_smallest 169 = .ok (.iadd, 1) := by decide +kernel
theorem dX8_smallest_170 : decode cX8_smallest 170 = .ok (.baload, 1) := by decide +kernel
theorem dX8_smallest_171 : decode cX8_smallest 171 = .ok (.ifCond .eq 7, 3) := by decide +kernel
theorem dX8_smallest_174 : decode cX8_smallest 174 = .ok (.iconst 1, 1) := by decide +kernel
theorem dX8_smallest_175 : decode cX8_smallest 175 = .ok (.goto 4, 3) := by decide +kernel
theorem dX8_smallest_178 : decode cX8_smallest 178 = .ok (.iconst 0, 1) := by decide +kernel
theorem dX8_smallest_179 : decode cX8_smallest 179 = .ok (.istore 5, 2) := by decide +kernel
theorem dX8_smallest_181 : decode cX8_smallest 181 = .ok (.iinc 6 1, 3) := by decide +kernel
theorem dX8_smallest_184 : decode cX8_smallest 184 = .ok (.goto (-46), 3) := by decide +kernel
theorem dX8_smallest_187 : decode cX8_smallest 187 = .ok (.iload_n 3, 1) := by decide +kernel
theorem dX8_smallest_188 : decode cX8_smallest 188 = .ok (.iload 5, 2) := by decide +kernel
theorem dX8_smallest_190 : decode cX8_smallest 190 = .ok (.ifCond .eq 7, 3) := by decide +kernel
theorem dX8_smallest_193 : decode cX8_smallest 193 = .ok (.iconst 1, 1) := by decide +kernel
theorem dX8_smallest_194 : decode cX8_smallest 194 = .ok (.goto 4, 3) := by decide +kernel
theorem dX8_smallest_197 : decode cX8_smallest 197 = .ok (.iconst 0, 1) := by decide +kernel
theorem dX8_smallest_198 : decode cX8_smallest 198 = .ok (.iadd, 1) := by decide +kernel
theorem dX8_smallest_199 : decode cX8_smallest 199 = .ok (.istore_n 3, 1) := by decide +kernel
theorem dX8_smallest_200 : decode cX8_smallest 200 = .ok (.iinc 4 1, 3) := by decide +kernel
theorem dX8_smallest_203 : decode cX8_smallest 203 = .ok (.goto (-96), 3) := by decide +kernel
theorem dX8_smallest_206 : decode cX8_smallest 206 = .ok (.iload_n 3, 1) := by decide +kernel
theorem dX8_smallest_207 : decode cX8_smallest 207 = .ok (.ireturn, 1) := by decide +kernel
set_option maxRecDepth 20000 in
theorem ggX8_plans_X8_power : GoodIn wsX8_plans wsX8_power := goodIn_r _ [6] (by decide +kernel) (by decide +kernel)
set_option maxRecDepth 20000 in
theorem gX8_plans_X8_power : GoodIn wsX8_plans (va_wsS RX8 130 yX8_power wsX8_power) := goodIn_app (goodIn_of _ (by decide +kernel)) ggX8_plans_X8_power
theorem dX8_plans_0 : decode cX8_plans 0 = .ok (.ldc2_w 74, 3) := by decide +kernel
theorem dX8_plans_3 : decode cX8_plans 3 = .ok (.aload_n 0, 1) := by decide +kernel
theorem dX8_plans_4 : decode cX8_plans 4 = .ok (.getfield 20, 3) := by decide +kernel
theorem dX8_plans_7 : decode cX8_plans 7 = .ok (.iload_n 1, 1) := by decide +kernel
theorem dX8_plans_8 : decode cX8_plans 8 = .ok (.iaload, 1) := by decide +kernel
theorem dX8_plans_9 : decode cX8_plans 9 = .ok (.invokestatic 130, 3) := by decide +kernel
theorem dX8_plans_12 : decode cX8_plans 12 = .ok (.l2i, 1) := by decide +kernel
theorem dX8_plans_13 : decode cX8_plans 13 = .ok (.ireturn, 1) := by decide +kernel
set_option maxRecDepth 20000 in
theorem ggX8_findPlanWorth_X8_power : GoodIn wsX8_findPlanWorth wsX8_power := goodIn_r _ [12] (by decide +kernel) (by decide +kernel)
set_option maxRecDepth 20000 in
theorem gX8_findPlanWorth_X8_power : GoodIn wsX8_findPlanWorth (va_wsS RX8 130 yX8_power wsX8_power) := goodIn_app (goodIn_of _ (by decide +kernel)) ggX8_findPlanWorth_X8_power
set_option maxRecDepth 20000 in
theorem ggX8_findPlanWorth_X8_worthOfRow : GoodIn wsX8_findPlanWorth wsX8_worthOfRow := goodIn_r _ [16, 7, 3, 17, 18, 8, 9, 10, 11, 12, 19, 20, 21, 22, 23, 24, 25, 26, 27, 28, 29, 30, 31, 32, 33, 34, 35, 36, 37, 38, 39, 40, 41, 42, 43, 44, 45] (by decide +kernel) (by decide +kernel)
set_option maxRecDepth 20000 in
theorem gX8_findPlanWorth_X8_worthOfRow : GoodIn wsX8_findPlanWorth (wsV RX8 144 RX8 yX8_worthOfRow wsX8_worthOfRow) := goodIn_app (goodIn_of _ (by decide +kernel)) ggX8_findPlanWorth_X8_worthOfRow
theorem dX8_findPlanWorth_0 : decode cX8_findPlanWorth 0 = .ok (.iconst 0, 1) := by decide +kernel
theorem dX8_findPlanWorth_1 : decode cX8_findPlanWorth 1 = .ok (.istore 4, 2) := by decide +kernel
theorem dX8_findPlanWorth_3 : decode cX8_findPlanWorth 3 = .ok (.iload 4, 2) := by decide +kernel
theorem dX8_findPlanWorth_5 : decode cX8_findPlanWorth 5 = .ok (.bipush 16, 2) := by decide +kernel
theorem dX8_findPlanWorth_7 : decode cX8_findPlanWorth 7 = .ok (.if_icmp .ge 18, 3) := by decide +kernel
theorem dX8_findPlanWorth_10 : decode cX8_findPlanWorth 10 = .ok (.aload_n 0, 1) := by decide +kernel
theorem dX8_findPlanWorth_11 : decode cX8_findPlanWorth 11 = .ok (.getfield 41, 3) := by decide +kernel
theorem dX8_findPlanWorth_14 : decode cX8_findPlanWorth 14 = .ok (.iload 4, 2) := by decide +kernel
theorem dX8_findPlanWorth_16 : decode cX8_findPlanWorth 16 = .ok (.bipush (-4), 2) := by decide +kernel
theorem dX8_findPlanWorth_18 : decode cX8_findPlanWorth 18 = .ok (.iastore, 1) := by decide +kernel
theorem dX8_findPlanWorth_19 : decode cX8_findPlanWorth 19 = .ok (.iinc 4 1, 3) := by decide +kernel
theorem dX8_findPlanWorth_22 : decode cX8_findPlanWorth 22 = .ok (.goto (-19), 3) := by decide +kernel
theorem dX8_findPlanWorth_25 : decode cX8_findPlanWorth 25 = .ok (.iload_n 2, 1) := by decide +kernel
theorem dX8_findPlanWorth_26 : decode cX8_findPlanWorth 26 = .ok (.istore 4, 2) := by decide +kernel
theorem dX8_findPlanWorth_28 : decode cX8_findPlanWorth 28 = .ok (.iconst 0, 1) := by decide +kernel
theorem dX8_findPlanWorth_29 : decode cX8_findPlanWorth 29 = .ok (.istore 5, 2) := by decide +kernel
theorem dX8_findPlanWorth_31 : decode cX8_findPlanWorth 31 = .ok (.aload_n 0, 1) := by decide +kernel
theorem dX8_findPlanWorth_32 : decode cX8_findPlanWorth 32 = .ok (.getfield 41, 3) := by decide +kernel
theorem dX8_findPlanWorth_35 : decode cX8_findPlanWorth 35 = .ok (.iload 4, 2) := by decide +kernel
theorem dX8_findPlanWorth_37 : decode cX8_findPlanWorth 37 = .ok (.iaload, 1) := by decide +kernel
theorem dX8_findPlanWorth_38 : decode cX8_findPlanWorth 38 = .ok (.bipush (-4), 2) := by decide +kernel
theorem dX8_findPlanWorth_40 : decode cX8_findPlanWorth 40 = .ok (.if_icmp .ne 80, 3) := by decide +kernel
theorem dX8_findPlanWorth_43 : decode cX8_findPlanWorth 43 = .ok (.aload_n 0, 1) := by decide +kernel
theorem dX8_findPlanWorth_44 : decode cX8_findPlanWorth 44 = .ok (.getfield 41, 3) := by decide +kernel
theorem dX8_findPlanWorth_47 : decode cX8_findPlanWorth 47 = .ok (.iload 4, 2) := by decide +kernel
theorem dX8_findPlanWorth_49 : decode cX8_findPlanWorth 49 = .ok (.iload 5, 2) := by decide +kernel
theorem dX8_findPlanWorth_51 : decode cX8_findPlanWorth 51 = .ok (.iastore, 1) := by decide +kernel
theorem dX8_findPlanWorth_52 : decode cX8_findPlanWorth 52 = .ok (.iload_n 3, 1) := by decide +kernel
theorem dX8_findPlanWorth_53 : decode cX8_findPlanWorth 53 = .ok (.ldc2_w 74, 3) := by decide +kernel
theorem dX8_findPlanWorth_56 : decode cX8_findPlanWorth 56 = .ok (.iload 4, 2) := by decide +kernel
theorem dX8_findPlanWorth_58 : decode cX8_findPlanWorth 58 = .ok (.invokestatic 130, 3) := by decide +kernel
theorem dX8_findPlanWorth_61 : decode cX8_findPlanWorth 61 = .ok (.l2i, 1) := by decide +kernel
theorem dX8_findPlanWorth_62 : decode cX8_findPlanWorth 62 = .ok (.idiv, 1) := by decide +kernel
theorem dX8_findPlanWorth_63 : decode cX8_findPlanWorth 63 = .ok (.iconst 3, 1) := by decide +kernel
theorem dX8_findPlanWorth_64 : decode cX8_findPlanWorth 64 = .ok (.irem, 1) := by decide +kernel
theorem dX8_findPlanWorth_65 : decode cX8_findPlanWorth 65 = .ok (.istore 6, 2) := by decide +kernel
theorem dX8_findPlanWorth_67 : decode cX8_findPlanWorth 67 = .ok (.aload_n 0, 1) := by decide +kernel
theorem dX8_findPlanWorth_68 : decode cX8_findPlanWorth 68 = .ok (.getfield 38, 3) := by decide +kernel
theorem dX8_findPlanWorth_71 : decode cX8_findPlanWorth 71 = .ok (.iload 5, 2) := by decide +kernel
theorem dX8_findPlanWorth_73 : decode cX8_findPlanWorth 73 = .ok (.aload_n 0, 1) := by decide +kernel
theorem dX8_findPlanWorth_74 : decode cX8_findPlanWorth 74 = .ok (.getfield 7, 3) := by decide +kernel
theorem dX8_findPlanWorth_77 : decode cX8_findPlanWorth 77 = .ok (.iconst 3, 1) := by decide +kernel
theorem dX8_findPlanWorth_78 : decode cX8_findPlanWorth 78 = .ok (.iload 6, 2) := by decide +kernel
theorem dX8_findPlanWorth_80 : decode cX8_findPlanWorth 80 = .ok (.imul, 1) := by decide +kernel
theorem dX8_findPlanWorth_81 : decode cX8_findPlanWorth 81 = .ok (.aload_n 0, 1) := by decide +kernel
theorem dX8_findPlanWorth_82 : decode cX8_findPlanWorth 82 = .ok (.getfield 23, 3) := by decide +kernel
theorem dX8_findPlanWorth_85 : decode cX8_findPlanWorth 85 = .ok (.iconst 4, 1) := by decide +kernel
theorem dX8_findPlanWorth_86 : decode cX8_findPlanWorth 86 = .ok (.iload_n 1, 1) := by decide +kernel
theorem dX8_findPlanWorth_87 : decode cX8_findPlanWorth 87 = .ok (.imul, 1) := by decide +kernel
theorem dX8_findPlanWorth_88 : decode cX8_findPlanWorth 88 = .ok (.iload 4, 2) := by decide +kernel
theorem dX8_findPlanWorth_90 : decode cX8_findPlanWorth 90 = .ok (.iadd, 1) := by decide +kernel
theorem dX8_findPlanWorth_91 : decode cX8_findPlanWorth 91 = .ok (.iaload, 1) := by decide +kernel
theorem dX8_findPlanWorth_92 : decode cX8_findPlanWorth 92 = .ok (.iadd, 1) := by decide +kernel
theorem dX8_findPlanWorth_93 : decode cX8_findPlanWorth 93 = .ok (.iaload, 1) := by decide +kernel
theorem dX8_findPlanWorth_94 : decode cX8_findPlanWorth 94 = .ok (.iastore, 1) := by decide +kernel
theorem dX8_findPlanWorth_95 : decode cX8_findPlanWorth 95 = .ok (.iinc 5 1, 3) := by decide +kernel
theorem dX8_findPlanWorth_98 : decode cX8_findPlanWorth 98 = .ok (.aload_n 0, 1) := by decide +kernel
theorem dX8_findPlanWorth_99 : decode cX8_findPlanWorth 99 = .ok (.getfield 26, 3) := by decide +kernel
theorem dX8_findPlanWorth_102 : decode cX8_findPlanWorth 102 = .ok (.bipush 12, 2) := by decide +kernel
theorem dX8_findPlanWorth_104 : decode cX8_findPlanWorth 104 = .ok (.iload_n 1, 1) := by decide +kernel
theorem dX8_findPlanWorth_105 : decode cX8_findPlanWorth 105 = .ok (.imul, 1) := by decide +kernel
theorem dX8_findPlanWorth_106 : decode cX8_findPlanWorth 106 = .ok (.iconst 3, 1) := by decide +kernel
theorem dX8_findPlanWorth_107 : decode cX8_findPlanWorth 107 = .ok (.iload 4, 2) := by decide +kernel
theorem dX8_findPlanWorth_109 : decode cX8_findPlanWorth 109 = .ok (.imul, 1) := by decide +kernel
theorem dX8_findPlanWorth_110 : decode cX8_findPlanWorth 110 = .ok (.iadd, 1) := by decide +kernel
theorem dX8_findPlanWorth_111 : decode cX8_findPlanWorth 111 = .ok (.iload 6, 2) := by decide +kernel
theorem dX8_findPlanWorth_113 : decode cX8_findPlanWorth 113 = .ok (.iadd, 1) := by decide +kernel
theorem dX8_findPlanWorth_114 : decode cX8_findPlanWorth 114 = .ok (.iaload, 1) := by decide +kernel
theorem dX8_findPlanWorth_115 : decode cX8_findPlanWorth 115 = .ok (.istore 4, 2) := by decide +kernel
theorem dX8_findPlanWorth_117 : decode cX8_findPlanWorth 117 = .ok (.goto (-86), 3) := by decide +kernel
theorem dX8_findPlanWorth_120 : decode cX8_findPlanWorth 120 = .ok (.aload_n 0, 1) := by decide +kernel
theorem dX8_findPlanWorth_121 : decode cX8_findPlanWorth 121 = .ok (.aload_n 0, 1) := by decide +kernel
theorem dX8_findPlanWorth_122 : decode cX8_findPlanWorth 122 = .ok (.getfield 41, 3) := by decide +kernel
theorem dX8_findPlanWorth_125 : decode cX8_findPlanWorth 125 = .ok (.iload 4, 2) := by decide +kernel
theorem dX8_findPlanWorth_127 : decode cX8_findPlanWorth 127 = .ok (.iaload, 1) := by decide +kernel
theorem dX8_findPlanWorth_128 : decode cX8_findPlanWorth 128 = .ok (.putfield 101, 3) := by decide +kernel
theorem dX8_findPlanWorth_131 : decode cX8_findPlanWorth 131 = .ok (.aload_n 0, 1) := by decide +kernel
theorem dX8_findPlanWorth_132 : decode cX8_findPlanWorth 132 = .ok (.iload 5, 2) := by decide +kernel
theorem dX8_findPlanWorth_134 : decode cX8_findPlanWorth 134 = .ok (.aload_n 0, 1) := by decide +kernel
theorem dX8_findPlanWorth_135 : decode cX8_findPlanWorth 135 = .ok (.getfield 101, 3) := by decide +kernel
theorem dX8_findPlanWorth_138 : decode cX8_findPlanWorth 138 = .ok (.isub, 1) := by decide +kernel
theorem dX8_findPlanWorth_139 : decode cX8_findPlanWorth 139 = .ok (.putfield 104, 3) := by decide +kernel
theorem dX8_findPlanWorth_142 : decode cX8_findPlanWorth 142 = .ok (.aload_n 0, 1) := by decide +kernel
theorem dX8_findPlanWorth_143 : decode cX8_findPlanWorth 143 = .ok (.invokevirtual 144, 3) := by decide +kernel
theorem dX8_findPlanWorth_146 : decode cX8_findPlanWorth 146 = .ok (.return_, 1) := by decide +kernel
set_option maxRecDepth 20000 in
theorem ggX8_findBest_X8_plans : GoodIn wsX8_findBest wsX8_plans := goodIn_r _ [10, 11, 12, 13, 14, 9, 15, 37, 38, 39, 40, 41, 42, 43, 44, 45, 46, 47, 48, 49, 50, 51, 52, 53, 54, 55, 56, 57] (by decide +kernel) (by decide +kernel)
set_option maxRecDepth 20000 in
theorem gX8_findBest_X8_plans : GoodIn wsX8_findBest (wsV RX8 162 RX8 yX8_plans wsX8_plans) := goodIn_app (goodIn_of _ (by decide +kernel)) ggX8_findBest_X8_plans
set_option maxRecDepth 20000 in
theorem ggX8_findBest_X8_findPlanWorth : GoodIn wsX8_findBest wsX8_findPlanWorth := goodIn_r _ [19, 20, 11, 21, 22, 23, 24, 25, 26, 13, 14, 9, 15, 27, 28, 29, 30, 31, 32, 33, 34, 35, 36, 2, 5, 37, 38, 39, 40, 41, 42, 43, 44, 45, 46, 47, 48, 49, 50, 51, 52, 53, 54, 55, 56, 57] (by decide +kernel) (by decide +kernel)
set_option maxRecDepth 20000 in
theorem gX8_findBest_X8_findPlanWorth : GoodIn wsX8_findBest (wsV RX8 165 RX8 yX8_findPlanWorth wsX8_findPlanWorth) := goodIn_app (goodIn_of _ (by decide +kernel)) ggX8_findBest_X8_findPlanWorth
theorem dX8_findBest_0 : decode cX8_findBest 0 = .ok (.aload_n 0, 1) := by decide +kernel
theorem dX8_findBest_1 : decode cX8_findBest 1 = .ok (.bipush (-4), 2) := by decide +kernel
theorem dX8_findBest_3 : decode cX8_findBest 3 = .ok (.putfield 159, 3) := by decide +kernel
theorem dX8_findBest_6 : decode cX8_findBest 6 = .ok (.iconst 0, 1) := by decide +kernel
theorem dX8_findBest_7 : decode cX8_findBest 7 = .ok (.istore_n 3, 1) := by decide +kernel
theorem dX8_findBest_8 : decode cX8_findBest 8 = .ok (.iload_n 3, 1) := by decide +kernel
theorem dX8_findBest_9 : decode cX8_findBest 9 = .ok (.aload_n 0, 1) := by decide +kernel
theorem dX8_findBest_10 : decode cX8_findBest 10 = .ok (.iload_n 1, 1) := by decide +kernel
theorem dX8_findBest_11 : decode cX8_findBest 11 = .ok (.invokevirtual 162, 3) := by decide +kernel
theorem dX8_findBest_14 : decode cX8_findBest 14 = .ok (.if_icmp .ge 68, 3) := by decide +kernel
theorem dX8_findBest_17 : decode cX8_findBest 17 = .ok (.aload_n 0, 1) := by decide +kernel
theorem dX8_findBest_18 : decode cX8_findBest 18 = .ok (.iload_n 1, 1) := by decide +kernel
theorem dX8_findBest_19 : decode cX8_findBest 19 = .ok (.iload_n 2, 1) := by decide +kernel
theorem dX8_findBest_20 : decode cX8_findBest 20 = .ok (.iload_n 3, 1) := by decide +kernel
theorem dX8_findBest_21 : decode cX8_findBest 21 = .ok (.invokevirtual 165, 3) := by decide +kernel
theorem dX8_findBest_24 : decode cX8_findBest 24 = .ok (.aload_n 0, 1) := by decide +kernel
theorem dX8_findBest_25 : decode cX8_findBest 25 = .ok (.getfield 159, 3) := by decide +kernel
theorem dX8_findBest_28 : decode cX8_findBest 28 = .ok (.bipush (-4), 2) := by decide +kernel
theorem dX8_findBest_30 : decode cX8_findBest 30 = .ok (.if_icmp .eq 25, 3) := by decide +kernel
theorem dX8_findBest_33 : decode cX8_findBest 33 = .ok (.aload_n 0, 1) := by decide +kernel
theorem dX8_findBest_34 : decode cX8_findBest 34 = .ok (.getfield 123, 3) := by decide +kernel
theorem dX8_findBest_37 : decode cX8_findBest 37 = .ok (.aload_n 0, 1) := by decide +kernel
theorem dX8_findBest_38 : decode cX8_findBest 38 = .ok (.getfield 168, 3) := by decide +kernel
theorem dX8_findBest_41 : decode cX8_findBest 41 = .ok (.lmul, 1) := by decide +kernel
theorem dX8_findBest_42 : decode cX8_findBest 42 = .ok (.aload_n 0, 1) := by decide +kernel
theorem dX8_findBest_43 : decode cX8_findBest 43 = .ok (.getfield 171, 3) := by decide +kernel
theorem dX8_findBest_46 : decode cX8_findBest 46 = .ok (.aload_n 0, 1) := by decide +kernel
theorem dX8_findBest_47 : decode cX8_findBest 47 = .ok (.getfield 127, 3) := by decide +kernel
theorem dX8_findBest_50 : decode cX8_findBest 50 = .ok (.lmul, 1) := by decide +kernel
theorem dX8_findBest_51 : decode cX8_findBest 51 = .ok (.lcmp, 1) := by decide +kernel
theorem dX8_findBest_52 : decode cX8_findBest 52 = .ok (.ifCond .le 24, 3) := by decide +kernel
theorem dX8_findBest_55 : decode cX8_findBest 55 = .ok (.aload_n 0, 1) := by decide +kernel
theorem dX8_findBest_56 : decode cX8_findBest 56 = .ok (.iload_n 3, 1) := by decide +kernel
theorem dX8_findBest_57 : decode cX8_findBest 57 = .ok (.putfield 159, 3) := by decide +kernel
theorem dX8_findBest_60 : decode cX8_findBest 60 = .ok (.aload_n 0, 1) := by decide +kernel
theorem dX8_findBest_61 : decode cX8_findBest 61 = .ok (.aload_n 0, 1) := by decide +kernel
theorem dX8_findBest_62 : decode cX8_findBest 62 = .ok (.getfield 123, 3) := by decide +kernel
theorem dX8_findBest_65 : decode cX8_findBest 65 = .ok (.putfield 171, 3) := by decide +kernel
theorem dX8_findBest_68 : decode cX8_findBest 68 = .ok (.aload_n 0, 1) := by decide +kernel
theorem dX8_findBest_69 : decode cX8_findBest 69 = .ok (.aload_n 0, 1) := by decide +kernel
theorem dX8_findBest_70 : decode cX8_findBest 70 = .ok (.getfield 127, 3) := by decide +kernel
theorem dX8_findBest_73 : decode cX8_findBest 73 = .ok (.putfield 168, 3) := by decide +kernel
theorem dX8_findBest_76 : decode cX8_findBest 76 = .ok (.iinc 3 1, 3) := by decide +kernel
theorem dX8_findBest_79 : decode cX8_findBest 79 = .ok (.goto (-71), 3) := by decide +kernel
theorem dX8_findBest_82 : decode cX8_findBest 82 = .ok (.return_, 1) := by decide +kernel
set_option maxRecDepth 20000 in
theorem ggX8_best_X8_isState : GoodIn wsX8_best wsX8_isState := goodIn_r _ [6, 7, 8, 9, 10, 5, 11, 12, 13, 14, 15, 53, 54, 55, 56, 57, 58, 59, 60, 61, 62, 63, 64, 65, 66, 67, 68, 69, 70, 71, 72, 73] (by decide +kernel) (by decide +kernel)
set_option maxRecDepth 20000 in
theorem gX8_best_X8_isState : GoodIn wsX8_best (wsV RX8 70 RX8 yX8_isState wsX8_isState) := goodIn_app (goodIn_of _ (by decide +kernel)) ggX8_best_X8_isState
set_option maxRecDepth 20000 in
theorem ggX8_best_X8_findBest : GoodIn wsX8_best wsX8_findBest := goodIn_r _ [19, 1, 20, 21, 22, 23, 24, 25, 26, 5, 27, 28, 7, 29, 30, 31, 32, 33, 34, 35, 36, 37, 38, 39, 40, 41, 42, 43, 44, 45, 46, 47, 48, 49, 50, 51, 52, 53, 54, 55, 56, 57, 58, 59, 60, 61, 62, 63, 64, 65, 66, 67, 68, 69, 70, 71, 72, 73] (by decide +kernel) (by decide +kernel)
set_option maxRecDepth 20000 in
theorem gX8_best_X8_findBest : GoodIn wsX8_best (wsV RX8 174 RX8 yX8_findBest wsX8_findBest) := goodIn_app (goodIn_of _ (by decide +kernel)) ggX8_best_X8_findBest
theorem dX8_best_0 : decode cX8_best 0 = .ok (.aload_n 0, 1) := by decide +kernel
theorem dX8_best_1 : decode cX8_best 1 = .ok (.iload_n 1, 1) := by decide +kernel
theorem dX8_best_2 : decode cX8_best 2 = .ok (.iload_n 2, 1) := by decide +kernel
theorem dX8_best_3 : decode cX8_best 3 = .ok (.invokevirtual 70, 3) := by decide +kernel
theorem dX8_best_6 : decode cX8_best 6 = .ok (.ifCond .ne 5, 3) := by decide +kernel
theorem dX8_best_9 : decode cX8_best 9 = .ok (.iconst (-1), 1) := by decide +kernel
theorem dX8_best_10 : decode cX8_best 10 = .ok (.ireturn, 1) := by decide +kernel
theorem dX8_best_11 : decode cX8_best 11 = .ok (.aload_n 0, 1) := by decide +kernel
theorem dX8_best_12 : decode cX8_best 12 = .ok (.iload_n 1, 1) := by decide +kernel
theorem dX8_best_13 : decode cX8_best 13 = .ok (.iload_n 2, 1) := by decide +kernel
theorem dX8_best_14 : decode cX8_best 14 = .ok (.invokevirtual 174, 3) := by decide +kernel
theorem dX8_best_17 : decode cX8_best 17 = .ok (.aload_n 0, 1) := by decide +kernel
theorem dX8_best_18 : decode cX8_best 18 = .ok (.getfield 159, 3) := by decide +kernel
theorem dX8_best_21 : decode cX8_best 21 = .ok (.ireturn, 1) := by decide +kernel
set_option maxRecDepth 20000 in
theorem ggX8_bestWorth_X8_isState : GoodIn wsX8_bestWorth wsX8_isState := goodIn_r _ [8, 9, 10, 11, 12, 7, 13, 14, 15, 16, 17, 54, 55, 56, 57, 58, 59, 60, 61, 62, 63, 64, 65, 66, 67, 68, 69, 70, 71, 72, 73, 74] (by decide +kernel) (by decide +kernel)
set_option maxRecDepth 20000 in
theorem gX8_bestWorth_X8_isState : GoodIn wsX8_bestWorth (wsV RX8 70 RX8 yX8_isState wsX8_isState) := goodIn_app (goodIn_of _ (by decide +kernel)) ggX8_bestWorth_X8_isState
set_option maxRecDepth 20000 in
theorem ggX8_bestWorth_X8_in : GoodIn wsX8_bestWorth wsX8_in := goodIn_r _ [17] (by decide +kernel) (by decide +kernel)
set_option maxRecDepth 20000 in
theorem gX8_bestWorth_X8_in : GoodIn wsX8_bestWorth (va_wsS RX8 53 yX8_in wsX8_in) := goodIn_app (goodIn_of _ (by decide +kernel)) ggX8_bestWorth_X8_in
set_option maxRecDepth 20000 in
theorem ggX8_bestWorth_X8_findBest : GoodIn wsX8_bestWorth wsX8_findBest := goodIn_r _ [21, 22, 23, 3, 2, 24, 25, 26, 27, 7, 28, 29, 9, 30, 31, 32, 33, 34, 35, 36, 37, 38, 39, 40, 41, 42, 43, 44, 45, 46, 47, 48, 49, 50, 51, 52, 53, 54, 55, 56, 57, 58, 59, 60, 61, 62, 63, 64, 65, 66, 67, 68, 69, 70, 71, 72, 73, 74] (by decide +kernel) (by decide +kernel)
set_option maxRecDepth 20000 in
theorem gX8_bestWorth_X8_findBest : GoodIn wsX8_bestWorth (wsV RX8 174 RX8 yX8_findBest wsX8_findBest) := goodIn_app (goodIn_of _ (by decide +kernel)) ggX8_bestWorth_X8_findBest
theorem dX8_bestWorth_0 : decode cX8_bestWorth 0 = .ok (.aload_n 0, 1) := by decide +kernel
theorem dX8_bestWorth_1 : decode cX8_bestWorth 1 = .ok (.iload_n 1, 1) := by decide +kernel
theorem dX8_bestWorth_2 : decode cX8_bestWorth 2 = .ok (.iload_n 2, 1) := by decide +kernel
theorem dX8_bestWorth_3 : decode cX8_bestWorth 3 = .ok (.invokevirtual 70, 3) := by decide +kernel
theorem dX8_bestWorth_6 : decode cX8_bestWorth 6 = .ok (.ifCond .eq 13, 3) := by decide +kernel
theorem dX8_bestWorth_9 : decode cX8_bestWorth 9 = .ok (.iload_n 3, 1) := by decide +kernel
theorem dX8_bestWorth_10 : decode cX8_bestWorth 10 = .ok (.i2l, 1) := by decide +kernel
theorem dX8_bestWorth_11 : decode cX8_bestWorth 11 = .ok (.lconst 0, 1) := by decide +kernel
theorem dX8_bestWorth_12 : decode cX8_bestWorth 12 = .ok (.lconst 1, 1) := by decide +kernel
theorem dX8_bestWorth_13 : decode cX8_bestWorth 13 = .ok (.invokestatic 53, 3) := by decide +kernel
theorem dX8_bestWorth_16 : decode cX8_bestWorth 16 = .ok (.ifCond .ne 7, 3) := by decide +kernel
theorem dX8_bestWorth_19 : decode cX8_bestWorth 19 = .ok (.ldc2_w 138, 3) := by decide +kernel
theorem dX8_bestWorth_22 : decode cX8_bestWorth 22 = .ok (.lreturn, 1) := by decide +kernel
theorem dX8_bestWorth_23 : decode cX8_bestWorth 23 = .ok (.aload_n 0, 1) := by decide +kernel
theorem dX8_bestWorth_24 : decode cX8_bestWorth 24 = .ok (.iload_n 1, 1) := by decide +kernel
theorem dX8_bestWorth_25 : decode cX8_bestWorth 25 = .ok (.iload_n 2, 1) := by decide +kernel
theorem dX8_bestWorth_26 : decode cX8_bestWorth 26 = .ok (.invokevirtual 174, 3) := by decide +kernel
theorem dX8_bestWorth_29 : decode cX8_bestWorth 29 = .ok (.iload_n 3, 1) := by decide +kernel
theorem dX8_bestWorth_30 : decode cX8_bestWorth 30 = .ok (.ifCond .ne 10, 3) := by decide +kernel
theorem dX8_bestWorth_33 : decode cX8_bestWorth 33 = .ok (.aload_n 0, 1) := by decide +kernel
theorem dX8_bestWorth_34 : decode cX8_bestWorth 34 = .ok (.getfield 171, 3) := by decide +kernel
theorem dX8_bestWorth_37 : decode cX8_bestWorth 37 = .ok (.goto 7, 3) := by decide +kernel
theorem dX8_bestWorth_40 : decode cX8_bestWorth 40 = .ok (.aload_n 0, 1) := by decide +kernel
theorem dX8_bestWorth_41 : decode cX8_bestWorth 41 = .ok (.getfield 168, 3) := by decide +kernel
theorem dX8_bestWorth_44 : decode cX8_bestWorth 44 = .ok (.lreturn, 1) := by decide +kernel
set_option maxRecDepth 20000 in
theorem ggX8_planWorth_X8_isState : GoodIn wsX8_planWorth wsX8_isState := goodIn_r _ [6, 7, 8, 9, 10, 5, 11, 12, 13, 14, 15, 51, 52, 53, 54, 55, 56, 57, 58, 59, 60, 61, 62, 63, 64, 65, 66, 67, 68, 69, 70, 71] (by decide +kernel) (by decide +kernel)
set_option maxRecDepth 20000 in
theorem gX8_planWorth_X8_isState : GoodIn wsX8_planWorth (wsV RX8 70 RX8 yX8_isState wsX8_isState) := goodIn_app (goodIn_of _ (by decide +kernel)) ggX8_planWorth_X8_isState
set_option maxRecDepth 20000 in
theorem ggX8_planWorth_X8_plans : GoodIn wsX8_planWorth wsX8_plans := goodIn_r _ [19, 20, 7, 21, 22, 5, 23, 51, 52, 53, 54, 55, 56, 57, 58, 59, 60, 61, 62, 63, 64, 65, 66, 67, 68, 69, 70, 71] (by decide +kernel) (by decide +kernel)
set_option maxRecDepth 20000 in
theorem gX8_planWorth_X8_plans : GoodIn wsX8_planWorth (wsV RX8 162 RX8 yX8_plans wsX8_plans) := goodIn_app (goodIn_of _ (by decide +kernel)) ggX8_planWorth_X8_plans
set_option maxRecDepth 20000 in
theorem ggX8_planWorth_X8_in : GoodIn wsX8_planWorth wsX8_in := goodIn_r _ [15] (by decide +kernel) (by decide +kernel)
set_option maxRecDepth 20000 in
theorem gX8_planWorth_X8_in : GoodIn wsX8_planWorth (va_wsS RX8 53 yX8_in wsX8_in) := goodIn_app (goodIn_of _ (by decide +kernel)) ggX8_planWorth_X8_in
set_option maxRecDepth 20000 in
theorem ggX8_planWorth_X8_findPlanWorth : GoodIn wsX8_planWorth wsX8_findPlanWorth := goodIn_r _ [27, 28, 20, 29, 30, 31, 32, 33, 34, 21, 22, 5, 23, 35, 36, 37, 38, 39, 40, 41, 42, 43, 44, 45, 46, 51, 52, 53, 54, 55, 56, 57, 58, 59, 60, 61, 62, 63, 64, 65, 66, 67, 68, 69, 70, 71] (by decide +kernel) (by decide +kernel)
set_option maxRecDepth 20000 in
theorem gX8_planWorth_X8_findPlanWorth : GoodIn wsX8_planWorth (wsV RX8 165 RX8 yX8_findPlanWorth wsX8_findPlanWorth) := goodIn_app (goodIn_of _ (by decide +kernel)) ggX8_planWorth_X8_findPlanWorth
set_option maxRecDepth 20000 in
theorem ggX8_planWorth_X8_part : GoodIn wsX8_planWorth wsX8_part := goodIn_r _ [50, 45, 46, 51, 52, 53, 54, 55, 56, 57, 58, 59, 60, 61, 62, 63, 64, 65, 66, 67, 68, 69, 70, 71] (by decide +kernel) (by decide +kernel)
set_option maxRecDepth 20000 in
theorem gX8_planWorth_X8_part : GoodIn wsX8_planWorth (wsV RX8 140 RX8 yX8_part wsX8_part) := goodIn_app (goodIn_of _ (by decide +kernel)) ggX8_planWorth_X8_part
theorem dX8_planWorth_0 : decode cX8_planWorth 0 = .ok (.aload_n 0, 1) := by decide +kernel
theorem dX8_planWorth_1 : decode cX8_planWorth 1 = .ok (.iload_n 1, 1) := by decide +kernel
theorem dX8_planWorth_2 : decode cX8_planWorth 2 = .ok (.iload_n 2, 1) := by decide +kernel
theorem dX8_planWorth_3 : decode cX8_planWorth 3 = .ok (.invokevirtual 70, 3) := by decide +kernel
theorem dX8_planWorth_6 : decode cX8_planWorth 6 = .ok (.ifCond .eq 31, 3) := by decide +kernel
theorem dX8_planWorth_9 : decode cX8_planWorth 9 = .ok (.iload_n 3, 1) := by decide +kernel
theorem dX8_planWorth_10 : decode cX8_planWorth 10 = .ok (.i2l, 1) := by decide +kernel
theorem dX8_planWorth_11 : decode cX8_planWorth 11 = .ok (.lconst 0, 1) := by decide +kernel
theorem dX8_planWorth_12 : decode cX8_planWorth 12 = .ok (.aload_n 0, 1) := by decide +kernel
theorem dX8_planWorth_13 : decode cX8_planWorth 13 = .ok (.iload_n 1, 1) := by decide +kernel
theorem dX8_planWorth_14 : decode cX8_planWorth 14 = .ok (.invokevirtual 162, 3) := by decide +kernel
theorem dX8_planWorth_17 : decode cX8_planWorth 17 = .ok (.iconst 1, 1) := by decide +kernel
theorem dX8_planWorth_18 : decode cX8_planWorth 18 = .ok (.isub, 1) := by decide +kernel
theorem dX8_planWorth_19 : decode cX8_planWorth 19 = .ok (.i2l, 1) := by decide +kernel
theorem dX8_planWorth_20 : decode cX8_planWorth 20 = .ok (.invokestatic 53, 3) := by decide +kernel
theorem dX8_planWorth_23 : decode cX8_planWorth 23 = .ok (.ifCond .eq 14, 3) := by decide +kernel
theorem dX8_planWorth_26 : decode cX8_planWorth 26 = .ok (.iload 4, 2) := by decide +kernel
theorem dX8_planWorth_28 : decode cX8_planWorth 28 = .ok (.i2l, 1) := by decide +kernel
theorem dX8_planWorth_29 : decode cX8_planWorth 29 = .ok (.lconst 0, 1) := by decide +kernel
theorem dX8_planWorth_30 : decode cX8_planWorth 30 = .ok (.lconst 1, 1) := by decide +kernel
theorem dX8_planWorth_31 : decode cX8_planWorth 31 = .ok (.invokestatic 53, 3) := by decide +kernel
theorem dX8_planWorth_34 : decode cX8_planWorth 34 = .ok (.ifCond .ne 7, 3) := by decide +kernel
theorem dX8_planWorth_37 : decode cX8_planWorth 37 = .ok (.ldc2_w 138, 3) := by decide +kernel
theorem dX8_planWorth_40 : decode cX8_planWorth 40 = .ok (.lreturn, 1) := by decide +kernel
theorem dX8_planWorth_41 : decode cX8_planWorth 41 = .ok (.aload_n 0, 1) := by decide +kernel
theorem dX8_planWorth_42 : decode cX8_planWorth 42 = .ok (.iload_n 1, 1) := by decide +kernel
theorem dX8_planWorth_43 : decode cX8_planWorth 43 = .ok (.iload_n 2, 1) := by decide +kernel
theorem dX8_planWorth_44 : decode cX8_planWorth 44 = .ok (.iload_n 3, 1) := by decide +kernel
theorem dX8_planWorth_45 : decode cX8_planWorth 45 = .ok (.invokevirtual 165, 3) := by decide +kernel
theorem dX8_planWorth_48 : decode cX8_planWorth 48 = .ok (.aload_n 0, 1) := by decide +kernel
theorem dX8_planWorth_49 : decode cX8_planWorth 49 = .ok (.iload 4, 2) := by decide +kernel
theorem dX8_planWorth_51 : decode cX8_planWorth 51 = .ok (.invokevirtual 140, 3) := by decide +kernel
theorem dX8_planWorth_54 : decode cX8_planWorth 54 = .ok (.lreturn, 1) := by decide +kernel
set_option maxRecDepth 20000 in
theorem ggX8_isBest_X8_findBest : GoodIn wsX8_isBest wsX8_findBest := goodIn_r _ [9, 10, 1, 4, 2, 3, 11, 12, 13, 8, 14, 15, 16, 17, 18, 19, 20, 21, 22, 23, 24, 25, 26, 27, 28, 29, 30, 31, 32, 33, 34, 35, 36, 37, 38, 39, 40, 69, 70, 71, 72, 73, 74, 75, 76, 77, 78, 79, 80, 81, 82, 83, 84, 85, 86, 87, 88, 89] (by decide +kernel) (by decide +kernel)
set_option maxRecDepth 20000 in
theorem gX8_isBest_X8_findBest : GoodIn wsX8_isBest (wsV RX8 174 RX8 yX8_findBest wsX8_findBest) := goodIn_app (goodIn_of _ (by decide +kernel)) ggX8_isBest_X8_findBest
set_option maxRecDepth 20000 in
theorem ggX8_isBest_X8_findWorth : GoodIn wsX8_isBest wsX8_findWorth := goodIn_r _ [44, 45, 46, 47, 8, 48, 24, 25, 29, 30, 49, 50, 51, 52, 26, 53, 54, 55, 56, 27, 57, 58, 59, 60, 61, 62, 63, 64, 65, 66, 67, 68, 28, 31, 32, 33, 34, 35, 36, 17, 18, 19, 37, 38, 39, 40, 1, 3, 69, 70, 71, 72, 73, 74, 75, 76, 77, 78, 79, 80, 81, 82, 83, 84, 85, 86, 87, 88, 89] (by decide +kernel) (by decide +kernel)
set_option maxRecDepth 20000 in
theorem gX8_isBest_X8_findWorth : GoodIn wsX8_isBest (wsV RX8 147 RX8 yX8_findWorth wsX8_findWorth) := goodIn_app (goodIn_of _ (by decide +kernel)) ggX8_isBest_X8_findWorth
theorem dX8_isBest_0 : decode cX8_isBest 0 = .ok (.aload_n 0, 1) := by decide +kernel
theorem dX8_isBest_1 : decode cX8_isBest 1 = .ok (.iload_n 2, 1) := by decide +kernel
theorem dX8_isBest_2 : decode cX8_isBest 2 = .ok (.iload_n 3, 1) := by decide +kernel
theorem dX8_isBest_3 : decode cX8_isBest 3 = .ok (.iconst 4, 1) := by decide +kernel
theorem dX8_isBest_4 : decode cX8_isBest 4 = .ok (.irem, 1) := by decide +kernel
theorem dX8_isBest_5 : decode cX8_isBest 5 = .ok (.invokevirtual 174, 3) := by decide +kernel
theorem dX8_isBest_8 : decode cX8_isBest 8 = .ok (.aload_n 0, 1) := by decide +kernel
theorem dX8_isBest_9 : decode cX8_isBest 9 = .ok (.iload_n 1, 1) := by decide +kernel
theorem dX8_isBest_10 : decode cX8_isBest 10 = .ok (.iload_n 2, 1) := by decide +kernel
theorem dX8_isBest_11 : decode cX8_isBest 11 = .ok (.iload_n 3, 1) := by decide +kernel
theorem dX8_isBest_12 : decode cX8_isBest 12 = .ok (.invokevirtual 147, 3) := by decide +kernel
theorem dX8_isBest_15 : decode cX8_isBest 15 = .ok (.aload_n 0, 1) := by decide +kernel
theorem dX8_isBest_16 : decode cX8_isBest 16 = .ok (.getfield 123, 3) := by decide +kernel
theorem dX8_isBest_19 : decode cX8_isBest 19 = .ok (.aload_n 0, 1) := by decide +kernel
theorem dX8_isBest_20 : decode cX8_isBest 20 = .ok (.getfield 171, 3) := by decide +kernel
theorem dX8_isBest_23 : decode cX8_isBest 23 = .ok (.lcmp, 1) := by decide +kernel
theorem dX8_isBest_24 : decode cX8_isBest 24 = .ok (.ifCond .ne 19, 3) := by decide +kernel
theorem dX8_isBest_27 : decode cX8_isBest 27 = .ok (.aload_n 0, 1) := by decide +kernel
theorem dX8_isBest_28 : decode cX8_isBest 28 = .ok (.getfield 127, 3) := by decide +kernel
theorem dX8_isBest_31 : decode cX8_isBest 31 = .ok (.aload_n 0, 1) := by decide +kernel
theorem dX8_isBest_32 : decode cX8_isBest 32 = .ok (.getfield 168, 3) := by decide +kernel
theorem dX8_isBest_35 : decode cX8_isBest 35 = .ok (.lcmp, 1) := by decide +kernel
theorem dX8_isBest_36 : decode cX8_isBest 36 = .ok (.ifCond .ne 7, 3) := by decide +kernel
theorem dX8_isBest_39 : decode cX8_isBest 39 = .ok (.iconst 1, 1) := by decide +kernel
theorem dX8_isBest_40 : decode cX8_isBest 40 = .ok (.goto 4, 3) := by decide +kernel
theorem dX8_isBest_43 : decode cX8_isBest 43 = .ok (.iconst 0, 1) := by decide +kernel
theorem dX8_isBest_44 : decode cX8_isBest 44 = .ok (.ireturn, 1) := by decide +kernel
theorem dX8_turned_0 : decode cX8_turned 0 = .ok (.iconst 4, 1) := by decide +kernel
theorem dX8_turned_1 : decode cX8_turned 1 = .ok (.iload_n 0, 1) := by decide +kernel
theorem dX8_turned_2 : decode cX8_turned 2 = .ok (.iconst 4, 1) := by decide +kernel
theorem dX8_turned_3 : decode cX8_turned 3 = .ok (.irem, 1) := by decide +kernel
theorem dX8_turned_4 : decode cX8_turned 4 = .ok (.imul, 1) := by decide +kernel
theorem dX8_turned_5 : decode cX8_turned 5 = .ok (.iload_n 0, 1) := by decide +kernel
theorem dX8_turned_6 : decode cX8_turned 6 = .ok (.iconst 4, 1) := by decide +kernel
theorem dX8_turned_7 : decode cX8_turned 7 = .ok (.idiv, 1) := by decide +kernel
theorem dX8_turned_8 : decode cX8_turned 8 = .ok (.iadd, 1) := by decide +kernel
theorem dX8_turned_9 : decode cX8_turned 9 = .ok (.ireturn, 1) := by decide +kernel
set_option maxRecDepth 20000 in
theorem ggX8_rests_X8_isBest : GoodIn wsX8_rests wsX8_isBest := goodIn_r _ [5, 6, 7, 8, 9, 10, 11, 12, 4, 13, 14, 15, 16, 17, 18, 19, 20, 21, 22, 23, 24, 25, 26, 27, 28, 29, 30, 31, 32, 33, 34, 35, 36, 37, 38, 39, 40, 41, 42, 43, 44, 45, 46, 47, 48, 49, 50, 51, 52, 53, 54, 55, 56, 57, 58, 59, 60, 61, 62, 63, 64, 65, 66, 67, 68, 69, 70, 71, 72, 76, 77, 78, 79, 80, 81, 82, 83, 84, 85, 86, 87, 88, 89, 90, 91, 92, 93, 94, 95, 96] (by decide +kernel) (by decide +kernel)
set_option maxRecDepth 20000 in
theorem gX8_rests_X8_isBest : GoodIn wsX8_rests (wsV RX8 177 RX8 yX8_isBest wsX8_isBest) := goodIn_app (goodIn_of _ (by decide +kernel)) ggX8_rests_X8_isBest
set_option maxRecDepth 20000 in
theorem ggX8_rests_X8_turned : GoodIn wsX8_rests wsX8_turned := goodIn_r _ [75] (by decide +kernel) (by decide +kernel)
set_option maxRecDepth 20000 in
theorem gX8_rests_X8_turned : GoodIn wsX8_rests (va_wsS RX8 181 yX8_turned wsX8_turned) := goodIn_app (goodIn_of _ (by decide +kernel)) ggX8_rests_X8_turned
theorem dX8_rests_0 : decode cX8_rests 0 = .ok (.aload_n 0, 1) := by decide +kernel
theorem dX8_rests_1 : decode cX8_rests 1 = .ok (.iload_n 1, 1) := by decide +kernel
theorem dX8_rests_2 : decode cX8_rests 2 = .ok (.iload_n 2, 1) := by decide +kernel
theorem dX8_rests_3 : decode cX8_rests 3 = .ok (.iload_n 3, 1) := by decide +kernel
theorem dX8_rests_4 : decode cX8_rests 4 = .ok (.invokevirtual 177, 3) := by decide +kernel
theorem dX8_rests_7 : decode cX8_rests 7 = .ok (.ifCond .eq 20, 3) := by decide +kernel
theorem dX8_rests_10 : decode cX8_rests 10 = .ok (.aload_n 0, 1) := by decide +kernel
theorem dX8_rests_11 : decode cX8_rests 11 = .ok (.iload_n 2, 1) := by decide +kernel
theorem dX8_rests_12 : decode cX8_rests 12 = .ok (.iload_n 1, 1) := by decide +kernel
theorem dX8_rests_13 : decode cX8_rests 13 = .ok (.iload_n 3, 1) := by decide +kernel
theorem dX8_rests_14 : decode cX8_rests 14 = .ok (.invokestatic 181, 3) := by decide +kernel
theorem dX8_rests_17 : decode cX8_rests 17 = .ok (.invokevirtual 177, 3) := by decide +kernel
theorem dX8_rests_20 : decode cX8_rests 20 = .ok (.ifCond .eq 7, 3) := by decide +kernel
theorem dX8_rests_23 : decode cX8_rests 23 = .ok (.iconst 1, 1) := by decide +kernel
theorem dX8_rests_24 : decode cX8_rests 24 = .ok (.goto 4, 3) := by decide +kernel
theorem dX8_rests_27 : decode cX8_rests 27 = .ok (.iconst 0, 1) := by decide +kernel
theorem dX8_rests_28 : decode cX8_rests 28 = .ok (.ireturn, 1) := by decide +kernel
set_option maxRecDepth 20000 in
theorem ggX8_rest_X8_areBoth : GoodIn wsX8_rest wsX8_areBoth := goodIn_r _ [5, 6, 7, 8, 4, 9, 10, 11, 12, 13, 92, 93, 94, 95, 96, 97, 98, 99, 100, 101, 102, 103, 104, 105, 106, 107, 108, 109, 110, 111, 112] (by decide +kernel) (by decide +kernel)
set_option maxRecDepth 20000 in
theorem gX8_rest_X8_areBoth : GoodIn wsX8_rest (wsV RX8 107 RX8 yX8_areBoth wsX8_areBoth) := goodIn_app (goodIn_of _ (by decide +kernel)) ggX8_rest_X8_areBoth
set_option maxRecDepth 20000 in
theorem ggX8_rest_X8_rests : GoodIn wsX8_rest wsX8_rests := goodIn_r _ [17, 18, 19, 20, 4, 21, 22, 23, 24, 25, 26, 27, 28, 29, 30, 31, 32, 33, 34, 35, 36, 37, 38, 39, 40, 41, 42, 43, 44, 45, 46, 47, 48, 49, 50, 51, 52, 53, 54, 55, 56, 57, 58, 59, 60, 61, 62, 63, 64, 65, 66, 67, 68, 69, 70, 71, 72, 73, 74, 75, 76, 77, 78, 79, 80, 81, 82, 83, 84, 85, 86, 87, 88, 89, 90, 91, 92, 93, 94, 95, 96, 97, 98, 99, 100, 101, 102, 103, 104, 105, 106, 107, 108, 109, 110, 111, 112] (by decide +kernel) (by decide +kernel)
set_option maxRecDepth 20000 in
theorem gX8_rest_X8_rests : GoodIn wsX8_rest (wsV RX8 184 RX8 yX8_rests wsX8_rests) := goodIn_app (goodIn_of _ (by decide +kernel)) ggX8_rest_X8_rests
theorem dX8_rest_0 : decode cX8_rest 0 = .ok (.aload_n 0, 1) := by decide +kernel
theorem dX8_rest_1 : decode cX8_rest 1 = .ok (.iload_n 1, 1) := by decide +kernel
theorem dX8_rest_2 : decode cX8_rest 2 = .ok (.iload_n 2, 1) := by decide +kernel
theorem dX8_rest_3 : decode cX8_rest 3 = .ok (.invokevirtual 107, 3) := by decide +kernel
theorem dX8_rest_6 : decode cX8_rest 6 = .ok (.ifCond .ne 7, 3) := by decide +kernel
theorem dX8_rest_9 : decode cX8_rest 9 = .ok (.iconst (-1), 1) := by decide +kernel
theorem dX8_rest_10 : decode cX8_rest 10 = .ok (.goto 18, 3) := by decide +kernel
theorem dX8_rest_13 : decode cX8_rest 13 = .ok (.aload_n 0, 1) := by decide +kernel
theorem dX8_rest_14 : decode cX8_rest 14 = .ok (.iload_n 1, 1) := by decide +kernel
theorem dX8_rest_15 : decode cX8_rest 15 = .ok (.iload_n 2, 1) := by decide +kernel
theorem dX8_rest_16 : decode cX8_rest 16 = .ok (.iconst 0, 1) := by decide +kernel
theorem dX8_rest_17 : decode cX8_rest 17 = .ok (.invokevirtual 184, 3) := by decide +kernel
theorem dX8_rest_20 : decode cX8_rest 20 = .ok (.ifCond .eq 7, 3) := by decide +kernel
theorem dX8_rest_23 : decode cX8_rest 23 = .ok (.iconst 1, 1) := by decide +kernel
theorem dX8_rest_24 : decode cX8_rest 24 = .ok (.goto 4, 3) := by decide +kernel
theorem dX8_rest_27 : decode cX8_rest 27 = .ok (.iconst 0, 1) := by decide +kernel
theorem dX8_rest_28 : decode cX8_rest 28 = .ok (.ireturn, 1) := by decide +kernel
set_option maxRecDepth 20000 in
theorem ggX8_firstThatMoves_X8_rests : GoodIn wsX8_firstThatMoves wsX8_rests := goodIn_r _ [6, 7, 8, 9, 5, 10, 11, 12, 13, 14, 15, 16, 17, 18, 19, 20, 21, 22, 23, 24, 1, 25, 26, 27, 28, 29, 30, 31, 32, 33, 34, 35, 36, 37, 38, 39, 40, 41, 42, 43, 44, 45, 46, 47, 48, 49, 50, 51, 52, 53, 54, 55, 56, 57, 58, 59, 60, 61, 62, 63, 64, 65, 66, 67, 68, 69, 70, 71, 72, 73, 74, 75, 76, 77, 78, 79, 80, 81, 82, 83, 84, 85, 86, 87, 88, 89, 90, 91, 92, 93, 94, 95, 96, 97, 98, 99, 100] (by decide +kernel) (by decide +kernel)
set_option maxRecDepth 20000 in
theorem gX8_firstThatMoves_X8_rests : GoodIn wsX8_firstThatMoves (wsV RX8 184 RX8 yX8_rests wsX8_rests) := goodIn_app (goodIn_of _ (by decide +kernel)) ggX8_firstThatMoves_X8_rests
theorem dX8_firstThatMoves_0 : decode cX8_firstThatMoves 0 = .ok (.iconst 0, 1) := by decide +kernel
theorem dX8_firstThatMoves_1 : decode cX8_firstThatMoves 1 = .ok (.istore_n 3, 1) := by decide +kernel
theorem dX8_firstThatMoves_2 : decode cX8_firstThatMoves 2 = .ok (.iload_n 3, 1) := by decide +kernel
theorem dX8_firstThatMoves_3 : decode cX8_firstThatMoves 3 = .ok (.aload_n 0, 1) := by decide +kernel
theorem dX8_firstThatMoves_4 : decode cX8_firstThatMoves 4 = .ok (.getfield 20, 3) := by decide +kernel
theorem dX8_firstThatMoves_7 : decode cX8_firstThatMoves 7 = .ok (.iload_n 1, 1) := by decide +kernel
theorem dX8_firstThatMoves_8 : decode cX8_firstThatMoves 8 = .ok (.iaload, 1) := by decide +kernel
theorem dX8_firstThatMoves_9 : decode cX8_firstThatMoves 9 = .ok (.if_icmp .ge 51, 3) := by decide +kernel
theorem dX8_firstThatMoves_12 : decode cX8_firstThatMoves 12 = .ok (.iconst 0, 1) := by decide +kernel
theorem dX8_firstThatMoves_13 : decode cX8_firstThatMoves 13 = .ok (.istore 4, 2) := by decide +kernel
theorem dX8_firstThatMoves_15 : decode cX8_firstThatMoves 15 = .ok (.iload 4, 2) := by decide +kernel
theorem dX8_firstThatMoves_17 : decode cX8_firstThatMoves 17 = .ok (.aload_n 0, 1) := by decide +kernel
theorem dX8_firstThatMoves_18 : decode cX8_firstThatMoves 18 = .ok (.getfield 20, 3) := by decide +kernel
theorem dX8_firstThatMoves_21 : decode cX8_firstThatMoves 21 = .ok (.iload_n 2, 1) := by decide +kernel
theorem dX8_firstThatMoves_22 : decode cX8_firstThatMoves 22 = .ok (.iaload, 1) := by decide +kernel
theorem dX8_firstThatMoves_23 : decode cX8_firstThatMoves 23 = .ok (.if_icmp .ge 31, 3) := by decide +kernel
theorem dX8_firstThatMoves_26 : decode cX8_firstThatMoves 26 = .ok (.aload_n 0, 1) := by decide +kernel
theorem dX8_firstThatMoves_27 : decode cX8_firstThatMoves 27 = .ok (.iload_n 1, 1) := by decide +kernel
theorem dX8_firstThatMoves_28 : decode cX8_firstThatMoves 28 = .ok (.iload_n 2, 1) := by decide +kernel
theorem dX8_firstThatMoves_29 : decode cX8_firstThatMoves 29 = .ok (.iconst 4, 1) := by decide +kernel
theorem dX8_firstThatMoves_30 : decode cX8_firstThatMoves 30 = .ok (.iload_n 3, 1) := by decide +kernel
theorem dX8_firstThatMoves_31 : decode cX8_firstThatMoves 31 = .ok (.imul, 1) := by decide +kernel
theorem dX8_firstThatMoves_32 : decode cX8_firstThatMoves 32 = .ok (.iload 4, 2) := by decide +kernel
theorem dX8_firstThatMoves_34 : decode cX8_firstThatMoves 34 = .ok (.iadd, 1) := by decide +kernel
theorem dX8_firstThatMoves_35 : decode cX8_firstThatMoves 35 = .ok (.invokevirtual 184, 3) := by decide +kernel
theorem dX8_firstThatMoves_38 : decode cX8_firstThatMoves 38 = .ok (.ifCond .ne 10, 3) := by decide +kernel
theorem dX8_firstThatMoves_41 : decode cX8_firstThatMoves 41 = .ok (.iconst 4, 1) := by decide +kernel
theorem dX8_firstThatMoves_42 : decode cX8_firstThatMoves 42 = .ok (.iload_n 3, 1) := by decide +kernel
theorem dX8_firstThatMoves_43 : decode cX8_firstThatMoves 43 = .ok (.imul, 1) := by decide +kernel
theorem dX8_firstThatMoves_44 : decode cX8_firstThatMoves 44 = .ok (.iload 4, 2) := by decide +kernel
theorem dX8_firstThatMoves_46 : decode cX8_firstThatMoves 46 = .ok (.iadd, 1) := by decide +kernel
theorem dX8_firstThatMoves_47 : decode cX8_firstThatMoves 47 = .ok (.ireturn, 1) := by decide +kernel
theorem dX8_firstThatMoves_48 : decode cX8_firstThatMoves 48 = .ok (.iinc 4 1, 3) := by decide +kernel
theorem dX8_firstThatMoves_51 : decode cX8_firstThatMoves 51 = .ok (.goto (-36), 3) := by decide +kernel
theorem dX8_firstThatMoves_54 : decode cX8_firstThatMoves 54 = .ok (.iinc 3 1, 3) := by decide +kernel
theorem dX8_firstThatMoves_57 : decode cX8_firstThatMoves 57 = .ok (.goto (-55), 3) := by decide +kernel
theorem dX8_firstThatMoves_60 : decode cX8_firstThatMoves 60 = .ok (.bipush (-4), 2) := by decide +kernel
theorem dX8_firstThatMoves_62 : decode cX8_firstThatMoves 62 = .ok (.ireturn, 1) := by decide +kernel
set_option maxRecDepth 20000 in
theorem ggX8_everywhere_X8_areBoth : GoodIn wsX8_everywhere wsX8_areBoth := goodIn_r _ [5, 6, 7, 8, 4, 9, 10, 11, 12, 13, 96, 97, 98, 99, 100, 101, 102, 103, 104, 105, 106, 107, 108, 109, 110, 111, 112, 113, 114, 115, 116] (by decide +kernel) (by decide +kernel)
set_option maxRecDepth 20000 in
theorem gX8_everywhere_X8_areBoth : GoodIn wsX8_everywhere (wsV RX8 107 RX8 yX8_areBoth wsX8_areBoth) := goodIn_app (goodIn_of _ (by decide +kernel)) ggX8_everywhere_X8_areBoth
set_option maxRecDepth 20000 in
theorem ggX8_everywhere_X8_firstThatMoves : GoodIn wsX8_everywhere wsX8_firstThatMoves := goodIn_r _ [17, 18, 19, 20, 21, 4, 22, 23, 24, 25, 26, 27, 28, 29, 30, 31, 32, 33, 34, 35, 36, 37, 38, 39, 40, 41, 42, 43, 44, 45, 46, 47, 48, 49, 50, 51, 52, 53, 54, 55, 56, 57, 58, 59, 60, 61, 62, 63, 64, 65, 66, 67, 68, 69, 70, 71, 72, 73, 74, 75, 76, 77, 78, 79, 80, 81, 82, 83, 84, 85, 86, 87, 88, 89, 90, 91, 92, 93, 94, 95, 96, 97, 98, 99, 100, 101, 102, 103, 104, 105, 106, 107, 108, 109, 110, 111, 112, 113, 114, 115, 116] (by decide +kernel) (by decide +kernel)
set_option maxRecDepth 20000 in
theorem gX8_everywhere_X8_firstThatMoves : GoodIn wsX8_everywhere (wsV RX8 187 RX8 yX8_firstThatMoves wsX8_firstThatMoves) := goodIn_app (goodIn_of _ (by decide +kernel)) ggX8_everywhere_X8_firstThatMoves
theorem dX8_everywhere_0 : decode cX8_everywhere 0 = .ok (.aload_n 0, 1) := by decide +kernel
theorem dX8_everywhere_1 : decode cX8_everywhere 1 = .ok (.iload_n 1, 1) := by decide +kernel
theorem dX8_everywhere_2 : decode cX8_everywhere 2 = .ok (.iload_n 2, 1) := by decide +kernel
theorem dX8_everywhere_3 : decode cX8_everywhere 3 = .ok (.invokevirtual 107, 3) := by decide +kernel
theorem dX8_everywhere_6 : decode cX8_everywhere 6 = .ok (.ifCond .ne 7, 3) := by decide +kernel
theorem dX8_everywhere_9 : decode cX8_everywhere 9 = .ok (.iconst (-1), 1) := by decide +kernel
theorem dX8_everywhere_10 : decode cX8_everywhere 10 = .ok (.goto 19, 3) := by decide +kernel
theorem dX8_everywhere_13 : decode cX8_everywhere 13 = .ok (.aload_n 0, 1) := by decide +kernel
theorem dX8_everywhere_14 : decode cX8_everywhere 14 = .ok (.iload_n 1, 1) := by decide +kernel
theorem dX8_everywhere_15 : decode cX8_everywhere 15 = .ok (.iload_n 2, 1) := by decide +kernel
theorem dX8_everywhere_16 : decode cX8_everywhere 16 = .ok (.invokevirtual 187, 3) := by decide +kernel
theorem dX8_everywhere_19 : decode cX8_everywhere 19 = .ok (.bipush (-4), 2) := by decide +kernel
theorem dX8_everywhere_21 : decode cX8_everywhere 21 = .ok (.if_icmp .ne 7, 3) := by decide +kernel
theorem dX8_everywhere_24 : decode cX8_everywhere 24 = .ok (.iconst 1, 1) := by decide +kernel
theorem dX8_everywhere_25 : decode cX8_everywhere 25 = .ok (.goto 4, 3) := by decide +kernel
theorem dX8_everywhere_28 : decode cX8_everywhere 28 = .ok (.iconst 0, 1) := by decide +kernel
theorem dX8_everywhere_29 : decode cX8_everywhere 29 = .ok (.ireturn, 1) := by decide +kernel
set_option maxRecDepth 20000 in
theorem ggX8_deviation_X8_areBoth : GoodIn wsX8_deviation wsX8_areBoth := goodIn_r _ [7, 8, 9, 10, 6, 11, 12, 13, 14, 15, 97, 98, 99, 100, 101, 102, 103, 104, 105, 106, 107, 108, 109, 110, 111, 112, 113, 114, 115, 116, 117] (by decide +kernel) (by decide +kernel)
set_option maxRecDepth 20000 in
theorem gX8_deviation_X8_areBoth : GoodIn wsX8_deviation (wsV RX8 107 RX8 yX8_areBoth wsX8_areBoth) := goodIn_app (goodIn_of _ (by decide +kernel)) ggX8_deviation_X8_areBoth
set_option maxRecDepth 20000 in
theorem ggX8_deviation_X8_in : GoodIn wsX8_deviation wsX8_in := goodIn_r _ [15] (by decide +kernel) (by decide +kernel)
set_option maxRecDepth 20000 in
theorem gX8_deviation_X8_in : GoodIn wsX8_deviation (va_wsS RX8 53 yX8_in wsX8_in) := goodIn_app (goodIn_of _ (by decide +kernel)) ggX8_deviation_X8_in
set_option maxRecDepth 20000 in
theorem ggX8_deviation_X8_firstThatMoves : GoodIn wsX8_deviation wsX8_firstThatMoves := goodIn_r _ [19, 20, 21, 22, 23, 6, 24, 25, 26, 27, 28, 29, 30, 31, 32, 33, 34, 35, 36, 2, 37, 38, 39, 40, 41, 42, 43, 44, 45, 46, 47, 48, 49, 50, 51, 52, 53, 54, 55, 56, 57, 58, 59, 60, 61, 62, 63, 64, 65, 66, 67, 68, 69, 70, 71, 72, 73, 74, 75, 76, 77, 78, 79, 80, 81, 82, 83, 84, 85, 86, 87, 88, 89, 90, 91, 92, 93, 94, 95, 96, 97, 98, 99, 100, 101, 102, 103, 104, 105, 106, 107, 108, 109, 110, 111, 112, 113, 114, 115, 116, 117] (by decide +kernel) (by decide +kernel)
set_option maxRecDepth 20000 in
theorem gX8_deviation_X8_firstThatMoves : GoodIn wsX8_deviation (wsV RX8 187 RX8 yX8_firstThatMoves wsX8_firstThatMoves) := goodIn_app (goodIn_of _ (by decide +kernel)) ggX8_deviation_X8_firstThatMoves
set_option maxRecDepth 20000 in
theorem ggX8_deviation_X8_isBest : GoodIn wsX8_deviation wsX8_isBest := goodIn_r _ [28, 29, 30, 31, 32, 33, 34, 35, 6, 36, 2, 37, 38, 39, 40, 41, 20, 42, 43, 44, 45, 46, 47, 48, 49, 50, 51, 52, 53, 54, 55, 56, 57, 58, 59, 60, 61, 62, 63, 64, 65, 66, 67, 68, 69, 70, 71, 72, 73, 74, 75, 76, 77, 78, 79, 80, 81, 82, 83, 84, 85, 86, 87, 88, 89, 90, 91, 92, 93, 97, 98, 99, 100, 101, 102, 103, 104, 105, 106, 107, 108, 109, 110, 111, 112, 113, 114, 115, 116, 117] (by decide +kernel) (by decide +kernel)
set_option maxRecDepth 20000 in
theorem gX8_deviation_X8_isBest : GoodIn wsX8_deviation (wsV RX8 177 RX8 yX8_isBest wsX8_isBest) := goodIn_app (goodIn_of _ (by decide +kernel)) ggX8_deviation_X8_isBest
set_option maxRecDepth 20000 in
theorem ggX8_deviation_X8_findBest : GoodIn wsX8_deviation wsX8_findBest := goodIn_r _ [36, 2, 29, 32, 30, 31, 37, 38, 39, 6, 40, 41, 20, 42, 43, 44, 45, 46, 47, 48, 49, 50, 51, 52, 53, 54, 55, 56, 57, 58, 59, 60, 61, 62, 63, 64, 65, 97, 98, 99, 100, 101, 102, 103, 104, 105, 106, 107, 108, 109, 110, 111, 112, 113, 114, 115, 116, 117] (by decide +kernel) (by decide +kernel)
set_option maxRecDepth 20000 in
theorem gX8_deviation_X8_findBest : GoodIn wsX8_deviation (wsV RX8 174 RX8 yX8_findBest wsX8_findBest) := goodIn_app (goodIn_of _ (by decide +kernel)) ggX8_deviation_X8_findBest
theorem dX8_deviation_0 : decode cX8_deviation 0 = .ok (.aload_n 0, 1) := by decide +kernel
theorem dX8_deviation_1 : decode cX8_deviation 1 = .ok (.iload_n 1, 1) := by decide +kernel
theorem dX8_deviation_2 : decode cX8_deviation 2 = .ok (.iload_n 2, 1) := by decide +kernel
theorem dX8_deviation_3 : decode cX8_deviation 3 = .ok (.invokevirtual 107, 3) := by decide +kernel
theorem dX8_deviation_6 : decode cX8_deviation 6 = .ok (.ifCond .eq 15, 3) := by decide +kernel
theorem dX8_deviation_9 : decode cX8_deviation 9 = .ok (.iload_n 3, 1) := by decide +kernel
theorem dX8_deviation_10 : decode cX8_deviation 10 = .ok (.i2l, 1) := by decide +kernel
theorem dX8_deviation_11 : decode cX8_deviation 11 = .ok (.lconst 0, 1) := by decide +kernel
theorem dX8_deviation_12 : decode cX8_deviation 12 = .ok (.ldc2_w 51, 3) := by decide +kernel
theorem dX8_deviation_15 : decode cX8_deviation 15 = .ok (.invokestatic 53, 3) := by decide +kernel
theorem dX8_deviation_18 : decode cX8_deviation 18 = .ok (.ifCond .ne 5, 3) := by decide +kernel
theorem dX8_deviation_21 : decode cX8_deviation 21 = .ok (.iconst (-1), 1) := by decide +kernel
theorem dX8_deviation_22 : decode cX8_deviation 22 = .ok (.ireturn, 1) := by decide +kernel
theorem dX8_deviation_23 : decode cX8_deviation 23 = .ok (.aload_n 0, 1) := by decide +kernel
theorem dX8_deviation_24 : decode cX8_deviation 24 = .ok (.iload_n 1, 1) := by decide +kernel
theorem dX8_deviation_25 : decode cX8_deviation 25 = .ok (.iload_n 2, 1) := by decide +kernel
theorem dX8_deviation_26 : decode cX8_deviation 26 = .ok (.invokevirtual 187, 3) := by decide +kernel
theorem dX8_deviation_29 : decode cX8_deviation 29 = .ok (.istore 4, 2) := by decide +kernel
theorem dX8_deviation_31 : decode cX8_deviation 31 = .ok (.iload 4, 2) := by decide +kernel
theorem dX8_deviation_33 : decode cX8_deviation 33 = .ok (.bipush (-4), 2) := by decide +kernel
theorem dX8_deviation_35 : decode cX8_deviation 35 = .ok (.if_icmp .eq 7, 3) := by decide +kernel
theorem dX8_deviation_38 : decode cX8_deviation 38 = .ok (.iload_n 3, 1) := by decide +kernel
theorem dX8_deviation_39 : decode cX8_deviation 39 = .ok (.ifCond .ne 6, 3) := by decide +kernel
theorem dX8_deviation_42 : decode cX8_deviation 42 = .ok (.iload 4, 2) := by decide +kernel
theorem dX8_deviation_44 : decode cX8_deviation 44 = .ok (.ireturn, 1) := by decide +kernel
theorem dX8_deviation_45 : decode cX8_deviation 45 = .ok (.aload_n 0, 1) := by decide +kernel
theorem dX8_deviation_46 : decode cX8_deviation 46 = .ok (.iload_n 1, 1) := by decide +kernel
theorem dX8_deviation_47 : decode cX8_deviation 47 = .ok (.iload_n 2, 1) := by decide +kernel
theorem dX8_deviation_48 : decode cX8_deviation 48 = .ok (.iload 4, 2) := by decide +kernel
theorem dX8_deviation_50 : decode cX8_deviation 50 = .ok (.invokevirtual 177, 3) := by decide +kernel
theorem dX8_deviation_53 : decode cX8_deviation 53 = .ok (.istore 5, 2) := by decide +kernel
theorem dX8_deviation_55 : decode cX8_deviation 55 = .ok (.iload 5, 2) := by decide +kernel
theorem dX8_deviation_57 : decode cX8_deviation 57 = .ok (.ifCond .eq 12, 3) := by decide +kernel
theorem dX8_deviation_60 : decode cX8_deviation 60 = .ok (.aload_n 0, 1) := by decide +kernel
theorem dX8_deviation_61 : decode cX8_deviation 61 = .ok (.iload_n 1, 1) := by decide +kernel
theorem dX8_deviation_62 : decode cX8_deviation 62 = .ok (.iload 4, 2) := by decide +kernel
theorem dX8_deviation_64 : decode cX8_deviation 64 = .ok (.iconst 4, 1) := by decide +kernel
theorem dX8_deviation_65 : decode cX8_deviation 65 = .ok (.idiv, 1) := by decide +kernel
theorem dX8_deviation_66 : decode cX8_deviation 66 = .ok (.invokevirtual 174, 3) := by decide +kernel
theorem dX8_deviation_69 : decode cX8_deviation 69 = .ok (.iload_n 3, 1) := by decide +kernel
theorem dX8_deviation_70 : decode cX8_deviation 70 = .ok (.iconst 1, 1) := by decide +kernel
theorem dX8_deviation_71 : decode cX8_deviation 71 = .ok (.if_icmp .ne 16, 3) := by decide +kernel
theorem dX8_deviation_74 : decode cX8_deviation 74 = .ok (.iload 5, 2) := by decide +kernel
theorem dX8_deviation_76 : decode cX8_deviation 76 = .ok (.ifCond .eq 7, 3) := by decide +kernel
theorem dX8_deviation_79 : decode cX8_deviation 79 = .ok (.iconst 1, 1) := by decide +kernel
theorem dX8_deviation_80 : decode cX8_deviation 80 = .ok (.goto 11, 3) := by decide +kernel
theorem dX8_deviation_83 : decode cX8_deviation 83 = .ok (.iconst 0, 1) := by decide +kernel
theorem dX8_deviation_84 : decode cX8_deviation 84 = .ok (.goto 7, 3) := by decide +kernel
theorem dX8_deviation_87 : decode cX8_deviation 87 = .ok (.aload_n 0, 1) := by decide +kernel
theorem dX8_deviation_88 : decode cX8_deviation 88 = .ok (.getfield 159, 3) := by decide +kernel
theorem dX8_deviation_91 : decode cX8_deviation 91 = .ok (.ireturn, 1) := by decide +kernel
set_option maxRecDepth 20000 in
theorem ggX8_compare_X8_findWorth : GoodIn wsX8_compare wsX8_findWorth := goodIn_r _ [7, 8, 9, 10, 6, 11, 12, 13, 14, 15, 16, 17, 18, 19, 20, 21, 22, 23, 24, 25, 26, 27, 28, 29, 30, 31, 32, 33, 34, 35, 36, 37, 38, 39, 40, 41, 42, 43, 44, 45, 46, 47, 48, 49, 50, 51, 1, 2, 52, 53, 54, 55, 56, 57, 58, 59, 60, 61, 62, 63, 64, 65, 66, 67, 68, 69, 70, 71, 72] (by decide +kernel) (by decide +kernel)
set_option maxRecDepth 20000 in
theorem gX8_compare_X8_findWorth : GoodIn wsX8_compare (wsV RX8 147 RX8 yX8_findWorth wsX8_findWorth) := goodIn_app (goodIn_of _ (by decide +kernel)) ggX8_compare_X8_findWorth
theorem dX8_compare_0 : decode cX8_compare 0 = .ok (.aload_n 0, 1) := by decide +kernel
theorem dX8_compare_1 : decode cX8_compare 1 = .ok (.iload_n 1, 1) := by decide +kernel
theorem dX8_compare_2 : decode cX8_compare 2 = .ok (.iload_n 2, 1) := by decide +kernel
theorem dX8_compare_3 : decode cX8_compare 3 = .ok (.iconst 0, 1) := by decide +kernel
theorem dX8_compare_4 : decode cX8_compare 4 = .ok (.invokevirtual 147, 3) := by decide +kernel
theorem dX8_compare_7 : decode cX8_compare 7 = .ok (.aload_n 0, 1) := by decide +kernel
theorem dX8_compare_8 : decode cX8_compare 8 = .ok (.getfield 123, 3) := by decide +kernel
theorem dX8_compare_11 : decode cX8_compare 11 = .ok (.lstore 5, 2) := by decide +kernel
theorem dX8_compare_13 : decode cX8_compare 13 = .ok (.aload_n 0, 1) := by decide +kernel
theorem dX8_compare_14 : decode cX8_compare 14 = .ok (.getfield 127, 3) := by decide +kernel
theorem dX8_compare_17 : decode cX8_compare 17 = .ok (.lstore 7, 2) := by decide +kernel
theorem dX8_compare_19 : decode cX8_compare 19 = .ok (.aload_n 0, 1) := by decide +kernel
theorem dX8_compare_20 : decode cX8_compare 20 = .ok (.iload_n 3, 1) := by decide +kernel
theorem dX8_compare_21 : decode cX8_compare 21 = .ok (.iload 4, 2) := by decide +kernel
theorem dX8_compare_23 : decode cX8_compare 23 = .ok (.iconst 0, 1) := by decide +kernel
theorem dX8_compare_24 : decode cX8_compare 24 = .ok (.invokevirtual 147, 3) := by decide +kernel
theorem dX8_compare_27 : decode cX8_compare 27 = .ok (.lload 5, 2) := by decide +kernel
theorem dX8_compare_29 : decode cX8_compare 29 = .ok (.aload_n 0, 1) := by decide +kernel
theorem dX8_compare_30 : decode cX8_compare 30 = .ok (.getfield 127, 3) := by decide +kernel
theorem dX8_compare_33 : decode cX8_compare 33 = .ok (.lmul, 1) := by decide +kernel
theorem dX8_compare_34 : decode cX8_compare 34 = .ok (.lstore 9, 2) := by decide +kernel
theorem dX8_compare_36 : decode cX8_compare 36 = .ok (.aload_n 0, 1) := by decide +kernel
theorem dX8_compare_37 : decode cX8_compare 37 = .ok (.getfield 123, 3) := by decide +kernel
theorem dX8_compare_40 : decode cX8_compare 40 = .ok (.lload 7, 2) := by decide +kernel
theorem dX8_compare_42 : decode cX8_compare 42 = .ok (.lmul, 1) := by decide +kernel
theorem dX8_compare_43 : decode cX8_compare 43 = .ok (.lstore 11, 2) := by decide +kernel
theorem dX8_compare_45 : decode cX8_compare 45 = .ok (.lload 9, 2) := by decide +kernel
theorem dX8_compare_47 : decode cX8_compare 47 = .ok (.lload 11, 2) := by decide +kernel
theorem dX8_compare_49 : decode cX8_compare 49 = .ok (.lcmp, 1) := by decide +kernel
theorem dX8_compare_50 : decode cX8_compare 50 = .ok (.ifCond .le 7, 3) := by decide +kernel
theorem dX8_compare_53 : decode cX8_compare 53 = .ok (.iconst 1, 1) := by decide +kernel
theorem dX8_compare_54 : decode cX8_compare 54 = .ok (.goto 16, 3) := by decide +kernel
theorem dX8_compare_57 : decode cX8_compare 57 = .ok (.lload 9, 2) := by decide +kernel
theorem dX8_compare_59 : decode cX8_compare 59 = .ok (.lload 11, 2) := by decide +kernel
theorem dX8_compare_61 : decode cX8_compare 61 = .ok (.lcmp, 1) := by decide +kernel
theorem dX8_compare_62 : decode cX8_compare 62 = .ok (.ifCond .ge 7, 3) := by decide +kernel
theorem dX8_compare_65 : decode cX8_compare 65 = .ok (.iconst (-1), 1) := by decide +kernel
theorem dX8_compare_66 : decode cX8_compare 66 = .ok (.goto 4, 3) := by decide +kernel
theorem dX8_compare_69 : decode cX8_compare 69 = .ok (.iconst 0, 1) := by decide +kernel
theorem dX8_compare_70 : decode cX8_compare 70 = .ok (.ireturn, 1) := by decide +kernel
set_option maxRecDepth 20000 in
theorem ggX8_doesResist_X8_compare : GoodIn wsX8_doesResist wsX8_compare := goodIn_r _ [5, 6, 7, 8, 9, 10, 4, 11, 12, 13, 14, 15, 16, 17, 18, 19, 20, 21, 22, 23, 24, 25, 26, 27, 28, 29, 30, 31, 32, 33, 34, 35, 36, 37, 38, 39, 40, 41, 42, 43, 44, 45, 46, 47, 48, 49, 50, 51, 52, 53, 54, 55, 56, 57, 58, 59, 60, 61, 62, 63, 64, 65, 66, 67, 68, 69, 70, 71, 72, 73, 74, 75, 76] (by decide +kernel) (by decide +kernel)
set_option maxRecDepth 20000 in
theorem gX8_doesResist_X8_compare : GoodIn wsX8_doesResist (wsV RX8 190 RX8 yX8_compare wsX8_compare) := goodIn_app (goodIn_of _ (by decide +kernel)) ggX8_doesResist_X8_compare
theorem dX8_doesResist_0 : decode cX8_doesResist 0 = .ok (.aload_n 0, 1) := by decide +kernel
theorem dX8_doesResist_1 : decode cX8_doesResist 1 = .ok (.iload_n 1, 1) := by decide +kernel
theorem dX8_doesResist_2 : decode cX8_doesResist 2 = .ok (.iload_n 1, 1) := by decide +kernel
theorem dX8_doesResist_3 : decode cX8_doesResist 3 = .ok (.iload_n 2, 1) := by decide +kernel
theorem dX8_doesResist_4 : decode cX8_doesResist 4 = .ok (.iload_n 1, 1) := by decide +kernel
theorem dX8_doesResist_5 : decode cX8_doesResist 5 = .ok (.invokevirtual 190, 3) := by decide +kernel
theorem dX8_doesResist_8 : decode cX8_doesResist 8 = .ok (.istore_n 3, 1) := by decide +kernel
theorem dX8_doesResist_9 : decode cX8_doesResist 9 = .ok (.iload_n 3, 1) := by decide +kernel
theorem dX8_doesResist_10 : decode cX8_doesResist 10 = .ok (.ifCond .gt 18, 3) := by decide +kernel
theorem dX8_doesResist_13 : decode cX8_doesResist 13 = .ok (.iload_n 3, 1) := by decide +kernel
theorem dX8_doesResist_14 : decode cX8_doesResist 14 = .ok (.ifCond .ne 18, 3) := by decide +kernel
theorem dX8_doesResist_17 : decode cX8_doesResist 17 = .ok (.aload_n 0, 1) := by decide +kernel
theorem dX8_doesResist_18 : decode cX8_doesResist 18 = .ok (.iload_n 1, 1) := by decide +kernel
theorem dX8_doesResist_19 : decode cX8_doesResist 19 = .ok (.iload_n 2, 1) := by decide +kernel
theorem dX8_doesResist_20 : decode cX8_doesResist 20 = .ok (.iload_n 2, 1) := by decide +kernel
theorem dX8_doesResist_21 : decode cX8_doesResist 21 = .ok (.iload_n 2, 1) := by decide +kernel
theorem dX8_doesResist_22 : decode cX8_doesResist 22 = .ok (.invokevirtual 190, 3) := by decide +kernel
theorem dX8_doesResist_25 : decode cX8_doesResist 25 = .ok (.ifCond .le 7, 3) := by decide +kernel
theorem dX8_doesResist_28 : decode cX8_doesResist 28 = .ok (.iconst 1, 1) := by decide +kernel
theorem dX8_doesResist_29 : decode cX8_doesResist 29 = .ok (.goto 4, 3) := by decide +kernel
theorem dX8_doesResist_32 : decode cX8_doesResist 32 = .ok (.iconst 0, 1) := by decide +kernel
theorem dX8_doesResist_33 : decode cX8_doesResist 33 = .ok (.ireturn, 1) := by decide +kernel
set_option maxRecDepth 20000 in
theorem ggX8_resists_X8_areBoth : GoodIn wsX8_resists wsX8_areBoth := goodIn_r _ [5, 6, 7, 8, 4, 9, 10, 11, 12, 13, 72, 73, 74, 75, 76, 77, 78, 79, 80, 81, 82, 83, 84, 85, 86, 87, 88, 89, 90, 91, 92] (by decide +kernel) (by decide +kernel)
set_option maxRecDepth 20000 in
theorem gX8_resists_X8_areBoth : GoodIn wsX8_resists (wsV RX8 107 RX8 yX8_areBoth wsX8_areBoth) := goodIn_app (goodIn_of _ (by decide +kernel)) ggX8_resists_X8_areBoth
set_option maxRecDepth 20000 in
theorem ggX8_resists_X8_doesResist : GoodIn wsX8_resists wsX8_doesResist := goodIn_r _ [17, 18, 19, 20, 4, 21, 22, 23, 24, 25, 26, 27, 28, 29, 30, 31, 32, 33, 34, 35, 36, 37, 38, 39, 40, 41, 42, 43, 44, 45, 46, 47, 48, 49, 50, 51, 52, 53, 54, 55, 56, 57, 58, 59, 60, 61, 62, 63, 64, 65, 66, 67, 68, 69, 70, 71, 72, 73, 74, 75, 76, 77, 78, 79, 80, 81, 82, 83, 84, 85, 86, 87, 88, 89, 90, 91, 92] (by decide +kernel) (by decide +kernel)
set_option maxRecDepth 20000 in
theorem gX8_resists_X8_doesResist : GoodIn wsX8_resists (wsV RX8 194 RX8 yX8_doesResist wsX8_doesResist) := goodIn_app (goodIn_of _ (by decide +kernel)) ggX8_resists_X8_doesResist
theorem dX8_resists_0 : decode cX8_resists 0 = .ok (.aload_n 0, 1) := by decide +kernel
theorem dX8_resists_1 : decode cX8_resists 1 = .ok (.iload_n 2, 1) := by decide +kernel
theorem dX8_resists_2 : decode cX8_resists 2 = .ok (.iload_n 1, 1) := by decide +kernel
theorem dX8_resists_3 : decode cX8_resists 3 = .ok (.invokevirtual 107, 3) := by decide +kernel
theorem dX8_resists_6 : decode cX8_resists 6 = .ok (.ifCond .eq 8, 3) := by decide +kernel
theorem dX8_resists_9 : decode cX8_resists 9 = .ok (.iload_n 2, 1) := by decide +kernel
theorem dX8_resists_10 : decode cX8_resists 10 = .ok (.iload_n 1, 1) := by decide +kernel
theorem dX8_resists_11 : decode cX8_resists 11 = .ok (.if_icmp .ne 7, 3) := by decide +kernel
theorem dX8_resists_14 : decode cX8_resists 14 = .ok (.iconst (-1), 1) := by decide +kernel
theorem dX8_resists_15 : decode cX8_resists 15 = .ok (.goto 17, 3) := by decide +kernel
theorem dX8_resists_18 : decode cX8_resists 18 = .ok (.aload_n 0, 1) := by decide +kernel
theorem dX8_resists_19 : decode cX8_resists 19 = .ok (.iload_n 1, 1) := by decide +kernel
theorem dX8_resists_20 : decode cX8_resists 20 = .ok (.iload_n 2, 1) := by decide +kernel
theorem dX8_resists_21 : decode cX8_resists 21 = .ok (.invokevirtual 194, 3) := by decide +kernel
theorem dX8_resists_24 : decode cX8_resists 24 = .ok (.ifCond .eq 7, 3) := by decide +kernel
theorem dX8_resists_27 : decode cX8_resists 27 = .ok (.iconst 1, 1) := by decide +kernel
theorem dX8_resists_28 : decode cX8_resists 28 = .ok (.goto 4, 3) := by decide +kernel
theorem dX8_resists_31 : decode cX8_resists 31 = .ok (.iconst 0, 1) := by decide +kernel
theorem dX8_resists_32 : decode cX8_resists 32 = .ok (.ireturn, 1) := by decide +kernel
set_option maxRecDepth 20000 in
theorem ggX8_invaders_X8_isMachine : GoodIn wsX8_invaders wsX8_isMachine := goodIn_r _ [6, 1, 7, 8, 5, 9, 68, 69, 70, 71, 72, 73, 74, 75, 76, 77, 78, 79, 80, 81, 82, 83, 84, 85, 86, 87, 88] (by decide +kernel) (by decide +kernel)
set_option maxRecDepth 20000 in
theorem gX8_invaders_X8_isMachine : GoodIn wsX8_invaders (wsV RX8 66 RX8 yX8_isMachine wsX8_isMachine) := goodIn_app (goodIn_of _ (by decide +kernel)) ggX8_invaders_X8_isMachine
set_option maxRecDepth 20000 in
theorem ggX8_invaders_X8_doesResist : GoodIn wsX8_invaders wsX8_doesResist := goodIn_r _ [13, 14, 15, 16, 5, 17, 18, 19, 20, 21, 22, 23, 24, 25, 26, 27, 28, 29, 30, 31, 32, 33, 34, 35, 36, 37, 38, 39, 40, 41, 42, 43, 44, 45, 46, 47, 48, 49, 50, 51, 52, 53, 54, 55, 56, 57, 58, 59, 60, 61, 62, 63, 64, 65, 66, 67, 68, 69, 70, 71, 72, 73, 74, 75, 76, 77, 78, 79, 80, 81, 82, 83, 84, 85, 86, 87, 88] (by decide +kernel) (by decide +kernel)
set_option maxRecDepth 20000 in
theorem gX8_invaders_X8_doesResist : GoodIn wsX8_invaders (wsV RX8 194 RX8 yX8_doesResist wsX8_doesResist) := goodIn_app (goodIn_of _ (by decide +kernel)) ggX8_invaders_X8_doesResist
theorem dX8_invaders_0 : decode cX8_invaders 0 = .ok (.aload_n 0, 1) := by decide +kernel
theorem dX8_invaders_1 : decode cX8_invaders 1 = .ok (.iload_n 1, 1) := by decide +kernel
theorem dX8_invaders_2 : decode cX8_invaders 2 = .ok (.invokevirtual 66, 3) := by decide +kernel
theorem dX8_invaders_5 : decode cX8_invaders 5 = .ok (.ifCond .ne 5, 3) := by decide +kernel
theorem dX8_invaders_8 : decode cX8_invaders 8 = .ok (.iconst (-1), 1) := by decide +kernel
theorem dX8_invaders_9 : decode cX8_invaders 9 = .ok (.ireturn, 1) := by decide +kernel
theorem dX8_invaders_10 : decode cX8_invaders 10 = .ok (.iconst 0, 1) := by decide +kernel
theorem dX8_invaders_11 : decode cX8_invaders 11 = .ok (.istore_n 2, 1) := by decide +kernel
theorem dX8_invaders_12 : decode cX8_invaders 12 = .ok (.iconst 0, 1) := by decide +kernel
theorem dX8_invaders_13 : decode cX8_invaders 13 = .ok (.istore_n 3, 1) := by decide +kernel
theorem dX8_invaders_14 : decode cX8_invaders 14 = .ok (.iload_n 3, 1) := by decide +kernel
theorem dX8_invaders_15 : decode cX8_invaders 15 = .ok (.aload_n 0, 1) := by decide +kernel
theorem dX8_invaders_16 : decode cX8_invaders 16 = .ok (.getfield 63, 3) := by decide +kernel
theorem dX8_invaders_19 : decode cX8_invaders 19 = .ok (.if_icmp .ge 33, 3) := by decide +kernel
theorem dX8_invaders_22 : decode cX8_invaders 22 = .ok (.iload_n 2, 1) := by decide +kernel
theorem dX8_invaders_23 : decode cX8_invaders 23 = .ok (.iload_n 3, 1) := by decide +kernel
theorem dX8_invaders_24 : decode cX8_invaders 24 = .ok (.iload_n 1, 1) := by decide +kernel
theorem dX8_invaders_25 : decode cX8_invaders 25 = .ok (.if_icmp .eq 18, 3) := by decide +kernel
theorem dX8_invaders_28 : decode cX8_invaders 28 = .ok (.aload_n 0, 1) := by decide +kernel
theorem dX8_invaders_29 : decode cX8_invaders 29 = .ok (.iload_n 1, 1) := by decide +kernel
theorem dX8_invaders_30 : decode cX8_invaders 30 = .ok (.iload_n 3, 1) := by decide +kernel
theorem dX8_invaders_31 : decode cX8_invaders 31 = .ok (.invokevirtual 194, 3) := by decide +kernel
theorem dX8_invaders_34 : decode cX8_invaders 34 = .ok (.ifCond .ne 9, 3) := by decide +kernel
theorem dX8_invaders_37 : decode cX8_invaders 37 = .ok (.iconst 1, 1) := by decide +kernel
theorem dX8_invaders_38 : decode cX8_invaders 38 = .ok (.iload_n 3, 1) := by decide +kernel
theorem dX8_invaders_39 : decode cX8_invaders 39 = .ok (.ishl, 1) := by decide +kernel
theorem dX8_invaders_40 : decode cX8_invaders 40 = .ok (.goto 4, 3) := by decide +kernel
theorem dX8_invaders_43 : decode cX8_invaders 43 = .ok (.iconst 0, 1) := by decide +kernel
theorem dX8_invaders_44 : decode cX8_invaders 44 = .ok (.iadd, 1) := by decide +kernel
theorem dX8_invaders_45 : decode cX8_invaders 45 = .ok (.istore_n 2, 1) := by decide +kernel
theorem dX8_invaders_46 : decode cX8_invaders 46 = .ok (.iinc 3 1, 3) := by decide +kernel
theorem dX8_invaders_49 : decode cX8_invaders 49 = .ok (.goto (-35), 3) := by decide +kernel
theorem dX8_invaders_52 : decode cX8_invaders 52 = .ok (.iload_n 2, 1) := by decide +kernel
theorem dX8_invaders_53 : decode cX8_invaders 53 = .ok (.ireturn, 1) := by decide +kernel
set_option maxRecDepth 20000 in
theorem ggX8_scoreOf_X8_sumUp : GoodIn wsX8_scoreOf wsX8_sumUp := goodIn_r _ [6, 7, 8, 9, 5, 10, 11, 12, 13, 14, 15, 16, 17, 18, 19, 20, 21, 22, 23, 24, 25, 26, 27, 28, 29, 30, 31, 32, 33, 34, 35, 36, 37, 38, 39, 40, 41, 42, 43, 44, 45, 46, 47, 48, 49, 50] (by decide +kernel) (by decide +kernel)
set_option maxRecDepth 20000 in
theorem gX8_scoreOf_X8_sumUp : GoodIn wsX8_scoreOf (wsV RX8 120 RX8 yX8_sumUp wsX8_sumUp) := goodIn_app (goodIn_of _ (by decide +kernel)) ggX8_scoreOf_X8_sumUp
theorem dX8_scoreOf_0 : decode cX8_scoreOf 0 = .ok (.iconst 0, 1) := by decide +kernel
theorem dX8_scoreOf_1 : decode cX8_scoreOf 1 = .ok (.istore_n 3, 1) := by decide +kernel
theorem dX8_scoreOf_2 : decode cX8_scoreOf 2 = .ok (.iconst 0, 1) := by decide +kernel
theorem dX8_scoreOf_3 : decode cX8_scoreOf 3 = .ok (.istore 4, 2) := by decide +kernel
theorem dX8_scoreOf_5 : decode cX8_scoreOf 5 = .ok (.iload 4, 2) := by decide +kernel
theorem dX8_scoreOf_7 : decode cX8_scoreOf 7 = .ok (.aload_n 0, 1) := by decide +kernel
theorem dX8_scoreOf_8 : decode cX8_scoreOf 8 = .ok (.getfield 63, 3) := by decide +kernel
theorem dX8_scoreOf_11 : decode cX8_scoreOf 11 = .ok (.if_icmp .ge 20, 3) := by decide +kernel
theorem dX8_scoreOf_14 : decode cX8_scoreOf 14 = .ok (.iload_n 3, 1) := by decide +kernel
theorem dX8_scoreOf_15 : decode cX8_scoreOf 15 = .ok (.aload_n 0, 1) := by decide +kernel
theorem dX8_scoreOf_16 : decode cX8_scoreOf 16 = .ok (.iload_n 1, 1) := by decide +kernel
theorem dX8_scoreOf_17 : decode cX8_scoreOf 17 = .ok (.iload 4, 2) := by decide +kernel
theorem dX8_scoreOf_19 : decode cX8_scoreOf 19 = .ok (.iload_n 2, 1) := by decide +kernel
theorem dX8_scoreOf_20 : decode cX8_scoreOf 20 = .ok (.invokevirtual 120, 3) := by decide +kernel
theorem dX8_scoreOf_23 : decode cX8_scoreOf 23 = .ok (.iadd, 1) := by decide +kernel
theorem dX8_scoreOf_24 : decode cX8_scoreOf 24 = .ok (.istore_n 3, 1) := by decide +kernel
theorem dX8_scoreOf_25 : decode cX8_scoreOf 25 = .ok (.iinc 4 1, 3) := by decide +kernel
theorem dX8_scoreOf_28 : decode cX8_scoreOf 28 = .ok (.goto (-23), 3) := by decide +kernel
theorem dX8_scoreOf_31 : decode cX8_scoreOf 31 = .ok (.iload_n 3, 1) := by decide +kernel
theorem dX8_scoreOf_32 : decode cX8_scoreOf 32 = .ok (.ireturn, 1) := by decide +kernel
set_option maxRecDepth 20000 in
theorem ggX8_score_X8_isMachine : GoodIn wsX8_score wsX8_isMachine := goodIn_r _ [7, 8, 9, 10, 6, 11, 43, 44, 45, 46, 47, 48, 49, 50, 51, 52, 53, 54, 55, 56, 57, 58, 59, 60, 61, 62, 63] (by decide +kernel) (by decide +kernel)
set_option maxRecDepth 20000 in
theorem gX8_score_X8_isMachine : GoodIn wsX8_score (wsV RX8 66 RX8 yX8_isMachine wsX8_isMachine) := goodIn_app (goodIn_of _ (by decide +kernel)) ggX8_score_X8_isMachine
set_option maxRecDepth 20000 in
theorem ggX8_score_X8_in : GoodIn wsX8_score wsX8_in := goodIn_r _ [11] (by decide +kernel) (by decide +kernel)
set_option maxRecDepth 20000 in
theorem gX8_score_X8_in : GoodIn wsX8_score (va_wsS RX8 53 yX8_in wsX8_in) := goodIn_app (goodIn_of _ (by decide +kernel)) ggX8_score_X8_in
set_option maxRecDepth 20000 in
theorem ggX8_score_X8_scoreOf : GoodIn wsX8_score wsX8_scoreOf := goodIn_r _ [15, 8, 16, 17, 18, 6, 19, 20, 21, 22, 23, 24, 25, 26, 27, 28, 29, 30, 31, 32, 33, 34, 35, 36, 37, 38, 39, 40, 41, 42, 43, 44, 45, 46, 47, 48, 49, 50, 51, 52, 53, 54, 55, 56, 57, 58, 59, 60, 61, 62, 63] (by decide +kernel) (by decide +kernel)
set_option maxRecDepth 20000 in
theorem gX8_score_X8_scoreOf : GoodIn wsX8_score (wsV RX8 197 RX8 yX8_scoreOf wsX8_scoreOf) := goodIn_app (goodIn_of _ (by decide +kernel)) ggX8_score_X8_scoreOf
theorem dX8_score_0 : decode cX8_score 0 = .ok (.aload_n 0, 1) := by decide +kernel
theorem dX8_score_1 : decode cX8_score 1 = .ok (.iload_n 1, 1) := by decide +kernel
theorem dX8_score_2 : decode cX8_score 2 = .ok (.invokevirtual 66, 3) := by decide +kernel
theorem dX8_score_5 : decode cX8_score 5 = .ok (.ifCond .eq 24, 3) := by decide +kernel
theorem dX8_score_8 : decode cX8_score 8 = .ok (.iload_n 2, 1) := by decide +kernel
theorem dX8_score_9 : decode cX8_score 9 = .ok (.i2l, 1) := by decide +kernel
theorem dX8_score_10 : decode cX8_score 10 = .ok (.lconst 0, 1) := by decide +kernel
theorem dX8_score_11 : decode cX8_score 11 = .ok (.ldc2_w 110, 3) := by decide +kernel
theorem dX8_score_14 : decode cX8_score 14 = .ok (.invokestatic 53, 3) := by decide +kernel
theorem dX8_score_17 : decode cX8_score 17 = .ok (.ifCond .eq 12, 3) := by decide +kernel
theorem dX8_score_20 : decode cX8_score 20 = .ok (.aload_n 0, 1) := by decide +kernel
theorem dX8_score_21 : decode cX8_score 21 = .ok (.iload_n 1, 1) := by decide +kernel
theorem dX8_score_22 : decode cX8_score 22 = .ok (.iload_n 2, 1) := by decide +kernel
theorem dX8_score_23 : decode cX8_score 23 = .ok (.invokevirtual 197, 3) := by decide +kernel
theorem dX8_score_26 : decode cX8_score 26 = .ok (.goto 5, 3) := by decide +kernel
theorem dX8_score_29 : decode cX8_score 29 = .ok (.ldc 112, 2) := by decide +kernel
theorem dX8_score_31 : decode cX8_score 31 = .ok (.ireturn, 1) := by decide +kernel
set_option maxRecDepth 20000 in
theorem ggX8_place_X8_in : GoodIn wsX8_place wsX8_in := goodIn_r _ [7] (by decide +kernel) (by decide +kernel)
set_option maxRecDepth 20000 in
theorem gX8_place_X8_in : GoodIn wsX8_place (va_wsS RX8 53 yX8_in wsX8_in) := goodIn_app (goodIn_of _ (by decide +kernel)) ggX8_place_X8_in
set_option maxRecDepth 20000 in
theorem ggX8_place_X8_scoreOf : GoodIn wsX8_place wsX8_scoreOf := goodIn_r _ [11, 2, 12, 13, 14, 6, 15, 16, 17, 18, 19, 20, 21, 22, 23, 24, 25, 26, 27, 28, 29, 30, 31, 32, 33, 34, 35, 36, 37, 38, 39, 40, 41, 42, 43, 44, 45, 46, 47, 48, 49, 50, 51, 52, 53, 54, 55, 56, 57, 58, 59] (by decide +kernel) (by decide +kernel)
set_option maxRecDepth 20000 in
theorem gX8_place_X8_scoreOf : GoodIn wsX8_place (wsV RX8 197 RX8 yX8_scoreOf wsX8_scoreOf) := goodIn_app (goodIn_of _ (by decide +kernel)) ggX8_place_X8_scoreOf
theorem dX8_place_0 : decode cX8_place 0 = .ok (.iload_n 1, 1) := by decide +kernel
theorem dX8_place_1 : decode cX8_place 1 = .ok (.ifCond .lt 15, 3) := by decide +kernel
theorem dX8_place_4 : decode cX8_place 4 = .ok (.iload_n 2, 1) := by decide +kernel
theorem dX8_place_5 : decode cX8_place 5 = .ok (.i2l, 1) := by decide +kernel
theorem dX8_place_6 : decode cX8_place 6 = .ok (.lconst 0, 1) := by decide +kernel
theorem dX8_place_7 : decode cX8_place 7 = .ok (.ldc2_w 110, 3) := by decide +kernel
theorem dX8_place_10 : decode cX8_place 10 = .ok (.invokestatic 53, 3) := by decide +kernel
theorem dX8_place_13 : decode cX8_place 13 = .ok (.ifCond .ne 5, 3) := by decide +kernel
theorem dX8_place_16 : decode cX8_place 16 = .ok (.iconst (-1), 1) := by decide +kernel
theorem dX8_place_17 : decode cX8_place 17 = .ok (.ireturn, 1) := by decide +kernel
theorem dX8_place_18 : decode cX8_place 18 = .ok (.iconst 0, 1) := by decide +kernel
theorem dX8_place_19 : decode cX8_place 19 = .ok (.istore_n 3, 1) := by decide +kernel
theorem dX8_place_20 : decode cX8_place 20 = .ok (.iload_n 3, 1) := by decide +kernel
theorem dX8_place_21 : decode cX8_place 21 = .ok (.aload_n 0, 1) := by decide +kernel
theorem dX8_place_22 : decode cX8_place 22 = .ok (.getfield 63, 3) := by decide +kernel
theorem dX8_place_25 : decode cX8_place 25 = .ok (.if_icmp .ge 21, 3) := by decide +kernel
theorem dX8_place_28 : decode cX8_place 28 = .ok (.aload_n 0, 1) := by decide +kernel
theorem dX8_place_29 : decode cX8_place 29 = .ok (.getfield 48, 3) := by decide +kernel
theorem dX8_place_32 : decode cX8_place 32 = .ok (.iload_n 3, 1) := by decide +kernel
theorem dX8_place_33 : decode cX8_place 33 = .ok (.aload_n 0, 1) := by decide +kernel
theorem dX8_place_34 : decode cX8_place 34 = .ok (.iload_n 3, 1) := by decide +kernel
theorem dX8_place_35 : decode cX8_place 35 = .ok (.iload_n 2, 1) := by decide +kernel
theorem dX8_place_36 : decode cX8_place 36 = .ok (.invokevirtual 197, 3) := by decide +kernel
theorem dX8_place_39 : decode cX8_place 39 = .ok (.iastore, 1) := by decide +kernel
theorem dX8_place_40 : decode cX8_place 40 = .ok (.iinc 3 1, 3) := by decide +kernel
theorem dX8_place_43 : decode cX8_place 43 = .ok (.goto (-23), 3) := by decide +kernel
theorem dX8_place_46 : decode cX8_place 46 = .ok (.iconst 0, 1) := by decide +kernel
theorem dX8_place_47 : decode cX8_place 47 = .ok (.istore_n 3, 1) := by decide +kernel
theorem dX8_place_48 : decode cX8_place 48 = .ok (.iload_n 3, 1) := by decide +kernel
theorem dX8_place_49 : decode cX8_place 49 = .ok (.aload_n 0, 1) := by decide +kernel
theorem dX8_place_50 : decode cX8_place 50 = .ok (.getfield 63, 3) := by decide +kernel
theorem dX8_place_53 : decode cX8_place 53 = .ok (.if_icmp .ge 86, 3) := by decide +kernel
theorem dX8_place_56 : decode cX8_place 56 = .ok (.iconst 0, 1) := by decide +kernel
theorem dX8_place_57 : decode cX8_place 57 = .ok (.istore 4, 2) := by decide +kernel
theorem dX8_place_59 : decode cX8_place 59 = .ok (.iconst 0, 1) := by decide +kernel
theorem dX8_place_60 : decode cX8_place 60 = .ok (.istore 5, 2) := by decide +kernel
theorem dX8_place_62 : decode cX8_place 62 = .ok (.iload 5, 2) := by decide +kernel
theorem dX8_place_64 : decode cX8_place 64 = .ok (.aload_n 0, 1) := by decide +kernel
theorem dX8_place_65 : decode cX8_place 65 = .ok (.getfield 63, 3) := by decide +kernel
theorem dX8_place_68 : decode cX8_place 68 = .ok (.if_icmp .ge 57, 3) := by decide +kernel
theorem dX8_place_71 : decode cX8_place 71 = .ok (.iload 4, 2) := by decide +kernel
theorem dX8_place_73 : decode cX8_place 73 = .ok (.aload_n 0, 1) := by decide +kernel
theorem dX8_place_74 : decode cX8_place 74 = .ok (.getfield 48, 3) := by decide +kernel
theorem dX8_place_77 : decode cX8_place 77 = .ok (.iload 5, 2) := by decide +kernel
theorem dX8_place_79 : decode cX8_place 79 = .ok (.iaload, 1) := by decide +kernel
theorem dX8_place_80 : decode cX8_place 80 = .ok (.aload_n 0, 1) := by decide +kernel
theorem dX8_place_81 : decode cX8_place 81 = .ok (.getfield 48, 3) := by decide +kernel
theorem dX8_place_84 : decode cX8_place 84 = .ok (.iload_n 3, 1) := by decide +kernel
theorem dX8_place_85 : decode cX8_place 85 = .ok (.iaload, 1) := by decide +kernel
theorem dX8_place_86 : decode cX8_place 86 = .ok (.if_icmp .gt 25, 3) := by decide +kernel
theorem dX8_place_89 : decode cX8_place 89 = .ok (.aload_n 0, 1) := by decide +kernel
theorem dX8_place_90 : decode cX8_place 90 = .ok (.getfield 48, 3) := by decide +kernel
theorem dX8_place_93 : decode cX8_place 93 = .ok (.iload 5, 2) := by decide +kernel
theorem dX8_place_95 : decode cX8_place 95 = .ok (.iaload, 1) := by decide +kernel
theorem dX8_place_96 : decode cX8_place 96 = .ok (.aload_n 0, 1) := by decide +kernel
theorem dX8_place_97 : decode cX8_place 97 = .ok (.getfield 48, 3) := by decide +kernel
theorem dX8_place_100 : decode cX8_place 100 = .ok (.iload_n 3, 1) := by decide +kernel
theorem dX8_place_101 : decode cX8_place 101 = .ok (.iaload, 1) := by decide +kernel
theorem dX8_place_102 : decode cX8_place 102 = .ok (.if_icmp .ne 13, 3) := by decide +kernel
theorem dX8_place_105 : decode cX8_place 105 = .ok (.iload 5, 2) := by decide +kernel
theorem dX8_place_107 : decode cX8_place 107 = .ok (.iload_n 3, 1) := by decide +kernel
theorem dX8_place_108 : decode cX8_place 108 = .ok (.if_icmp .ge 7, 3) := by decide +kernel
theorem dX8_place_111 : decode cX8_place 111 = .ok (.iconst 1, 1) := by decide +kernel
theorem dX8_place_112 : decode cX8_place 112 = .ok (.goto 4, 3) := by decide +kernel
theorem dX8_place_115 : decode cX8_place 115 = .ok (.iconst 0, 1) := by decide +kernel
theorem dX8_place_116 : decode cX8_place 116 = .ok (.iadd, 1) := by decide +kernel
theorem dX8_place_117 : decode cX8_place 117 = .ok (.istore 4, 2) := by decide +kernel
theorem dX8_place_119 : decode cX8_place 119 = .ok (.iinc 5 1, 3) := by decide +kernel
theorem dX8_place_122 : decode cX8_place 122 = .ok (.goto (-60), 3) := by decide +kernel
theorem dX8_place_125 : decode cX8_place 125 = .ok (.iload 4, 2) := by decide +kernel
theorem dX8_place_127 : decode cX8_place 127 = .ok (.iload_n 1, 1) := by decide +kernel
theorem dX8_place_128 : decode cX8_place 128 = .ok (.if_icmp .ne 5, 3) := by decide +kernel
theorem dX8_place_131 : decode cX8_place 131 = .ok (.iload_n 3, 1) := by decide +kernel
theorem dX8_place_132 : decode cX8_place 132 = .ok (.ireturn, 1) := by decide +kernel
theorem dX8_place_133 : decode cX8_place 133 = .ok (.iinc 3 1, 3) := by decide +kernel
theorem dX8_place_136 : decode cX8_place 136 = .ok (.goto (-88), 3) := by decide +kernel
theorem dX8_place_139 : decode cX8_place 139 = .ok (.bipush (-4), 2) := by decide +kernel
theorem dX8_place_141 : decode cX8_place 141 = .ok (.ireturn, 1) := by decide +kernel
set_option maxRecDepth 20000 in
theorem ggX8_count_X8_areLike : GoodIn wsX8_count wsX8_areLike := goodIn_r _ [8, 9, 10, 11, 12, 7, 13, 14, 15, 16, 92, 93, 94, 95, 96, 97, 98, 99, 100, 101, 102, 103, 104, 105, 106, 107, 108, 109, 110, 111, 112] (by decide +kernel) (by decide +kernel)
set_option maxRecDepth 20000 in
theorem gX8_count_X8_areLike : GoodIn wsX8_count (wsV RX8 156 RX8 yX8_areLike wsX8_areLike) := goodIn_app (goodIn_of _ (by decide +kernel)) ggX8_count_X8_areLike
set_option maxRecDepth 20000 in
theorem ggX8_count_X8_rests : GoodIn wsX8_count wsX8_rests := goodIn_r _ [20, 21, 22, 23, 7, 24, 25, 26, 27, 28, 29, 30, 31, 32, 33, 34, 35, 36, 37, 38, 14, 39, 40, 41, 42, 43, 44, 45, 46, 47, 48, 15, 16, 49, 50, 51, 52, 53, 54, 55, 56, 57, 58, 59, 60, 61, 62, 63, 64, 65, 66, 67, 68, 69, 70, 71, 72, 73, 74, 75, 76, 77, 78, 79, 80, 81, 82, 83, 84, 85, 86, 87, 88, 89, 90, 91, 92, 93, 94, 95, 96, 97, 98, 99, 100, 101, 102, 103, 104, 105, 106, 107, 108, 109, 110, 111, 112] (by decide +kernel) (by decide +kernel)
set_option maxRecDepth 20000 in
theorem gX8_count_X8_rests : GoodIn wsX8_count (wsV RX8 184 RX8 yX8_rests wsX8_rests) := goodIn_app (goodIn_of _ (by decide +kernel)) ggX8_count_X8_rests
theorem dX8_count_0 : decode cX8_count 0 = .ok (.iload_n 1, 1) := by decide +kernel
theorem dX8_count_1 : decode cX8_count 1 = .ok (.iconst 1, 1) := by decide +kernel
theorem dX8_count_2 : decode cX8_count 2 = .ok (.if_icmp .ne 76, 3) := by decide +kernel
theorem dX8_count_5 : decode cX8_count 5 = .ok (.iconst 0, 1) := by decide +kernel
theorem dX8_count_6 : decode cX8_count 6 = .ok (.istore_n 2, 1) := by decide +kernel
theorem dX8_count_7 : decode cX8_count 7 = .ok (.iconst 0, 1) := by decide +kernel
theorem dX8_count_8 : decode cX8_count 8 = .ok (.istore_n 3, 1) := by decide +kernel
theorem dX8_count_9 : decode cX8_count 9 = .ok (.iload_n 3, 1) := by decide +kernel
theorem dX8_count_10 : decode cX8_count 10 = .ok (.aload_n 0, 1) := by decide +kernel
theorem dX8_count_11 : decode cX8_count 11 = .ok (.getfield 63, 3) := by decide +kernel
theorem dX8_count_14 : decode cX8_count 14 = .ok (.if_icmp .ge 62, 3) := by decide +kernel
theorem dX8_count_17 : decode cX8_count 17 = .ok (.iconst 1, 1) := by decide +kernel
theorem dX8_count_18 : decode cX8_count 18 = .ok (.istore 4, 2) := by decide +kernel
theorem dX8_count_20 : decode cX8_count 20 = .ok (.iconst 0, 1) := by decide +kernel
theorem dX8_count_21 : decode cX8_count 21 = .ok (.istore 5, 2) := by decide +kernel
theorem dX8_count_23 : decode cX8_count 23 = .ok (.iload 5, 2) := by decide +kernel
theorem dX8_count_25 : decode cX8_count 25 = .ok (.iload_n 3, 1) := by decide +kernel
theorem dX8_count_26 : decode cX8_count 26 = .ok (.if_icmp .ge 31, 3) := by decide +kernel
theorem dX8_count_29 : decode cX8_count 29 = .ok (.iload 4, 2) := by decide +kernel
theorem dX8_count_31 : decode cX8_count 31 = .ok (.ifCond .eq 17, 3) := by decide +kernel
theorem dX8_count_34 : decode cX8_count 34 = .ok (.aload_n 0, 1) := by decide +kernel
theorem dX8_count_35 : decode cX8_count 35 = .ok (.iload_n 3, 1) := by decide +kernel
theorem dX8_count_36 : decode cX8_count 36 = .ok (.iload 5, 2) := by decide +kernel
theorem dX8_count_38 : decode cX8_count 38 = .ok (.invokevirtual 156, 3) := by decide +kernel
theorem dX8_count_41 : decode cX8_count 41 = .ok (.ifCond .ne 7, 3) := by decide +kernel
theorem dX8_count_44 : decode cX8_count 44 = .ok (.iconst 1, 1) := by decide +kernel
theorem dX8_count_45 : decode cX8_count 45 = .ok (.goto 4, 3) := by decide +kernel
theorem dX8_count_48 : decode cX8_count 48 = .ok (.iconst 0, 1) := by decide +kernel
theorem dX8_count_49 : decode cX8_count 49 = .ok (.istore 4, 2) := by decide +kernel
theorem dX8_count_51 : decode cX8_count 51 = .ok (.iinc 5 1, 3) := by decide +kernel
theorem dX8_count_54 : decode cX8_count 54 = .ok (.goto (-31), 3) := by decide +kernel
theorem dX8_count_57 : decode cX8_count 57 = .ok (.iload_n 2, 1) := by decide +kernel
theorem dX8_count_58 : decode cX8_count 58 = .ok (.iload 4, 2) := by decide +kernel
theorem dX8_count_60 : decode cX8_count 60 = .ok (.ifCond .eq 7, 3) := by decide +kernel
theorem dX8_count_63 : decode cX8_count 63 = .ok (.iconst 1, 1) := by decide +kernel
theorem dX8_count_64 : decode cX8_count 64 = .ok (.goto 4, 3) := by decide +kernel
theorem dX8_count_67 : decode cX8_count 67 = .ok (.iconst 0, 1) := by decide +kernel
theorem dX8_count_68 : decode cX8_count 68 = .ok (.iadd, 1) := by decide +kernel
theorem dX8_count_69 : decode cX8_count 69 = .ok (.istore_n 2, 1) := by decide +kernel
theorem dX8_count_70 : decode cX8_count 70 = .ok (.iinc 3 1, 3) := by decide +kernel
theorem dX8_count_73 : decode cX8_count 73 = .ok (.goto (-64), 3) := by decide +kernel
theorem dX8_count_76 : decode cX8_count 76 = .ok (.iload_n 2, 1) := by decide +kernel
theorem dX8_count_77 : decode cX8_count 77 = .ok (.ireturn, 1) := by decide +kernel
theorem dX8_count_78 : decode cX8_count 78 = .ok (.iload_n 1, 1) := by decide +kernel
theorem dX8_count_79 : decode cX8_count 79 = .ok (.iconst 2, 1) := by decide +kernel
theorem dX8_count_80 : decode cX8_count 80 = .ok (.if_icmp .ne 60, 3) := by decide +kernel
theorem dX8_count_83 : decode cX8_count 83 = .ok (.iconst 0, 1) := by decide +kernel
theorem dX8_count_84 : decode cX8_count 84 = .ok (.istore_n 2, 1) := by decide +kernel
theorem dX8_count_85 : decode cX8_count 85 = .ok (.iconst 0, 1) := by decide +kernel
theorem dX8_count_86 : decode cX8_count 86 = .ok (.istore_n 3, 1) := by decide +kernel
theorem dX8_count_87 : decode cX8_count 87 = .ok (.iload_n 3, 1) := by decide +kernel
theorem dX8_count_88 : decode cX8_count 88 = .ok (.aload_n 0, 1) := by decide +kernel
theorem dX8_count_89 : decode cX8_count 89 = .ok (.getfield 63, 3) := by decide +kernel
theorem dX8_count_92 : decode cX8_count 92 = .ok (.if_icmp .ge 46, 3) := by decide +kernel
theorem dX8_count_95 : decode cX8_count 95 = .ok (.iload_n 3, 1) := by decide +kernel
theorem dX8_count_96 : decode cX8_count 96 = .ok (.istore 4, 2) := by decide +kernel
theorem dX8_count_98 : decode cX8_count 98 = .ok (.iload 4, 2) := by decide +kernel
theorem dX8_count_100 : decode cX8_count 100 = .ok (.aload_n 0, 1) := by decide +kernel
theorem dX8_count_101 : decode cX8_count 101 = .ok (.getfield 63, 3) := by decide +kernel
theorem dX8_count_104 : decode cX8_count 104 = .ok (.if_icmp .ge 28, 3) := by decide +kernel
theorem dX8_count_107 : decode cX8_count 107 = .ok (.iload_n 2, 1) := by decide +kernel
theorem dX8_count_108 : decode cX8_count 108 = .ok (.aload_n 0, 1) := by decide +kernel
theorem dX8_count_109 : decode cX8_count 109 = .ok (.iload_n 3, 1) := by decide +kernel
theorem dX8_count_110 : decode cX8_count 110 = .ok (.iload 4, 2) := by decide +kernel
theorem dX8_count_112 : decode cX8_count 112 = .ok (.iconst 0, 1) := by decide +kernel
theorem dX8_count_113 : decode cX8_count 113 = .ok (.invokevirtual 184, 3) := by decide +kernel
theorem dX8_count_116 : decode cX8_count 116 = .ok (.ifCond .eq 7, 3) := by decide +kernel
theorem dX8_count_119 : decode cX8_count 119 = .ok (.iconst 1, 1) := by decide +kernel
theorem dX8_count_120 : decode cX8_count 120 = .ok (.goto 4, 3) := by decide +kernel
theorem dX8_count_123 : decode cX8_count 123 = .ok (.iconst 0, 1) := by decide +kernel
theorem dX8_count_124 : decode cX8_count 124 = .ok (.iadd, 1) := by decide +kernel
theorem dX8_count_125 : decode cX8_count 125 = .ok (.istore_n 2, 1) := by decide +kernel
theorem dX8_count_126 : decode cX8_count 126 = .ok (.iinc 4 1, 3) := by decide +kernel
theorem dX8_count_129 : decode cX8_count 129 = .ok (.goto (-31), 3) := by decide +kernel
theorem dX8_count_132 : decode cX8_count 132 = .ok (.iinc 3 1, 3) := by decide +kernel
theorem dX8_count_135 : decode cX8_count 135 = .ok (.goto (-48), 3) := by decide +kernel
theorem dX8_count_138 : decode cX8_count 138 = .ok (.iload_n 2, 1) := by decide +kernel
theorem dX8_count_139 : decode cX8_count 139 = .ok (.ireturn, 1) := by decide +kernel
theorem dX8_count_140 : decode cX8_count 140 = .ok (.iload_n 1, 1) := by decide +kernel
theorem dX8_count_141 : decode cX8_count 141 = .ok (.ifCond .ne 10, 3) := by decide +kernel
theorem dX8_count_144 : decode cX8_count 144 = .ok (.aload_n 0, 1) := by decide +kernel
theorem dX8_count_145 : decode cX8_count 145 = .ok (.getfield 63, 3) := by decide +kernel
theorem dX8_count_148 : decode cX8_count 148 = .ok (.goto 34, 3) := by decide +kernel
theorem dX8_count_151 : decode cX8_count 151 = .ok (.iload_n 1, 1) := by decide +kernel
theorem dX8_count_152 : decode cX8_count 152 = .ok (.iconst 3, 1) := by decide +kernel
theorem dX8_count_153 : decode cX8_count 153 = .ok (.if_icmp .ne 28, 3) := by decide +kernel
theorem dX8_count_156 : decode cX8_count 156 = .ok (.aload_n 0, 1) := by decide +kernel
theorem dX8_count_157 : decode cX8_count 157 = .ok (.getfield 29, 3) := by decide +kernel
theorem dX8_count_160 : decode cX8_count 160 = .ok (.iconst 0, 1) := by decide +kernel
theorem dX8_count_161 : decode cX8_count 161 = .ok (.iaload, 1) := by decide +kernel
theorem dX8_count_162 : decode cX8_count 162 = .ok (.bipush (-4), 2) := by decide +kernel
theorem dX8_count_164 : decode cX8_count 164 = .ok (.if_icmp .ne 8, 3) := by decide +kernel
theorem dX8_count_167 : decode cX8_count 167 = .ok (.bipush (-4), 2) := by decide +kernel
theorem dX8_count_169 : decode cX8_count 169 = .ok (.goto 13, 3) := by decide +kernel
theorem dX8_count_172 : decode cX8_count 172 = .ok (.aload_n 0, 1) := by decide +kernel
theorem dX8_count_173 : decode cX8_count 173 = .ok (.getfield 32, 3) := by decide +kernel
theorem dX8_count_176 : decode cX8_count 176 = .ok (.iconst 0, 1) := by decide +kernel
theorem dX8_count_177 : decode cX8_count 177 = .ok (.iaload, 1) := by decide +kernel
theorem dX8_count_178 : decode cX8_count 178 = .ok (.goto 4, 3) := by decide +kernel
theorem dX8_count_181 : decode cX8_count 181 = .ok (.iconst (-1), 1) := by decide +kernel
theorem dX8_count_182 : decode cX8_count 182 = .ok (.ireturn, 1) := by decide +kernel
theorem dJ13_compare_74951_0 : decode cJ13_compare_74951 0 = .ok (.lload_n 0, 1) := by decide +kernel
theorem dJ13_compare_74951_1 : decode cJ13_compare_74951 1 = .ok (.lload_n 2, 1) := by decide +kernel
theorem dJ13_compare_74951_2 : decode cJ13_compare_74951 2 = .ok (.lcmp, 1) := by decide +kernel
theorem dJ13_compare_74951_3 : decode cJ13_compare_74951 3 = .ok (.ifCond .ge 7, 3) := by decide +kernel
theorem dJ13_compare_74951_6 : decode cJ13_compare_74951 6 = .ok (.iconst (-1), 1) := by decide +kernel
theorem dJ13_compare_74951_7 : decode cJ13_compare_74951 7 = .ok (.goto 14, 3) := by decide +kernel
theorem dJ13_compare_74951_10 : decode cJ13_compare_74951 10 = .ok (.lload_n 0, 1) := by decide +kernel
theorem dJ13_compare_74951_11 : decode cJ13_compare_74951 11 = .ok (.lload_n 2, 1) := by decide +kernel
theorem dJ13_compare_74951_12 : decode cJ13_compare_74951 12 = .ok (.lcmp, 1) := by decide +kernel
theorem dJ13_compare_74951_13 : decode cJ13_compare_74951 13 = .ok (.ifCond .ne 7, 3) := by decide +kernel
theorem dJ13_compare_74951_16 : decode cJ13_compare_74951 16 = .ok (.iconst 0, 1) := by decide +kernel
theorem dJ13_compare_74951_17 : decode cJ13_compare_74951 17 = .ok (.goto 4, 3) := by decide +kernel
theorem dJ13_compare_74951_20 : decode cJ13_compare_74951 20 = .ok (.iconst 1, 1) := by decide +kernel
theorem dJ13_compare_74951_21 : decode cJ13_compare_74951 21 = .ok (.ireturn, 1) := by decide +kernel
theorem dJ9_abs_067f4_0 : decode cJ9_abs_067f4 0 = .ok (.lload_n 0, 1) := by decide +kernel
theorem dJ9_abs_067f4_1 : decode cJ9_abs_067f4 1 = .ok (.lconst 0, 1) := by decide +kernel
theorem dJ9_abs_067f4_2 : decode cJ9_abs_067f4 2 = .ok (.lcmp, 1) := by decide +kernel
theorem dJ9_abs_067f4_3 : decode cJ9_abs_067f4 3 = .ok (.ifCond .ge 8, 3) := by decide +kernel
theorem dJ9_abs_067f4_6 : decode cJ9_abs_067f4 6 = .ok (.lload_n 0, 1) := by decide +kernel
theorem dJ9_abs_067f4_7 : decode cJ9_abs_067f4 7 = .ok (.lneg, 1) := by decide +kernel
theorem dJ9_abs_067f4_8 : decode cJ9_abs_067f4 8 = .ok (.goto 4, 3) := by decide +kernel
theorem dJ9_abs_067f4_11 : decode cJ9_abs_067f4 11 = .ok (.lload_n 0, 1) := by decide +kernel
theorem dJ9_abs_067f4_12 : decode cJ9_abs_067f4 12 = .ok (.lreturn, 1) := by decide +kernel
theorem dJ7_rangeCheck_23922_0 : decode cJ7_rangeCheck_23922 0 = .ok (.iload_n 1, 1) := by decide +kernel
theorem dJ7_rangeCheck_23922_1 : decode cJ7_rangeCheck_23922 1 = .ok (.iload_n 2, 1) := by decide +kernel
theorem dJ7_rangeCheck_23922_2 : decode cJ7_rangeCheck_23922 2 = .ok (.if_icmp .le 44, 3) := by decide +kernel
theorem dJ7_rangeCheck_23922_5 : decode cJ7_rangeCheck_23922 5 = .ok (.new 43, 3) := by decide +kernel
theorem dJ7_rangeCheck_23922_8 : decode cJ7_rangeCheck_23922 8 = .ok (.dup, 1) := by decide +kernel
theorem dJ7_rangeCheck_23922_9 : decode cJ7_rangeCheck_23922 9 = .ok (.new 45, 3) := by decide +kernel
theorem dJ7_rangeCheck_23922_12 : decode cJ7_rangeCheck_23922 12 = .ok (.dup, 1) := by decide +kernel
theorem dJ7_rangeCheck_23922_13 : decode cJ7_rangeCheck_23922 13 = .ok (.invokespecial 47, 3) := by decide +kernel
theorem dJ7_rangeCheck_23922_16 : decode cJ7_rangeCheck_23922 16 = .ok (.ldc 48, 2) := by decide +kernel
theorem dJ7_rangeCheck_23922_18 : decode cJ7_rangeCheck_23922 18 = .ok (.invokevirtual 50, 3) := by decide +kernel
theorem dJ7_rangeCheck_23922_21 : decode cJ7_rangeCheck_23922 21 = .ok (.iload_n 1, 1) := by decide +kernel
theorem dJ7_rangeCheck_23922_22 : decode cJ7_rangeCheck_23922 22 = .ok (.invokevirtual 54, 3) := by decide +kernel
theorem dJ7_rangeCheck_23922_25 : decode cJ7_rangeCheck_23922 25 = .ok (.ldc 57, 2) := by decide +kernel
theorem dJ7_rangeCheck_23922_27 : decode cJ7_rangeCheck_23922 27 = .ok (.invokevirtual 50, 3) := by decide +kernel
theorem dJ7_rangeCheck_23922_30 : decode cJ7_rangeCheck_23922 30 = .ok (.iload_n 2, 1) := by decide +kernel
theorem dJ7_rangeCheck_23922_31 : decode cJ7_rangeCheck_23922 31 = .ok (.invokevirtual 54, 3) := by decide +kernel
theorem dJ7_rangeCheck_23922_34 : decode cJ7_rangeCheck_23922 34 = .ok (.ldc 59, 2) := by decide +kernel
theorem dJ7_rangeCheck_23922_36 : decode cJ7_rangeCheck_23922 36 = .ok (.invokevirtual 50, 3) := by decide +kernel
theorem dJ7_rangeCheck_23922_39 : decode cJ7_rangeCheck_23922 39 = .ok (.invokevirtual 61, 3) := by decide +kernel
theorem dJ7_rangeCheck_23922_42 : decode cJ7_rangeCheck_23922 42 = .ok (.invokespecial 65, 3) := by decide +kernel
theorem dJ7_rangeCheck_23922_45 : decode cJ7_rangeCheck_23922 45 = .ok (.athrow, 1) := by decide +kernel
theorem dJ7_rangeCheck_23922_46 : decode cJ7_rangeCheck_23922 46 = .ok (.iload_n 1, 1) := by decide +kernel
theorem dJ7_rangeCheck_23922_47 : decode cJ7_rangeCheck_23922 47 = .ok (.ifCond .ge 12, 3) := by decide +kernel
theorem dJ7_rangeCheck_23922_50 : decode cJ7_rangeCheck_23922 50 = .ok (.new 68, 3) := by decide +kernel
theorem dJ7_rangeCheck_23922_53 : decode cJ7_rangeCheck_23922 53 = .ok (.dup, 1) := by decide +kernel
theorem dJ7_rangeCheck_23922_54 : decode cJ7_rangeCheck_23922 54 = .ok (.iload_n 1, 1) := by decide +kernel
theorem dJ7_rangeCheck_23922_55 : decode cJ7_rangeCheck_23922 55 = .ok (.invokespecial 70, 3) := by decide +kernel
theorem dJ7_rangeCheck_23922_58 : decode cJ7_rangeCheck_23922 58 = .ok (.athrow, 1) := by decide +kernel
theorem dJ7_rangeCheck_23922_59 : decode cJ7_rangeCheck_23922 59 = .ok (.iload_n 2, 1) := by decide +kernel
theorem dJ7_rangeCheck_23922_60 : decode cJ7_rangeCheck_23922 60 = .ok (.iload_n 0, 1) := by decide +kernel
theorem dJ7_rangeCheck_23922_61 : decode cJ7_rangeCheck_23922 61 = .ok (.if_icmp .le 12, 3) := by decide +kernel
theorem dJ7_rangeCheck_23922_64 : decode cJ7_rangeCheck_23922 64 = .ok (.new 68, 3) := by decide +kernel
theorem dJ7_rangeCheck_23922_67 : decode cJ7_rangeCheck_23922 67 = .ok (.dup, 1) := by decide +kernel
theorem dJ7_rangeCheck_23922_68 : decode cJ7_rangeCheck_23922 68 = .ok (.iload_n 2, 1) := by decide +kernel
theorem dJ7_rangeCheck_23922_69 : decode cJ7_rangeCheck_23922 69 = .ok (.invokespecial 70, 3) := by decide +kernel
theorem dJ7_rangeCheck_23922_72 : decode cJ7_rangeCheck_23922 72 = .ok (.athrow, 1) := by decide +kernel
theorem dJ7_rangeCheck_23922_73 : decode cJ7_rangeCheck_23922 73 = .ok (.return_, 1) := by decide +kernel
theorem dJ7_fill_53178_0 : decode cJ7_fill_53178 0 = .ok (.iconst 0, 1) := by decide +kernel
theorem dJ7_fill_53178_1 : decode cJ7_fill_53178 1 = .ok (.istore_n 2, 1) := by decide +kernel
theorem dJ7_fill_53178_2 : decode cJ7_fill_53178 2 = .ok (.aload_n 0, 1) := by decide +kernel
theorem dJ7_fill_53178_3 : decode cJ7_fill_53178 3 = .ok (.arraylength, 1) := by decide +kernel
theorem dJ7_fill_53178_4 : decode cJ7_fill_53178 4 = .ok (.istore_n 3, 1) := by decide +kernel
theorem dJ7_fill_53178_5 : decode cJ7_fill_53178 5 = .ok (.iload_n 2, 1) := by decide +kernel
theorem dJ7_fill_53178_6 : decode cJ7_fill_53178 6 = .ok (.iload_n 3, 1) := by decide +kernel
theorem dJ7_fill_53178_7 : decode cJ7_fill_53178 7 = .ok (.if_icmp .ge 13, 3) := by decide +kernel
theorem dJ7_fill_53178_10 : decode cJ7_fill_53178 10 = .ok (.aload_n 0, 1) := by decide +kernel
theorem dJ7_fill_53178_11 : decode cJ7_fill_53178 11 = .ok (.iload_n 2, 1) := by decide +kernel
theorem dJ7_fill_53178_12 : decode cJ7_fill_53178 12 = .ok (.iload_n 1, 1) := by decide +kernel
theorem dJ7_fill_53178_13 : decode cJ7_fill_53178 13 = .ok (.iastore, 1) := by decide +kernel
theorem dJ7_fill_53178_14 : decode cJ7_fill_53178 14 = .ok (.iinc 2 1, 3) := by decide +kernel
theorem dJ7_fill_53178_17 : decode cJ7_fill_53178 17 = .ok (.goto (-12), 3) := by decide +kernel
theorem dJ7_fill_53178_20 : decode cJ7_fill_53178 20 = .ok (.return_, 1) := by decide +kernel
set_option maxRecDepth 20000 in
theorem ggJ7_fill_fda19_J7_rangeCheck_23922 : GoodIn wsJ7_fill_fda19 wsJ7_rangeCheck_23922 := goodIn_r _ [4] (by decide +kernel) (by decide +kernel)
set_option maxRecDepth 20000 in
theorem gJ7_fill_fda19_J7_rangeCheck_23922 : GoodIn wsJ7_fill_fda19 (va_wsS RJ7 13 yJ7_rangeCheck_23922 wsJ7_rangeCheck_23922) := goodIn_app (goodIn_of _ (by decide +kernel)) ggJ7_fill_fda19_J7_rangeCheck_23922
theorem dJ7_fill_fda19_0 : decode cJ7_fill_fda19 0 = .ok (.aload_n 0, 1) := by decide +kernel
theorem dJ7_fill_fda19_1 : decode cJ7_fill_fda19 1 = .ok (.arraylength, 1) := by decide +kernel
theorem dJ7_fill_fda19_2 : decode cJ7_fill_fda19 2 = .ok (.iload_n 1, 1) := by decide +kernel
theorem dJ7_fill_fda19_3 : decode cJ7_fill_fda19 3 = .ok (.iload_n 2, 1) := by decide +kernel
theorem dJ7_fill_fda19_4 : decode cJ7_fill_fda19 4 = .ok (.invokestatic 13, 3) := by decide +kernel
theorem dJ7_fill_fda19_7 : decode cJ7_fill_fda19 7 = .ok (.iload_n 1, 1) := by decide +kernel
theorem dJ7_fill_fda19_8 : decode cJ7_fill_fda19 8 = .ok (.istore 4, 2) := by decide +kernel
theorem dJ7_fill_fda19_10 : decode cJ7_fill_fda19 10 = .ok (.iload 4, 2) := by decide +kernel
theorem dJ7_fill_fda19_12 : decode cJ7_fill_fda19 12 = .ok (.iload_n 2, 1) := by decide +kernel
theorem dJ7_fill_fda19_13 : decode cJ7_fill_fda19 13 = .ok (.if_icmp .ge 14, 3) := by decide +kernel
theorem dJ7_fill_fda19_16 : decode cJ7_fill_fda19 16 = .ok (.aload_n 0, 1) := by decide +kernel
theorem dJ7_fill_fda19_17 : decode cJ7_fill_fda19 17 = .ok (.iload 4, 2) := by decide +kernel
theorem dJ7_fill_fda19_19 : decode cJ7_fill_fda19 19 = .ok (.iload_n 3, 1) := by decide +kernel
theorem dJ7_fill_fda19_20 : decode cJ7_fill_fda19 20 = .ok (.iastore, 1) := by decide +kernel
theorem dJ7_fill_fda19_21 : decode cJ7_fill_fda19 21 = .ok (.iinc 4 1, 3) := by decide +kernel
theorem dJ7_fill_fda19_24 : decode cJ7_fill_fda19 24 = .ok (.goto (-14), 3) := by decide +kernel
theorem dJ7_fill_fda19_27 : decode cJ7_fill_fda19 27 = .ok (.return_, 1) := by decide +kernel
end
