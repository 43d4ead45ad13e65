-- ===== PART A: goes FIRST, ahead of the names: the tables' words, and 'selects' of the private methods out of them =====
/-- a private method of a class that the tables say can be made, by its rows of tables_1 -/
def lw_okq (q : MethodName × Nat) : Prop := (q.1.cls ≠ "java/lang/invoke/MethodHandle" ∧ q.1.cls ≠ "java/lang/invoke/VarHandle") ∧ Cond.instantiable q.1.cls q.2 ∈ tables_1 ∧ Cond.privateMethod q.1 ∈ tables_1 ∧ Cond.instanceMethod q.1 ∈ tables_1
theorem lw_p0 : lw_okq (⟨"RentedMoments$History", "dropOldest", "()V"⟩, 2) := ⟨⟨by decide +kernel, by decide +kernel⟩, List.mem_of_getElem? (i := 187) (by decide +kernel), List.mem_of_getElem? (i := 262) (by decide +kernel), List.mem_of_getElem? (i := 263) (by decide +kernel)⟩
theorem lw_p1 : lw_okq (⟨"RentedMoments$State", "noteCommit", "(I)V"⟩, 11) := ⟨⟨by decide +kernel, by decide +kernel⟩, List.mem_of_getElem? (i := 21) (by decide +kernel), List.mem_of_getElem? (i := 446) (by decide +kernel), List.mem_of_getElem? (i := 447) (by decide +kernel)⟩
theorem lw_p2 : lw_okq (⟨"RentedMoments$State", "pushWrites", "(LRentedMoments$Reader;)V"⟩, 11) := ⟨⟨by decide +kernel, by decide +kernel⟩, List.mem_of_getElem? (i := 21) (by decide +kernel), List.mem_of_getElem? (i := 451) (by decide +kernel), List.mem_of_getElem? (i := 452) (by decide +kernel)⟩
theorem lw_p3 : lw_okq (⟨"RentedMoments$WriteText", "endOfNumber", "(II)I"⟩, 5) := ⟨⟨by decide +kernel, by decide +kernel⟩, List.mem_of_getElem? (i := 204) (by decide +kernel), List.mem_of_getElem? (i := 479) (by decide +kernel), List.mem_of_getElem? (i := 480) (by decide +kernel)⟩
theorem lw_p4 : lw_okq (⟨"RentedMoments$WriteText", "isSign", "(IC)Z"⟩, 5) := ⟨⟨by decide +kernel, by decide +kernel⟩, List.mem_of_getElem? (i := 204) (by decide +kernel), List.mem_of_getElem? (i := 483) (by decide +kernel), List.mem_of_getElem? (i := 484) (by decide +kernel)⟩
theorem lw_p5 : lw_okq (⟨"RentedMoments$WriteText", "isDigit", "(I)Z"⟩, 5) := ⟨⟨by decide +kernel, by decide +kernel⟩, List.mem_of_getElem? (i := 204) (by decide +kernel), List.mem_of_getElem? (i := 487) (by decide +kernel), List.mem_of_getElem? (i := 488) (by decide +kernel)⟩
theorem lw_p6 : lw_okq (⟨"RentedMoments$WriteText", "number", "(II)I"⟩, 5) := ⟨⟨by decide +kernel, by decide +kernel⟩, List.mem_of_getElem? (i := 204) (by decide +kernel), List.mem_of_getElem? (i := 491) (by decide +kernel), List.mem_of_getElem? (i := 492) (by decide +kernel)⟩
theorem lw_p7 : lw_okq (⟨"RentedMomentsModel", "brings", "(I)V"⟩, 12) := ⟨⟨by decide +kernel, by decide +kernel⟩, List.mem_of_getElem? (i := 574) (by decide +kernel), List.mem_of_getElem? (i := 621) (by decide +kernel), List.mem_of_getElem? (i := 622) (by decide +kernel)⟩
theorem lw_p8 : lw_okq (⟨"RentedMomentsModel", "keeps", "(I)V"⟩, 12) := ⟨⟨by decide +kernel, by decide +kernel⟩, List.mem_of_getElem? (i := 574) (by decide +kernel), List.mem_of_getElem? (i := 629) (by decide +kernel), List.mem_of_getElem? (i := 630) (by decide +kernel)⟩
theorem lw_p9 : lw_okq (⟨"RentedMomentsModel", "records", "()V"⟩, 12) := ⟨⟨by decide +kernel, by decide +kernel⟩, List.mem_of_getElem? (i := 574) (by decide +kernel), List.mem_of_getElem? (i := 637) (by decide +kernel), List.mem_of_getElem? (i := 638) (by decide +kernel)⟩
theorem lw_p10 : lw_okq (⟨"RentedMomentsModel", "ofState", "(I)I"⟩, 12) := ⟨⟨by decide +kernel, by decide +kernel⟩, List.mem_of_getElem? (i := 574) (by decide +kernel), List.mem_of_getElem? (i := 648) (by decide +kernel), List.mem_of_getElem? (i := 649) (by decide +kernel)⟩
theorem lw_p11 : lw_okq (⟨"RentedMomentsModel", "ofR", "(II)I"⟩, 12) := ⟨⟨by decide +kernel, by decide +kernel⟩, List.mem_of_getElem? (i := 574) (by decide +kernel), List.mem_of_getElem? (i := 652) (by decide +kernel), List.mem_of_getElem? (i := 653) (by decide +kernel)⟩
theorem lw_p12 : lw_okq (⟨"RentedMomentsModel", "setsR", "(III)V"⟩, 12) := ⟨⟨by decide +kernel, by decide +kernel⟩, List.mem_of_getElem? (i := 574) (by decide +kernel), List.mem_of_getElem? (i := 656) (by decide +kernel), List.mem_of_getElem? (i := 657) (by decide +kernel)⟩
theorem lw_p13 : lw_okq (⟨"RentedMomentsModel", "isReader", "(I)Z"⟩, 12) := ⟨⟨by decide +kernel, by decide +kernel⟩, List.mem_of_getElem? (i := 574) (by decide +kernel), List.mem_of_getElem? (i := 664) (by decide +kernel), List.mem_of_getElem? (i := 665) (by decide +kernel)⟩
theorem lw_p14 : lw_okq (⟨"RentedMomentsModel", "isOpen", "(I)Z"⟩, 12) := ⟨⟨by decide +kernel, by decide +kernel⟩, List.mem_of_getElem? (i := 574) (by decide +kernel), List.mem_of_getElem? (i := 668) (by decide +kernel), List.mem_of_getElem? (i := 669) (by decide +kernel)⟩
theorem lw_p15 : lw_okq (⟨"RentedMomentsModel", "dueOf", "(I)I"⟩, 12) := ⟨⟨by decide +kernel, by decide +kernel⟩, List.mem_of_getElem? (i := 574) (by decide +kernel), List.mem_of_getElem? (i := 676) (by decide +kernel), List.mem_of_getElem? (i := 677) (by decide +kernel)⟩
def lw_privs_1 : List (MethodName × Nat) := [(⟨"RentedMoments$History", "dropOldest", "()V"⟩, 2), (⟨"RentedMoments$State", "noteCommit", "(I)V"⟩, 11), (⟨"RentedMoments$State", "pushWrites", "(LRentedMoments$Reader;)V"⟩, 11), (⟨"RentedMoments$WriteText", "endOfNumber", "(II)I"⟩, 5), (⟨"RentedMoments$WriteText", "isSign", "(IC)Z"⟩, 5), (⟨"RentedMoments$WriteText", "isDigit", "(I)Z"⟩, 5), (⟨"RentedMoments$WriteText", "number", "(II)I"⟩, 5), (⟨"RentedMomentsModel", "brings", "(I)V"⟩, 12), (⟨"RentedMomentsModel", "keeps", "(I)V"⟩, 12), (⟨"RentedMomentsModel", "records", "()V"⟩, 12), (⟨"RentedMomentsModel", "ofState", "(I)I"⟩, 12), (⟨"RentedMomentsModel", "ofR", "(II)I"⟩, 12), (⟨"RentedMomentsModel", "setsR", "(III)V"⟩, 12), (⟨"RentedMomentsModel", "isReader", "(I)Z"⟩, 12), (⟨"RentedMomentsModel", "isOpen", "(I)Z"⟩, 12), (⟨"RentedMomentsModel", "dueOf", "(I)I"⟩, 12)]
theorem lw_r1 : ∀ q ∈ lw_privs_1, lw_okq q := List.forall_mem_cons.mpr ⟨lw_p0, List.forall_mem_cons.mpr ⟨lw_p1, List.forall_mem_cons.mpr ⟨lw_p2, List.forall_mem_cons.mpr ⟨lw_p3, List.forall_mem_cons.mpr ⟨lw_p4, List.forall_mem_cons.mpr ⟨lw_p5, List.forall_mem_cons.mpr ⟨lw_p6, List.forall_mem_cons.mpr ⟨lw_p7, List.forall_mem_cons.mpr ⟨lw_p8, List.forall_mem_cons.mpr ⟨lw_p9, List.forall_mem_cons.mpr ⟨lw_p10, List.forall_mem_cons.mpr ⟨lw_p11, List.forall_mem_cons.mpr ⟨lw_p12, List.forall_mem_cons.mpr ⟨lw_p13, List.forall_mem_cons.mpr ⟨lw_p14, List.forall_mem_cons.mpr ⟨lw_p15, fun _ h => absurd h List.not_mem_nil⟩⟩⟩⟩⟩⟩⟩⟩⟩⟩⟩⟩⟩⟩⟩⟩
theorem lw_p16 : lw_okq (⟨"RentedMomentsModel", "isWidow", "(I)Z"⟩, 12) := ⟨⟨by decide +kernel, by decide +kernel⟩, List.mem_of_getElem? (i := 574) (by decide +kernel), List.mem_of_getElem? (i := 680) (by decide +kernel), List.mem_of_getElem? (i := 681) (by decide +kernel)⟩
theorem lw_p17 : lw_okq (⟨"RentedMomentsModel", "isOld", "(I)Z"⟩, 12) := ⟨⟨by decide +kernel, by decide +kernel⟩, List.mem_of_getElem? (i := 574) (by decide +kernel), List.mem_of_getElem? (i := 684) (by decide +kernel), List.mem_of_getElem? (i := 685) (by decide +kernel)⟩
theorem lw_p18 : lw_okq (⟨"RentedMomentsModel", "ofV", "(II)I"⟩, 12) := ⟨⟨by decide +kernel, by decide +kernel⟩, List.mem_of_getElem? (i := 574) (by decide +kernel), List.mem_of_getElem? (i := 688) (by decide +kernel), List.mem_of_getElem? (i := 689) (by decide +kernel)⟩
theorem lw_p19 : lw_okq (⟨"RentedMomentsModel", "newest", "(I)I"⟩, 12) := ⟨⟨by decide +kernel, by decide +kernel⟩, List.mem_of_getElem? (i := 574) (by decide +kernel), List.mem_of_getElem? (i := 692) (by decide +kernel), List.mem_of_getElem? (i := 693) (by decide +kernel)⟩
theorem lw_p20 : lw_okq (⟨"RentedMomentsModel", "versionAt", "(II)I"⟩, 12) := ⟨⟨by decide +kernel, by decide +kernel⟩, List.mem_of_getElem? (i := 574) (by decide +kernel), List.mem_of_getElem? (i := 696) (by decide +kernel), List.mem_of_getElem? (i := 697) (by decide +kernel)⟩
theorem lw_p21 : lw_okq (⟨"RentedMomentsModel", "sees", "(II)Z"⟩, 12) := ⟨⟨by decide +kernel, by decide +kernel⟩, List.mem_of_getElem? (i := 574) (by decide +kernel), List.mem_of_getElem? (i := 700) (by decide +kernel), List.mem_of_getElem? (i := 701) (by decide +kernel)⟩
theorem lw_p22 : lw_okq (⟨"RentedMomentsModel", "rentOf", "(I)I"⟩, 12) := ⟨⟨by decide +kernel, by decide +kernel⟩, List.mem_of_getElem? (i := 574) (by decide +kernel), List.mem_of_getElem? (i := 704) (by decide +kernel), List.mem_of_getElem? (i := 705) (by decide +kernel)⟩
theorem lw_p23 : lw_okq (⟨"RentedMomentsModel", "seenBy", "(IZ)I"⟩, 12) := ⟨⟨by decide +kernel, by decide +kernel⟩, List.mem_of_getElem? (i := 574) (by decide +kernel), List.mem_of_getElem? (i := 708) (by decide +kernel), List.mem_of_getElem? (i := 709) (by decide +kernel)⟩
theorem lw_p24 : lw_okq (⟨"RentedMomentsModel", "removes", "()I"⟩, 12) := ⟨⟨by decide +kernel, by decide +kernel⟩, List.mem_of_getElem? (i := 574) (by decide +kernel), List.mem_of_getElem? (i := 716) (by decide +kernel), List.mem_of_getElem? (i := 717) (by decide +kernel)⟩
theorem lw_p25 : lw_okq (⟨"RentedMomentsModel", "pairs", "()I"⟩, 12) := ⟨⟨by decide +kernel, by decide +kernel⟩, List.mem_of_getElem? (i := 574) (by decide +kernel), List.mem_of_getElem? (i := 728) (by decide +kernel), List.mem_of_getElem? (i := 729) (by decide +kernel)⟩
theorem lw_p26 : lw_okq (⟨"RentedMomentsModel", "skews", "(I)I"⟩, 12) := ⟨⟨by decide +kernel, by decide +kernel⟩, List.mem_of_getElem? (i := 574) (by decide +kernel), List.mem_of_getElem? (i := 732) (by decide +kernel), List.mem_of_getElem? (i := 733) (by decide +kernel)⟩
theorem lw_p27 : lw_okq (⟨"RentedMomentsModel", "ofC", "(II)I"⟩, 12) := ⟨⟨by decide +kernel, by decide +kernel⟩, List.mem_of_getElem? (i := 574) (by decide +kernel), List.mem_of_getElem? (i := 736) (by decide +kernel), List.mem_of_getElem? (i := 737) (by decide +kernel)⟩
theorem lw_p28 : lw_okq (⟨"RentedMomentsModel", "passes", "()I"⟩, 12) := ⟨⟨by decide +kernel, by decide +kernel⟩, List.mem_of_getElem? (i := 574) (by decide +kernel), List.mem_of_getElem? (i := 747) (by decide +kernel), List.mem_of_getElem? (i := 748) (by decide +kernel)⟩
theorem lw_p29 : lw_okq (⟨"RentedMomentsModel", "writes", "(III)V"⟩, 12) := ⟨⟨by decide +kernel, by decide +kernel⟩, List.mem_of_getElem? (i := 574) (by decide +kernel), List.mem_of_getElem? (i := 769) (by decide +kernel), List.mem_of_getElem? (i := 770) (by decide +kernel)⟩
theorem lw_p30 : lw_okq (⟨"RentedMomentsModel", "hasConflict", "(I)Z"⟩, 12) := ⟨⟨by decide +kernel, by decide +kernel⟩, List.mem_of_getElem? (i := 574) (by decide +kernel), List.mem_of_getElem? (i := 780) (by decide +kernel), List.mem_of_getElem? (i := 781) (by decide +kernel)⟩
theorem lw_p31 : lw_okq (⟨"RentedMomentsModel", "skewsOf", "(I)I"⟩, 12) := ⟨⟨by decide +kernel, by decide +kernel⟩, List.mem_of_getElem? (i := 574) (by decide +kernel), List.mem_of_getElem? (i := 784) (by decide +kernel), List.mem_of_getElem? (i := 785) (by decide +kernel)⟩
def lw_privs_2 : List (MethodName × Nat) := [(⟨"RentedMomentsModel", "isWidow", "(I)Z"⟩, 12), (⟨"RentedMomentsModel", "isOld", "(I)Z"⟩, 12), (⟨"RentedMomentsModel", "ofV", "(II)I"⟩, 12), (⟨"RentedMomentsModel", "newest", "(I)I"⟩, 12), (⟨"RentedMomentsModel", "versionAt", "(II)I"⟩, 12), (⟨"RentedMomentsModel", "sees", "(II)Z"⟩, 12), (⟨"RentedMomentsModel", "rentOf", "(I)I"⟩, 12), (⟨"RentedMomentsModel", "seenBy", "(IZ)I"⟩, 12), (⟨"RentedMomentsModel", "removes", "()I"⟩, 12), (⟨"RentedMomentsModel", "pairs", "()I"⟩, 12), (⟨"RentedMomentsModel", "skews", "(I)I"⟩, 12), (⟨"RentedMomentsModel", "ofC", "(II)I"⟩, 12), (⟨"RentedMomentsModel", "passes", "()I"⟩, 12), (⟨"RentedMomentsModel", "writes", "(III)V"⟩, 12), (⟨"RentedMomentsModel", "hasConflict", "(I)Z"⟩, 12), (⟨"RentedMomentsModel", "skewsOf", "(I)I"⟩, 12)]
theorem lw_r2 : ∀ q ∈ lw_privs_2, lw_okq q := List.forall_mem_cons.mpr ⟨lw_p16, List.forall_mem_cons.mpr ⟨lw_p17, List.forall_mem_cons.mpr ⟨lw_p18, List.forall_mem_cons.mpr ⟨lw_p19, List.forall_mem_cons.mpr ⟨lw_p20, List.forall_mem_cons.mpr ⟨lw_p21, List.forall_mem_cons.mpr ⟨lw_p22, List.forall_mem_cons.mpr ⟨lw_p23, List.forall_mem_cons.mpr ⟨lw_p24, List.forall_mem_cons.mpr ⟨lw_p25, List.forall_mem_cons.mpr ⟨lw_p26, List.forall_mem_cons.mpr ⟨lw_p27, List.forall_mem_cons.mpr ⟨lw_p28, List.forall_mem_cons.mpr ⟨lw_p29, List.forall_mem_cons.mpr ⟨lw_p30, List.forall_mem_cons.mpr ⟨lw_p31, fun _ h => absurd h List.not_mem_nil⟩⟩⟩⟩⟩⟩⟩⟩⟩⟩⟩⟩⟩⟩⟩⟩
theorem lw_p32 : lw_okq (⟨"RentedMomentsModel", "commits", "(I)V"⟩, 12) := ⟨⟨by decide +kernel, by decide +kernel⟩, List.mem_of_getElem? (i := 574) (by decide +kernel), List.mem_of_getElem? (i := 788) (by decide +kernel), List.mem_of_getElem? (i := 789) (by decide +kernel)⟩
theorem lw_p33 : lw_okq (⟨"RentedMomentsModel", "oldMany", "()I"⟩, 12) := ⟨⟨by decide +kernel, by decide +kernel⟩, List.mem_of_getElem? (i := 574) (by decide +kernel), List.mem_of_getElem? (i := 792) (by decide +kernel), List.mem_of_getElem? (i := 793) (by decide +kernel)⟩
theorem lw_p34 : lw_okq (⟨"RentedMomentsModel", "commitsFor", "(I)I"⟩, 12) := ⟨⟨by decide +kernel, by decide +kernel⟩, List.mem_of_getElem? (i := 574) (by decide +kernel), List.mem_of_getElem? (i := 796) (by decide +kernel), List.mem_of_getElem? (i := 797) (by decide +kernel)⟩
theorem lw_p35 : lw_okq (⟨"RentedMomentsModel", "faultOf", "()I"⟩, 12) := ⟨⟨by decide +kernel, by decide +kernel⟩, List.mem_of_getElem? (i := 574) (by decide +kernel), List.mem_of_getElem? (i := 812) (by decide +kernel), List.mem_of_getElem? (i := 813) (by decide +kernel)⟩
theorem lw_p36 : lw_okq (⟨"RentedMomentsModel", "passesWrite", "()Z"⟩, 12) := ⟨⟨by decide +kernel, by decide +kernel⟩, List.mem_of_getElem? (i := 574) (by decide +kernel), List.mem_of_getElem? (i := 816) (by decide +kernel), List.mem_of_getElem? (i := 817) (by decide +kernel)⟩
theorem lw_p37 : lw_okq (⟨"RentedMomentsModel", "passesNumber", "(I)Z"⟩, 12) := ⟨⟨by decide +kernel, by decide +kernel⟩, List.mem_of_getElem? (i := 574) (by decide +kernel), List.mem_of_getElem? (i := 820) (by decide +kernel), List.mem_of_getElem? (i := 821) (by decide +kernel)⟩
theorem lw_p38 : lw_okq (⟨"RentedMomentsModel", "isHere", "(II)Z"⟩, 12) := ⟨⟨by decide +kernel, by decide +kernel⟩, List.mem_of_getElem? (i := 574) (by decide +kernel), List.mem_of_getElem? (i := 824) (by decide +kernel), List.mem_of_getElem? (i := 825) (by decide +kernel)⟩
theorem lw_p39 : lw_okq (⟨"RentedMomentsModel", "passesSign", "(I)Z"⟩, 12) := ⟨⟨by decide +kernel, by decide +kernel⟩, List.mem_of_getElem? (i := 574) (by decide +kernel), List.mem_of_getElem? (i := 828) (by decide +kernel), List.mem_of_getElem? (i := 829) (by decide +kernel)⟩
theorem lw_p40 : lw_okq (⟨"RentedMomentsModel", "versionsOf", "(I)I"⟩, 12) := ⟨⟨by decide +kernel, by decide +kernel⟩, List.mem_of_getElem? (i := 574) (by decide +kernel), List.mem_of_getElem? (i := 836) (by decide +kernel), List.mem_of_getElem? (i := 837) (by decide +kernel)⟩
theorem lw_p41 : lw_okq (⟨"RentedMomentsModel", "writers", "(I)I"⟩, 12) := ⟨⟨by decide +kernel, by decide +kernel⟩, List.mem_of_getElem? (i := 574) (by decide +kernel), List.mem_of_getElem? (i := 840) (by decide +kernel), List.mem_of_getElem? (i := 841) (by decide +kernel)⟩
theorem lw_p42 : lw_okq (⟨"RentedMomentsModel", "seen", "(IZ)I"⟩, 12) := ⟨⟨by decide +kernel, by decide +kernel⟩, List.mem_of_getElem? (i := 574) (by decide +kernel), List.mem_of_getElem? (i := 852) (by decide +kernel), List.mem_of_getElem? (i := 853) (by decide +kernel)⟩
theorem lw_p43 : lw_okq (⟨"RentedMomentsModel", "widows", "()I"⟩, 12) := ⟨⟨by decide +kernel, by decide +kernel⟩, List.mem_of_getElem? (i := 574) (by decide +kernel), List.mem_of_getElem? (i := 864) (by decide +kernel), List.mem_of_getElem? (i := 865) (by decide +kernel)⟩
def lw_privs_3 : List (MethodName × Nat) := [(⟨"RentedMomentsModel", "commits", "(I)V"⟩, 12), (⟨"RentedMomentsModel", "oldMany", "()I"⟩, 12), (⟨"RentedMomentsModel", "commitsFor", "(I)I"⟩, 12), (⟨"RentedMomentsModel", "faultOf", "()I"⟩, 12), (⟨"RentedMomentsModel", "passesWrite", "()Z"⟩, 12), (⟨"RentedMomentsModel", "passesNumber", "(I)Z"⟩, 12), (⟨"RentedMomentsModel", "isHere", "(II)Z"⟩, 12), (⟨"RentedMomentsModel", "passesSign", "(I)Z"⟩, 12), (⟨"RentedMomentsModel", "versionsOf", "(I)I"⟩, 12), (⟨"RentedMomentsModel", "writers", "(I)I"⟩, 12), (⟨"RentedMomentsModel", "seen", "(IZ)I"⟩, 12), (⟨"RentedMomentsModel", "widows", "()I"⟩, 12)]
theorem lw_r3 : ∀ q ∈ lw_privs_3, lw_okq q := List.forall_mem_cons.mpr ⟨lw_p32, List.forall_mem_cons.mpr ⟨lw_p33, List.forall_mem_cons.mpr ⟨lw_p34, List.forall_mem_cons.mpr ⟨lw_p35, List.forall_mem_cons.mpr ⟨lw_p36, List.forall_mem_cons.mpr ⟨lw_p37, List.forall_mem_cons.mpr ⟨lw_p38, List.forall_mem_cons.mpr ⟨lw_p39, List.forall_mem_cons.mpr ⟨lw_p40, List.forall_mem_cons.mpr ⟨lw_p41, List.forall_mem_cons.mpr ⟨lw_p42, List.forall_mem_cons.mpr ⟨lw_p43, fun _ h => absurd h List.not_mem_nil⟩⟩⟩⟩⟩⟩⟩⟩⟩⟩⟩⟩
def lw_privs : List (MethodName × Nat) := lw_privs_1 ++ (lw_privs_2 ++ (lw_privs_3))
def lw_tbl : List Cond := k2_sels lw_privs ++ tables_1
theorem lw_privs_ok : ∀ q ∈ lw_privs, lw_okq q := by
  show ∀ q ∈ lw_privs_1 ++ (lw_privs_2 ++ (lw_privs_3)), lw_okq q
  exact List.forall_mem_append.mpr ⟨lw_r1, List.forall_mem_append.mpr ⟨lw_r2, lw_r3⟩⟩
def RX0 : String := "RentedMoments$Cell"
def TX0 : u_T := fun k => match k with
  | 0 => ("RentedMoments$Cell", "values", "[I", true)
  | 1 => ("RentedMoments$Cell", "moments", "[I", true)
  | _ => ("RentedMoments$Cell", "places", "I", false)
def tyX0 : Nat → FieldType := fun k => match k with
  | 0 => .array .int
  | 1 => .array .int
  | _ => .int
abbrev wsX00 : List Cond := u_ws RX0 TX0 3
theorem nmX0 : ∀ a, a < 3 → ∀ b, b < 3 → a ≠ b → (TX0 a).2.1 ≠ (TX0 b).2.1 := by decide +kernel
theorem tyX0_ok : ∀ k, k < 3 → parseFieldDescriptor (TX0 k).2.2.1 = some (tyX0 k) := by decide +kernel
abbrev cX0_init : ByteArray := prog_2_method_1_code
def yX0_init : MethodName := ⟨RX0, "<init>", "()V"⟩
abbrev cX0_copyFrom : ByteArray := prog_2_method_2_code
def yX0_copyFrom : MethodName := ⟨RX0, "copyFrom", "(LRentedMoments$Cell;)V"⟩
abbrev cX0_placeSeenAt : ByteArray := prog_2_method_3_code
def yX0_placeSeenAt : MethodName := ⟨RX0, "placeSeenAt", "(I)I"⟩
abbrev cX0_valueSeenAt : ByteArray := prog_2_method_4_code
def yX0_valueSeenAt : MethodName := ⟨RX0, "valueSeenAt", "(I)I"⟩
abbrev cX0_push : ByteArray := prog_2_method_5_code
def yX0_push : MethodName := ⟨RX0, "push", "(II)V"⟩
abbrev cX0_retainOld : ByteArray := prog_2_method_6_code
def yX0_retainOld : MethodName := ⟨RX0, "retainOld", "(I)I"⟩
def RX1 : String := "RentedMoments$Commit"
def TX1 : u_T := fun k => match k with
  | 0 => ("RentedMoments$Commit", "reader", "I", false)
  | 1 => ("RentedMoments$Commit", "readerMoment", "I", false)
  | 2 => ("RentedMoments$Commit", "madeMoment", "I", false)
  | 3 => ("RentedMoments$Commit", "writtenCells", "I", false)
  | 4 => ("RentedMoments$Commit", "readCells", "I", false)
  | _ => ("RentedMoments$Commit", "skews", "I", false)
def tyX1 : Nat → FieldType := fun k => match k with
  | 0 => .int
  | 1 => .int
  | 2 => .int
  | 3 => .int
  | 4 => .int
  | _ => .int
abbrev wsX10 : List Cond := u_ws RX1 TX1 6
theorem nmX1 : ∀ a, a < 6 → ∀ b, b < 6 → a ≠ b → (TX1 a).2.1 ≠ (TX1 b).2.1 := by decide +kernel
theorem tyX1_ok : ∀ k, k < 6 → parseFieldDescriptor (TX1 k).2.2.1 = some (tyX1 k) := by decide +kernel
abbrev cX1_init : ByteArray := prog_3_method_1_code
def yX1_init : MethodName := ⟨RX1, "<init>", "()V"⟩
abbrev cX1_copyFrom : ByteArray := prog_3_method_2_code
def yX1_copyFrom : MethodName := ⟨RX1, "copyFrom", "(LRentedMoments$Commit;)V"⟩
abbrev cX1_isInSkewWithLater : ByteArray := prog_3_method_3_code
def yX1_isInSkewWithLater : MethodName := ⟨RX1, "isInSkewWithLater", "(LRentedMoments$Reader;)Z"⟩
def RX2 : String := "RentedMoments$History"
def TX2 : u_T := fun k => match k with
  | 0 => ("RentedMoments$History", "states", "[LRentedMoments$State;", true)
  | _ => ("RentedMoments$History", "length", "I", false)
def tyX2 : Nat → FieldType := fun k => match k with
  | 0 => .array (.object "RentedMoments$State")
  | _ => .int
abbrev wsX20 : List Cond := u_ws RX2 TX2 2
theorem nmX2 : ∀ a, a < 2 → ∀ b, b < 2 → a ≠ b → (TX2 a).2.1 ≠ (TX2 b).2.1 := by decide +kernel
theorem tyX2_ok : ∀ k, k < 2 → parseFieldDescriptor (TX2 k).2.2.1 = some (tyX2 k) := by decide +kernel
abbrev cX2_init : ByteArray := prog_4_method_1_code
def yX2_init : MethodName := ⟨RX2, "<init>", "()V"⟩
abbrev cX2_record : ByteArray := prog_4_method_2_code
def yX2_record : MethodName := ⟨RX2, "record", "(LRentedMoments$State;)V"⟩
abbrev cX2_dropOldest : ByteArray := prog_4_method_3_code
def yX2_dropOldest : MethodName := ⟨RX2, "dropOldest", "()V"⟩
abbrev cX2_bringBack : ByteArray := prog_4_method_4_code
def yX2_bringBack : MethodName := ⟨RX2, "bringBack", "(LRentedMoments$State;)V"⟩
def RX3 : String := "RentedMoments$Reader"
def TX3 : u_T := fun k => match k with
  | 0 => ("RentedMoments$Reader", "writes", "[I", true)
  | 1 => ("RentedMoments$Reader", "state", "I", false)
  | 2 => ("RentedMoments$Reader", "moment", "I", false)
  | 3 => ("RentedMoments$Reader", "purse", "I", false)
  | 4 => ("RentedMoments$Reader", "readCells", "I", false)
  | 5 => ("RentedMoments$Reader", "writtenCells", "I", false)
  | 6 => ("RentedMoments$Reader", "term", "I", false)
  | 7 => ("RentedMoments$Reader", "paid", "I", false)
  | _ => ("RentedMoments$Reader", "wasWidow", "Z", false)
def tyX3 : Nat → FieldType := fun k => match k with
  | 0 => .array .int
  | 1 => .int
  | 2 => .int
  | 3 => .int
  | 4 => .int
  | 5 => .int
  | 6 => .int
  | 7 => .int
  | _ => .boolean
abbrev wsX30 : List Cond := u_ws RX3 TX3 9
theorem nmX3 : ∀ a, a < 9 → ∀ b, b < 9 → a ≠ b → (TX3 a).2.1 ≠ (TX3 b).2.1 := by decide +kernel
theorem tyX3_ok : ∀ k, k < 9 → parseFieldDescriptor (TX3 k).2.2.1 = some (tyX3 k) := by decide +kernel
abbrev cX3_init : ByteArray := prog_5_method_1_code
def yX3_init : MethodName := ⟨RX3, "<init>", "()V"⟩
abbrev cX3_begin : ByteArray := prog_5_method_2_code
def yX3_begin : MethodName := ⟨RX3, "begin", "(II)V"⟩
abbrev cX3_copyFrom : ByteArray := prog_5_method_3_code
def yX3_copyFrom : MethodName := ⟨RX3, "copyFrom", "(LRentedMoments$Reader;)V"⟩
abbrev cX3_isOpen : ByteArray := prog_5_method_4_code
def yX3_isOpen : MethodName := ⟨RX3, "isOpen", "()Z"⟩
abbrev cX3_isOpenWidow : ByteArray := prog_5_method_5_code
def yX3_isOpenWidow : MethodName := ⟨RX3, "isOpenWidow", "()Z"⟩
abbrev cX3_paysRent : ByteArray := prog_5_method_6_code
def yX3_paysRent : MethodName := ⟨RX3, "paysRent", "()Z"⟩
abbrev cX3_hasWrite : ByteArray := prog_5_method_7_code
def yX3_hasWrite : MethodName := ⟨RX3, "hasWrite", "(I)Z"⟩
abbrev cX3_putWrite : ByteArray := prog_5_method_8_code
def yX3_putWrite : MethodName := ⟨RX3, "putWrite", "(II)V"⟩
abbrev cX3_numberOfWrites : ByteArray := prog_5_method_9_code
def yX3_numberOfWrites : MethodName := ⟨RX3, "numberOfWrites", "()I"⟩
def RX4 : String := "RentedMoments$State"
def TX4 : u_T := fun k => match k with
  | 0 => ("RentedMoments$State", "cells", "[LRentedMoments$Cell;", true)
  | 1 => ("RentedMoments$State", "readers", "[LRentedMoments$Reader;", true)
  | 2 => ("RentedMoments$State", "commits", "[LRentedMoments$Commit;", true)
  | 3 => ("RentedMoments$State", "moment", "I", false)
  | 4 => ("RentedMoments$State", "tickNumber", "I", false)
  | 5 => ("RentedMoments$State", "rent", "I", false)
  | 6 => ("RentedMoments$State", "readersBeen", "I", false)
  | 7 => ("RentedMoments$State", "commitsMade", "I", false)
  | 8 => ("RentedMoments$State", "removedVersions", "I", false)
  | 9 => ("RentedMoments$State", "skewForbidden", "Z", false)
  | _ => ("RentedMoments$State", "dues", "[I", true)
def tyX4 : Nat → FieldType := fun k => match k with
  | 0 => .array (.object "RentedMoments$Cell")
  | 1 => .array (.object "RentedMoments$Reader")
  | 2 => .array (.object "RentedMoments$Commit")
  | 3 => .int
  | 4 => .int
  | 5 => .int
  | 6 => .int
  | 7 => .int
  | 8 => .int
  | 9 => .boolean
  | _ => .array .int
abbrev wsX40 : List Cond := u_ws RX4 TX4 11
theorem nmX4 : ∀ a, a < 11 → ∀ b, b < 11 → a ≠ b → (TX4 a).2.1 ≠ (TX4 b).2.1 := by decide +kernel
theorem tyX4_ok : ∀ k, k < 11 → parseFieldDescriptor (TX4 k).2.2.1 = some (tyX4 k) := by decide +kernel
abbrev cX4_init : ByteArray := prog_6_method_1_code
def yX4_init : MethodName := ⟨RX4, "<init>", "()V"⟩
abbrev cX4_copyFrom : ByteArray := prog_6_method_2_code
def yX4_copyFrom : MethodName := ⟨RX4, "copyFrom", "(LRentedMoments$State;)V"⟩
abbrev cX4_hasReader : ByteArray := prog_6_method_3_code
def yX4_hasReader : MethodName := ⟨RX4, "hasReader", "(I)Z"⟩
abbrev cX4_addReader : ByteArray := prog_6_method_4_code
def yX4_addReader : MethodName := ⟨RX4, "addReader", "(I)I"⟩
abbrev cX4_readersIn : ByteArray := prog_6_method_5_code
def yX4_readersIn : MethodName := ⟨RX4, "readersIn", "(I)I"⟩
abbrev cX4_openWidows : ByteArray := prog_6_method_6_code
def yX4_openWidows : MethodName := ⟨RX4, "openWidows", "()I"⟩
abbrev cX4_coinsPaid : ByteArray := prog_6_method_7_code
def yX4_coinsPaid : MethodName := ⟨RX4, "coinsPaid", "()I"⟩
abbrev cX4_writersOf : ByteArray := prog_6_method_8_code
def yX4_writersOf : MethodName := ⟨RX4, "writersOf", "(I)I"⟩
abbrev cX4_seersOf : ByteArray := prog_6_method_9_code
def yX4_seersOf : MethodName := ⟨RX4, "seersOf", "(LRentedMoments$Cell;I)I"⟩
abbrev cX4_payersOf : ByteArray := prog_6_method_10_code
def yX4_payersOf : MethodName := ⟨RX4, "payersOf", "(LRentedMoments$Cell;I)I"⟩
abbrev cX4_placesSeen : ByteArray := prog_6_method_11_code
def yX4_placesSeen : MethodName := ⟨RX4, "placesSeen", "(LRentedMoments$Cell;I)I"⟩
abbrev cX4_oldVersions : ByteArray := prog_6_method_12_code
def yX4_oldVersions : MethodName := ⟨RX4, "oldVersions", "()I"⟩
abbrev cX4_oldVersionsSeenBy : ByteArray := prog_6_method_13_code
def yX4_oldVersionsSeenBy : MethodName := ⟨RX4, "oldVersionsSeenBy", "(LRentedMoments$Reader;)I"⟩
abbrev cX4_sumSeenBy : ByteArray := prog_6_method_14_code
def yX4_sumSeenBy : MethodName := ⟨RX4, "sumSeenBy", "(LRentedMoments$Reader;)I"⟩
abbrev cX4_removeUnseen : ByteArray := prog_6_method_15_code
def yX4_removeUnseen : MethodName := ⟨RX4, "removeUnseen", "()I"⟩
abbrev cX4_shareOf : ByteArray := prog_6_method_16_code
def yX4_shareOf : MethodName := ⟨RX4, "shareOf", "(LRentedMoments$Cell;I)I"⟩
abbrev cX4_dueOf : ByteArray := prog_6_method_17_code
def yX4_dueOf : MethodName := ⟨RX4, "dueOf", "(LRentedMoments$Reader;)I"⟩
abbrev cX4_tellDues : ByteArray := prog_6_method_18_code
def yX4_tellDues : MethodName := ⟨RX4, "tellDues", "()V"⟩
abbrev cX4_letTicksPass : ByteArray := prog_6_method_19_code
def yX4_letTicksPass : MethodName := ⟨RX4, "letTicksPass", "(II)V"⟩
abbrev cX4_takeDues : ByteArray := prog_6_method_20_code
def yX4_takeDues : MethodName := ⟨RX4, "takeDues", "()Z"⟩
abbrev cX4_shortenTerms : ByteArray := prog_6_method_21_code
def yX4_shortenTerms : MethodName := ⟨RX4, "shortenTerms", "()Z"⟩
abbrev cX4_hasConflict : ByteArray := prog_6_method_22_code
def yX4_hasConflict : MethodName := ⟨RX4, "hasConflict", "(LRentedMoments$Reader;)Z"⟩
abbrev cX4_skewsOf : ByteArray := prog_6_method_23_code
def yX4_skewsOf : MethodName := ⟨RX4, "skewsOf", "(LRentedMoments$Reader;)I"⟩
abbrev cX4_pairsInSkew : ByteArray := prog_6_method_24_code
def yX4_pairsInSkew : MethodName := ⟨RX4, "pairsInSkew", "()I"⟩
abbrev cX4_oldVersionsWithout : ByteArray := prog_6_method_25_code
def yX4_oldVersionsWithout : MethodName := ⟨RX4, "oldVersionsWithout", "(I)I"⟩
abbrev cX4_land : ByteArray := prog_6_method_26_code
def yX4_land : MethodName := ⟨RX4, "land", "(I)V"⟩
abbrev cX4_noteCommit : ByteArray := prog_6_method_27_code
def yX4_noteCommit : MethodName := ⟨RX4, "noteCommit", "(I)V"⟩
abbrev cX4_pushWrites : ByteArray := prog_6_method_28_code
def yX4_pushWrites : MethodName := ⟨RX4, "pushWrites", "(LRentedMoments$Reader;)V"⟩
def RX5 : String := "RentedMoments$WriteText"
def TX5 : u_T := fun k => match k with
  | 0 => ("RentedMoments$WriteText", "signs", "[C", true)
  | 1 => ("RentedMoments$WriteText", "length", "I", false)
  | 2 => ("RentedMoments$WriteText", "cells", "[I", true)
  | 3 => ("RentedMoments$WriteText", "values", "[I", true)
  | _ => ("RentedMoments$WriteText", "writes", "I", false)
def tyX5 : Nat → FieldType := fun k => match k with
  | 0 => .array .char
  | 1 => .int
  | 2 => .array .int
  | 3 => .array .int
  | _ => .int
abbrev wsX50 : List Cond := u_ws RX5 TX5 5
theorem nmX5 : ∀ a, a < 5 → ∀ b, b < 5 → a ≠ b → (TX5 a).2.1 ≠ (TX5 b).2.1 := by decide +kernel
theorem tyX5_ok : ∀ k, k < 5 → parseFieldDescriptor (TX5 k).2.2.1 = some (tyX5 k) := by decide +kernel
abbrev cX5_init : ByteArray := prog_7_method_1_code
def yX5_init : MethodName := ⟨RX5, "<init>", "()V"⟩
abbrev cX5_add : ByteArray := prog_7_method_2_code
def yX5_add : MethodName := ⟨RX5, "add", "(C)V"⟩
abbrev cX5_parse : ByteArray := prog_7_method_3_code
def yX5_parse : MethodName := ⟨RX5, "parse", "()I"⟩
abbrev cX5_greatestCell : ByteArray := prog_7_method_4_code
def yX5_greatestCell : MethodName := ⟨RX5, "greatestCell", "()I"⟩
abbrev cX5_isSign : ByteArray := prog_7_method_5_code
def yX5_isSign : MethodName := ⟨RX5, "isSign", "(IC)Z"⟩
abbrev cX5_isDigit : ByteArray := prog_7_method_6_code
def yX5_isDigit : MethodName := ⟨RX5, "isDigit", "(I)Z"⟩
abbrev cX5_endOfNumber : ByteArray := prog_7_method_7_code
def yX5_endOfNumber : MethodName := ⟨RX5, "endOfNumber", "(II)I"⟩
abbrev cX5_number : ByteArray := prog_7_method_8_code
def yX5_number : MethodName := ⟨RX5, "number", "(II)I"⟩
def RX6 : String := "RentedMoments"
def TX6 : u_T := fun k => match k with
  | 0 => ("RentedMoments", "now", "LRentedMoments$State;", true)
  | 1 => ("RentedMoments", "ahead", "LRentedMoments$State;", true)
  | 2 => ("RentedMoments", "snapshot", "LRentedMoments$State;", true)
  | 3 => ("RentedMoments", "history", "LRentedMoments$History;", true)
  | 4 => ("RentedMoments", "text", "LRentedMoments$WriteText;", true)
  | _ => ("RentedMoments", "hasSnapshot", "Z", false)
def tyX6 : Nat → FieldType := fun k => match k with
  | 0 => .object "RentedMoments$State"
  | 1 => .object "RentedMoments$State"
  | 2 => .object "RentedMoments$State"
  | 3 => .object "RentedMoments$History"
  | 4 => .object "RentedMoments$WriteText"
  | _ => .boolean
abbrev wsX60 : List Cond := u_ws RX6 TX6 6
theorem nmX6 : ∀ a, a < 6 → ∀ b, b < 6 → a ≠ b → (TX6 a).2.1 ≠ (TX6 b).2.1 := by decide +kernel
theorem tyX6_ok : ∀ k, k < 6 → parseFieldDescriptor (TX6 k).2.2.1 = some (tyX6 k) := by decide +kernel
abbrev cX6_init : ByteArray := prog_1_method_1_code
def yX6_init : MethodName := ⟨RX6, "<init>", "()V"⟩
abbrev cX6_open : ByteArray := prog_1_method_2_code
def yX6_open : MethodName := ⟨RX6, "open", "(I)I"⟩
abbrev cX6_pay : ByteArray := prog_1_method_3_code
def yX6_pay : MethodName := ⟨RX6, "pay", "(II)I"⟩
abbrev cX6_widow : ByteArray := prog_1_method_4_code
def yX6_widow : MethodName := ⟨RX6, "widow", "(II)I"⟩
abbrev cX6_close : ByteArray := prog_1_method_5_code
def yX6_close : MethodName := ⟨RX6, "close", "(I)I"⟩
abbrev cX6_setRent : ByteArray := prog_1_method_6_code
def yX6_setRent : MethodName := ⟨RX6, "setRent", "(I)I"⟩
abbrev cX6_forbidSkew : ByteArray := prog_1_method_7_code
def yX6_forbidSkew : MethodName := ⟨RX6, "forbidSkew", "(Z)I"⟩
abbrev cX6_tick : ByteArray := prog_1_method_8_code
def yX6_tick : MethodName := ⟨RX6, "tick", "(I)I"⟩
abbrev cX6_read : ByteArray := prog_1_method_9_code
def yX6_read : MethodName := ⟨RX6, "read", "(II)I"⟩
abbrev cX6_write : ByteArray := prog_1_method_10_code
def yX6_write : MethodName := ⟨RX6, "write", "(III)I"⟩
abbrev cX6_commit : ByteArray := prog_1_method_11_code
def yX6_commit : MethodName := ⟨RX6, "commit", "(I)I"⟩
abbrev cX6_type : ByteArray := prog_1_method_12_code
def yX6_type : MethodName := ⟨RX6, "type", "(C)I"⟩
abbrev cX6_clearText : ByteArray := prog_1_method_13_code
def yX6_clearText : MethodName := ⟨RX6, "clearText", "()I"⟩
abbrev cX6_readWrites : ByteArray := prog_1_method_14_code
def yX6_readWrites : MethodName := ⟨RX6, "readWrites", "(I)I"⟩
abbrev cX6_undo : ByteArray := prog_1_method_15_code
def yX6_undo : MethodName := ⟨RX6, "undo", "()I"⟩
abbrev cX6_keep : ByteArray := prog_1_method_16_code
def yX6_keep : MethodName := ⟨RX6, "keep", "()I"⟩
abbrev cX6_restore : ByteArray := prog_1_method_17_code
def yX6_restore : MethodName := ⟨RX6, "restore", "()I"⟩
abbrev cX6_cell : ByteArray := prog_1_method_18_code
def yX6_cell : MethodName := ⟨RX6, "cell", "(II)I"⟩
abbrev cX6_version : ByteArray := prog_1_method_19_code
def yX6_version : MethodName := ⟨RX6, "version", "(III)I"⟩
abbrev cX6_reader : ByteArray := prog_1_method_20_code
def yX6_reader : MethodName := ⟨RX6, "reader", "(II)I"⟩
abbrev cX6_lasts : ByteArray := prog_1_method_21_code
def yX6_lasts : MethodName := ⟨RX6, "lasts", "(I)I"⟩
abbrev cX6_committed : ByteArray := prog_1_method_22_code
def yX6_committed : MethodName := ⟨RX6, "committed", "(II)I"⟩
abbrev cX6_count : ByteArray := prog_1_method_23_code
def yX6_count : MethodName := ⟨RX6, "count", "(I)I"⟩
abbrev cX6_isCell : ByteArray := prog_1_method_24_code
def yX6_isCell : MethodName := ⟨RX6, "isCell", "(I)Z"⟩
def RX7 : String := "RentedMomentsModel"
def TX7 : u_T := fun k => match k with
  | 0 => ("RentedMomentsModel", "now", "[I", true)
  | 1 => ("RentedMomentsModel", "kept", "[I", true)
  | 2 => ("RentedMomentsModel", "states", "I", false)
  | 3 => ("RentedMomentsModel", "hasSnapshot", "Z", false)
  | 4 => ("RentedMomentsModel", "text", "[I", true)
  | 5 => ("RentedMomentsModel", "length", "I", false)
  | 6 => ("RentedMomentsModel", "at", "I", false)
  | 7 => ("RentedMomentsModel", "number", "I", false)
  | 8 => ("RentedMomentsModel", "writes", "I", false)
  | 9 => ("RentedMomentsModel", "cells", "[I", true)
  | 10 => ("RentedMomentsModel", "values", "[I", true)
  | _ => ("RentedMomentsModel", "dues", "[I", true)
def tyX7 : Nat → FieldType := fun k => match k with
  | 0 => .array .int
  | 1 => .array .int
  | 2 => .int
  | 3 => .boolean
  | 4 => .array .int
  | 5 => .int
  | 6 => .int
  | 7 => .int
  | 8 => .int
  | 9 => .array .int
  | 10 => .array .int
  | _ => .array .int
abbrev wsX70 : List Cond := u_ws RX7 TX7 12
theorem nmX7 : ∀ a, a < 12 → ∀ b, b < 12 → a ≠ b → (TX7 a).2.1 ≠ (TX7 b).2.1 := by decide +kernel
theorem tyX7_ok : ∀ k, k < 12 → parseFieldDescriptor (TX7 k).2.2.1 = some (tyX7 k) := by decide +kernel
abbrev cX7_init : ByteArray := prog_9_method_1_code
def yX7_init : MethodName := ⟨RX7, "<init>", "()V"⟩
abbrev cX7_isIn : ByteArray := prog_9_method_2_code
def yX7_isIn : MethodName := ⟨RX7, "isIn", "(III)Z"⟩
abbrev cX7_has : ByteArray := prog_9_method_3_code
def yX7_has : MethodName := ⟨RX7, "has", "(II)Z"⟩
abbrev cX7_ones : ByteArray := prog_9_method_4_code
def yX7_ones : MethodName := ⟨RX7, "ones", "(I)I"⟩
abbrev cX7_ofR : ByteArray := prog_9_method_5_code
def yX7_ofR : MethodName := ⟨RX7, "ofR", "(II)I"⟩
abbrev cX7_setsR : ByteArray := prog_9_method_6_code
def yX7_setsR : MethodName := ⟨RX7, "setsR", "(III)V"⟩
abbrev cX7_ofV : ByteArray := prog_9_method_7_code
def yX7_ofV : MethodName := ⟨RX7, "ofV", "(II)I"⟩
abbrev cX7_ofC : ByteArray := prog_9_method_8_code
def yX7_ofC : MethodName := ⟨RX7, "ofC", "(II)I"⟩
abbrev cX7_isCell : ByteArray := prog_9_method_9_code
def yX7_isCell : MethodName := ⟨RX7, "isCell", "(I)Z"⟩
abbrev cX7_isReader : ByteArray := prog_9_method_10_code
def yX7_isReader : MethodName := ⟨RX7, "isReader", "(I)Z"⟩
abbrev cX7_isOpen : ByteArray := prog_9_method_11_code
def yX7_isOpen : MethodName := ⟨RX7, "isOpen", "(I)Z"⟩
abbrev cX7_keeps : ByteArray := prog_9_method_12_code
def yX7_keeps : MethodName := ⟨RX7, "keeps", "(I)V"⟩
abbrev cX7_brings : ByteArray := prog_9_method_13_code
def yX7_brings : MethodName := ⟨RX7, "brings", "(I)V"⟩
abbrev cX7_records : ByteArray := prog_9_method_14_code
def yX7_records : MethodName := ⟨RX7, "records", "()V"⟩
abbrev cX7_undo : ByteArray := prog_9_method_15_code
def yX7_undo : MethodName := ⟨RX7, "undo", "()I"⟩
abbrev cX7_keep : ByteArray := prog_9_method_16_code
def yX7_keep : MethodName := ⟨RX7, "keep", "()I"⟩
abbrev cX7_restore : ByteArray := prog_9_method_17_code
def yX7_restore : MethodName := ⟨RX7, "restore", "()I"⟩
abbrev cX7_versionAt : ByteArray := prog_9_method_18_code
def yX7_versionAt : MethodName := ⟨RX7, "versionAt", "(II)I"⟩
abbrev cX7_newest : ByteArray := prog_9_method_19_code
def yX7_newest : MethodName := ⟨RX7, "newest", "(I)I"⟩
abbrev cX7_isOld : ByteArray := prog_9_method_20_code
def yX7_isOld : MethodName := ⟨RX7, "isOld", "(I)Z"⟩
abbrev cX7_sees : ByteArray := prog_9_method_21_code
def yX7_sees : MethodName := ⟨RX7, "sees", "(II)Z"⟩
abbrev cX7_isWidow : ByteArray := prog_9_method_22_code
def yX7_isWidow : MethodName := ⟨RX7, "isWidow", "(I)Z"⟩
abbrev cX7_seenBy : ByteArray := prog_9_method_23_code
def yX7_seenBy : MethodName := ⟨RX7, "seenBy", "(IZ)I"⟩
abbrev cX7_rentOf : ByteArray := prog_9_method_24_code
def yX7_rentOf : MethodName := ⟨RX7, "rentOf", "(I)I"⟩
abbrev cX7_dueOf : ByteArray := prog_9_method_25_code
def yX7_dueOf : MethodName := ⟨RX7, "dueOf", "(I)I"⟩
abbrev cX7_oldMany : ByteArray := prog_9_method_26_code
def yX7_oldMany : MethodName := ⟨RX7, "oldMany", "()I"⟩
abbrev cX7_removes : ByteArray := prog_9_method_27_code
def yX7_removes : MethodName := ⟨RX7, "removes", "()I"⟩
abbrev cX7_ofState : ByteArray := prog_9_method_28_code
def yX7_ofState : MethodName := ⟨RX7, "ofState", "(I)I"⟩
abbrev cX7_open : ByteArray := prog_9_method_29_code
def yX7_open : MethodName := ⟨RX7, "open", "(I)I"⟩
abbrev cX7_pay : ByteArray := prog_9_method_30_code
def yX7_pay : MethodName := ⟨RX7, "pay", "(II)I"⟩
abbrev cX7_widow : ByteArray := prog_9_method_31_code
def yX7_widow : MethodName := ⟨RX7, "widow", "(II)I"⟩
abbrev cX7_close : ByteArray := prog_9_method_32_code
def yX7_close : MethodName := ⟨RX7, "close", "(I)I"⟩
abbrev cX7_setRent : ByteArray := prog_9_method_33_code
def yX7_setRent : MethodName := ⟨RX7, "setRent", "(I)I"⟩
abbrev cX7_forbidSkew : ByteArray := prog_9_method_34_code
def yX7_forbidSkew : MethodName := ⟨RX7, "forbidSkew", "(Z)I"⟩
abbrev cX7_passes : ByteArray := prog_9_method_35_code
def yX7_passes : MethodName := ⟨RX7, "passes", "()I"⟩
abbrev cX7_tick : ByteArray := prog_9_method_36_code
def yX7_tick : MethodName := ⟨RX7, "tick", "(I)I"⟩
abbrev cX7_lasts : ByteArray := prog_9_method_37_code
def yX7_lasts : MethodName := ⟨RX7, "lasts", "(I)I"⟩
abbrev cX7_read : ByteArray := prog_9_method_38_code
def yX7_read : MethodName := ⟨RX7, "read", "(II)I"⟩
abbrev cX7_writes : ByteArray := prog_9_method_39_code
def yX7_writes : MethodName := ⟨RX7, "writes", "(III)V"⟩
abbrev cX7_write : ByteArray := prog_9_method_40_code
def yX7_write : MethodName := ⟨RX7, "write", "(III)I"⟩
abbrev cX7_hasConflict : ByteArray := prog_9_method_41_code
def yX7_hasConflict : MethodName := ⟨RX7, "hasConflict", "(I)Z"⟩
abbrev cX7_areSkew : ByteArray := prog_9_method_42_code
def yX7_areSkew : MethodName := ⟨RX7, "areSkew", "(IIII)Z"⟩
abbrev cX7_skewsOf : ByteArray := prog_9_method_43_code
def yX7_skewsOf : MethodName := ⟨RX7, "skewsOf", "(I)I"⟩
abbrev cX7_skews : ByteArray := prog_9_method_44_code
def yX7_skews : MethodName := ⟨RX7, "skews", "(I)I"⟩
abbrev cX7_pairs : ByteArray := prog_9_method_45_code
def yX7_pairs : MethodName := ⟨RX7, "pairs", "()I"⟩
abbrev cX7_commits : ByteArray := prog_9_method_46_code
def yX7_commits : MethodName := ⟨RX7, "commits", "(I)V"⟩
abbrev cX7_commit : ByteArray := prog_9_method_47_code
def yX7_commit : MethodName := ⟨RX7, "commit", "(I)I"⟩
abbrev cX7_commitsFor : ByteArray := prog_9_method_48_code
def yX7_commitsFor : MethodName := ⟨RX7, "commitsFor", "(I)I"⟩
abbrev cX7_type : ByteArray := prog_9_method_49_code
def yX7_type : MethodName := ⟨RX7, "type", "(C)I"⟩
abbrev cX7_clearText : ByteArray := prog_9_method_50_code
def yX7_clearText : MethodName := ⟨RX7, "clearText", "()I"⟩
abbrev cX7_isHere : ByteArray := prog_9_method_51_code
def yX7_isHere : MethodName := ⟨RX7, "isHere", "(II)Z"⟩
abbrev cX7_passesNumber : ByteArray := prog_9_method_52_code
def yX7_passesNumber : MethodName := ⟨RX7, "passesNumber", "(I)Z"⟩
abbrev cX7_passesSign : ByteArray := prog_9_method_53_code
def yX7_passesSign : MethodName := ⟨RX7, "passesSign", "(I)Z"⟩
abbrev cX7_passesWrite : ByteArray := prog_9_method_54_code
def yX7_passesWrite : MethodName := ⟨RX7, "passesWrite", "()Z"⟩
abbrev cX7_faultOf : ByteArray := prog_9_method_55_code
def yX7_faultOf : MethodName := ⟨RX7, "faultOf", "()I"⟩
abbrev cX7_readWrites : ByteArray := prog_9_method_56_code
def yX7_readWrites : MethodName := ⟨RX7, "readWrites", "(I)I"⟩
abbrev cX7_versionsOf : ByteArray := prog_9_method_57_code
def yX7_versionsOf : MethodName := ⟨RX7, "versionsOf", "(I)I"⟩
abbrev cX7_writers : ByteArray := prog_9_method_58_code
def yX7_writers : MethodName := ⟨RX7, "writers", "(I)I"⟩
abbrev cX7_cell : ByteArray := prog_9_method_59_code
def yX7_cell : MethodName := ⟨RX7, "cell", "(II)I"⟩
abbrev cX7_version : ByteArray := prog_9_method_60_code
def yX7_version : MethodName := ⟨RX7, "version", "(III)I"⟩
abbrev cX7_seen : ByteArray := prog_9_method_61_code
def yX7_seen : MethodName := ⟨RX7, "seen", "(IZ)I"⟩
abbrev cX7_reader : ByteArray := prog_9_method_62_code
def yX7_reader : MethodName := ⟨RX7, "reader", "(II)I"⟩
abbrev cX7_committed : ByteArray := prog_9_method_63_code
def yX7_committed : MethodName := ⟨RX7, "committed", "(II)I"⟩
abbrev cX7_widows : ByteArray := prog_9_method_64_code
def yX7_widows : MethodName := ⟨RX7, "widows", "()I"⟩
abbrev cX7_count : ByteArray := prog_9_method_65_code
def yX7_count : MethodName := ⟨RX7, "count", "(I)I"⟩
def RJ6 : String := "java/lang/Integer"
def TJ6 : u_T := fun k => match k with
  | _ => ("", "", "", false)
def tyJ6 : Nat → FieldType := fun k => match k with
  | _ => .int
abbrev wsJ60 : List Cond := u_ws RJ6 TJ6 0
theorem nmJ6 : ∀ a, a < 0 → ∀ b, b < 0 → a ≠ b → (TJ6 a).2.1 ≠ (TJ6 b).2.1 := by decide +kernel
theorem tyJ6_ok : ∀ k, k < 0 → parseFieldDescriptor (TJ6 k).2.2.1 = some (tyJ6 k) := by decide +kernel
abbrev cJ6_bitCount_0f7a4 : ByteArray := prog_10_method_49_code
def yJ6_bitCount_0f7a4 : MethodName := ⟨RJ6, "bitCount", "(I)I"⟩
def RJ9 : String := "java/lang/Math"
def TJ9 : u_T := fun k => match k with
  | _ => ("", "", "", false)
def tyJ9 : Nat → FieldType := fun k => match k with
  | _ => .int
abbrev wsJ90 : List Cond := u_ws RJ9 TJ9 0
theorem nmJ9 : ∀ a, a < 0 → ∀ b, b < 0 → a ≠ b → (TJ9 a).2.1 ≠ (TJ9 b).2.1 := by decide +kernel
theorem tyJ9_ok : ∀ k, k < 0 → parseFieldDescriptor (TJ9 k).2.2.1 = some (tyJ9 k) := by decide +kernel
abbrev cJ9_max_7cf53 : ByteArray := prog_11_method_65_code
def yJ9_max_7cf53 : MethodName := ⟨RJ9, "max", "(II)I"⟩
def RJ10 : String := "java/lang/System"
def TJ10 : u_T := fun k => match k with
  | _ => ("", "", "", false)
def tyJ10 : Nat → FieldType := fun k => match k with
  | _ => .int
abbrev wsJ100 : List Cond := u_ws RJ10 TJ10 0
theorem nmJ10 : ∀ a, a < 0 → ∀ b, b < 0 → a ≠ b → (TJ10 a).2.1 ≠ (TJ10 b).2.1 := by decide +kernel
theorem tyJ10_ok : ∀ k, k < 0 → parseFieldDescriptor (TJ10 k).2.2.1 = some (tyJ10 k) := by decide +kernel
def RL : String := "RentedMomentsLaw"
abbrev cL_law : ByteArray := code
def yL_law : MethodName := ⟨RL, "law", "([I)Z"⟩
abbrev vwCl : List vw_C := [(RX0, TX0, 3), (RX1, TX1, 6), (RX2, TX2, 2), (RX3, TX3, 9), (RX4, TX4, 11), (RX5, TX5, 5), (RX6, TX6, 6), (RX7, TX7, 12)]
