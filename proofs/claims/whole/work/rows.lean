section
-- ===== PART A: goes FIRST, ahead of the names: the tables' words, and 'selects' of the private methods out of them =====
/-- a private method of a class that the tables say can be made, by its rows of tables_1 -/
def lw_okq (q : MethodName × Nat) : Prop := (q.1.cls ≠ "java/lang/invoke/MethodHandle" ∧ q.1.cls ≠ "java/lang/invoke/VarHandle") ∧ Cond.instantiable q.1.cls q.2 ∈ tables_1 ∧ Cond.privateMethod q.1 ∈ tables_1 ∧ Cond.instanceMethod q.1 ∈ tables_1
theorem lw_p0 : lw_okq (⟨"RentedMoments$History", "dropOldest", "()V"⟩, 2) := ⟨⟨by decide +kernel, by decide +kernel⟩, List.mem_of_getElem? (i := 187) (by decide +kernel), List.mem_of_getElem? (i := 262) (by decide +kernel), List.mem_of_getElem? (i := 263) (by decide +kernel)⟩
theorem lw_p1 : lw_okq (⟨"RentedMoments$State", "noteCommit", "(I)V"⟩, 11) := ⟨⟨by decide +kernel, by decide +kernel⟩, List.mem_of_getElem? (i := 21) (by decide +kernel), List.mem_of_getElem? (i := 446) (by decide +kernel), List.mem_of_getElem? (i := 447) (by decide +kernel)⟩
theorem lw_p2 : lw_okq (⟨"RentedMoments$State", "pushWrites", "(LRentedMoments$Reader;)V"⟩, 11) := ⟨⟨by decide +kernel, by decide +kernel⟩, List.mem_of_getElem? (i := 21) (by decide +kernel), List.mem_of_getElem? (i := 451) (by decide +kernel), List.mem_of_getElem? (i := 452) (by decide +kernel)⟩
theorem lw_p3 : lw_okq (⟨"RentedMoments$WriteText", "endOfNumber", "(II)I"⟩, 5) := ⟨⟨by decide +kernel, by decide +kernel⟩, List.mem_of_getElem? (i := 204) (by decide +kernel), List.mem_of_getElem? (i := 479) (by decide +kernel), List.mem_of_getElem? (i := 480) (by decide +kernel)⟩
theorem lw_p4 : lw_okq (⟨"RentedMoments$WriteText", "isSign", "(IC)Z"⟩, 5) := ⟨⟨by decide +kernel, by decide +kernel⟩, List.mem_of_getElem? (i := 204) (by decide +kernel), List.mem_of_getElem? (i := 483) (by decide +kernel), List.mem_of_getElem? (i := 484) (by decide +kernel)⟩
theorem lw_p5 : lw_okq (⟨"RentedMoments$WriteText", "isDigit", "(I)Z"⟩, 5) := ⟨⟨by decide +kernel, by decide +kernel⟩, List.mem_of_getElem? (i := 204) (by decide +kernel), List.mem_of_getElem? (i := 487) (by decide +kernel), List.mem_of_getElem? (i := 488) (by decide +kernel)⟩
theorem lw_p6 : lw_okq (⟨"RentedMoments$WriteText", "number", "(II)I"⟩, 5) := ⟨⟨by decide +kernel, by decide +kernel⟩, List.mem_of_getElem? (i := 204) (by decide +kernel), List.mem_of_getElem? (i := 491) (by decide +kernel), List.mem_of_getElem? (i := 492) (by decide +kernel)⟩
theorem lw_p7 : lw_okq (⟨"RentedMomentsModel", "brings", "(I)V"⟩, 12) := ⟨⟨by decide +kernel, by decide +kernel⟩, List.mem_of_getElem? (i := 574) (by decide +kernel), List.mem_of_getElem? (i := 621) (by decide +kernel), List.mem_of_getElem? (i := 622) (by decide +kernel)⟩
theorem lw_p8 : lw_okq (⟨"RentedMomentsModel", "keeps", "(I)V"⟩, 12) := ⟨⟨by decide +kernel, by decide +kernel⟩, List.mem_of_getElem? (i := 574) (by decide +kernel), List.mem_of_getElem? (i := 629) (by decide +kernel), List.mem_of_getElem? (i := 630) (by decide +kernel)⟩
theorem lw_p9 : lw_okq (⟨"RentedMomentsModel", "records", "()V"⟩, 12) := ⟨⟨by decide +kernel, by decide +kernel⟩, List.mem_of_getElem? (i := 574) (by decide +kernel), List.mem_of_getElem? (i := 637) (by decide +kernel), List.mem_of_getElem? (i := 638) (by decide +kernel)⟩
theorem lw_p10 : lw_okq (⟨"RentedMomentsModel", "ofState", "(I)I"⟩, 12) := ⟨⟨by decide +kernel, by decide +kernel⟩, List.mem_of_getElem? (i := 574) (by decide +kernel), List.mem_of_getElem? (i := 648) (by decide +kernel), List.mem_of_getElem? (i := 649) (by decide +kernel)⟩
theorem lw_p11 : lw_okq (⟨"RentedMomentsModel", "ofR", "(II)I"⟩, 12) := ⟨⟨by decide +kernel, by decide +kernel⟩, List.mem_of_getElem? (i := 574) (by decide +kernel), List.mem_of_getElem? (i := 652) (by decide +kernel), List.mem_of_getElem? (i := 653) (by decide +kernel)⟩
theorem lw_p12 : lw_okq (⟨"RentedMomentsModel", "setsR", "(III)V"⟩, 12) := ⟨⟨by decide +kernel, by decide +kernel⟩, List.mem_of_getElem? (i := 574) (by decide +kernel), List.mem_of_getElem? (i := 656) (by decide +kernel), List.mem_of_getElem? (i := 657) (by decide +kernel)⟩
theorem lw_p13 : lw_okq (⟨"RentedMomentsModel", "isReader", "(I)Z"⟩, 12) := ⟨⟨by decide +kernel, by decide +kernel⟩, List.mem_of_getElem? (i := 574) (by decide +kernel), List.mem_of_getElem? (i := 664) (by decide +kernel), List.mem_of_getElem? (i := 665) (by decide +kernel)⟩
theorem lw_p14 : lw_okq (⟨"RentedMomentsModel", "isOpen", "(I)Z"⟩, 12) := ⟨⟨by decide +kernel, by decide +kernel⟩, List.mem_of_getElem? (i := 574) (by decide +kernel), List.mem_of_getElem? (i := 668) (by decide +kernel), List.mem_of_getElem? (i := 669) (by decide +kernel)⟩
theorem lw_p15 : lw_okq (⟨"RentedMomentsModel", "dueOf", "(I)I"⟩, 12) := ⟨⟨by decide +kernel, by decide +kernel⟩, List.mem_of_getElem? (i := 574) (by decide +kernel), List.mem_of_getElem? (i := 676) (by decide +kernel), List.mem_of_getElem? (i := 677) (by decide +kernel)⟩
def lw_privs_1 : List (MethodName × Nat) := [(⟨"RentedMoments$History", "dropOldest", "()V"⟩, 2), (⟨"RentedMoments$State", "noteCommit", "(I)V"⟩, 11), (⟨"RentedMoments$State", "pushWrites", "(LRentedMoments$Reader;)V"⟩, 11), (⟨"RentedMoments$WriteText", "endOfNumber", "(II)I"⟩, 5), (⟨"RentedMoments$WriteText", "isSign", "(IC)Z"⟩, 5), (⟨"RentedMoments$WriteText", "isDigit", "(I)Z"⟩, 5), (⟨"RentedMoments$WriteText", "number", "(II)I"⟩, 5), (⟨"RentedMomentsModel", "brings", "(I)V"⟩, 12), (⟨"RentedMomentsModel", "keeps", "(I)V"⟩, 12), (⟨"RentedMomentsModel", "records", "()V"⟩, 12), (⟨"RentedMomentsModel", "ofState", "(I)I"⟩, 12), (⟨"RentedMomentsModel", "ofR", "(II)I"⟩, 12), (⟨"RentedMomentsModel", "setsR", "(III)V"⟩, 12), (⟨"RentedMomentsModel", "isReader", "(I)Z"⟩, 12), (⟨"RentedMomentsModel", "isOpen", "(I)Z"⟩, 12), (⟨"RentedMomentsModel", "dueOf", "(I)I"⟩, 12)]
theorem lw_r1 : ∀ q ∈ lw_privs_1, lw_okq q := List.forall_mem_cons.mpr ⟨lw_p0, List.forall_mem_cons.mpr ⟨lw_p1, List.forall_mem_cons.mpr ⟨lw_p2, List.forall_mem_cons.mpr ⟨lw_p3, List.forall_mem_cons.mpr ⟨lw_p4, List.forall_mem_cons.mpr ⟨lw_p5, List.forall_mem_cons.mpr ⟨lw_p6, List.forall_mem_cons.mpr ⟨lw_p7, List.forall_mem_cons.mpr ⟨lw_p8, List.forall_mem_cons.mpr ⟨lw_p9, List.forall_mem_cons.mpr ⟨lw_p10, List.forall_mem_cons.mpr ⟨lw_p11, List.forall_mem_cons.mpr ⟨lw_p12, List.forall_mem_cons.mpr ⟨lw_p13, List.forall_mem_cons.mpr ⟨lw_p14, List.forall_mem_cons.mpr ⟨lw_p15, fun _ h => absurd h List.not_mem_nil⟩⟩⟩⟩⟩⟩⟩⟩⟩⟩⟩⟩⟩⟩⟩⟩
theorem lw_p16 : lw_okq (⟨"RentedMomentsModel", "isWidow", "(I)Z"⟩, 12) := ⟨⟨by decide +kernel, by decide +kernel⟩, List.mem_of_getElem? (i := 574) (by decide +kernel), List.mem_of_getElem? (i := 680) (by decide +kernel), List.mem_of_getElem? (i := 681) (by decide +kernel)⟩
theorem lw_p17 : lw_okq (⟨"RentedMomentsModel", "isOld", "(I)Z"⟩, 12) := ⟨⟨by decide +kernel, by decide +kernel⟩, List.mem_of_getElem? (i := 574) (by decide +kernel), List.mem_of_getElem? (i := 684) (by decide +kernel), List.mem_of_getElem? (i := 685) (by decide +kernel)⟩
theorem lw_p18 : lw_okq (⟨"RentedMomentsModel", "ofV", "(II)I"⟩, 12) := ⟨⟨by decide +kernel, by decide +kernel⟩, List.mem_of_getElem? (i := 574) (by decide +kernel), List.mem_of_getElem? (i := 688) (by decide +kernel), List.mem_of_getElem? (i := 689) (by decide +kernel)⟩
theorem lw_p19 : lw_okq (⟨"RentedMomentsModel", "newest", "(I)I"⟩, 12) := ⟨⟨by decide +kernel, by decide +kernel⟩, List.mem_of_getElem? (i := 574) (by decide +kernel), List.mem_of_getElem? (i := 692) (by decide +kernel), List.mem_of_getElem? (i := 693) (by decide +kernel)⟩
theorem lw_p20 : lw_okq (⟨"RentedMomentsModel", "versionAt", "(II)I"⟩, 12) := ⟨⟨by decide +kernel, by decide +kernel⟩, List.mem_of_getElem? (i := 574) (by decide +kernel), List.mem_of_getElem? (i := 696) (by decide +kernel), List.mem_of_getElem? (i := 697) (by decide +kernel)⟩
theorem lw_p21 : lw_okq (⟨"RentedMomentsModel", "sees", "(II)Z"⟩, 12) := ⟨⟨by decide +kernel, by decide +kernel⟩, List.mem_of_getElem? (i := 574) (by decide +kernel), List.mem_of_getElem? (i := 700) (by decide +kernel), List.mem_of_getElem? (i := 701) (by decide +kernel)⟩
theorem lw_p22 : lw_okq (⟨"RentedMomentsModel", "rentOf", "(I)I"⟩, 12) := ⟨⟨by decide +kernel, by decide +kernel⟩, List.mem_of_getElem? (i := 574) (by decide +kernel), List.mem_of_getElem? (i := 704) (by decide +kernel), List.mem_of_getElem? (i := 705) (by decide +kernel)⟩
theorem lw_p23 : lw_okq (⟨"RentedMomentsModel", "seenBy", "(IZ)I"⟩, 12) := ⟨⟨by decide +kernel, by decide +kernel⟩, List.mem_of_getElem? (i := 574) (by decide +kernel), List.mem_of_getElem? (i := 708) (by decide +kernel), List.mem_of_getElem? (i := 709) (by decide +kernel)⟩
theorem lw_p24 : lw_okq (⟨"RentedMomentsModel", "removes", "()I"⟩, 12) := ⟨⟨by decide +kernel, by decide +kernel⟩, List.mem_of_getElem? (i := 574) (by decide +kernel), List.mem_of_getElem? (i := 716) (by decide +kernel), List.mem_of_getElem? (i := 717) (by decide +kernel)⟩
theorem lw_p25 : lw_okq (⟨"RentedMomentsModel", "pairs", "()I"⟩, 12) := ⟨⟨by decide +kernel, by decide +kernel⟩, List.mem_of_getElem? (i := 574) (by decide +kernel), List.mem_of_getElem? (i := 728) (by decide +kernel), List.mem_of_getElem? (i := 729) (by decide +kernel)⟩
theorem lw_p26 : lw_okq (⟨"RentedMomentsModel", "skews", "(I)I"⟩, 12) := ⟨⟨by decide +kernel, by decide +kernel⟩, List.mem_of_getElem? (i := 574) (by decide +kernel), List.mem_of_getElem? (i := 732) (by decide +kernel), List.mem_of_getElem? (i := 733) (by decide +kernel)⟩
theorem lw_p27 : lw_okq (⟨"RentedMomentsModel", "ofC", "(II)I"⟩, 12) := ⟨⟨by decide +kernel, by decide +kernel⟩, List.mem_of_getElem? (i := 574) (by decide +kernel), List.mem_of_getElem? (i := 736) (by decide +kernel), List.mem_of_getElem? (i := 737) (by decide +kernel)⟩
theorem lw_p28 : lw_okq (⟨"RentedMomentsModel", "passes", "()I"⟩, 12) := ⟨⟨by decide +kernel, by decide +kernel⟩, List.mem_of_getElem? (i := 574) (by decide +kernel), List.mem_of_getElem? (i := 747) (by decide +kernel), List.mem_of_getElem? (i := 748) (by decide +kernel)⟩
theorem lw_p29 : lw_okq (⟨"RentedMomentsModel", "writes", "(III)V"⟩, 12) := ⟨⟨by decide +kernel, by decide +kernel⟩, List.mem_of_getElem? (i := 574) (by decide +kernel), List.mem_of_getElem? (i := 769) (by decide +kernel), List.mem_of_getElem? (i := 770) (by decide +kernel)⟩
theorem lw_p30 : lw_okq (⟨"RentedMomentsModel", "hasConflict", "(I)Z"⟩, 12) := ⟨⟨by decide +kernel, by decide +kernel⟩, List.mem_of_getElem? (i := 574) (by decide +kernel), List.mem_of_getElem? (i := 780) (by decide +kernel), List.mem_of_getElem? (i := 781) (by decide +kernel)⟩
theorem lw_p31 : lw_okq (⟨"RentedMomentsModel", "skewsOf", "(I)I"⟩, 12) := ⟨⟨by decide +kernel, by decide +kernel⟩, List.mem_of_getElem? (i := 574) (by decide +kernel), List.mem_of_getElem? (i := 784) (by decide +kernel), List.mem_of_getElem? (i := 785) (by decide +kernel)⟩
def lw_privs_2 : List (MethodName × Nat) := [(⟨"RentedMomentsModel", "isWidow", "(I)Z"⟩, 12), (⟨"RentedMomentsModel", "isOld", "(I)Z"⟩, 12), (⟨"RentedMomentsModel", "ofV", "(II)I"⟩, 12), (⟨"RentedMomentsModel", "newest", "(I)I"⟩, 12), (⟨"RentedMomentsModel", "versionAt", "(II)I"⟩, 12), (⟨"RentedMomentsModel", "sees", "(II)Z"⟩, 12), (⟨"RentedMomentsModel", "rentOf", "(I)I"⟩, 12), (⟨"RentedMomentsModel", "seenBy", "(IZ)I"⟩, 12), (⟨"RentedMomentsModel", "removes", "()I"⟩, 12), (⟨"RentedMomentsModel", "pairs", "()I"⟩, 12), (⟨"RentedMomentsModel", "skews", "(I)I"⟩, 12), (⟨"RentedMomentsModel", "ofC", "(II)I"⟩, 12), (⟨"RentedMomentsModel", "passes", "()I"⟩, 12), (⟨"RentedMomentsModel", "writes", "(III)V"⟩, 12), (⟨"RentedMomentsModel", "hasConflict", "(I)Z"⟩, 12), (⟨"RentedMomentsModel", "skewsOf", "(I)I"⟩, 12)]
theorem lw_r2 : ∀ q ∈ lw_privs_2, lw_okq q := List.forall_mem_cons.mpr ⟨lw_p16, List.forall_mem_cons.mpr ⟨lw_p17, List.forall_mem_cons.mpr ⟨lw_p18, List.forall_mem_cons.mpr ⟨lw_p19, List.forall_mem_cons.mpr ⟨lw_p20, List.forall_mem_cons.mpr ⟨lw_p21, List.forall_mem_cons.mpr ⟨lw_p22, List.forall_mem_cons.mpr ⟨lw_p23, List.forall_mem_cons.mpr ⟨lw_p24, List.forall_mem_cons.mpr ⟨lw_p25, List.forall_mem_cons.mpr ⟨lw_p26, List.forall_mem_cons.mpr ⟨lw_p27, List.forall_mem_cons.mpr ⟨lw_p28, List.forall_mem_cons.mpr ⟨lw_p29, List.forall_mem_cons.mpr ⟨lw_p30, List.forall_mem_cons.mpr ⟨lw_p31, fun _ h => absurd h List.not_mem_nil⟩⟩⟩⟩⟩⟩⟩⟩⟩⟩⟩⟩⟩⟩⟩⟩
theorem lw_p32 : lw_okq (⟨"RentedMomentsModel", "commits", "(I)V"⟩, 12) := ⟨⟨by decide +kernel, by decide +kernel⟩, List.mem_of_getElem? (i := 574) (by decide +kernel), List.mem_of_getElem? (i := 788) (by decide +kernel), List.mem_of_getElem? (i := 789) (by decide +kernel)⟩
theorem lw_p33 : lw_okq (⟨"RentedMomentsModel", "oldMany", "()I"⟩, 12) := ⟨⟨by decide +kernel, by decide +kernel⟩, List.mem_of_getElem? (i := 574) (by decide +kernel), List.mem_of_getElem? (i := 792) (by decide +kernel), List.mem_of_getElem? (i := 793) (by decide +kernel)⟩
theorem lw_p34 : lw_okq (⟨"RentedMomentsModel", "commitsFor", "(I)I"⟩, 12) := ⟨⟨by decide +kernel, by decide +kernel⟩, List.mem_of_getElem? (i := 574) (by decide +kernel), List.mem_of_getElem? (i := 796) (by decide +kernel), List.mem_of_getElem? (i := 797) (by decide +kernel)⟩
theorem lw_p35 : lw_okq (⟨"RentedMomentsModel", "faultOf", "()I"⟩, 12) := ⟨⟨by decide +kernel, by decide +kernel⟩, List.mem_of_getElem? (i := 574) (by decide +kernel), List.mem_of_getElem? (i := 812) (by decide +kernel), List.mem_of_getElem? (i := 813) (by decide +kernel)⟩
theorem lw_p36 : lw_okq (⟨"RentedMomentsModel", "passesWrite", "()Z"⟩, 12) := ⟨⟨by decide +kernel, by decide +kernel⟩, List.mem_of_getElem? (i := 574) (by decide +kernel), List.mem_of_getElem? (i := 816) (by decide +kernel), List.mem_of_getElem? (i := 817) (by decide +kernel)⟩
theorem lw_p37 : lw_okq (⟨"RentedMomentsModel", "passesNumber", "(I)Z"⟩, 12) := ⟨⟨by decide +kernel, by decide +kernel⟩, List.mem_of_getElem? (i := 574) (by decide +kernel), List.mem_of_getElem? (i := 820) (by decide +kernel), List.mem_of_getElem? (i := 821) (by decide +kernel)⟩
theorem lw_p38 : lw_okq (⟨"RentedMomentsModel", "isHere", "(II)Z"⟩, 12) := ⟨⟨by decide +kernel, by decide +kernel⟩, List.mem_of_getElem? (i := 574) (by decide +kernel), List.mem_of_getElem? (i := 824) (by decide +kernel), List.mem_of_getElem? (i := 825) (by decide +kernel)⟩
theorem lw_p39 : lw_okq (⟨"RentedMomentsModel", "passesSign", "(I)Z"⟩, 12) := ⟨⟨by decide +kernel, by decide +kernel⟩, List.mem_of_getElem? (i := 574) (by decide +kernel), List.mem_of_getElem? (i := 828) (by decide +kernel), List.mem_of_getElem? (i := 829) (by decide +kernel)⟩
theorem lw_p40 : lw_okq (⟨"RentedMomentsModel", "versionsOf", "(I)I"⟩, 12) := ⟨⟨by decide +kernel, by decide +kernel⟩, List.mem_of_getElem? (i := 574) (by decide +kernel), List.mem_of_getElem? (i := 836) (by decide +kernel), List.mem_of_getElem? (i := 837) (by decide +kernel)⟩
theorem lw_p41 : lw_okq (⟨"RentedMomentsModel", "writers", "(I)I"⟩, 12) := ⟨⟨by decide +kernel, by decide +kernel⟩, List.mem_of_getElem? (i := 574) (by decide +kernel), List.mem_of_getElem? (i := 840) (by decide +kernel), List.mem_of_getElem? (i := 841) (by decide +kernel)⟩
theorem lw_p42 : lw_okq (⟨"RentedMomentsModel", "seen", "(IZ)I"⟩, 12) := ⟨⟨by decide +kernel, by decide +kernel⟩, List.mem_of_getElem? (i := 574) (by decide +kernel), List.mem_of_getElem? (i := 852) (by decide +kernel), List.mem_of_getElem? (i := 853) (by decide +kernel)⟩
theorem lw_p43 : lw_okq (⟨"RentedMomentsModel", "widows", "()I"⟩, 12) := ⟨⟨by decide +kernel, by decide +kernel⟩, List.mem_of_getElem? (i := 574) (by decide +kernel), List.mem_of_getElem? (i := 864) (by decide +kernel), List.mem_of_getElem? (i := 865) (by decide +kernel)⟩
def lw_privs_3 : List (MethodName × Nat) := [(⟨"RentedMomentsModel", "commits", "(I)V"⟩, 12), (⟨"RentedMomentsModel", "oldMany", "()I"⟩, 12), (⟨"RentedMomentsModel", "commitsFor", "(I)I"⟩, 12), (⟨"RentedMomentsModel", "faultOf", "()I"⟩, 12), (⟨"RentedMomentsModel", "passesWrite", "()Z"⟩, 12), (⟨"RentedMomentsModel", "passesNumber", "(I)Z"⟩, 12), (⟨"RentedMomentsModel", "isHere", "(II)Z"⟩, 12), (⟨"RentedMomentsModel", "passesSign", "(I)Z"⟩, 12), (⟨"RentedMomentsModel", "versionsOf", "(I)I"⟩, 12), (⟨"RentedMomentsModel", "writers", "(I)I"⟩, 12), (⟨"RentedMomentsModel", "seen", "(IZ)I"⟩, 12), (⟨"RentedMomentsModel", "widows", "()I"⟩, 12)]
theorem lw_r3 : ∀ q ∈ lw_privs_3, lw_okq q := List.forall_mem_cons.mpr ⟨lw_p32, List.forall_mem_cons.mpr ⟨lw_p33, List.forall_mem_cons.mpr ⟨lw_p34, List.forall_mem_cons.mpr ⟨lw_p35, List.forall_mem_cons.mpr ⟨lw_p36, List.forall_mem_cons.mpr ⟨lw_p37, List.forall_mem_cons.mpr ⟨lw_p38, List.forall_mem_cons.mpr ⟨lw_p39, List.forall_mem_cons.mpr ⟨lw_p40, List.forall_mem_cons.mpr ⟨lw_p41, List.forall_mem_cons.mpr ⟨lw_p42, List.forall_mem_cons.mpr ⟨lw_p43, fun _ h => absurd h List.not_mem_nil⟩⟩⟩⟩⟩⟩⟩⟩⟩⟩⟩⟩
def lw_privs : List (MethodName × Nat) := lw_privs_1 ++ (lw_privs_2 ++ (lw_privs_3))
def lw_tbl : List Cond := k2_sels lw_privs ++ tables_1
theorem lw_privs_ok : ∀ q ∈ lw_privs, lw_okq q := by
  show ∀ q ∈ lw_privs_1 ++ (lw_privs_2 ++ (lw_privs_3)), lw_okq q
  exact List.forall_mem_append.mpr ⟨lw_r1, List.forall_mem_append.mpr ⟨lw_r2, lw_r3⟩⟩
def RX0 : String := "RentedMoments$Cell"
def TX0 : u_T := fun k => match k with
  | 0 => ("RentedMoments$Cell", "values", "[I", true)
  | 1 => ("RentedMoments$Cell", "moments", "[I", true)
  | _ => ("RentedMoments$Cell", "places", "I", false)
def tyX0 : Nat → FieldType := fun k => match k with
  | 0 => .array .int
  | 1 => .array .int
  | _ => .int
abbrev wsX00 : List Cond := u_ws RX0 TX0 3
theorem nmX0 : ∀ a, a < 3 → ∀ b, b < 3 → a ≠ b → (TX0 a).2.1 ≠ (TX0 b).2.1 := by decide +kernel
theorem tyX0_ok : ∀ k, k < 3 → parseFieldDescriptor (TX0 k).2.2.1 = some (tyX0 k) := by decide +kernel
abbrev cX0_init : ByteArray := prog_2_method_1_code
def yX0_init : MethodName := ⟨RX0, "<init>", "()V"⟩
abbrev cX0_copyFrom : ByteArray := prog_2_method_2_code
def yX0_copyFrom : MethodName := ⟨RX0, "copyFrom", "(LRentedMoments$Cell;)V"⟩
abbrev cX0_placeSeenAt : ByteArray := prog_2_method_3_code
def yX0_placeSeenAt : MethodName := ⟨RX0, "placeSeenAt", "(I)I"⟩
abbrev cX0_valueSeenAt : ByteArray := prog_2_method_4_code
def yX0_valueSeenAt : MethodName := ⟨RX0, "valueSeenAt", "(I)I"⟩
abbrev cX0_push : ByteArray := prog_2_method_5_code
def yX0_push : MethodName := ⟨RX0, "push", "(II)V"⟩
abbrev cX0_retainOld : ByteArray := prog_2_method_6_code
def yX0_retainOld : MethodName := ⟨RX0, "retainOld", "(I)I"⟩
def RX1 : String := "RentedMoments$Commit"
def TX1 : u_T := fun k => match k with
  | 0 => ("RentedMoments$Commit", "reader", "I", false)
  | 1 => ("RentedMoments$Commit", "readerMoment", "I", false)
  | 2 => ("RentedMoments$Commit", "madeMoment", "I", false)
  | 3 => ("RentedMoments$Commit", "writtenCells", "I", false)
  | 4 => ("RentedMoments$Commit", "readCells", "I", false)
  | _ => ("RentedMoments$Commit", "skews", "I", false)
def tyX1 : Nat → FieldType := fun k => match k with
  | 0 => .int
  | 1 => .int
  | 2 => .int
  | 3 => .int
  | 4 => .int
  | _ => .int
abbrev wsX10 : List Cond := u_ws RX1 TX1 6
theorem nmX1 : ∀ a, a < 6 → ∀ b, b < 6 → a ≠ b → (TX1 a).2.1 ≠ (TX1 b).2.1 := by decide +kernel
theorem tyX1_ok : ∀ k, k < 6 → parseFieldDescriptor (TX1 k).2.2.1 = some (tyX1 k) := by decide +kernel
abbrev cX1_init : ByteArray := prog_3_method_1_code
def yX1_init : MethodName := ⟨RX1, "<init>", "()V"⟩
abbrev cX1_copyFrom : ByteArray := prog_3_method_2_code
def yX1_copyFrom : MethodName := ⟨RX1, "copyFrom", "(LRentedMoments$Commit;)V"⟩
abbrev cX1_isInSkewWithLater : ByteArray := prog_3_method_3_code
def yX1_isInSkewWithLater : MethodName := ⟨RX1, "isInSkewWithLater", "(LRentedMoments$Reader;)Z"⟩
def RX2 : String := "RentedMoments$History"
def TX2 : u_T := fun k => match k with
  | 0 => ("RentedMoments$History", "states", "[LRentedMoments$State;", true)
  | _ => ("RentedMoments$History", "length", "I", false)
def tyX2 : Nat → FieldType := fun k => match k with
  | 0 => .array (.object "RentedMoments$State")
  | _ => .int
abbrev wsX20 : List Cond := u_ws RX2 TX2 2
theorem nmX2 : ∀ a, a < 2 → ∀ b, b < 2 → a ≠ b → (TX2 a).2.1 ≠ (TX2 b).2.1 := by decide +kernel
theorem tyX2_ok : ∀ k, k < 2 → parseFieldDescriptor (TX2 k).2.2.1 = some (tyX2 k) := by decide +kernel
abbrev cX2_init : ByteArray := prog_4_method_1_code
def yX2_init : MethodName := ⟨RX2, "<init>", "()V"⟩
abbrev cX2_record : ByteArray := prog_4_method_2_code
def yX2_record : MethodName := ⟨RX2, "record", "(LRentedMoments$State;)V"⟩
abbrev cX2_dropOldest : ByteArray := prog_4_method_3_code
def yX2_dropOldest : MethodName := ⟨RX2, "dropOldest", "()V"⟩
abbrev cX2_bringBack : ByteArray := prog_4_method_4_code
def yX2_bringBack : MethodName := ⟨RX2, "bringBack", "(LRentedMoments$State;)V"⟩
def RX3 : String := "RentedMoments$Reader"
def TX3 : u_T := fun k => match k with
  | 0 => ("RentedMoments$Reader", "writes", "[I", true)
  | 1 => ("RentedMoments$Reader", "state", "I", false)
  | 2 => ("RentedMoments$Reader", "moment", "I", false)
  | 3 => ("RentedMoments$Reader", "purse", "I", false)
  | 4 => ("RentedMoments$Reader", "readCells", "I", false)
  | 5 => ("RentedMoments$Reader", "writtenCells", "I", false)
  | 6 => ("RentedMoments$Reader", "term", "I", false)
  | 7 => ("RentedMoments$Reader", "paid", "I", false)
  | _ => ("RentedMoments$Reader", "wasWidow", "Z", false)
def tyX3 : Nat → FieldType := fun k => match k with
  | 0 => .array .int
  | 1 => .int
  | 2 => .int
  | 3 => .int
  | 4 => .int
  | 5 => .int
  | 6 => .int
  | 7 => .int
  | _ => .boolean
abbrev wsX30 : List Cond := u_ws RX3 TX3 9
theorem nmX3 : ∀ a, a < 9 → ∀ b, b < 9 → a ≠ b → (TX3 a).2.1 ≠ (TX3 b).2.1 := by decide +kernel
theorem tyX3_ok : ∀ k, k < 9 → parseFieldDescriptor (TX3 k).2.2.1 = some (tyX3 k) := by decide +kernel
abbrev cX3_init : ByteArray := prog_5_method_1_code
def yX3_init : MethodName := ⟨RX3, "<init>", "()V"⟩
abbrev cX3_begin : ByteArray := prog_5_method_2_code
def yX3_begin : MethodName := ⟨RX3, "begin", "(II)V"⟩
abbrev cX3_copyFrom : ByteArray := prog_5_method_3_code
def yX3_copyFrom : MethodName := ⟨RX3, "copyFrom", "(LRentedMoments$Reader;)V"⟩
abbrev cX3_isOpen : ByteArray := prog_5_method_4_code
def yX3_isOpen : MethodName := ⟨RX3, "isOpen", "()Z"⟩
abbrev cX3_isOpenWidow : ByteArray := prog_5_method_5_code
def yX3_isOpenWidow : MethodName := ⟨RX3, "isOpenWidow", "()Z"⟩
abbrev cX3_paysRent : ByteArray := prog_5_method_6_code
def yX3_paysRent : MethodName := ⟨RX3, "paysRent", "()Z"⟩
abbrev cX3_hasWrite : ByteArray := prog_5_method_7_code
def yX3_hasWrite : MethodName := ⟨RX3, "hasWrite", "(I)Z"⟩
abbrev cX3_putWrite : ByteArray := prog_5_method_8_code
def yX3_putWrite : MethodName := ⟨RX3, "putWrite", "(II)V"⟩
abbrev cX3_numberOfWrites : ByteArray := prog_5_method_9_code
def yX3_numberOfWrites : MethodName := ⟨RX3, "numberOfWrites", "()I"⟩
def RX4 : String := "RentedMoments$State"
def TX4 : u_T := fun k => match k with
  | 0 => ("RentedMoments$State", "cells", "[LRentedMoments$Cell;", true)
  | 1 => ("RentedMoments$State", "readers", "[LRentedMoments$Reader;", true)
  | 2 => ("RentedMoments$State", "commits", "[LRentedMoments$Commit;", true)
  | 3 => ("RentedMoments$State", "moment", "I", false)
  | 4 => ("RentedMoments$State", "tickNumber", "I", false)
  | 5 => ("RentedMoments$State", "rent", "I", false)
  | 6 => ("RentedMoments$State", "readersBeen", "I", false)
  | 7 => ("RentedMoments$State", "commitsMade", "I", false)
  | 8 => ("RentedMoments$State", "removedVersions", "I", false)
  | 9 => ("RentedMoments$State", "skewForbidden", "Z", false)
  | _ => ("RentedMoments$State", "dues", "[I", true)
def tyX4 : Nat → FieldType := fun k => match k with
  | 0 => .array (.object "RentedMoments$Cell")
  | 1 => .array (.object "RentedMoments$Reader")
  | 2 => .array (.object "RentedMoments$Commit")
  | 3 => .int
  | 4 => .int
  | 5 => .int
  | 6 => .int
  | 7 => .int
  | 8 => .int
  | 9 => .boolean
  | _ => .array .int
abbrev wsX40 : List Cond := u_ws RX4 TX4 11
theorem nmX4 : ∀ a, a < 11 → ∀ b, b < 11 → a ≠ b → (TX4 a).2.1 ≠ (TX4 b).2.1 := by decide +kernel
theorem tyX4_ok : ∀ k, k < 11 → parseFieldDescriptor (TX4 k).2.2.1 = some (tyX4 k) := by decide +kernel
abbrev cX4_init : ByteArray := prog_6_method_1_code
def yX4_init : MethodName := ⟨RX4, "<init>", "()V"⟩
abbrev cX4_copyFrom : ByteArray := prog_6_method_2_code
def yX4_copyFrom : MethodName := ⟨RX4, "copyFrom", "(LRentedMoments$State;)V"⟩
abbrev cX4_hasReader : ByteArray := prog_6_method_3_code
def yX4_hasReader : MethodName := ⟨RX4, "hasReader", "(I)Z"⟩
abbrev cX4_addReader : ByteArray := prog_6_method_4_code
def yX4_addReader : MethodName := ⟨RX4, "addReader", "(I)I"⟩
abbrev cX4_readersIn : ByteArray := prog_6_method_5_code
def yX4_readersIn : MethodName := ⟨RX4, "readersIn", "(I)I"⟩
abbrev cX4_openWidows : ByteArray := prog_6_method_6_code
def yX4_openWidows : MethodName := ⟨RX4, "openWidows", "()I"⟩
abbrev cX4_coinsPaid : ByteArray := prog_6_method_7_code
def yX4_coinsPaid : MethodName := ⟨RX4, "coinsPaid", "()I"⟩
abbrev cX4_writersOf : ByteArray := prog_6_method_8_code
def yX4_writersOf : MethodName := ⟨RX4, "writersOf", "(I)I"⟩
abbrev cX4_seersOf : ByteArray := prog_6_method_9_code
def yX4_seersOf : MethodName := ⟨RX4, "seersOf", "(LRentedMoments$Cell;I)I"⟩
abbrev cX4_payersOf : ByteArray := prog_6_method_10_code
def yX4_payersOf : MethodName := ⟨RX4, "payersOf", "(LRentedMoments$Cell;I)I"⟩
abbrev cX4_placesSeen : ByteArray := prog_6_method_11_code
def yX4_placesSeen : MethodName := ⟨RX4, "placesSeen", "(LRentedMoments$Cell;I)I"⟩
abbrev cX4_oldVersions : ByteArray := prog_6_method_12_code
def yX4_oldVersions : MethodName := ⟨RX4, "oldVersions", "()I"⟩
abbrev cX4_oldVersionsSeenBy : ByteArray := prog_6_method_13_code
def yX4_oldVersionsSeenBy : MethodName := ⟨RX4, "oldVersionsSeenBy", "(LRentedMoments$Reader;)I"⟩
abbrev cX4_sumSeenBy : ByteArray := prog_6_method_14_code
def yX4_sumSeenBy : MethodName := ⟨RX4, "sumSeenBy", "(LRentedMoments$Reader;)I"⟩
abbrev cX4_removeUnseen : ByteArray := prog_6_method_15_code
def yX4_removeUnseen : MethodName := ⟨RX4, "removeUnseen", "()I"⟩
abbrev cX4_shareOf : ByteArray := prog_6_method_16_code
def yX4_shareOf : MethodName := ⟨RX4, "shareOf", "(LRentedMoments$Cell;I)I"⟩
abbrev cX4_dueOf : ByteArray := prog_6_method_17_code
def yX4_dueOf : MethodName := ⟨RX4, "dueOf", "(LRentedMoments$Reader;)I"⟩
abbrev cX4_tellDues : ByteArray := prog_6_method_18_code
def yX4_tellDues : MethodName := ⟨RX4, "tellDues", "()V"⟩
abbrev cX4_letTicksPass : ByteArray := prog_6_method_19_code
def yX4_letTicksPass : MethodName := ⟨RX4, "letTicksPass", "(II)V"⟩
abbrev cX4_takeDues : ByteArray := prog_6_method_20_code
def yX4_takeDues : MethodName := ⟨RX4, "takeDues", "()Z"⟩
abbrev cX4_shortenTerms : ByteArray := prog_6_method_21_code
def yX4_shortenTerms : MethodName := ⟨RX4, "shortenTerms", "()Z"⟩
abbrev cX4_hasConflict : ByteArray := prog_6_method_22_code
def yX4_hasConflict : MethodName := ⟨RX4, "hasConflict", "(LRentedMoments$Reader;)Z"⟩
abbrev cX4_skewsOf : ByteArray := prog_6_method_23_code
def yX4_skewsOf : MethodName := ⟨RX4, "skewsOf", "(LRentedMoments$Reader;)I"⟩
abbrev cX4_pairsInSkew : ByteArray := prog_6_method_24_code
def yX4_pairsInSkew : MethodName := ⟨RX4, "pairsInSkew", "()I"⟩
abbrev cX4_oldVersionsWithout : ByteArray := prog_6_method_25_code
def yX4_oldVersionsWithout : MethodName := ⟨RX4, "oldVersionsWithout", "(I)I"⟩
abbrev cX4_land : ByteArray := prog_6_method_26_code
def yX4_land : MethodName := ⟨RX4, "land", "(I)V"⟩
abbrev cX4_noteCommit : ByteArray := prog_6_method_27_code
def yX4_noteCommit : MethodName := ⟨RX4, "noteCommit", "(I)V"⟩
abbrev cX4_pushWrites : ByteArray := prog_6_method_28_code
def yX4_pushWrites : MethodName := ⟨RX4, "pushWrites", "(LRentedMoments$Reader;)V"⟩
def RX5 : String := "RentedMoments$WriteText"
def TX5 : u_T := fun k => match k with
  | 0 => ("RentedMoments$WriteText", "signs", "[C", true)
  | 1 => ("RentedMoments$WriteText", "length", "I", false)
  | 2 => ("RentedMoments$WriteText", "cells", "[I", true)
  | 3 => ("RentedMoments$WriteText", "values", "[I", true)
  | _ => ("RentedMoments$WriteText", "writes", "I", false)
def tyX5 : Nat → FieldType := fun k => match k with
  | 0 => .array .char
  | 1 => .int
  | 2 => .array .int
  | 3 => .array .int
  | _ => .int
abbrev wsX50 : List Cond := u_ws RX5 TX5 5
theorem nmX5 : ∀ a, a < 5 → ∀ b, b < 5 → a ≠ b → (TX5 a).2.1 ≠ (TX5 b).2.1 := by decide +kernel
theorem tyX5_ok : ∀ k, k < 5 → parseFieldDescriptor (TX5 k).2.2.1 = some (tyX5 k) := by decide +kernel
abbrev cX5_init : ByteArray := prog_7_method_1_code
def yX5_init : MethodName := ⟨RX5, "<init>", "()V"⟩
abbrev cX5_add : ByteArray := prog_7_method_2_code
def yX5_add : MethodName := ⟨RX5, "add", "(C)V"⟩
abbrev cX5_parse : ByteArray := prog_7_method_3_code
def yX5_parse : MethodName := ⟨RX5, "parse", "()I"⟩
abbrev cX5_greatestCell : ByteArray := prog_7_method_4_code
def yX5_greatestCell : MethodName := ⟨RX5, "greatestCell", "()I"⟩
abbrev cX5_isSign : ByteArray := prog_7_method_5_code
def yX5_isSign : MethodName := ⟨RX5, "isSign", "(IC)Z"⟩
abbrev cX5_isDigit : ByteArray := prog_7_method_6_code
def yX5_isDigit : MethodName := ⟨RX5, "isDigit", "(I)Z"⟩
abbrev cX5_endOfNumber : ByteArray := prog_7_method_7_code
def yX5_endOfNumber : MethodName := ⟨RX5, "endOfNumber", "(II)I"⟩
abbrev cX5_number : ByteArray := prog_7_method_8_code
def yX5_number : MethodName := ⟨RX5, "number", "(II)I"⟩
def RX6 : String := "RentedMoments"
def TX6 : u_T := fun k => match k with
  | 0 => ("RentedMoments", "now", "LRentedMoments$State;", true)
  | 1 => ("RentedMoments", "ahead", "LRentedMoments$State;", true)
  | 2 => ("RentedMoments", "snapshot", "LRentedMoments$State;", true)
  | 3 => ("RentedMoments", "history", "LRentedMoments$History;", true)
  | 4 => ("RentedMoments", "text", "LRentedMoments$WriteText;", true)
  | _ => ("RentedMoments", "hasSnapshot", "Z", false)
def tyX6 : Nat → FieldType := fun k => match k with
  | 0 => .object "RentedMoments$State"
  | 1 => .object "RentedMoments$State"
  | 2 => .object "RentedMoments$State"
  | 3 => .object "RentedMoments$History"
  | 4 => .object "RentedMoments$WriteText"
  | _ => .boolean
abbrev wsX60 : List Cond := u_ws RX6 TX6 6
theorem nmX6 : ∀ a, a < 6 → ∀ b, b < 6 → a ≠ b → (TX6 a).2.1 ≠ (TX6 b).2.1 := by decide +kernel
theorem tyX6_ok : ∀ k, k < 6 → parseFieldDescriptor (TX6 k).2.2.1 = some (tyX6 k) := by decide +kernel
abbrev cX6_init : ByteArray := prog_1_method_1_code
def yX6_init : MethodName := ⟨RX6, "<init>", "()V"⟩
abbrev cX6_open : ByteArray := prog_1_method_2_code
def yX6_open : MethodName := ⟨RX6, "open", "(I)I"⟩
abbrev cX6_pay : ByteArray := prog_1_method_3_code
def yX6_pay : MethodName := ⟨RX6, "pay", "(II)I"⟩
abbrev cX6_widow : ByteArray := prog_1_method_4_code
def yX6_widow : MethodName := ⟨RX6, "widow", "(II)I"⟩
abbrev cX6_close : ByteArray := prog_1_method_5_code
def yX6_close : MethodName := ⟨RX6, "close", "(I)I"⟩
abbrev cX6_setRent : ByteArray := prog_1_method_6_code
def yX6_setRent : MethodName := ⟨RX6, "setRent", "(I)I"⟩
abbrev cX6_forbidSkew : ByteArray := prog_1_method_7_code
def yX6_forbidSkew : MethodName := ⟨RX6, "forbidSkew", "(Z)I"⟩
abbrev cX6_tick : ByteArray := prog_1_method_8_code
def yX6_tick : MethodName := ⟨RX6, "tick", "(I)I"⟩
abbrev cX6_read : ByteArray := prog_1_method_9_code
def yX6_read : MethodName := ⟨RX6, "read", "(II)I"⟩
abbrev cX6_write : ByteArray := prog_1_method_10_code
def yX6_write : MethodName := ⟨RX6, "write", "(III)I"⟩
abbrev cX6_commit : ByteArray := prog_1_method_11_code
def yX6_commit : MethodName := ⟨RX6, "commit", "(I)I"⟩
abbrev cX6_type : ByteArray := prog_1_method_12_code
def yX6_type : MethodName := ⟨RX6, "type", "(C)I"⟩
abbrev cX6_clearText : ByteArray := prog_1_method_13_code
def yX6_clearText : MethodName := ⟨RX6, "clearText", "()I"⟩
abbrev cX6_readWrites : ByteArray := prog_1_method_14_code
def yX6_readWrites : MethodName := ⟨RX6, "readWrites", "(I)I"⟩
abbrev cX6_undo : ByteArray := prog_1_method_15_code
def yX6_undo : MethodName := ⟨RX6, "undo", "()I"⟩
abbrev cX6_keep : ByteArray := prog_1_method_16_code
def yX6_keep : MethodName := ⟨RX6, "keep", "()I"⟩
abbrev cX6_restore : ByteArray := prog_1_method_17_code
def yX6_restore : MethodName := ⟨RX6, "restore", "()I"⟩
abbrev cX6_cell : ByteArray := prog_1_method_18_code
def yX6_cell : MethodName := ⟨RX6, "cell", "(II)I"⟩
abbrev cX6_version : ByteArray := prog_1_method_19_code
def yX6_version : MethodName := ⟨RX6, "version", "(III)I"⟩
abbrev cX6_reader : ByteArray := prog_1_method_20_code
def yX6_reader : MethodName := ⟨RX6, "reader", "(II)I"⟩
abbrev cX6_lasts : ByteArray := prog_1_method_21_code
def yX6_lasts : MethodName := ⟨RX6, "lasts", "(I)I"⟩
abbrev cX6_committed : ByteArray := prog_1_method_22_code
def yX6_committed : MethodName := ⟨RX6, "committed", "(II)I"⟩
abbrev cX6_count : ByteArray := prog_1_method_23_code
def yX6_count : MethodName := ⟨RX6, "count", "(I)I"⟩
abbrev cX6_isCell : ByteArray := prog_1_method_24_code
def yX6_isCell : MethodName := ⟨RX6, "isCell", "(I)Z"⟩
def RX7 : String := "RentedMomentsModel"
def TX7 : u_T := fun k => match k with
  | 0 => ("RentedMomentsModel", "now", "[I", true)
  | 1 => ("RentedMomentsModel", "kept", "[I", true)
  | 2 => ("RentedMomentsModel", "states", "I", false)
  | 3 => ("RentedMomentsModel", "hasSnapshot", "Z", false)
  | 4 => ("RentedMomentsModel", "text", "[I", true)
  | 5 => ("RentedMomentsModel", "length", "I", false)
  | 6 => ("RentedMomentsModel", "at", "I", false)
  | 7 => ("RentedMomentsModel", "number", "I", false)
  | 8 => ("RentedMomentsModel", "writes", "I", false)
  | 9 => ("RentedMomentsModel", "cells", "[I", true)
  | 10 => ("RentedMomentsModel", "values", "[I", true)
  | _ => ("RentedMomentsModel", "dues", "[I", true)
def tyX7 : Nat → FieldType := fun k => match k with
  | 0 => .array .int
  | 1 => .array .int
  | 2 => .int
  | 3 => .boolean
  | 4 => .array .int
  | 5 => .int
  | 6 => .int
  | 7 => .int
  | 8 => .int
  | 9 => .array .int
  | 10 => .array .int
  | _ => .array .int
abbrev wsX70 : List Cond := u_ws RX7 TX7 12
theorem nmX7 : ∀ a, a < 12 → ∀ b, b < 12 → a ≠ b → (TX7 a).2.1 ≠ (TX7 b).2.1 := by decide +kernel
theorem tyX7_ok : ∀ k, k < 12 → parseFieldDescriptor (TX7 k).2.2.1 = some (tyX7 k) := by decide +kernel
abbrev cX7_init : ByteArray := prog_9_method_1_code
def yX7_init : MethodName := ⟨RX7, "<init>", "()V"⟩
abbrev cX7_isIn : ByteArray := prog_9_method_2_code
def yX7_isIn : MethodName := ⟨RX7, "isIn", "(III)Z"⟩
abbrev cX7_has : ByteArray := prog_9_method_3_code
def yX7_has : MethodName := ⟨RX7, "has", "(II)Z"⟩
abbrev cX7_ones : ByteArray := prog_9_method_4_code
def yX7_ones : MethodName := ⟨RX7, "ones", "(I)I"⟩
abbrev cX7_ofR : ByteArray := prog_9_method_5_code
def yX7_ofR : MethodName := ⟨RX7, "ofR", "(II)I"⟩
abbrev cX7_setsR : ByteArray := prog_9_method_6_code
def yX7_setsR : MethodName := ⟨RX7, "setsR", "(III)V"⟩
abbrev cX7_ofV : ByteArray := prog_9_method_7_code
def yX7_ofV : MethodName := ⟨RX7, "ofV", "(II)I"⟩
abbrev cX7_ofC : ByteArray := prog_9_method_8_code
def yX7_ofC : MethodName := ⟨RX7, "ofC", "(II)I"⟩
abbrev cX7_isCell : ByteArray := prog_9_method_9_code
def yX7_isCell : MethodName := ⟨RX7, "isCell", "(I)Z"⟩
abbrev cX7_isReader : ByteArray := prog_9_method_10_code
def yX7_isReader : MethodName := ⟨RX7, "isReader", "(I)Z"⟩
abbrev cX7_isOpen : ByteArray := prog_9_method_11_code
def yX7_isOpen : MethodName := ⟨RX7, "isOpen", "(I)Z"⟩
abbrev cX7_keeps : ByteArray := prog_9_method_12_code
def yX7_keeps : MethodName := ⟨RX7, "keeps", "(I)V"⟩
abbrev cX7_brings : ByteArray := prog_9_method_13_code
def yX7_brings : MethodName := ⟨RX7, "brings", "(I)V"⟩
abbrev cX7_records : ByteArray := prog_9_method_14_code
def yX7_records : MethodName := ⟨RX7, "records", "()V"⟩
abbrev cX7_undo : ByteArray := prog_9_method_15_code
def yX7_undo : MethodName := ⟨RX7, "undo", "()I"⟩
abbrev cX7_keep : ByteArray := prog_9_method_16_code
def yX7_keep : MethodName := ⟨RX7, "keep", "()I"⟩
abbrev cX7_restore : ByteArray := prog_9_method_17_code
def yX7_restore : MethodName := ⟨RX7, "restore", "()I"⟩
abbrev cX7_versionAt : ByteArray := prog_9_method_18_code
def yX7_versionAt : MethodName := ⟨RX7, "versionAt", "(II)I"⟩
abbrev cX7_newest : ByteArray := prog_9_method_19_code
def yX7_newest : MethodName := ⟨RX7, "newest", "(I)I"⟩
abbrev cX7_isOld : ByteArray := prog_9_method_20_code
def yX7_isOld : MethodName := ⟨RX7, "isOld", "(I)Z"⟩
abbrev cX7_sees : ByteArray := prog_9_method_21_code
def yX7_sees : MethodName := ⟨RX7, "sees", "(II)Z"⟩
abbrev cX7_isWidow : ByteArray := prog_9_method_22_code
def yX7_isWidow : MethodName := ⟨RX7, "isWidow", "(I)Z"⟩
abbrev cX7_seenBy : ByteArray := prog_9_method_23_code
def yX7_seenBy : MethodName := ⟨RX7, "seenBy", "(IZ)I"⟩
abbrev cX7_rentOf : ByteArray := prog_9_method_24_code
def yX7_rentOf : MethodName := ⟨RX7, "rentOf", "(I)I"⟩
abbrev cX7_dueOf : ByteArray := prog_9_method_25_code
def yX7_dueOf : MethodName := ⟨RX7, "dueOf", "(I)I"⟩
abbrev cX7_oldMany : ByteArray := prog_9_method_26_code
def yX7_oldMany : MethodName := ⟨RX7, "oldMany", "()I"⟩
abbrev cX7_removes : ByteArray := prog_9_method_27_code
def yX7_removes : MethodName := ⟨RX7, "removes", "()I"⟩
abbrev cX7_ofState : ByteArray := prog_9_method_28_code
def yX7_ofState : MethodName := ⟨RX7, "ofState", "(I)I"⟩
abbrev cX7_open : ByteArray := prog_9_method_29_code
def yX7_open : MethodName := ⟨RX7, "open", "(I)I"⟩
abbrev cX7_pay : ByteArray := prog_9_method_30_code
def yX7_pay : MethodName := ⟨RX7, "pay", "(II)I"⟩
abbrev cX7_widow : ByteArray := prog_9_method_31_code
def yX7_widow : MethodName := ⟨RX7, "widow", "(II)I"⟩
abbrev cX7_close : ByteArray := prog_9_method_32_code
def yX7_close : MethodName := ⟨RX7, "close", "(I)I"⟩
abbrev cX7_setRent : ByteArray := prog_9_method_33_code
def yX7_setRent : MethodName := ⟨RX7, "setRent", "(I)I"⟩
abbrev cX7_forbidSkew : ByteArray := prog_9_method_34_code
def yX7_forbidSkew : MethodName := ⟨RX7, "forbidSkew", "(Z)I"⟩
abbrev cX7_passes : ByteArray := prog_9_method_35_code
def yX7_passes : MethodName := ⟨RX7, "passes", "()I"⟩
abbrev cX7_tick : ByteArray := prog_9_method_36_code
def yX7_tick : MethodName := ⟨RX7, "tick", "(I)I"⟩
abbrev cX7_lasts : ByteArray := prog_9_method_37_code
def yX7_lasts : MethodName := ⟨RX7, "lasts", "(I)I"⟩
abbrev cX7_read : ByteArray := prog_9_method_38_code
def yX7_read : MethodName := ⟨RX7, "read", "(II)I"⟩
abbrev cX7_writes : ByteArray := prog_9_method_39_code
def yX7_writes : MethodName := ⟨RX7, "writes", "(III)V"⟩
abbrev cX7_write : ByteArray := prog_9_method_40_code
def yX7_write : MethodName := ⟨RX7, "write", "(III)I"⟩
abbrev cX7_hasConflict : ByteArray := prog_9_method_41_code
def yX7_hasConflict : MethodName := ⟨RX7, "hasConflict", "(I)Z"⟩
abbrev cX7_areSkew : ByteArray := prog_9_method_42_code
def yX7_areSkew : MethodName := ⟨RX7, "areSkew", "(IIII)Z"⟩
abbrev cX7_skewsOf : ByteArray := prog_9_method_43_code
def yX7_skewsOf : MethodName := ⟨RX7, "skewsOf", "(I)I"⟩
abbrev cX7_skews : ByteArray := prog_9_method_44_code
def yX7_skews : MethodName := ⟨RX7, "skews", "(I)I"⟩
abbrev cX7_pairs : ByteArray := prog_9_method_45_code
def yX7_pairs : MethodName := ⟨RX7, "pairs", "()I"⟩
abbrev cX7_commits : ByteArray := prog_9_method_46_code
def yX7_commits : MethodName := ⟨RX7, "commits", "(I)V"⟩
abbrev cX7_commit : ByteArray := prog_9_method_47_code
def yX7_commit : MethodName := ⟨RX7, "commit", "(I)I"⟩
abbrev cX7_commitsFor : ByteArray := prog_9_method_48_code
def yX7_commitsFor : MethodName := ⟨RX7, "commitsFor", "(I)I"⟩
abbrev cX7_type : ByteArray := prog_9_method_49_code
def yX7_type : MethodName := ⟨RX7, "type", "(C)I"⟩
abbrev cX7_clearText : ByteArray := prog_9_method_50_code
def yX7_clearText : MethodName := ⟨RX7, "clearText", "()I"⟩
abbrev cX7_isHere : ByteArray := prog_9_method_51_code
def yX7_isHere : MethodName := ⟨RX7, "isHere", "(II)Z"⟩
abbrev cX7_passesNumber : ByteArray := prog_9_method_52_code
def yX7_passesNumber : MethodName := ⟨RX7, "passesNumber", "(I)Z"⟩
abbrev cX7_passesSign : ByteArray := prog_9_method_53_code
def yX7_passesSign : MethodName := ⟨RX7, "passesSign", "(I)Z"⟩
abbrev cX7_passesWrite : ByteArray := prog_9_method_54_code
def yX7_passesWrite : MethodName := ⟨RX7, "passesWrite", "()Z"⟩
abbrev cX7_faultOf : ByteArray := prog_9_method_55_code
def yX7_faultOf : MethodName := ⟨RX7, "faultOf", "()I"⟩
abbrev cX7_readWrites : ByteArray := prog_9_method_56_code
def yX7_readWrites : MethodName := ⟨RX7, "readWrites", "(I)I"⟩
abbrev cX7_versionsOf : ByteArray := prog_9_method_57_code
def yX7_versionsOf : MethodName := ⟨RX7, "versionsOf", "(I)I"⟩
abbrev cX7_writers : ByteArray := prog_9_method_58_code
def yX7_writers : MethodName := ⟨RX7, "writers", "(I)I"⟩
abbrev cX7_cell : ByteArray := prog_9_method_59_code
def yX7_cell : MethodName := ⟨RX7, "cell", "(II)I"⟩
abbrev cX7_version : ByteArray := prog_9_method_60_code
def yX7_version : MethodName := ⟨RX7, "version", "(III)I"⟩
abbrev cX7_seen : ByteArray := prog_9_method_61_code
def yX7_seen : MethodName := ⟨RX7, "seen", "(IZ)I"⟩
abbrev cX7_reader : ByteArray := prog_9_method_62_code
def yX7_reader : MethodName := ⟨RX7, "reader", "(II)I"⟩
abbrev cX7_committed : ByteArray := prog_9_method_63_code
def yX7_committed : MethodName := ⟨RX7, "committed", "(II)I"⟩
abbrev cX7_widows : ByteArray := prog_9_method_64_code
def yX7_widows : MethodName := ⟨RX7, "widows", "()I"⟩
abbrev cX7_count : ByteArray := prog_9_method_65_code
def yX7_count : MethodName := ⟨RX7, "count", "(I)I"⟩
def RJ6 : String := "java/lang/Integer"
def TJ6 : u_T := fun k => match k with
  | _ => ("", "", "", false)
def tyJ6 : Nat → FieldType := fun k => match k with
  | _ => .int
abbrev wsJ60 : List Cond := u_ws RJ6 TJ6 0
theorem nmJ6 : ∀ a, a < 0 → ∀ b, b < 0 → a ≠ b → (TJ6 a).2.1 ≠ (TJ6 b).2.1 := by decide +kernel
theorem tyJ6_ok : ∀ k, k < 0 → parseFieldDescriptor (TJ6 k).2.2.1 = some (tyJ6 k) := by decide +kernel
abbrev cJ6_bitCount_0f7a4 : ByteArray := prog_10_method_49_code
def yJ6_bitCount_0f7a4 : MethodName := ⟨RJ6, "bitCount", "(I)I"⟩
def RJ9 : String := "java/lang/Math"
def TJ9 : u_T := fun k => match k with
  | _ => ("", "", "", false)
def tyJ9 : Nat → FieldType := fun k => match k with
  | _ => .int
abbrev wsJ90 : List Cond := u_ws RJ9 TJ9 0
theorem nmJ9 : ∀ a, a < 0 → ∀ b, b < 0 → a ≠ b → (TJ9 a).2.1 ≠ (TJ9 b).2.1 := by decide +kernel
theorem tyJ9_ok : ∀ k, k < 0 → parseFieldDescriptor (TJ9 k).2.2.1 = some (tyJ9 k) := by decide +kernel
abbrev cJ9_max_7cf53 : ByteArray := prog_11_method_65_code
def yJ9_max_7cf53 : MethodName := ⟨RJ9, "max", "(II)I"⟩
def RJ10 : String := "java/lang/System"
def TJ10 : u_T := fun k => match k with
  | _ => ("", "", "", false)
def tyJ10 : Nat → FieldType := fun k => match k with
  | _ => .int
abbrev wsJ100 : List Cond := u_ws RJ10 TJ10 0
theorem nmJ10 : ∀ a, a < 0 → ∀ b, b < 0 → a ≠ b → (TJ10 a).2.1 ≠ (TJ10 b).2.1 := by decide +kernel
theorem tyJ10_ok : ∀ k, k < 0 → parseFieldDescriptor (TJ10 k).2.2.1 = some (tyJ10 k) := by decide +kernel
def RL : String := "RentedMomentsLaw"
abbrev cL_law : ByteArray := code
def yL_law : MethodName := ⟨RL, "law", "([I)Z"⟩
abbrev vwCl : List vw_C := [(RX0, TX0, 3), (RX1, TX1, 6), (RX2, TX2, 2), (RX3, TX3, 9), (RX4, TX4, 11), (RX5, TX5, 5), (RX6, TX6, 6), (RX7, TX7, 12)]
end
section
theorem dX0_init_0 : decode cX0_init 0 = .ok (.aload_n 0, 1) := by decide +kernel
theorem dX0_init_1 : decode cX0_init 1 = .ok (.invokespecial 3, 3) := by decide +kernel
theorem dX0_init_4 : decode cX0_init 4 = .ok (.aload_n 0, 1) := by decide +kernel
theorem dX0_init_5 : decode cX0_init 5 = .ok (.bipush 10, 2) := by decide +kernel
theorem dX0_init_7 : decode cX0_init 7 = .ok (.newarray .int, 2) := by decide +kernel
theorem dX0_init_9 : decode cX0_init 9 = .ok (.putfield 9, 3) := by decide +kernel
theorem dX0_init_12 : decode cX0_init 12 = .ok (.aload_n 0, 1) := by decide +kernel
theorem dX0_init_13 : decode cX0_init 13 = .ok (.bipush 10, 2) := by decide +kernel
theorem dX0_init_15 : decode cX0_init 15 = .ok (.newarray .int, 2) := by decide +kernel
theorem dX0_init_17 : decode cX0_init 17 = .ok (.putfield 15, 3) := by decide +kernel
theorem dX0_init_20 : decode cX0_init 20 = .ok (.aload_n 0, 1) := by decide +kernel
theorem dX0_init_21 : decode cX0_init 21 = .ok (.iconst 1, 1) := by decide +kernel
theorem dX0_init_22 : decode cX0_init 22 = .ok (.putfield 18, 3) := by decide +kernel
theorem dX0_init_25 : decode cX0_init 25 = .ok (.return_, 1) := by decide +kernel
theorem dX0_copyFrom_0 : decode cX0_copyFrom 0 = .ok (.aload_n 1, 1) := by decide +kernel
theorem dX0_copyFrom_1 : decode cX0_copyFrom 1 = .ok (.getfield 9, 3) := by decide +kernel
theorem dX0_copyFrom_4 : decode cX0_copyFrom 4 = .ok (.iconst 0, 1) := by decide +kernel
theorem dX0_copyFrom_5 : decode cX0_copyFrom 5 = .ok (.aload_n 0, 1) := by decide +kernel
theorem dX0_copyFrom_6 : decode cX0_copyFrom 6 = .ok (.getfield 9, 3) := by decide +kernel
theorem dX0_copyFrom_9 : decode cX0_copyFrom 9 = .ok (.iconst 0, 1) := by decide +kernel
theorem dX0_copyFrom_10 : decode cX0_copyFrom 10 = .ok (.bipush 10, 2) := by decide +kernel
theorem dX0_copyFrom_12 : decode cX0_copyFrom 12 = .ok (.invokestatic 22, 3) := by decide +kernel
theorem dX0_copyFrom_15 : decode cX0_copyFrom 15 = .ok (.aload_n 1, 1) := by decide +kernel
theorem dX0_copyFrom_16 : decode cX0_copyFrom 16 = .ok (.getfield 15, 3) := by decide +kernel
theorem dX0_copyFrom_19 : decode cX0_copyFrom 19 = .ok (.iconst 0, 1) := by decide +kernel
theorem dX0_copyFrom_20 : decode cX0_copyFrom 20 = .ok (.aload_n 0, 1) := by decide +kernel
theorem dX0_copyFrom_21 : decode cX0_copyFrom 21 = .ok (.getfield 15, 3) := by decide +kernel
theorem dX0_copyFrom_24 : decode cX0_copyFrom 24 = .ok (.iconst 0, 1) := by decide +kernel
theorem dX0_copyFrom_25 : decode cX0_copyFrom 25 = .ok (.bipush 10, 2) := by decide +kernel
theorem dX0_copyFrom_27 : decode cX0_copyFrom 27 = .ok (.invokestatic 22, 3) := by decide +kernel
theorem dX0_copyFrom_30 : decode cX0_copyFrom 30 = .ok (.aload_n 0, 1) := by decide +kernel
theorem dX0_copyFrom_31 : decode cX0_copyFrom 31 = .ok (.aload_n 1, 1) := by decide +kernel
theorem dX0_copyFrom_32 : decode cX0_copyFrom 32 = .ok (.getfield 18, 3) := by decide +kernel
theorem dX0_copyFrom_35 : decode cX0_copyFrom 35 = .ok (.putfield 18, 3) := by decide +kernel
theorem dX0_copyFrom_38 : decode cX0_copyFrom 38 = .ok (.return_, 1) := by decide +kernel
theorem dX0_placeSeenAt_0 : decode cX0_placeSeenAt 0 = .ok (.iconst 0, 1) := by decide +kernel
theorem dX0_placeSeenAt_1 : decode cX0_placeSeenAt 1 = .ok (.istore_n 2, 1) := by decide +kernel
theorem dX0_placeSeenAt_2 : decode cX0_placeSeenAt 2 = .ok (.iload_n 2, 1) := by decide +kernel
theorem dX0_placeSeenAt_3 : decode cX0_placeSeenAt 3 = .ok (.aload_n 0, 1) := by decide +kernel
theorem dX0_placeSeenAt_4 : decode cX0_placeSeenAt 4 = .ok (.getfield 18, 3) := by decide +kernel
theorem dX0_placeSeenAt_7 : decode cX0_placeSeenAt 7 = .ok (.if_icmp .ge 21, 3) := by decide +kernel
theorem dX0_placeSeenAt_10 : decode cX0_placeSeenAt 10 = .ok (.aload_n 0, 1) := by decide +kernel
theorem dX0_placeSeenAt_11 : decode cX0_placeSeenAt 11 = .ok (.getfield 15, 3) := by decide +kernel
theorem dX0_placeSeenAt_14 : decode cX0_placeSeenAt 14 = .ok (.iload_n 2, 1) := by decide +kernel
theorem dX0_placeSeenAt_15 : decode cX0_placeSeenAt 15 = .ok (.iaload, 1) := by decide +kernel
theorem dX0_placeSeenAt_16 : decode cX0_placeSeenAt 16 = .ok (.iload_n 1, 1) := by decide +kernel
theorem dX0_placeSeenAt_17 : decode cX0_placeSeenAt 17 = .ok (.if_icmp .gt 5, 3) := by decide +kernel
theorem dX0_placeSeenAt_20 : decode cX0_placeSeenAt 20 = .ok (.iload_n 2, 1) := by decide +kernel
theorem dX0_placeSeenAt_21 : decode cX0_placeSeenAt 21 = .ok (.ireturn, 1) := by decide +kernel
theorem dX0_placeSeenAt_22 : decode cX0_placeSeenAt 22 = .ok (.iinc 2 1, 3) := by decide +kernel
theorem dX0_placeSeenAt_25 : decode cX0_placeSeenAt 25 = .ok (.goto (-23), 3) := by decide +kernel
theorem dX0_placeSeenAt_28 : decode cX0_placeSeenAt 28 = .ok (.iconst (-1), 1) := by decide +kernel
theorem dX0_placeSeenAt_29 : decode cX0_placeSeenAt 29 = .ok (.ireturn, 1) := by decide +kernel
theorem dX0_valueSeenAt_0 : decode cX0_valueSeenAt 0 = .ok (.aload_n 0, 1) := by decide +kernel
theorem dX0_valueSeenAt_1 : decode cX0_valueSeenAt 1 = .ok (.iload_n 1, 1) := by decide +kernel
theorem dX0_valueSeenAt_2 : decode cX0_valueSeenAt 2 = .ok (.invokevirtual 28, 3) := by decide +kernel
theorem dX0_valueSeenAt_5 : decode cX0_valueSeenAt 5 = .ok (.istore_n 2, 1) := by decide +kernel
theorem dX0_valueSeenAt_6 : decode cX0_valueSeenAt 6 = .ok (.iload_n 2, 1) := by decide +kernel
theorem dX0_valueSeenAt_7 : decode cX0_valueSeenAt 7 = .ok (.iconst (-1), 1) := by decide +kernel
theorem dX0_valueSeenAt_8 : decode cX0_valueSeenAt 8 = .ok (.if_icmp .ne 7, 3) := by decide +kernel
theorem dX0_valueSeenAt_11 : decode cX0_valueSeenAt 11 = .ok (.iconst 0, 1) := by decide +kernel
theorem dX0_valueSeenAt_12 : decode cX0_valueSeenAt 12 = .ok (.goto 9, 3) := by decide +kernel
theorem dX0_valueSeenAt_15 : decode cX0_valueSeenAt 15 = .ok (.aload_n 0, 1) := by decide +kernel
theorem dX0_valueSeenAt_16 : decode cX0_valueSeenAt 16 = .ok (.getfield 9, 3) := by decide +kernel
theorem dX0_valueSeenAt_19 : decode cX0_valueSeenAt 19 = .ok (.iload_n 2, 1) := by decide +kernel
theorem dX0_valueSeenAt_20 : decode cX0_valueSeenAt 20 = .ok (.iaload, 1) := by decide +kernel
theorem dX0_valueSeenAt_21 : decode cX0_valueSeenAt 21 = .ok (.ireturn, 1) := by decide +kernel
theorem dX0_push_0 : decode cX0_push 0 = .ok (.aload_n 0, 1) := by decide +kernel
theorem dX0_push_1 : decode cX0_push 1 = .ok (.getfield 18, 3) := by decide +kernel
theorem dX0_push_4 : decode cX0_push 4 = .ok (.bipush 10, 2) := by decide +kernel
theorem dX0_push_6 : decode cX0_push 6 = .ok (.if_icmp .ge 13, 3) := by decide +kernel
theorem dX0_push_9 : decode cX0_push 9 = .ok (.aload_n 0, 1) := by decide +kernel
theorem dX0_push_10 : decode cX0_push 10 = .ok (.dup, 1) := by decide +kernel
theorem dX0_push_11 : decode cX0_push 11 = .ok (.getfield 18, 3) := by decide +kernel
theorem dX0_push_14 : decode cX0_push 14 = .ok (.iconst 1, 1) := by decide +kernel
theorem dX0_push_15 : decode cX0_push 15 = .ok (.iadd, 1) := by decide +kernel
theorem dX0_push_16 : decode cX0_push 16 = .ok (.putfield 18, 3) := by decide +kernel
theorem dX0_push_19 : decode cX0_push 19 = .ok (.aload_n 0, 1) := by decide +kernel
theorem dX0_push_20 : decode cX0_push 20 = .ok (.getfield 9, 3) := by decide +kernel
theorem dX0_push_23 : decode cX0_push 23 = .ok (.iconst 0, 1) := by decide +kernel
theorem dX0_push_24 : decode cX0_push 24 = .ok (.aload_n 0, 1) := by decide +kernel
theorem dX0_push_25 : decode cX0_push 25 = .ok (.getfield 9, 3) := by decide +kernel
theorem dX0_push_28 : decode cX0_push 28 = .ok (.iconst 1, 1) := by decide +kernel
theorem dX0_push_29 : decode cX0_push 29 = .ok (.aload_n 0, 1) := by decide +kernel
theorem dX0_push_30 : decode cX0_push 30 = .ok (.getfield 18, 3) := by decide +kernel
theorem dX0_push_33 : decode cX0_push 33 = .ok (.iconst 1, 1) := by decide +kernel
theorem dX0_push_34 : decode cX0_push 34 = .ok (.isub, 1) := by decide +kernel
theorem dX0_push_35 : decode cX0_push 35 = .ok (.invokestatic 22, 3) := by decide +kernel
theorem dX0_push_38 : decode cX0_push 38 = .ok (.aload_n 0, 1) := by decide +kernel
theorem dX0_push_39 : decode cX0_push 39 = .ok (.getfield 15, 3) := by decide +kernel
theorem dX0_push_42 : decode cX0_push 42 = .ok (.iconst 0, 1) := by decide +kernel
theorem dX0_push_43 : decode cX0_push 43 = .ok (.aload_n 0, 1) := by decide +kernel
theorem dX0_push_44 : decode cX0_push 44 = .ok (.getfield 15, 3) := by decide +kernel
theorem dX0_push_47 : decode cX0_push 47 = .ok (.iconst 1, 1) := by decide +kernel
theorem dX0_push_48 : decode cX0_push 48 = .ok (.aload_n 0, 1) := by decide +kernel
theorem dX0_push_49 : decode cX0_push 49 = .ok (.getfield 18, 3) := by decide +kernel
theorem dX0_push_52 : decode cX0_push 52 = .ok (.iconst 1, 1) := by decide +kernel
theorem dX0_push_53 : decode cX0_push 53 = .ok (.isub, 1) := by decide +kernel
theorem dX0_push_54 : decode cX0_push 54 = .ok (.invokestatic 22, 3) := by decide +kernel
theorem dX0_push_57 : decode cX0_push 57 = .ok (.aload_n 0, 1) := by decide +kernel
theorem dX0_push_58 : decode cX0_push 58 = .ok (.getfield 9, 3) := by decide +kernel
theorem dX0_push_61 : decode cX0_push 61 = .ok (.iconst 0, 1) := by decide +kernel
theorem dX0_push_62 : decode cX0_push 62 = .ok (.iload_n 1, 1) := by decide +kernel
theorem dX0_push_63 : decode cX0_push 63 = .ok (.iastore, 1) := by decide +kernel
theorem dX0_push_64 : decode cX0_push 64 = .ok (.aload_n 0, 1) := by decide +kernel
theorem dX0_push_65 : decode cX0_push 65 = .ok (.getfield 15, 3) := by decide +kernel
theorem dX0_push_68 : decode cX0_push 68 = .ok (.iconst 0, 1) := by decide +kernel
theorem dX0_push_69 : decode cX0_push 69 = .ok (.iload_n 2, 1) := by decide +kernel
theorem dX0_push_70 : decode cX0_push 70 = .ok (.iastore, 1) := by decide +kernel
theorem dX0_push_71 : decode cX0_push 71 = .ok (.return_, 1) := by decide +kernel
theorem dX0_retainOld_0 : decode cX0_retainOld 0 = .ok (.iconst 1, 1) := by decide +kernel
theorem dX0_retainOld_1 : decode cX0_retainOld 1 = .ok (.istore_n 2, 1) := by decide +kernel
theorem dX0_retainOld_2 : decode cX0_retainOld 2 = .ok (.iconst 1, 1) := by decide +kernel
theorem dX0_retainOld_3 : decode cX0_retainOld 3 = .ok (.istore_n 3, 1) := by decide +kernel
theorem dX0_retainOld_4 : decode cX0_retainOld 4 = .ok (.iload_n 3, 1) := by decide +kernel
theorem dX0_retainOld_5 : decode cX0_retainOld 5 = .ok (.aload_n 0, 1) := by decide +kernel
theorem dX0_retainOld_6 : decode cX0_retainOld 6 = .ok (.getfield 18, 3) := by decide +kernel
theorem dX0_retainOld_9 : decode cX0_retainOld 9 = .ok (.if_icmp .ge 44, 3) := by decide +kernel
theorem dX0_retainOld_12 : decode cX0_retainOld 12 = .ok (.iload_n 1, 1) := by decide +kernel
theorem dX0_retainOld_13 : decode cX0_retainOld 13 = .ok (.iload_n 3, 1) := by decide +kernel
theorem dX0_retainOld_14 : decode cX0_retainOld 14 = .ok (.ishr, 1) := by decide +kernel
theorem dX0_retainOld_15 : decode cX0_retainOld 15 = .ok (.iconst 1, 1) := by decide +kernel
theorem dX0_retainOld_16 : decode cX0_retainOld 16 = .ok (.iand, 1) := by decide +kernel
theorem dX0_retainOld_17 : decode cX0_retainOld 17 = .ok (.ifCond .eq 30, 3) := by decide +kernel
theorem dX0_retainOld_20 : decode cX0_retainOld 20 = .ok (.aload_n 0, 1) := by decide +kernel
theorem dX0_retainOld_21 : decode cX0_retainOld 21 = .ok (.getfield 9, 3) := by decide +kernel
theorem dX0_retainOld_24 : decode cX0_retainOld 24 = .ok (.iload_n 2, 1) := by decide +kernel
theorem dX0_retainOld_25 : decode cX0_retainOld 25 = .ok (.aload_n 0, 1) := by decide +kernel
theorem dX0_retainOld_26 : decode cX0_retainOld 26 = .ok (.getfield 9, 3) := by decide +kernel
theorem dX0_retainOld_29 : decode cX0_retainOld 29 = .ok (.iload_n 3, 1) := by decide +kernel
theorem dX0_retainOld_30 : decode cX0_retainOld 30 = .ok (.iaload, 1) := by decide +kernel
theorem dX0_retainOld_31 : decode cX0_retainOld 31 = .ok (.iastore, 1) := by decide +kernel
theorem dX0_retainOld_32 : decode cX0_retainOld 32 = .ok (.aload_n 0, 1) := by decide +kernel
theorem dX0_retainOld_33 : decode cX0_retainOld 33 = .ok (.getfield 15, 3) := by decide +kernel
theorem dX0_retainOld_36 : decode cX0_retainOld 36 = .ok (.iload_n 2, 1) := by decide +kernel
theorem dX0_retainOld_37 : decode cX0_retainOld 37 = .ok (.aload_n 0, 1) := by decide +kernel
theorem dX0_retainOld_38 : decode cX0_retainOld 38 = .ok (.getfield 15, 3) := by decide +kernel
theorem dX0_retainOld_41 : decode cX0_retainOld 41 = .ok (.iload_n 3, 1) := by decide +kernel
theorem dX0_retainOld_42 : decode cX0_retainOld 42 = .ok (.iaload, 1) := by decide +kernel
theorem dX0_retainOld_43 : decode cX0_retainOld 43 = .ok (.iastore, 1) := by decide +kernel
theorem dX0_retainOld_44 : decode cX0_retainOld 44 = .ok (.iinc 2 1, 3) := by decide +kernel
theorem dX0_retainOld_47 : decode cX0_retainOld 47 = .ok (.iinc 3 1, 3) := by decide +kernel
theorem dX0_retainOld_50 : decode cX0_retainOld 50 = .ok (.goto (-46), 3) := by decide +kernel
theorem dX0_retainOld_53 : decode cX0_retainOld 53 = .ok (.aload_n 0, 1) := by decide +kernel
theorem dX0_retainOld_54 : decode cX0_retainOld 54 = .ok (.getfield 18, 3) := by decide +kernel
theorem dX0_retainOld_57 : decode cX0_retainOld 57 = .ok (.iload_n 2, 1) := by decide +kernel
theorem dX0_retainOld_58 : decode cX0_retainOld 58 = .ok (.isub, 1) := by decide +kernel
theorem dX0_retainOld_59 : decode cX0_retainOld 59 = .ok (.istore_n 3, 1) := by decide +kernel
theorem dX0_retainOld_60 : decode cX0_retainOld 60 = .ok (.aload_n 0, 1) := by decide +kernel
theorem dX0_retainOld_61 : decode cX0_retainOld 61 = .ok (.iload_n 2, 1) := by decide +kernel
theorem dX0_retainOld_62 : decode cX0_retainOld 62 = .ok (.putfield 18, 3) := by decide +kernel
theorem dX0_retainOld_65 : decode cX0_retainOld 65 = .ok (.iload_n 3, 1) := by decide +kernel
theorem dX0_retainOld_66 : decode cX0_retainOld 66 = .ok (.ireturn, 1) := by decide +kernel
theorem dX1_init_0 : decode cX1_init 0 = .ok (.aload_n 0, 1) := by decide +kernel
theorem dX1_init_1 : decode cX1_init 1 = .ok (.invokespecial 1, 3) := by decide +kernel
theorem dX1_init_4 : decode cX1_init 4 = .ok (.return_, 1) := by decide +kernel
theorem dX1_copyFrom_0 : decode cX1_copyFrom 0 = .ok (.aload_n 0, 1) := by decide +kernel
theorem dX1_copyFrom_1 : decode cX1_copyFrom 1 = .ok (.aload_n 1, 1) := by decide +kernel
theorem dX1_copyFrom_2 : decode cX1_copyFrom 2 = .ok (.getfield 7, 3) := by decide +kernel
theorem dX1_copyFrom_5 : decode cX1_copyFrom 5 = .ok (.putfield 7, 3) := by decide +kernel
theorem dX1_copyFrom_8 : decode cX1_copyFrom 8 = .ok (.aload_n 0, 1) := by decide +kernel
theorem dX1_copyFrom_9 : decode cX1_copyFrom 9 = .ok (.aload_n 1, 1) := by decide +kernel
theorem dX1_copyFrom_10 : decode cX1_copyFrom 10 = .ok (.getfield 13, 3) := by decide +kernel
theorem dX1_copyFrom_13 : decode cX1_copyFrom 13 = .ok (.putfield 13, 3) := by decide +kernel
theorem dX1_copyFrom_16 : decode cX1_copyFrom 16 = .ok (.aload_n 0, 1) := by decide +kernel
theorem dX1_copyFrom_17 : decode cX1_copyFrom 17 = .ok (.aload_n 1, 1) := by decide +kernel
theorem dX1_copyFrom_18 : decode cX1_copyFrom 18 = .ok (.getfield 16, 3) := by decide +kernel
theorem dX1_copyFrom_21 : decode cX1_copyFrom 21 = .ok (.putfield 16, 3) := by decide +kernel
theorem dX1_copyFrom_24 : decode cX1_copyFrom 24 = .ok (.aload_n 0, 1) := by decide +kernel
theorem dX1_copyFrom_25 : decode cX1_copyFrom 25 = .ok (.aload_n 1, 1) := by decide +kernel
theorem dX1_copyFrom_26 : decode cX1_copyFrom 26 = .ok (.getfield 19, 3) := by decide +kernel
theorem dX1_copyFrom_29 : decode cX1_copyFrom 29 = .ok (.putfield 19, 3) := by decide +kernel
theorem dX1_copyFrom_32 : decode cX1_copyFrom 32 = .ok (.aload_n 0, 1) := by decide +kernel
theorem dX1_copyFrom_33 : decode cX1_copyFrom 33 = .ok (.aload_n 1, 1) := by decide +kernel
theorem dX1_copyFrom_34 : decode cX1_copyFrom 34 = .ok (.getfield 22, 3) := by decide +kernel
theorem dX1_copyFrom_37 : decode cX1_copyFrom 37 = .ok (.putfield 22, 3) := by decide +kernel
theorem dX1_copyFrom_40 : decode cX1_copyFrom 40 = .ok (.aload_n 0, 1) := by decide +kernel
theorem dX1_copyFrom_41 : decode cX1_copyFrom 41 = .ok (.aload_n 1, 1) := by decide +kernel
theorem dX1_copyFrom_42 : decode cX1_copyFrom 42 = .ok (.getfield 25, 3) := by decide +kernel
theorem dX1_copyFrom_45 : decode cX1_copyFrom 45 = .ok (.putfield 25, 3) := by decide +kernel
theorem dX1_copyFrom_48 : decode cX1_copyFrom 48 = .ok (.return_, 1) := by decide +kernel
theorem dX1_isInSkewWithLater_0 : decode cX1_isInSkewWithLater 0 = .ok (.aload_n 1, 1) := by decide +kernel
theorem dX1_isInSkewWithLater_1 : decode cX1_isInSkewWithLater 1 = .ok (.getfield 28, 3) := by decide +kernel
theorem dX1_isInSkewWithLater_4 : decode cX1_isInSkewWithLater 4 = .ok (.aload_n 0, 1) := by decide +kernel
theorem dX1_isInSkewWithLater_5 : decode cX1_isInSkewWithLater 5 = .ok (.getfield 16, 3) := by decide +kernel
theorem dX1_isInSkewWithLater_8 : decode cX1_isInSkewWithLater 8 = .ok (.if_icmp .ge 43, 3) := by decide +kernel
theorem dX1_isInSkewWithLater_11 : decode cX1_isInSkewWithLater 11 = .ok (.aload_n 1, 1) := by decide +kernel
theorem dX1_isInSkewWithLater_12 : decode cX1_isInSkewWithLater 12 = .ok (.getfield 33, 3) := by decide +kernel
theorem dX1_isInSkewWithLater_15 : decode cX1_isInSkewWithLater 15 = .ok (.aload_n 0, 1) := by decide +kernel
theorem dX1_isInSkewWithLater_16 : decode cX1_isInSkewWithLater 16 = .ok (.getfield 19, 3) := by decide +kernel
theorem dX1_isInSkewWithLater_19 : decode cX1_isInSkewWithLater 19 = .ok (.iand, 1) := by decide +kernel
theorem dX1_isInSkewWithLater_20 : decode cX1_isInSkewWithLater 20 = .ok (.ifCond .eq 31, 3) := by decide +kernel
theorem dX1_isInSkewWithLater_23 : decode cX1_isInSkewWithLater 23 = .ok (.aload_n 0, 1) := by decide +kernel
theorem dX1_isInSkewWithLater_24 : decode cX1_isInSkewWithLater 24 = .ok (.getfield 22, 3) := by decide +kernel
theorem dX1_isInSkewWithLater_27 : decode cX1_isInSkewWithLater 27 = .ok (.aload_n 1, 1) := by decide +kernel
theorem dX1_isInSkewWithLater_28 : decode cX1_isInSkewWithLater 28 = .ok (.getfield 34, 3) := by decide +kernel
theorem dX1_isInSkewWithLater_31 : decode cX1_isInSkewWithLater 31 = .ok (.iand, 1) := by decide +kernel
theorem dX1_isInSkewWithLater_32 : decode cX1_isInSkewWithLater 32 = .ok (.ifCond .eq 19, 3) := by decide +kernel
theorem dX1_isInSkewWithLater_35 : decode cX1_isInSkewWithLater 35 = .ok (.aload_n 0, 1) := by decide +kernel
theorem dX1_isInSkewWithLater_36 : decode cX1_isInSkewWithLater 36 = .ok (.getfield 19, 3) := by decide +kernel
theorem dX1_isInSkewWithLater_39 : decode cX1_isInSkewWithLater 39 = .ok (.aload_n 1, 1) := by decide +kernel
theorem dX1_isInSkewWithLater_40 : decode cX1_isInSkewWithLater 40 = .ok (.getfield 34, 3) := by decide +kernel
theorem dX1_isInSkewWithLater_43 : decode cX1_isInSkewWithLater 43 = .ok (.iand, 1) := by decide +kernel
theorem dX1_isInSkewWithLater_44 : decode cX1_isInSkewWithLater 44 = .ok (.ifCond .ne 7, 3) := by decide +kernel
theorem dX1_isInSkewWithLater_47 : decode cX1_isInSkewWithLater 47 = .ok (.iconst 1, 1) := by decide +kernel
theorem dX1_isInSkewWithLater_48 : decode cX1_isInSkewWithLater 48 = .ok (.goto 4, 3) := by decide +kernel
theorem dX1_isInSkewWithLater_51 : decode cX1_isInSkewWithLater 51 = .ok (.iconst 0, 1) := by decide +kernel
theorem dX1_isInSkewWithLater_52 : decode cX1_isInSkewWithLater 52 = .ok (.ireturn, 1) := by decide +kernel
theorem dX2_init_0 : decode cX2_init 0 = .ok (.aload_n 0, 1) := by decide +kernel
theorem dX2_init_1 : decode cX2_init 1 = .ok (.invokespecial 3, 3) := by decide +kernel
theorem dX2_init_4 : decode cX2_init 4 = .ok (.aload_n 0, 1) := by decide +kernel
theorem dX2_init_5 : decode cX2_init 5 = .ok (.iconst 4, 1) := by decide +kernel
theorem dX2_init_6 : decode cX2_init 6 = .ok (.anewarray 9, 3) := by decide +kernel
theorem dX2_init_9 : decode cX2_init 9 = .ok (.putfield 11, 3) := by decide +kernel
theorem dX2_init_12 : decode cX2_init 12 = .ok (.iconst 0, 1) := by decide +kernel
theorem dX2_init_13 : decode cX2_init 13 = .ok (.istore_n 1, 1) := by decide +kernel
theorem dX2_init_14 : decode cX2_init 14 = .ok (.iload_n 1, 1) := by decide +kernel
theorem dX2_init_15 : decode cX2_init 15 = .ok (.iconst 4, 1) := by decide +kernel
theorem dX2_init_16 : decode cX2_init 16 = .ok (.if_icmp .ge 22, 3) := by decide +kernel
theorem dX2_init_19 : decode cX2_init 19 = .ok (.aload_n 0, 1) := by decide +kernel
theorem dX2_init_20 : decode cX2_init 20 = .ok (.getfield 11, 3) := by decide +kernel
theorem dX2_init_23 : decode cX2_init 23 = .ok (.iload_n 1, 1) := by decide +kernel
theorem dX2_init_24 : decode cX2_init 24 = .ok (.new 9, 3) := by decide +kernel
theorem dX2_init_27 : decode cX2_init 27 = .ok (.dup, 1) := by decide +kernel
theorem dX2_init_28 : decode cX2_init 28 = .ok (.invokespecial 17, 3) := by decide +kernel
theorem dX2_init_31 : decode cX2_init 31 = .ok (.aastore, 1) := by decide +kernel
theorem dX2_init_32 : decode cX2_init 32 = .ok (.iinc 1 1, 3) := by decide +kernel
theorem dX2_init_35 : decode cX2_init 35 = .ok (.goto (-21), 3) := by decide +kernel
theorem dX2_init_38 : decode cX2_init 38 = .ok (.return_, 1) := by decide +kernel
theorem dX2_record_0 : decode cX2_record 0 = .ok (.aload_n 0, 1) := by decide +kernel
theorem dX2_record_1 : decode cX2_record 1 = .ok (.getfield 18, 3) := by decide +kernel
theorem dX2_record_4 : decode cX2_record 4 = .ok (.iconst 4, 1) := by decide +kernel
theorem dX2_record_5 : decode cX2_record 5 = .ok (.if_icmp .lt 7, 3) := by decide +kernel
theorem dX2_record_8 : decode cX2_record 8 = .ok (.aload_n 0, 1) := by decide +kernel
theorem dX2_record_9 : decode cX2_record 9 = .ok (.invokevirtual 22, 3) := by decide +kernel
theorem dX2_record_12 : decode cX2_record 12 = .ok (.aload_n 0, 1) := by decide +kernel
theorem dX2_record_13 : decode cX2_record 13 = .ok (.getfield 11, 3) := by decide +kernel
theorem dX2_record_16 : decode cX2_record 16 = .ok (.aload_n 0, 1) := by decide +kernel
theorem dX2_record_17 : decode cX2_record 17 = .ok (.getfield 18, 3) := by decide +kernel
theorem dX2_record_20 : decode cX2_record 20 = .ok (.aaload, 1) := by decide +kernel
theorem dX2_record_21 : decode cX2_record 21 = .ok (.aload_n 1, 1) := by decide +kernel
theorem dX2_record_22 : decode cX2_record 22 = .ok (.invokevirtual 25, 3) := by decide +kernel
theorem dX2_record_25 : decode cX2_record 25 = .ok (.aload_n 0, 1) := by decide +kernel
theorem dX2_record_26 : decode cX2_record 26 = .ok (.dup, 1) := by decide +kernel
theorem dX2_record_27 : decode cX2_record 27 = .ok (.getfield 18, 3) := by decide +kernel
theorem dX2_record_30 : decode cX2_record 30 = .ok (.iconst 1, 1) := by decide +kernel
theorem dX2_record_31 : decode cX2_record 31 = .ok (.iadd, 1) := by decide +kernel
theorem dX2_record_32 : decode cX2_record 32 = .ok (.putfield 18, 3) := by decide +kernel
theorem dX2_record_35 : decode cX2_record 35 = .ok (.return_, 1) := by decide +kernel
theorem dX2_dropOldest_0 : decode cX2_dropOldest 0 = .ok (.aload_n 0, 1) := by decide +kernel
theorem dX2_dropOldest_1 : decode cX2_dropOldest 1 = .ok (.getfield 11, 3) := by decide +kernel
theorem dX2_dropOldest_4 : decode cX2_dropOldest 4 = .ok (.iconst 0, 1) := by decide +kernel
theorem dX2_dropOldest_5 : decode cX2_dropOldest 5 = .ok (.aaload, 1) := by decide +kernel
theorem dX2_dropOldest_6 : decode cX2_dropOldest 6 = .ok (.astore_n 1, 1) := by decide +kernel
theorem dX2_dropOldest_7 : decode cX2_dropOldest 7 = .ok (.iconst 1, 1) := by decide +kernel
theorem dX2_dropOldest_8 : decode cX2_dropOldest 8 = .ok (.istore_n 2, 1) := by decide +kernel
theorem dX2_dropOldest_9 : decode cX2_dropOldest 9 = .ok (.iload_n 2, 1) := by decide +kernel
theorem dX2_dropOldest_10 : decode cX2_dropOldest 10 = .ok (.iconst 4, 1) := by decide +kernel
theorem dX2_dropOldest_11 : decode cX2_dropOldest 11 = .ok (.if_icmp .ge 23, 3) := by decide +kernel
theorem dX2_dropOldest_14 : decode cX2_dropOldest 14 = .ok (.aload_n 0, 1) := by decide +kernel
theorem dX2_dropOldest_15 : decode cX2_dropOldest 15 = .ok (.getfield 11, 3) := by decide +kernel
theorem dX2_dropOldest_18 : decode cX2_dropOldest 18 = .ok (.iload_n 2, 1) := by decide +kernel
theorem dX2_dropOldest_19 : decode cX2_dropOldest 19 = .ok (.iconst 1, 1) := by decide +kernel
theorem dX2_dropOldest_20 : decode cX2_dropOldest 20 = .ok (.isub, 1) := by decide +kernel
theorem dX2_dropOldest_21 : decode cX2_dropOldest 21 = .ok (.aload_n 0, 1) := by decide +kernel
theorem dX2_dropOldest_22 : decode cX2_dropOldest 22 = .ok (.getfield 11, 3) := by decide +kernel
theorem dX2_dropOldest_25 : decode cX2_dropOldest 25 = .ok (.iload_n 2, 1) := by decide +kernel
theorem dX2_dropOldest_26 : decode cX2_dropOldest 26 = .ok (.aaload, 1) := by decide +kernel
theorem dX2_dropOldest_27 : decode cX2_dropOldest 27 = .ok (.aastore, 1) := by decide +kernel
theorem dX2_dropOldest_28 : decode cX2_dropOldest 28 = .ok (.iinc 2 1, 3) := by decide +kernel
theorem dX2_dropOldest_31 : decode cX2_dropOldest 31 = .ok (.goto (-22), 3) := by decide +kernel
theorem dX2_dropOldest_34 : decode cX2_dropOldest 34 = .ok (.aload_n 0, 1) := by decide +kernel
theorem dX2_dropOldest_35 : decode cX2_dropOldest 35 = .ok (.getfield 11, 3) := by decide +kernel
theorem dX2_dropOldest_38 : decode cX2_dropOldest 38 = .ok (.iconst 3, 1) := by decide +kernel
theorem dX2_dropOldest_39 : decode cX2_dropOldest 39 = .ok (.aload_n 1, 1) := by decide +kernel
theorem dX2_dropOldest_40 : decode cX2_dropOldest 40 = .ok (.aastore, 1) := by decide +kernel
theorem dX2_dropOldest_41 : decode cX2_dropOldest 41 = .ok (.aload_n 0, 1) := by decide +kernel
theorem dX2_dropOldest_42 : decode cX2_dropOldest 42 = .ok (.iconst 3, 1) := by decide +kernel
theorem dX2_dropOldest_43 : decode cX2_dropOldest 43 = .ok (.putfield 18, 3) := by decide +kernel
theorem dX2_dropOldest_46 : decode cX2_dropOldest 46 = .ok (.return_, 1) := by decide +kernel
theorem dX2_bringBack_0 : decode cX2_bringBack 0 = .ok (.aload_n 0, 1) := by decide +kernel
theorem dX2_bringBack_1 : decode cX2_bringBack 1 = .ok (.getfield 18, 3) := by decide +kernel
theorem dX2_bringBack_4 : decode cX2_bringBack 4 = .ok (.ifCond .le 26, 3) := by decide +kernel
theorem dX2_bringBack_7 : decode cX2_bringBack 7 = .ok (.aload_n 0, 1) := by decide +kernel
theorem dX2_bringBack_8 : decode cX2_bringBack 8 = .ok (.dup, 1) := by decide +kernel
theorem dX2_bringBack_9 : decode cX2_bringBack 9 = .ok (.getfield 18, 3) := by decide +kernel
theorem dX2_bringBack_12 : decode cX2_bringBack 12 = .ok (.iconst 1, 1) := by decide +kernel
theorem dX2_bringBack_13 : decode cX2_bringBack 13 = .ok (.isub, 1) := by decide +kernel
theorem dX2_bringBack_14 : decode cX2_bringBack 14 = .ok (.putfield 18, 3) := by decide +kernel
theorem dX2_bringBack_17 : decode cX2_bringBack 17 = .ok (.aload_n 1, 1) := by decide +kernel
theorem dX2_bringBack_18 : decode cX2_bringBack 18 = .ok (.aload_n 0, 1) := by decide +kernel
theorem dX2_bringBack_19 : decode cX2_bringBack 19 = .ok (.getfield 11, 3) := by decide +kernel
theorem dX2_bringBack_22 : decode cX2_bringBack 22 = .ok (.aload_n 0, 1) := by decide +kernel
theorem dX2_bringBack_23 : decode cX2_bringBack 23 = .ok (.getfield 18, 3) := by decide +kernel
theorem dX2_bringBack_26 : decode cX2_bringBack 26 = .ok (.aaload, 1) := by decide +kernel
theorem dX2_bringBack_27 : decode cX2_bringBack 27 = .ok (.invokevirtual 25, 3) := by decide +kernel
theorem dX2_bringBack_30 : decode cX2_bringBack 30 = .ok (.return_, 1) := by decide +kernel
theorem dX3_init_0 : decode cX3_init 0 = .ok (.aload_n 0, 1) := by decide +kernel
theorem dX3_init_1 : decode cX3_init 1 = .ok (.invokespecial 3, 3) := by decide +kernel
theorem dX3_init_4 : decode cX3_init 4 = .ok (.aload_n 0, 1) := by decide +kernel
theorem dX3_init_5 : decode cX3_init 5 = .ok (.bipush 12, 2) := by decide +kernel
theorem dX3_init_7 : decode cX3_init 7 = .ok (.newarray .int, 2) := by decide +kernel
theorem dX3_init_9 : decode cX3_init 9 = .ok (.putfield 9, 3) := by decide +kernel
theorem dX3_init_12 : decode cX3_init 12 = .ok (.return_, 1) := by decide +kernel
theorem dX3_begin_0 : decode cX3_begin 0 = .ok (.aload_n 0, 1) := by decide +kernel
theorem dX3_begin_1 : decode cX3_begin 1 = .ok (.iconst 0, 1) := by decide +kernel
theorem dX3_begin_2 : decode cX3_begin 2 = .ok (.putfield 15, 3) := by decide +kernel
theorem dX3_begin_5 : decode cX3_begin 5 = .ok (.aload_n 0, 1) := by decide +kernel
theorem dX3_begin_6 : decode cX3_begin 6 = .ok (.iload_n 1, 1) := by decide +kernel
theorem dX3_begin_7 : decode cX3_begin 7 = .ok (.putfield 19, 3) := by decide +kernel
theorem dX3_begin_10 : decode cX3_begin 10 = .ok (.aload_n 0, 1) := by decide +kernel
theorem dX3_begin_11 : decode cX3_begin 11 = .ok (.iload_n 2, 1) := by decide +kernel
theorem dX3_begin_12 : decode cX3_begin 12 = .ok (.putfield 22, 3) := by decide +kernel
theorem dX3_begin_15 : decode cX3_begin 15 = .ok (.aload_n 0, 1) := by decide +kernel
theorem dX3_begin_16 : decode cX3_begin 16 = .ok (.iconst 0, 1) := by decide +kernel
theorem dX3_begin_17 : decode cX3_begin 17 = .ok (.putfield 25, 3) := by decide +kernel
theorem dX3_begin_20 : decode cX3_begin 20 = .ok (.aload_n 0, 1) := by decide +kernel
theorem dX3_begin_21 : decode cX3_begin 21 = .ok (.iconst 0, 1) := by decide +kernel
theorem dX3_begin_22 : decode cX3_begin 22 = .ok (.putfield 28, 3) := by decide +kernel
theorem dX3_begin_25 : decode cX3_begin 25 = .ok (.aload_n 0, 1) := by decide +kernel
theorem dX3_begin_26 : decode cX3_begin 26 = .ok (.iconst 0, 1) := by decide +kernel
theorem dX3_begin_27 : decode cX3_begin 27 = .ok (.putfield 31, 3) := by decide +kernel
theorem dX3_begin_30 : decode cX3_begin 30 = .ok (.aload_n 0, 1) := by decide +kernel
theorem dX3_begin_31 : decode cX3_begin 31 = .ok (.iconst 0, 1) := by decide +kernel
theorem dX3_begin_32 : decode cX3_begin 32 = .ok (.putfield 34, 3) := by decide +kernel
theorem dX3_begin_35 : decode cX3_begin 35 = .ok (.aload_n 0, 1) := by decide +kernel
theorem dX3_begin_36 : decode cX3_begin 36 = .ok (.iconst 0, 1) := by decide +kernel
theorem dX3_begin_37 : decode cX3_begin 37 = .ok (.putfield 37, 3) := by decide +kernel
theorem dX3_begin_40 : decode cX3_begin 40 = .ok (.return_, 1) := by decide +kernel
theorem dX3_copyFrom_0 : decode cX3_copyFrom 0 = .ok (.aload_n 1, 1) := by decide +kernel
theorem dX3_copyFrom_1 : decode cX3_copyFrom 1 = .ok (.getfield 9, 3) := by decide +kernel
theorem dX3_copyFrom_4 : decode cX3_copyFrom 4 = .ok (.iconst 0, 1) := by decide +kernel
theorem dX3_copyFrom_5 : decode cX3_copyFrom 5 = .ok (.aload_n 0, 1) := by decide +kernel
theorem dX3_copyFrom_6 : decode cX3_copyFrom 6 = .ok (.getfield 9, 3) := by decide +kernel
theorem dX3_copyFrom_9 : decode cX3_copyFrom 9 = .ok (.iconst 0, 1) := by decide +kernel
theorem dX3_copyFrom_10 : decode cX3_copyFrom 10 = .ok (.bipush 12, 2) := by decide +kernel
theorem dX3_copyFrom_12 : decode cX3_copyFrom 12 = .ok (.invokestatic 41, 3) := by decide +kernel
theorem dX3_copyFrom_15 : decode cX3_copyFrom 15 = .ok (.aload_n 0, 1) := by decide +kernel
theorem dX3_copyFrom_16 : decode cX3_copyFrom 16 = .ok (.aload_n 1, 1) := by decide +kernel
theorem dX3_copyFrom_17 : decode cX3_copyFrom 17 = .ok (.getfield 15, 3) := by decide +kernel
theorem dX3_copyFrom_20 : decode cX3_copyFrom 20 = .ok (.putfield 15, 3) := by decide +kernel
theorem dX3_copyFrom_23 : decode cX3_copyFrom 23 = .ok (.aload_n 0, 1) := by decide +kernel
theorem dX3_copyFrom_24 : decode cX3_copyFrom 24 = .ok (.aload_n 1, 1) := by decide +kernel
theorem dX3_copyFrom_25 : decode cX3_copyFrom 25 = .ok (.getfield 19, 3) := by decide +kernel
theorem dX3_copyFrom_28 : decode cX3_copyFrom 28 = .ok (.putfield 19, 3) := by decide +kernel
theorem dX3_copyFrom_31 : decode cX3_copyFrom 31 = .ok (.aload_n 0, 1) := by decide +kernel
theorem dX3_copyFrom_32 : decode cX3_copyFrom 32 = .ok (.aload_n 1, 1) := by decide +kernel
theorem dX3_copyFrom_33 : decode cX3_copyFrom 33 = .ok (.getfield 22, 3) := by decide +kernel
theorem dX3_copyFrom_36 : decode cX3_copyFrom 36 = .ok (.putfield 22, 3) := by decide +kernel
theorem dX3_copyFrom_39 : decode cX3_copyFrom 39 = .ok (.aload_n 0, 1) := by decide +kernel
theorem dX3_copyFrom_40 : decode cX3_copyFrom 40 = .ok (.aload_n 1, 1) := by decide +kernel
theorem dX3_copyFrom_41 : decode cX3_copyFrom 41 = .ok (.getfield 25, 3) := by decide +kernel
theorem dX3_copyFrom_44 : decode cX3_copyFrom 44 = .ok (.putfield 25, 3) := by decide +kernel
theorem dX3_copyFrom_47 : decode cX3_copyFrom 47 = .ok (.aload_n 0, 1) := by decide +kernel
theorem dX3_copyFrom_48 : decode cX3_copyFrom 48 = .ok (.aload_n 1, 1) := by decide +kernel
theorem dX3_copyFrom_49 : decode cX3_copyFrom 49 = .ok (.getfield 28, 3) := by decide +kernel
theorem dX3_copyFrom_52 : decode cX3_copyFrom 52 = .ok (.putfield 28, 3) := by decide +kernel
theorem dX3_copyFrom_55 : decode cX3_copyFrom 55 = .ok (.aload_n 0, 1) := by decide +kernel
theorem dX3_copyFrom_56 : decode cX3_copyFrom 56 = .ok (.aload_n 1, 1) := by decide +kernel
theorem dX3_copyFrom_57 : decode cX3_copyFrom 57 = .ok (.getfield 31, 3) := by decide +kernel
theorem dX3_copyFrom_60 : decode cX3_copyFrom 60 = .ok (.putfield 31, 3) := by decide +kernel
theorem dX3_copyFrom_63 : decode cX3_copyFrom 63 = .ok (.aload_n 0, 1) := by decide +kernel
theorem dX3_copyFrom_64 : decode cX3_copyFrom 64 = .ok (.aload_n 1, 1) := by decide +kernel
theorem dX3_copyFrom_65 : decode cX3_copyFrom 65 = .ok (.getfield 34, 3) := by decide +kernel
theorem dX3_copyFrom_68 : decode cX3_copyFrom 68 = .ok (.putfield 34, 3) := by decide +kernel
theorem dX3_copyFrom_71 : decode cX3_copyFrom 71 = .ok (.aload_n 0, 1) := by decide +kernel
theorem dX3_copyFrom_72 : decode cX3_copyFrom 72 = .ok (.aload_n 1, 1) := by decide +kernel
theorem dX3_copyFrom_73 : decode cX3_copyFrom 73 = .ok (.getfield 37, 3) := by decide +kernel
theorem dX3_copyFrom_76 : decode cX3_copyFrom 76 = .ok (.putfield 37, 3) := by decide +kernel
theorem dX3_copyFrom_79 : decode cX3_copyFrom 79 = .ok (.return_, 1) := by decide +kernel
theorem dX3_isOpen_0 : decode cX3_isOpen 0 = .ok (.aload_n 0, 1) := by decide +kernel
theorem dX3_isOpen_1 : decode cX3_isOpen 1 = .ok (.getfield 15, 3) := by decide +kernel
theorem dX3_isOpen_4 : decode cX3_isOpen 4 = .ok (.ifCond .ne 7, 3) := by decide +kernel
theorem dX3_isOpen_7 : decode cX3_isOpen 7 = .ok (.iconst 1, 1) := by decide +kernel
theorem dX3_isOpen_8 : decode cX3_isOpen 8 = .ok (.goto 4, 3) := by decide +kernel
theorem dX3_isOpen_11 : decode cX3_isOpen 11 = .ok (.iconst 0, 1) := by decide +kernel
theorem dX3_isOpen_12 : decode cX3_isOpen 12 = .ok (.ireturn, 1) := by decide +kernel
theorem dX3_isOpenWidow_0 : decode cX3_isOpenWidow 0 = .ok (.aload_n 0, 1) := by decide +kernel
theorem dX3_isOpenWidow_1 : decode cX3_isOpenWidow 1 = .ok (.getfield 15, 3) := by decide +kernel
theorem dX3_isOpenWidow_4 : decode cX3_isOpenWidow 4 = .ok (.ifCond .ne 14, 3) := by decide +kernel
theorem dX3_isOpenWidow_7 : decode cX3_isOpenWidow 7 = .ok (.aload_n 0, 1) := by decide +kernel
theorem dX3_isOpenWidow_8 : decode cX3_isOpenWidow 8 = .ok (.getfield 31, 3) := by decide +kernel
theorem dX3_isOpenWidow_11 : decode cX3_isOpenWidow 11 = .ok (.ifCond .le 7, 3) := by decide +kernel
theorem dX3_isOpenWidow_14 : decode cX3_isOpenWidow 14 = .ok (.iconst 1, 1) := by decide +kernel
theorem dX3_isOpenWidow_15 : decode cX3_isOpenWidow 15 = .ok (.goto 4, 3) := by decide +kernel
theorem dX3_isOpenWidow_18 : decode cX3_isOpenWidow 18 = .ok (.iconst 0, 1) := by decide +kernel
theorem dX3_isOpenWidow_19 : decode cX3_isOpenWidow 19 = .ok (.ireturn, 1) := by decide +kernel
theorem dX3_paysRent_0 : decode cX3_paysRent 0 = .ok (.aload_n 0, 1) := by decide +kernel
theorem dX3_paysRent_1 : decode cX3_paysRent 1 = .ok (.getfield 15, 3) := by decide +kernel
theorem dX3_paysRent_4 : decode cX3_paysRent 4 = .ok (.ifCond .ne 14, 3) := by decide +kernel
theorem dX3_paysRent_7 : decode cX3_paysRent 7 = .ok (.aload_n 0, 1) := by decide +kernel
theorem dX3_paysRent_8 : decode cX3_paysRent 8 = .ok (.getfield 31, 3) := by decide +kernel
theorem dX3_paysRent_11 : decode cX3_paysRent 11 = .ok (.ifCond .ne 7, 3) := by decide +kernel
theorem dX3_paysRent_14 : decode cX3_paysRent 14 = .ok (.iconst 1, 1) := by decide +kernel
theorem dX3_paysRent_15 : decode cX3_paysRent 15 = .ok (.goto 4, 3) := by decide +kernel
theorem dX3_paysRent_18 : decode cX3_paysRent 18 = .ok (.iconst 0, 1) := by decide +kernel
theorem dX3_paysRent_19 : decode cX3_paysRent 19 = .ok (.ireturn, 1) := by decide +kernel
theorem dX3_hasWrite_0 : decode cX3_hasWrite 0 = .ok (.aload_n 0, 1) := by decide +kernel
theorem dX3_hasWrite_1 : decode cX3_hasWrite 1 = .ok (.getfield 28, 3) := by decide +kernel
theorem dX3_hasWrite_4 : decode cX3_hasWrite 4 = .ok (.iload_n 1, 1) := by decide +kernel
theorem dX3_hasWrite_5 : decode cX3_hasWrite 5 = .ok (.ishr, 1) := by decide +kernel
theorem dX3_hasWrite_6 : decode cX3_hasWrite 6 = .ok (.iconst 1, 1) := by decide +kernel
theorem dX3_hasWrite_7 : decode cX3_hasWrite 7 = .ok (.iand, 1) := by decide +kernel
theorem dX3_hasWrite_8 : decode cX3_hasWrite 8 = .ok (.ifCond .eq 7, 3) := by decide +kernel
theorem dX3_hasWrite_11 : decode cX3_hasWrite 11 = .ok (.iconst 1, 1) := by decide +kernel
theorem dX3_hasWrite_12 : decode cX3_hasWrite 12 = .ok (.goto 4, 3) := by decide +kernel
theorem dX3_hasWrite_15 : decode cX3_hasWrite 15 = .ok (.iconst 0, 1) := by decide +kernel
theorem dX3_hasWrite_16 : decode cX3_hasWrite 16 = .ok (.ireturn, 1) := by decide +kernel
theorem dX3_putWrite_0 : decode cX3_putWrite 0 = .ok (.aload_n 0, 1) := by decide +kernel
theorem dX3_putWrite_1 : decode cX3_putWrite 1 = .ok (.getfield 9, 3) := by decide +kernel
theorem dX3_putWrite_4 : decode cX3_putWrite 4 = .ok (.iload_n 1, 1) := by decide +kernel
theorem dX3_putWrite_5 : decode cX3_putWrite 5 = .ok (.iload_n 2, 1) := by decide +kernel
theorem dX3_putWrite_6 : decode cX3_putWrite 6 = .ok (.iastore, 1) := by decide +kernel
theorem dX3_putWrite_7 : decode cX3_putWrite 7 = .ok (.aload_n 0, 1) := by decide +kernel
theorem dX3_putWrite_8 : decode cX3_putWrite 8 = .ok (.dup, 1) := by decide +kernel
theorem dX3_putWrite_9 : decode cX3_putWrite 9 = .ok (.getfield 28, 3) := by decide +kernel
theorem dX3_putWrite_12 : decode cX3_putWrite 12 = .ok (.iconst 1, 1) := by decide +kernel
theorem dX3_putWrite_13 : decode cX3_putWrite 13 = .ok (.iload_n 1, 1) := by decide +kernel
theorem dX3_putWrite_14 : decode cX3_putWrite 14 = .ok (.ishl, 1) := by decide +kernel
theorem dX3_putWrite_15 : decode cX3_putWrite 15 = .ok (.ior, 1) := by decide +kernel
theorem dX3_putWrite_16 : decode cX3_putWrite 16 = .ok (.putfield 28, 3) := by decide +kernel
theorem dX3_putWrite_19 : decode cX3_putWrite 19 = .ok (.return_, 1) := by decide +kernel
theorem dX3_numberOfWrites_0 : decode cX3_numberOfWrites 0 = .ok (.aload_n 0, 1) := by decide +kernel
theorem dX3_numberOfWrites_1 : decode cX3_numberOfWrites 1 = .ok (.getfield 28, 3) := by decide +kernel
theorem dX3_numberOfWrites_4 : decode cX3_numberOfWrites 4 = .ok (.invokestatic 47, 3) := by decide +kernel
theorem dX3_numberOfWrites_7 : decode cX3_numberOfWrites 7 = .ok (.ireturn, 1) := by decide +kernel
theorem dX4_init_0 : decode cX4_init 0 = .ok (.aload_n 0, 1) := by decide +kernel
theorem dX4_init_1 : decode cX4_init 1 = .ok (.invokespecial 3, 3) := by decide +kernel
theorem dX4_init_4 : decode cX4_init 4 = .ok (.aload_n 0, 1) := by decide +kernel
theorem dX4_init_5 : decode cX4_init 5 = .ok (.bipush 12, 2) := by decide +kernel
theorem dX4_init_7 : decode cX4_init 7 = .ok (.anewarray 9, 3) := by decide +kernel
theorem dX4_init_10 : decode cX4_init 10 = .ok (.putfield 11, 3) := by decide +kernel
theorem dX4_init_13 : decode cX4_init 13 = .ok (.aload_n 0, 1) := by decide +kernel
theorem dX4_init_14 : decode cX4_init 14 = .ok (.bipush 40, 2) := by decide +kernel
theorem dX4_init_16 : decode cX4_init 16 = .ok (.anewarray 17, 3) := by decide +kernel
theorem dX4_init_19 : decode cX4_init 19 = .ok (.putfield 19, 3) := by decide +kernel
theorem dX4_init_22 : decode cX4_init 22 = .ok (.aload_n 0, 1) := by decide +kernel
theorem dX4_init_23 : decode cX4_init 23 = .ok (.bipush 40, 2) := by decide +kernel
theorem dX4_init_25 : decode cX4_init 25 = .ok (.anewarray 23, 3) := by decide +kernel
theorem dX4_init_28 : decode cX4_init 28 = .ok (.putfield 25, 3) := by decide +kernel
theorem dX4_init_31 : decode cX4_init 31 = .ok (.aload_n 0, 1) := by decide +kernel
theorem dX4_init_32 : decode cX4_init 32 = .ok (.iconst 4, 1) := by decide +kernel
theorem dX4_init_33 : decode cX4_init 33 = .ok (.putfield 29, 3) := by decide +kernel
theorem dX4_init_36 : decode cX4_init 36 = .ok (.aload_n 0, 1) := by decide +kernel
theorem dX4_init_37 : decode cX4_init 37 = .ok (.bipush 40, 2) := by decide +kernel
theorem dX4_init_39 : decode cX4_init 39 = .ok (.newarray .int, 2) := by decide +kernel
theorem dX4_init_41 : decode cX4_init 41 = .ok (.putfield 33, 3) := by decide +kernel
theorem dX4_init_44 : decode cX4_init 44 = .ok (.iconst 0, 1) := by decide +kernel
theorem dX4_init_45 : decode cX4_init 45 = .ok (.istore_n 1, 1) := by decide +kernel
theorem dX4_init_46 : decode cX4_init 46 = .ok (.iload_n 1, 1) := by decide +kernel
theorem dX4_init_47 : decode cX4_init 47 = .ok (.bipush 12, 2) := by decide +kernel
theorem dX4_init_49 : decode cX4_init 49 = .ok (.if_icmp .ge 22, 3) := by decide +kernel
theorem dX4_init_52 : decode cX4_init 52 = .ok (.aload_n 0, 1) := by decide +kernel
theorem dX4_init_53 : decode cX4_init 53 = .ok (.getfield 11, 3) := by decide +kernel
theorem dX4_init_56 : decode cX4_init 56 = .ok (.iload_n 1, 1) := by decide +kernel
theorem dX4_init_57 : decode cX4_init 57 = .ok (.new 9, 3) := by decide +kernel
theorem dX4_init_60 : decode cX4_init 60 = .ok (.dup, 1) := by decide +kernel
theorem dX4_init_61 : decode cX4_init 61 = .ok (.invokespecial 37, 3) := by decide +kernel
theorem dX4_init_64 : decode cX4_init 64 = .ok (.aastore, 1) := by decide +kernel
theorem dX4_init_65 : decode cX4_init 65 = .ok (.iinc 1 1, 3) := by decide +kernel
theorem dX4_init_68 : decode cX4_init 68 = .ok (.goto (-22), 3) := by decide +kernel
theorem dX4_init_71 : decode cX4_init 71 = .ok (.iconst 0, 1) := by decide +kernel
theorem dX4_init_72 : decode cX4_init 72 = .ok (.istore_n 1, 1) := by decide +kernel
theorem dX4_init_73 : decode cX4_init 73 = .ok (.iload_n 1, 1) := by decide +kernel
theorem dX4_init_74 : decode cX4_init 74 = .ok (.bipush 40, 2) := by decide +kernel
theorem dX4_init_76 : decode cX4_init 76 = .ok (.if_icmp .ge 35, 3) := by decide +kernel
theorem dX4_init_79 : decode cX4_init 79 = .ok (.aload_n 0, 1) := by decide +kernel
theorem dX4_init_80 : decode cX4_init 80 = .ok (.getfield 19, 3) := by decide +kernel
theorem dX4_init_83 : decode cX4_init 83 = .ok (.iload_n 1, 1) := by decide +kernel
theorem dX4_init_84 : decode cX4_init 84 = .ok (.new 17, 3) := by decide +kernel
theorem dX4_init_87 : decode cX4_init 87 = .ok (.dup, 1) := by decide +kernel
theorem dX4_init_88 : decode cX4_init 88 = .ok (.invokespecial 38, 3) := by decide +kernel
theorem dX4_init_91 : decode cX4_init 91 = .ok (.aastore, 1) := by decide +kernel
theorem dX4_init_92 : decode cX4_init 92 = .ok (.aload_n 0, 1) := by decide +kernel
theorem dX4_init_93 : decode cX4_init 93 = .ok (.getfield 25, 3) := by decide +kernel
theorem dX4_init_96 : decode cX4_init 96 = .ok (.iload_n 1, 1) := by decide +kernel
theorem dX4_init_97 : decode cX4_init 97 = .ok (.new 23, 3) := by decide +kernel
theorem dX4_init_100 : decode cX4_init 100 = .ok (.dup, 1) := by decide +kernel
theorem dX4_init_101 : decode cX4_init 101 = .ok (.invokespecial 39, 3) := by decide +kernel
theorem dX4_init_104 : decode cX4_init 104 = .ok (.aastore, 1) := by decide +kernel
theorem dX4_init_105 : decode cX4_init 105 = .ok (.iinc 1 1, 3) := by decide +kernel
theorem dX4_init_108 : decode cX4_init 108 = .ok (.goto (-35), 3) := by decide +kernel
theorem dX4_init_111 : decode cX4_init 111 = .ok (.return_, 1) := by decide +kernel
theorem dX4_copyFrom_0 : decode cX4_copyFrom 0 = .ok (.iconst 0, 1) := by decide +kernel
theorem dX4_copyFrom_1 : decode cX4_copyFrom 1 = .ok (.istore_n 2, 1) := by decide +kernel
theorem dX4_copyFrom_2 : decode cX4_copyFrom 2 = .ok (.iload_n 2, 1) := by decide +kernel
theorem dX4_copyFrom_3 : decode cX4_copyFrom 3 = .ok (.bipush 12, 2) := by decide +kernel
theorem dX4_copyFrom_5 : decode cX4_copyFrom 5 = .ok (.if_icmp .ge 24, 3) := by decide +kernel
theorem dX4_copyFrom_8 : decode cX4_copyFrom 8 = .ok (.aload_n 0, 1) := by decide +kernel
theorem dX4_copyFrom_9 : decode cX4_copyFrom 9 = .ok (.getfield 11, 3) := by decide +kernel
theorem dX4_copyFrom_12 : decode cX4_copyFrom 12 = .ok (.iload_n 2, 1) := by decide +kernel
theorem dX4_copyFrom_13 : decode cX4_copyFrom 13 = .ok (.aaload, 1) := by decide +kernel
theorem dX4_copyFrom_14 : decode cX4_copyFrom 14 = .ok (.aload_n 1, 1) := by decide +kernel
theorem dX4_copyFrom_15 : decode cX4_copyFrom 15 = .ok (.getfield 11, 3) := by decide +kernel
theorem dX4_copyFrom_18 : decode cX4_copyFrom 18 = .ok (.iload_n 2, 1) := by decide +kernel
theorem dX4_copyFrom_19 : decode cX4_copyFrom 19 = .ok (.aaload, 1) := by decide +kernel
theorem dX4_copyFrom_20 : decode cX4_copyFrom 20 = .ok (.invokevirtual 40, 3) := by decide +kernel
theorem dX4_copyFrom_23 : decode cX4_copyFrom 23 = .ok (.iinc 2 1, 3) := by decide +kernel
theorem dX4_copyFrom_26 : decode cX4_copyFrom 26 = .ok (.goto (-24), 3) := by decide +kernel
theorem dX4_copyFrom_29 : decode cX4_copyFrom 29 = .ok (.iconst 0, 1) := by decide +kernel
theorem dX4_copyFrom_30 : decode cX4_copyFrom 30 = .ok (.istore_n 2, 1) := by decide +kernel
theorem dX4_copyFrom_31 : decode cX4_copyFrom 31 = .ok (.iload_n 2, 1) := by decide +kernel
theorem dX4_copyFrom_32 : decode cX4_copyFrom 32 = .ok (.aload_n 1, 1) := by decide +kernel
theorem dX4_copyFrom_33 : decode cX4_copyFrom 33 = .ok (.getfield 44, 3) := by decide +kernel
theorem dX4_copyFrom_36 : decode cX4_copyFrom 36 = .ok (.if_icmp .ge 24, 3) := by decide +kernel
theorem dX4_copyFrom_39 : decode cX4_copyFrom 39 = .ok (.aload_n 0, 1) := by decide +kernel
theorem dX4_copyFrom_40 : decode cX4_copyFrom 40 = .ok (.getfield 19, 3) := by decide +kernel
theorem dX4_copyFrom_43 : decode cX4_copyFrom 43 = .ok (.iload_n 2, 1) := by decide +kernel
theorem dX4_copyFrom_44 : decode cX4_copyFrom 44 = .ok (.aaload, 1) := by decide +kernel
theorem dX4_copyFrom_45 : decode cX4_copyFrom 45 = .ok (.aload_n 1, 1) := by decide +kernel
theorem dX4_copyFrom_46 : decode cX4_copyFrom 46 = .ok (.getfield 19, 3) := by decide +kernel
theorem dX4_copyFrom_49 : decode cX4_copyFrom 49 = .ok (.iload_n 2, 1) := by decide +kernel
theorem dX4_copyFrom_50 : decode cX4_copyFrom 50 = .ok (.aaload, 1) := by decide +kernel
theorem dX4_copyFrom_51 : decode cX4_copyFrom 51 = .ok (.invokevirtual 47, 3) := by decide +kernel
theorem dX4_copyFrom_54 : decode cX4_copyFrom 54 = .ok (.iinc 2 1, 3) := by decide +kernel
theorem dX4_copyFrom_57 : decode cX4_copyFrom 57 = .ok (.goto (-26), 3) := by decide +kernel
theorem dX4_copyFrom_60 : decode cX4_copyFrom 60 = .ok (.iconst 0, 1) := by decide +kernel
theorem dX4_copyFrom_61 : decode cX4_copyFrom 61 = .ok (.istore_n 2, 1) := by decide +kernel
theorem dX4_copyFrom_62 : decode cX4_copyFrom 62 = .ok (.iload_n 2, 1) := by decide +kernel
theorem dX4_copyFrom_63 : decode cX4_copyFrom 63 = .ok (.aload_n 1, 1) := by decide +kernel
theorem dX4_copyFrom_64 : decode cX4_copyFrom 64 = .ok (.getfield 50, 3) := by decide +kernel
theorem dX4_copyFrom_67 : decode cX4_copyFrom 67 = .ok (.if_icmp .ge 24, 3) := by decide +kernel
theorem dX4_copyFrom_70 : decode cX4_copyFrom 70 = .ok (.aload_n 0, 1) := by decide +kernel
theorem dX4_copyFrom_71 : decode cX4_copyFrom 71 = .ok (.getfield 25, 3) := by decide +kernel
theorem dX4_copyFrom_74 : decode cX4_copyFrom 74 = .ok (.iload_n 2, 1) := by decide +kernel
theorem dX4_copyFrom_75 : decode cX4_copyFrom 75 = .ok (.aaload, 1) := by decide +kernel
theorem dX4_copyFrom_76 : decode cX4_copyFrom 76 = .ok (.aload_n 1, 1) := by decide +kernel
theorem dX4_copyFrom_77 : decode cX4_copyFrom 77 = .ok (.getfield 25, 3) := by decide +kernel
theorem dX4_copyFrom_80 : decode cX4_copyFrom 80 = .ok (.iload_n 2, 1) := by decide +kernel
theorem dX4_copyFrom_81 : decode cX4_copyFrom 81 = .ok (.aaload, 1) := by decide +kernel
theorem dX4_copyFrom_82 : decode cX4_copyFrom 82 = .ok (.invokevirtual 53, 3) := by decide +kernel
theorem dX4_copyFrom_85 : decode cX4_copyFrom 85 = .ok (.iinc 2 1, 3) := by decide +kernel
theorem dX4_copyFrom_88 : decode cX4_copyFrom 88 = .ok (.goto (-26), 3) := by decide +kernel
theorem dX4_copyFrom_91 : decode cX4_copyFrom 91 = .ok (.aload_n 0, 1) := by decide +kernel
theorem dX4_copyFrom_92 : decode cX4_copyFrom 92 = .ok (.aload_n 1, 1) := by decide +kernel
theorem dX4_copyFrom_93 : decode cX4_copyFrom 93 = .ok (.getfield 56, 3) := by decide +kernel
theorem dX4_copyFrom_96 : decode cX4_copyFrom 96 = .ok (.putfield 56, 3) := by decide +kernel
theorem dX4_copyFrom_99 : decode cX4_copyFrom 99 = .ok (.aload_n 0, 1) := by decide +kernel
theorem dX4_copyFrom_100 : decode cX4_copyFrom 100 = .ok (.aload_n 1, 1) := by decide +kernel
theorem dX4_copyFrom_101 : decode cX4_copyFrom 101 = .ok (.getfield 59, 3) := by decide +kernel
theorem dX4_copyFrom_104 : decode cX4_copyFrom 104 = .ok (.putfield 59, 3) := by decide +kernel
theorem dX4_copyFrom_107 : decode cX4_copyFrom 107 = .ok (.aload_n 0, 1) := by decide +kernel
theorem dX4_copyFrom_108 : decode cX4_copyFrom 108 = .ok (.aload_n 1, 1) := by decide +kernel
theorem dX4_copyFrom_109 : decode cX4_copyFrom 109 = .ok (.getfield 29, 3) := by decide +kernel
theorem dX4_copyFrom_112 : decode cX4_copyFrom 112 = .ok (.putfield 29, 3) := by decide +kernel
theorem dX4_copyFrom_115 : decode cX4_copyFrom 115 = .ok (.aload_n 0, 1) := by decide +kernel
theorem dX4_copyFrom_116 : decode cX4_copyFrom 116 = .ok (.aload_n 1, 1) := by decide +kernel
theorem dX4_copyFrom_117 : decode cX4_copyFrom 117 = .ok (.getfield 44, 3) := by decide +kernel
theorem dX4_copyFrom_120 : decode cX4_copyFrom 120 = .ok (.putfield 44, 3) := by decide +kernel
theorem dX4_copyFrom_123 : decode cX4_copyFrom 123 = .ok (.aload_n 0, 1) := by decide +kernel
theorem dX4_copyFrom_124 : decode cX4_copyFrom 124 = .ok (.aload_n 1, 1) := by decide +kernel
theorem dX4_copyFrom_125 : decode cX4_copyFrom 125 = .ok (.getfield 50, 3) := by decide +kernel
theorem dX4_copyFrom_128 : decode cX4_copyFrom 128 = .ok (.putfield 50, 3) := by decide +kernel
theorem dX4_copyFrom_131 : decode cX4_copyFrom 131 = .ok (.aload_n 0, 1) := by decide +kernel
theorem dX4_copyFrom_132 : decode cX4_copyFrom 132 = .ok (.aload_n 1, 1) := by decide +kernel
theorem dX4_copyFrom_133 : decode cX4_copyFrom 133 = .ok (.getfield 62, 3) := by decide +kernel
theorem dX4_copyFrom_136 : decode cX4_copyFrom 136 = .ok (.putfield 62, 3) := by decide +kernel
theorem dX4_copyFrom_139 : decode cX4_copyFrom 139 = .ok (.aload_n 0, 1) := by decide +kernel
theorem dX4_copyFrom_140 : decode cX4_copyFrom 140 = .ok (.aload_n 1, 1) := by decide +kernel
theorem dX4_copyFrom_141 : decode cX4_copyFrom 141 = .ok (.getfield 65, 3) := by decide +kernel
theorem dX4_copyFrom_144 : decode cX4_copyFrom 144 = .ok (.putfield 65, 3) := by decide +kernel
theorem dX4_copyFrom_147 : decode cX4_copyFrom 147 = .ok (.return_, 1) := by decide +kernel
theorem dX4_hasReader_0 : decode cX4_hasReader 0 = .ok (.iload_n 1, 1) := by decide +kernel
theorem dX4_hasReader_1 : decode cX4_hasReader 1 = .ok (.ifCond .lt 15, 3) := by decide +kernel
theorem dX4_hasReader_4 : decode cX4_hasReader 4 = .ok (.iload_n 1, 1) := by decide +kernel
theorem dX4_hasReader_5 : decode cX4_hasReader 5 = .ok (.aload_n 0, 1) := by decide +kernel
theorem dX4_hasReader_6 : decode cX4_hasReader 6 = .ok (.getfield 44, 3) := by decide +kernel
theorem dX4_hasReader_9 : decode cX4_hasReader 9 = .ok (.if_icmp .ge 7, 3) := by decide +kernel
theorem dX4_hasReader_12 : decode cX4_hasReader 12 = .ok (.iconst 1, 1) := by decide +kernel
theorem dX4_hasReader_13 : decode cX4_hasReader 13 = .ok (.goto 4, 3) := by decide +kernel
theorem dX4_hasReader_16 : decode cX4_hasReader 16 = .ok (.iconst 0, 1) := by decide +kernel
theorem dX4_hasReader_17 : decode cX4_hasReader 17 = .ok (.ireturn, 1) := by decide +kernel
theorem dX4_addReader_0 : decode cX4_addReader 0 = .ok (.aload_n 0, 1) := by decide +kernel
theorem dX4_addReader_1 : decode cX4_addReader 1 = .ok (.getfield 44, 3) := by decide +kernel
theorem dX4_addReader_4 : decode cX4_addReader 4 = .ok (.istore_n 2, 1) := by decide +kernel
theorem dX4_addReader_5 : decode cX4_addReader 5 = .ok (.aload_n 0, 1) := by decide +kernel
theorem dX4_addReader_6 : decode cX4_addReader 6 = .ok (.getfield 19, 3) := by decide +kernel
theorem dX4_addReader_9 : decode cX4_addReader 9 = .ok (.iload_n 2, 1) := by decide +kernel
theorem dX4_addReader_10 : decode cX4_addReader 10 = .ok (.aaload, 1) := by decide +kernel
theorem dX4_addReader_11 : decode cX4_addReader 11 = .ok (.aload_n 0, 1) := by decide +kernel
theorem dX4_addReader_12 : decode cX4_addReader 12 = .ok (.getfield 56, 3) := by decide +kernel
theorem dX4_addReader_15 : decode cX4_addReader 15 = .ok (.iload_n 1, 1) := by decide +kernel
theorem dX4_addReader_16 : decode cX4_addReader 16 = .ok (.invokevirtual 69, 3) := by decide +kernel
theorem dX4_addReader_19 : decode cX4_addReader 19 = .ok (.aload_n 0, 1) := by decide +kernel
theorem dX4_addReader_20 : decode cX4_addReader 20 = .ok (.dup, 1) := by decide +kernel
theorem dX4_addReader_21 : decode cX4_addReader 21 = .ok (.getfield 44, 3) := by decide +kernel
theorem dX4_addReader_24 : decode cX4_addReader 24 = .ok (.iconst 1, 1) := by decide +kernel
theorem dX4_addReader_25 : decode cX4_addReader 25 = .ok (.iadd, 1) := by decide +kernel
theorem dX4_addReader_26 : decode cX4_addReader 26 = .ok (.putfield 44, 3) := by decide +kernel
theorem dX4_addReader_29 : decode cX4_addReader 29 = .ok (.iload_n 2, 1) := by decide +kernel
theorem dX4_addReader_30 : decode cX4_addReader 30 = .ok (.ireturn, 1) := by decide +kernel
theorem dX4_readersIn_0 : decode cX4_readersIn 0 = .ok (.iconst 0, 1) := by decide +kernel
theorem dX4_readersIn_1 : decode cX4_readersIn 1 = .ok (.istore_n 2, 1) := by decide +kernel
theorem dX4_readersIn_2 : decode cX4_readersIn 2 = .ok (.iconst 0, 1) := by decide +kernel
theorem dX4_readersIn_3 : decode cX4_readersIn 3 = .ok (.istore_n 3, 1) := by decide +kernel
theorem dX4_readersIn_4 : decode cX4_readersIn 4 = .ok (.iload_n 3, 1) := by decide +kernel
theorem dX4_readersIn_5 : decode cX4_readersIn 5 = .ok (.aload_n 0, 1) := by decide +kernel
theorem dX4_readersIn_6 : decode cX4_readersIn 6 = .ok (.getfield 44, 3) := by decide +kernel
theorem dX4_readersIn_9 : decode cX4_readersIn 9 = .ok (.if_icmp .ge 25, 3) := by decide +kernel
theorem dX4_readersIn_12 : decode cX4_readersIn 12 = .ok (.aload_n 0, 1) := by decide +kernel
theorem dX4_readersIn_13 : decode cX4_readersIn 13 = .ok (.getfield 19, 3) := by decide +kernel
theorem dX4_readersIn_16 : decode cX4_readersIn 16 = .ok (.iload_n 3, 1) := by decide +kernel
theorem dX4_readersIn_17 : decode cX4_readersIn 17 = .ok (.aaload, 1) := by decide +kernel
theorem dX4_readersIn_18 : decode cX4_readersIn 18 = .ok (.getfield 73, 3) := by decide +kernel
theorem dX4_readersIn_21 : decode cX4_readersIn 21 = .ok (.iload_n 1, 1) := by decide +kernel
theorem dX4_readersIn_22 : decode cX4_readersIn 22 = .ok (.if_icmp .ne 6, 3) := by decide +kernel
theorem dX4_readersIn_25 : decode cX4_readersIn 25 = .ok (.iinc 2 1, 3) := by decide +kernel
theorem dX4_readersIn_28 : decode cX4_readersIn 28 = .ok (.iinc 3 1, 3) := by decide +kernel
theorem dX4_readersIn_31 : decode cX4_readersIn 31 = .ok (.goto (-27), 3) := by decide +kernel
theorem dX4_readersIn_34 : decode cX4_readersIn 34 = .ok (.iload_n 2, 1) := by decide +kernel
theorem dX4_readersIn_35 : decode cX4_readersIn 35 = .ok (.ireturn, 1) := by decide +kernel
theorem dX4_openWidows_0 : decode cX4_openWidows 0 = .ok (.iconst 0, 1) := by decide +kernel
theorem dX4_openWidows_1 : decode cX4_openWidows 1 = .ok (.istore_n 1, 1) := by decide +kernel
theorem dX4_openWidows_2 : decode cX4_openWidows 2 = .ok (.iconst 0, 1) := by decide +kernel
theorem dX4_openWidows_3 : decode cX4_openWidows 3 = .ok (.istore_n 2, 1) := by decide +kernel
theorem dX4_openWidows_4 : decode cX4_openWidows 4 = .ok (.iload_n 2, 1) := by decide +kernel
theorem dX4_openWidows_5 : decode cX4_openWidows 5 = .ok (.aload_n 0, 1) := by decide +kernel
theorem dX4_openWidows_6 : decode cX4_openWidows 6 = .ok (.getfield 44, 3) := by decide +kernel
theorem dX4_openWidows_9 : decode cX4_openWidows 9 = .ok (.if_icmp .ge 24, 3) := by decide +kernel
theorem dX4_openWidows_12 : decode cX4_openWidows 12 = .ok (.aload_n 0, 1) := by decide +kernel
theorem dX4_openWidows_13 : decode cX4_openWidows 13 = .ok (.getfield 19, 3) := by decide +kernel
theorem dX4_openWidows_16 : decode cX4_openWidows 16 = .ok (.iload_n 2, 1) := by decide +kernel
theorem dX4_openWidows_17 : decode cX4_openWidows 17 = .ok (.aaload, 1) := by decide +kernel
theorem dX4_openWidows_18 : decode cX4_openWidows 18 = .ok (.invokevirtual 76, 3) := by decide +kernel
theorem dX4_openWidows_21 : decode cX4_openWidows 21 = .ok (.ifCond .eq 6, 3) := by decide +kernel
theorem dX4_openWidows_24 : decode cX4_openWidows 24 = .ok (.iinc 1 1, 3) := by decide +kernel
theorem dX4_openWidows_27 : decode cX4_openWidows 27 = .ok (.iinc 2 1, 3) := by decide +kernel
theorem dX4_openWidows_30 : decode cX4_openWidows 30 = .ok (.goto (-26), 3) := by decide +kernel
theorem dX4_openWidows_33 : decode cX4_openWidows 33 = .ok (.iload_n 1, 1) := by decide +kernel
theorem dX4_openWidows_34 : decode cX4_openWidows 34 = .ok (.ireturn, 1) := by decide +kernel
theorem dX4_coinsPaid_0 : decode cX4_coinsPaid 0 = .ok (.iconst 0, 1) := by decide +kernel
theorem dX4_coinsPaid_1 : decode cX4_coinsPaid 1 = .ok (.istore_n 1, 1) := by decide +kernel
theorem dX4_coinsPaid_2 : decode cX4_coinsPaid 2 = .ok (.iconst 0, 1) := by decide +kernel
theorem dX4_coinsPaid_3 : decode cX4_coinsPaid 3 = .ok (.istore_n 2, 1) := by decide +kernel
theorem dX4_coinsPaid_4 : decode cX4_coinsPaid 4 = .ok (.iload_n 2, 1) := by decide +kernel
theorem dX4_coinsPaid_5 : decode cX4_coinsPaid 5 = .ok (.aload_n 0, 1) := by decide +kernel
theorem dX4_coinsPaid_6 : decode cX4_coinsPaid 6 = .ok (.getfield 44, 3) := by decide +kernel
theorem dX4_coinsPaid_9 : decode cX4_coinsPaid 9 = .ok (.if_icmp .ge 21, 3) := by decide +kernel
theorem dX4_coinsPaid_12 : decode cX4_coinsPaid 12 = .ok (.iload_n 1, 1) := by decide +kernel
theorem dX4_coinsPaid_13 : decode cX4_coinsPaid 13 = .ok (.aload_n 0, 1) := by decide +kernel
theorem dX4_coinsPaid_14 : decode cX4_coinsPaid 14 = .ok (.getfield 19, 3) := by decide +kernel
theorem dX4_coinsPaid_17 : decode cX4_coinsPaid 17 = .ok (.iload_n 2, 1) := by decide +kernel
theorem dX4_coinsPaid_18 : decode cX4_coinsPaid 18 = .ok (.aaload, 1) := by decide +kernel
theorem dX4_coinsPaid_19 : decode cX4_coinsPaid 19 = .ok (.getfield 80, 3) := by decide +kernel
theorem dX4_coinsPaid_22 : decode cX4_coinsPaid 22 = .ok (.iadd, 1) := by decide +kernel
theorem dX4_coinsPaid_23 : decode cX4_coinsPaid 23 = .ok (.istore_n 1, 1) := by decide +kernel
theorem dX4_coinsPaid_24 : decode cX4_coinsPaid 24 = .ok (.iinc 2 1, 3) := by decide +kernel
theorem dX4_coinsPaid_27 : decode cX4_coinsPaid 27 = .ok (.goto (-23), 3) := by decide +kernel
theorem dX4_coinsPaid_30 : decode cX4_coinsPaid 30 = .ok (.iload_n 1, 1) := by decide +kernel
theorem dX4_coinsPaid_31 : decode cX4_coinsPaid 31 = .ok (.ireturn, 1) := by decide +kernel
theorem dX4_writersOf_0 : decode cX4_writersOf 0 = .ok (.iconst 0, 1) := by decide +kernel
theorem dX4_writersOf_1 : decode cX4_writersOf 1 = .ok (.istore_n 2, 1) := by decide +kernel
theorem dX4_writersOf_2 : decode cX4_writersOf 2 = .ok (.iconst 0, 1) := by decide +kernel
theorem dX4_writersOf_3 : decode cX4_writersOf 3 = .ok (.istore_n 3, 1) := by decide +kernel
theorem dX4_writersOf_4 : decode cX4_writersOf 4 = .ok (.iload_n 3, 1) := by decide +kernel
theorem dX4_writersOf_5 : decode cX4_writersOf 5 = .ok (.aload_n 0, 1) := by decide +kernel
theorem dX4_writersOf_6 : decode cX4_writersOf 6 = .ok (.getfield 44, 3) := by decide +kernel
theorem dX4_writersOf_9 : decode cX4_writersOf 9 = .ok (.if_icmp .ge 37, 3) := by decide +kernel
theorem dX4_writersOf_12 : decode cX4_writersOf 12 = .ok (.aload_n 0, 1) := by decide +kernel
theorem dX4_writersOf_13 : decode cX4_writersOf 13 = .ok (.getfield 19, 3) := by decide +kernel
theorem dX4_writersOf_16 : decode cX4_writersOf 16 = .ok (.iload_n 3, 1) := by decide +kernel
theorem dX4_writersOf_17 : decode cX4_writersOf 17 = .ok (.aaload, 1) := by decide +kernel
theorem dX4_writersOf_18 : decode cX4_writersOf 18 = .ok (.invokevirtual 83, 3) := by decide +kernel
theorem dX4_writersOf_21 : decode cX4_writersOf 21 = .ok (.ifCond .eq 19, 3) := by decide +kernel
theorem dX4_writersOf_24 : decode cX4_writersOf 24 = .ok (.aload_n 0, 1) := by decide +kernel
theorem dX4_writersOf_25 : decode cX4_writersOf 25 = .ok (.getfield 19, 3) := by decide +kernel
theorem dX4_writersOf_28 : decode cX4_writersOf 28 = .ok (.iload_n 3, 1) := by decide +kernel
theorem dX4_writersOf_29 : decode cX4_writersOf 29 = .ok (.aaload, 1) := by decide +kernel
theorem dX4_writersOf_30 : decode cX4_writersOf 30 = .ok (.iload_n 1, 1) := by decide +kernel
theorem dX4_writersOf_31 : decode cX4_writersOf 31 = .ok (.invokevirtual 86, 3) := by decide +kernel
theorem dX4_writersOf_34 : decode cX4_writersOf 34 = .ok (.ifCond .eq 6, 3) := by decide +kernel
theorem dX4_writersOf_37 : decode cX4_writersOf 37 = .ok (.iinc 2 1, 3) := by decide +kernel
theorem dX4_writersOf_40 : decode cX4_writersOf 40 = .ok (.iinc 3 1, 3) := by decide +kernel
theorem dX4_writersOf_43 : decode cX4_writersOf 43 = .ok (.goto (-39), 3) := by decide +kernel
theorem dX4_writersOf_46 : decode cX4_writersOf 46 = .ok (.iload_n 2, 1) := by decide +kernel
theorem dX4_writersOf_47 : decode cX4_writersOf 47 = .ok (.ireturn, 1) := by decide +kernel
theorem dX4_seersOf_0 : decode cX4_seersOf 0 = .ok (.iconst 0, 1) := by decide +kernel
theorem dX4_seersOf_1 : decode cX4_seersOf 1 = .ok (.istore_n 3, 1) := by decide +kernel
theorem dX4_seersOf_2 : decode cX4_seersOf 2 = .ok (.iconst 0, 1) := by decide +kernel
theorem dX4_seersOf_3 : decode cX4_seersOf 3 = .ok (.istore 4, 2) := by decide +kernel
theorem dX4_seersOf_5 : decode cX4_seersOf 5 = .ok (.iload 4, 2) := by decide +kernel
theorem dX4_seersOf_7 : decode cX4_seersOf 7 = .ok (.aload_n 0, 1) := by decide +kernel
theorem dX4_seersOf_8 : decode cX4_seersOf 8 = .ok (.getfield 44, 3) := by decide +kernel
theorem dX4_seersOf_11 : decode cX4_seersOf 11 = .ok (.if_icmp .ge 42, 3) := by decide +kernel
theorem dX4_seersOf_14 : decode cX4_seersOf 14 = .ok (.aload_n 0, 1) := by decide +kernel
theorem dX4_seersOf_15 : decode cX4_seersOf 15 = .ok (.getfield 19, 3) := by decide +kernel
theorem dX4_seersOf_18 : decode cX4_seersOf 18 = .ok (.iload 4, 2) := by decide +kernel
theorem dX4_seersOf_20 : decode cX4_seersOf 20 = .ok (.aaload, 1) := by decide +kernel
theorem dX4_seersOf_21 : decode cX4_seersOf 21 = .ok (.astore 5, 2) := by decide +kernel
theorem dX4_seersOf_23 : decode cX4_seersOf 23 = .ok (.aload 5, 2) := by decide +kernel
theorem dX4_seersOf_25 : decode cX4_seersOf 25 = .ok (.invokevirtual 83, 3) := by decide +kernel
theorem dX4_seersOf_28 : decode cX4_seersOf 28 = .ok (.ifCond .eq 19, 3) := by decide +kernel
theorem dX4_seersOf_31 : decode cX4_seersOf 31 = .ok (.aload_n 1, 1) := by decide +kernel
theorem dX4_seersOf_32 : decode cX4_seersOf 32 = .ok (.aload 5, 2) := by decide +kernel
theorem dX4_seersOf_34 : decode cX4_seersOf 34 = .ok (.getfield 90, 3) := by decide +kernel
theorem dX4_seersOf_37 : decode cX4_seersOf 37 = .ok (.invokevirtual 91, 3) := by decide +kernel
theorem dX4_seersOf_40 : decode cX4_seersOf 40 = .ok (.iload_n 2, 1) := by decide +kernel
theorem dX4_seersOf_41 : decode cX4_seersOf 41 = .ok (.if_icmp .ne 6, 3) := by decide +kernel
theorem dX4_seersOf_44 : decode cX4_seersOf 44 = .ok (.iinc 3 1, 3) := by decide +kernel
theorem dX4_seersOf_47 : decode cX4_seersOf 47 = .ok (.iinc 4 1, 3) := by decide +kernel
theorem dX4_seersOf_50 : decode cX4_seersOf 50 = .ok (.goto (-45), 3) := by decide +kernel
theorem dX4_seersOf_53 : decode cX4_seersOf 53 = .ok (.iload_n 3, 1) := by decide +kernel
theorem dX4_seersOf_54 : decode cX4_seersOf 54 = .ok (.ireturn, 1) := by decide +kernel
theorem dX4_payersOf_0 : decode cX4_payersOf 0 = .ok (.iconst 0, 1) := by decide +kernel
theorem dX4_payersOf_1 : decode cX4_payersOf 1 = .ok (.istore_n 3, 1) := by decide +kernel
theorem dX4_payersOf_2 : decode cX4_payersOf 2 = .ok (.iconst 0, 1) := by decide +kernel
theorem dX4_payersOf_3 : decode cX4_payersOf 3 = .ok (.istore 4, 2) := by decide +kernel
theorem dX4_payersOf_5 : decode cX4_payersOf 5 = .ok (.iload 4, 2) := by decide +kernel
theorem dX4_payersOf_7 : decode cX4_payersOf 7 = .ok (.aload_n 0, 1) := by decide +kernel
theorem dX4_payersOf_8 : decode cX4_payersOf 8 = .ok (.getfield 44, 3) := by decide +kernel
theorem dX4_payersOf_11 : decode cX4_payersOf 11 = .ok (.if_icmp .ge 42, 3) := by decide +kernel
theorem dX4_payersOf_14 : decode cX4_payersOf 14 = .ok (.aload_n 0, 1) := by decide +kernel
theorem dX4_payersOf_15 : decode cX4_payersOf 15 = .ok (.getfield 19, 3) := by decide +kernel
theorem dX4_payersOf_18 : decode cX4_payersOf 18 = .ok (.iload 4, 2) := by decide +kernel
theorem dX4_payersOf_20 : decode cX4_payersOf 20 = .ok (.aaload, 1) := by decide +kernel
theorem dX4_payersOf_21 : decode cX4_payersOf 21 = .ok (.astore 5, 2) := by decide +kernel
theorem dX4_payersOf_23 : decode cX4_payersOf 23 = .ok (.aload 5, 2) := by decide +kernel
theorem dX4_payersOf_25 : decode cX4_payersOf 25 = .ok (.invokevirtual 95, 3) := by decide +kernel
theorem dX4_payersOf_28 : decode cX4_payersOf 28 = .ok (.ifCond .eq 19, 3) := by decide +kernel
theorem dX4_payersOf_31 : decode cX4_payersOf 31 = .ok (.aload_n 1, 1) := by decide +kernel
theorem dX4_payersOf_32 : decode cX4_payersOf 32 = .ok (.aload 5, 2) := by decide +kernel
theorem dX4_payersOf_34 : decode cX4_payersOf 34 = .ok (.getfield 90, 3) := by decide +kernel
theorem dX4_payersOf_37 : decode cX4_payersOf 37 = .ok (.invokevirtual 91, 3) := by decide +kernel
theorem dX4_payersOf_40 : decode cX4_payersOf 40 = .ok (.iload_n 2, 1) := by decide +kernel
theorem dX4_payersOf_41 : decode cX4_payersOf 41 = .ok (.if_icmp .ne 6, 3) := by decide +kernel
theorem dX4_payersOf_44 : decode cX4_payersOf 44 = .ok (.iinc 3 1, 3) := by decide +kernel
theorem dX4_payersOf_47 : decode cX4_payersOf 47 = .ok (.iinc 4 1, 3) := by decide +kernel
theorem dX4_payersOf_50 : decode cX4_payersOf 50 = .ok (.goto (-45), 3) := by decide +kernel
theorem dX4_payersOf_53 : decode cX4_payersOf 53 = .ok (.iload_n 3, 1) := by decide +kernel
theorem dX4_payersOf_54 : decode cX4_payersOf 54 = .ok (.ireturn, 1) := by decide +kernel
theorem dX4_placesSeen_0 : decode cX4_placesSeen 0 = .ok (.iconst 0, 1) := by decide +kernel
theorem dX4_placesSeen_1 : decode cX4_placesSeen 1 = .ok (.istore_n 3, 1) := by decide +kernel
theorem dX4_placesSeen_2 : decode cX4_placesSeen 2 = .ok (.iconst 0, 1) := by decide +kernel
theorem dX4_placesSeen_3 : decode cX4_placesSeen 3 = .ok (.istore 4, 2) := by decide +kernel
theorem dX4_placesSeen_5 : decode cX4_placesSeen 5 = .ok (.iload 4, 2) := by decide +kernel
theorem dX4_placesSeen_7 : decode cX4_placesSeen 7 = .ok (.aload_n 0, 1) := by decide +kernel
theorem dX4_placesSeen_8 : decode cX4_placesSeen 8 = .ok (.getfield 44, 3) := by decide +kernel
theorem dX4_placesSeen_11 : decode cX4_placesSeen 11 = .ok (.if_icmp .ge 57, 3) := by decide +kernel
theorem dX4_placesSeen_14 : decode cX4_placesSeen 14 = .ok (.iload 4, 2) := by decide +kernel
theorem dX4_placesSeen_16 : decode cX4_placesSeen 16 = .ok (.iload_n 2, 1) := by decide +kernel
theorem dX4_placesSeen_17 : decode cX4_placesSeen 17 = .ok (.if_icmp .eq 45, 3) := by decide +kernel
theorem dX4_placesSeen_20 : decode cX4_placesSeen 20 = .ok (.aload_n 0, 1) := by decide +kernel
theorem dX4_placesSeen_21 : decode cX4_placesSeen 21 = .ok (.getfield 19, 3) := by decide +kernel
theorem dX4_placesSeen_24 : decode cX4_placesSeen 24 = .ok (.iload 4, 2) := by decide +kernel
theorem dX4_placesSeen_26 : decode cX4_placesSeen 26 = .ok (.aaload, 1) := by decide +kernel
theorem dX4_placesSeen_27 : decode cX4_placesSeen 27 = .ok (.invokevirtual 83, 3) := by decide +kernel
theorem dX4_placesSeen_30 : decode cX4_placesSeen 30 = .ok (.ifCond .eq 32, 3) := by decide +kernel
theorem dX4_placesSeen_33 : decode cX4_placesSeen 33 = .ok (.aload_n 1, 1) := by decide +kernel
theorem dX4_placesSeen_34 : decode cX4_placesSeen 34 = .ok (.aload_n 0, 1) := by decide +kernel
theorem dX4_placesSeen_35 : decode cX4_placesSeen 35 = .ok (.getfield 19, 3) := by decide +kernel
theorem dX4_placesSeen_38 : decode cX4_placesSeen 38 = .ok (.iload 4, 2) := by decide +kernel
theorem dX4_placesSeen_40 : decode cX4_placesSeen 40 = .ok (.aaload, 1) := by decide +kernel
theorem dX4_placesSeen_41 : decode cX4_placesSeen 41 = .ok (.getfield 90, 3) := by decide +kernel
theorem dX4_placesSeen_44 : decode cX4_placesSeen 44 = .ok (.invokevirtual 91, 3) := by decide +kernel
theorem dX4_placesSeen_47 : decode cX4_placesSeen 47 = .ok (.istore 5, 2) := by decide +kernel
theorem dX4_placesSeen_49 : decode cX4_placesSeen 49 = .ok (.iload 5, 2) := by decide +kernel
theorem dX4_placesSeen_51 : decode cX4_placesSeen 51 = .ok (.iconst (-1), 1) := by decide +kernel
theorem dX4_placesSeen_52 : decode cX4_placesSeen 52 = .ok (.if_icmp .eq 10, 3) := by decide +kernel
theorem dX4_placesSeen_55 : decode cX4_placesSeen 55 = .ok (.iload_n 3, 1) := by decide +kernel
theorem dX4_placesSeen_56 : decode cX4_placesSeen 56 = .ok (.iconst 1, 1) := by decide +kernel
theorem dX4_placesSeen_57 : decode cX4_placesSeen 57 = .ok (.iload 5, 2) := by decide +kernel
theorem dX4_placesSeen_59 : decode cX4_placesSeen 59 = .ok (.ishl, 1) := by decide +kernel
theorem dX4_placesSeen_60 : decode cX4_placesSeen 60 = .ok (.ior, 1) := by decide +kernel
theorem dX4_placesSeen_61 : decode cX4_placesSeen 61 = .ok (.istore_n 3, 1) := by decide +kernel
theorem dX4_placesSeen_62 : decode cX4_placesSeen 62 = .ok (.iinc 4 1, 3) := by decide +kernel
theorem dX4_placesSeen_65 : decode cX4_placesSeen 65 = .ok (.goto (-60), 3) := by decide +kernel
theorem dX4_placesSeen_68 : decode cX4_placesSeen 68 = .ok (.iload_n 3, 1) := by decide +kernel
theorem dX4_placesSeen_69 : decode cX4_placesSeen 69 = .ok (.ireturn, 1) := by decide +kernel
theorem dX4_oldVersions_0 : decode cX4_oldVersions 0 = .ok (.iconst 0, 1) := by decide +kernel
theorem dX4_oldVersions_1 : decode cX4_oldVersions 1 = .ok (.istore_n 1, 1) := by decide +kernel
theorem dX4_oldVersions_2 : decode cX4_oldVersions 2 = .ok (.iconst 0, 1) := by decide +kernel
theorem dX4_oldVersions_3 : decode cX4_oldVersions 3 = .ok (.istore_n 2, 1) := by decide +kernel
theorem dX4_oldVersions_4 : decode cX4_oldVersions 4 = .ok (.iload_n 2, 1) := by decide +kernel
theorem dX4_oldVersions_5 : decode cX4_oldVersions 5 = .ok (.bipush 12, 2) := by decide +kernel
theorem dX4_oldVersions_7 : decode cX4_oldVersions 7 = .ok (.if_icmp .ge 23, 3) := by decide +kernel
theorem dX4_oldVersions_10 : decode cX4_oldVersions 10 = .ok (.iload_n 1, 1) := by decide +kernel
theorem dX4_oldVersions_11 : decode cX4_oldVersions 11 = .ok (.aload_n 0, 1) := by decide +kernel
theorem dX4_oldVersions_12 : decode cX4_oldVersions 12 = .ok (.getfield 11, 3) := by decide +kernel
theorem dX4_oldVersions_15 : decode cX4_oldVersions 15 = .ok (.iload_n 2, 1) := by decide +kernel
theorem dX4_oldVersions_16 : decode cX4_oldVersions 16 = .ok (.aaload, 1) := by decide +kernel
theorem dX4_oldVersions_17 : decode cX4_oldVersions 17 = .ok (.getfield 98, 3) := by decide +kernel
theorem dX4_oldVersions_20 : decode cX4_oldVersions 20 = .ok (.iconst 1, 1) := by decide +kernel
theorem dX4_oldVersions_21 : decode cX4_oldVersions 21 = .ok (.isub, 1) := by decide +kernel
theorem dX4_oldVersions_22 : decode cX4_oldVersions 22 = .ok (.iadd, 1) := by decide +kernel
theorem dX4_oldVersions_23 : decode cX4_oldVersions 23 = .ok (.istore_n 1, 1) := by decide +kernel
theorem dX4_oldVersions_24 : decode cX4_oldVersions 24 = .ok (.iinc 2 1, 3) := by decide +kernel
theorem dX4_oldVersions_27 : decode cX4_oldVersions 27 = .ok (.goto (-23), 3) := by decide +kernel
theorem dX4_oldVersions_30 : decode cX4_oldVersions 30 = .ok (.iload_n 1, 1) := by decide +kernel
theorem dX4_oldVersions_31 : decode cX4_oldVersions 31 = .ok (.ireturn, 1) := by decide +kernel
theorem dX4_oldVersionsSeenBy_0 : decode cX4_oldVersionsSeenBy 0 = .ok (.iconst 0, 1) := by decide +kernel
theorem dX4_oldVersionsSeenBy_1 : decode cX4_oldVersionsSeenBy 1 = .ok (.istore_n 2, 1) := by decide +kernel
theorem dX4_oldVersionsSeenBy_2 : decode cX4_oldVersionsSeenBy 2 = .ok (.iconst 0, 1) := by decide +kernel
theorem dX4_oldVersionsSeenBy_3 : decode cX4_oldVersionsSeenBy 3 = .ok (.istore_n 3, 1) := by decide +kernel
theorem dX4_oldVersionsSeenBy_4 : decode cX4_oldVersionsSeenBy 4 = .ok (.iload_n 3, 1) := by decide +kernel
theorem dX4_oldVersionsSeenBy_5 : decode cX4_oldVersionsSeenBy 5 = .ok (.bipush 12, 2) := by decide +kernel
theorem dX4_oldVersionsSeenBy_7 : decode cX4_oldVersionsSeenBy 7 = .ok (.if_icmp .ge 28, 3) := by decide +kernel
theorem dX4_oldVersionsSeenBy_10 : decode cX4_oldVersionsSeenBy 10 = .ok (.aload_n 0, 1) := by decide +kernel
theorem dX4_oldVersionsSeenBy_11 : decode cX4_oldVersionsSeenBy 11 = .ok (.getfield 11, 3) := by decide +kernel
theorem dX4_oldVersionsSeenBy_14 : decode cX4_oldVersionsSeenBy 14 = .ok (.iload_n 3, 1) := by decide +kernel
theorem dX4_oldVersionsSeenBy_15 : decode cX4_oldVersionsSeenBy 15 = .ok (.aaload, 1) := by decide +kernel
theorem dX4_oldVersionsSeenBy_16 : decode cX4_oldVersionsSeenBy 16 = .ok (.aload_n 1, 1) := by decide +kernel
theorem dX4_oldVersionsSeenBy_17 : decode cX4_oldVersionsSeenBy 17 = .ok (.getfield 90, 3) := by decide +kernel
theorem dX4_oldVersionsSeenBy_20 : decode cX4_oldVersionsSeenBy 20 = .ok (.invokevirtual 91, 3) := by decide +kernel
theorem dX4_oldVersionsSeenBy_23 : decode cX4_oldVersionsSeenBy 23 = .ok (.ifCond .le 6, 3) := by decide +kernel
theorem dX4_oldVersionsSeenBy_26 : decode cX4_oldVersionsSeenBy 26 = .ok (.iinc 2 1, 3) := by decide +kernel
theorem dX4_oldVersionsSeenBy_29 : decode cX4_oldVersionsSeenBy 29 = .ok (.iinc 3 1, 3) := by decide +kernel
theorem dX4_oldVersionsSeenBy_32 : decode cX4_oldVersionsSeenBy 32 = .ok (.goto (-28), 3) := by decide +kernel
theorem dX4_oldVersionsSeenBy_35 : decode cX4_oldVersionsSeenBy 35 = .ok (.iload_n 2, 1) := by decide +kernel
theorem dX4_oldVersionsSeenBy_36 : decode cX4_oldVersionsSeenBy 36 = .ok (.ireturn, 1) := by decide +kernel
theorem dX4_sumSeenBy_0 : decode cX4_sumSeenBy 0 = .ok (.iconst 0, 1) := by decide +kernel
theorem dX4_sumSeenBy_1 : decode cX4_sumSeenBy 1 = .ok (.istore_n 2, 1) := by decide +kernel
theorem dX4_sumSeenBy_2 : decode cX4_sumSeenBy 2 = .ok (.iconst 0, 1) := by decide +kernel
theorem dX4_sumSeenBy_3 : decode cX4_sumSeenBy 3 = .ok (.istore_n 3, 1) := by decide +kernel
theorem dX4_sumSeenBy_4 : decode cX4_sumSeenBy 4 = .ok (.iload_n 3, 1) := by decide +kernel
theorem dX4_sumSeenBy_5 : decode cX4_sumSeenBy 5 = .ok (.bipush 12, 2) := by decide +kernel
theorem dX4_sumSeenBy_7 : decode cX4_sumSeenBy 7 = .ok (.if_icmp .ge 25, 3) := by decide +kernel
theorem dX4_sumSeenBy_10 : decode cX4_sumSeenBy 10 = .ok (.iload_n 2, 1) := by decide +kernel
theorem dX4_sumSeenBy_11 : decode cX4_sumSeenBy 11 = .ok (.aload_n 0, 1) := by decide +kernel
theorem dX4_sumSeenBy_12 : decode cX4_sumSeenBy 12 = .ok (.getfield 11, 3) := by decide +kernel
theorem dX4_sumSeenBy_15 : decode cX4_sumSeenBy 15 = .ok (.iload_n 3, 1) := by decide +kernel
theorem dX4_sumSeenBy_16 : decode cX4_sumSeenBy 16 = .ok (.aaload, 1) := by decide +kernel
theorem dX4_sumSeenBy_17 : decode cX4_sumSeenBy 17 = .ok (.aload_n 1, 1) := by decide +kernel
theorem dX4_sumSeenBy_18 : decode cX4_sumSeenBy 18 = .ok (.getfield 90, 3) := by decide +kernel
theorem dX4_sumSeenBy_21 : decode cX4_sumSeenBy 21 = .ok (.invokevirtual 101, 3) := by decide +kernel
theorem dX4_sumSeenBy_24 : decode cX4_sumSeenBy 24 = .ok (.iadd, 1) := by decide +kernel
theorem dX4_sumSeenBy_25 : decode cX4_sumSeenBy 25 = .ok (.istore_n 2, 1) := by decide +kernel
theorem dX4_sumSeenBy_26 : decode cX4_sumSeenBy 26 = .ok (.iinc 3 1, 3) := by decide +kernel
theorem dX4_sumSeenBy_29 : decode cX4_sumSeenBy 29 = .ok (.goto (-25), 3) := by decide +kernel
theorem dX4_sumSeenBy_32 : decode cX4_sumSeenBy 32 = .ok (.iload_n 2, 1) := by decide +kernel
theorem dX4_sumSeenBy_33 : decode cX4_sumSeenBy 33 = .ok (.ireturn, 1) := by decide +kernel
theorem dX4_removeUnseen_0 : decode cX4_removeUnseen 0 = .ok (.iconst 0, 1) := by decide +kernel
theorem dX4_removeUnseen_1 : decode cX4_removeUnseen 1 = .ok (.istore_n 1, 1) := by decide +kernel
theorem dX4_removeUnseen_2 : decode cX4_removeUnseen 2 = .ok (.iconst 0, 1) := by decide +kernel
theorem dX4_removeUnseen_3 : decode cX4_removeUnseen 3 = .ok (.istore_n 2, 1) := by decide +kernel
theorem dX4_removeUnseen_4 : decode cX4_removeUnseen 4 = .ok (.iload_n 2, 1) := by decide +kernel
theorem dX4_removeUnseen_5 : decode cX4_removeUnseen 5 = .ok (.bipush 12, 2) := by decide +kernel
theorem dX4_removeUnseen_7 : decode cX4_removeUnseen 7 = .ok (.if_icmp .ge 32, 3) := by decide +kernel
theorem dX4_removeUnseen_10 : decode cX4_removeUnseen 10 = .ok (.iload_n 1, 1) := by decide +kernel
theorem dX4_removeUnseen_11 : decode cX4_removeUnseen 11 = .ok (.aload_n 0, 1) := by decide +kernel
theorem dX4_removeUnseen_12 : decode cX4_removeUnseen 12 = .ok (.getfield 11, 3) := by decide +kernel
theorem dX4_removeUnseen_15 : decode cX4_removeUnseen 15 = .ok (.iload_n 2, 1) := by decide +kernel
theorem dX4_removeUnseen_16 : decode cX4_removeUnseen 16 = .ok (.aaload, 1) := by decide +kernel
theorem dX4_removeUnseen_17 : decode cX4_removeUnseen 17 = .ok (.aload_n 0, 1) := by decide +kernel
theorem dX4_removeUnseen_18 : decode cX4_removeUnseen 18 = .ok (.aload_n 0, 1) := by decide +kernel
theorem dX4_removeUnseen_19 : decode cX4_removeUnseen 19 = .ok (.getfield 11, 3) := by decide +kernel
theorem dX4_removeUnseen_22 : decode cX4_removeUnseen 22 = .ok (.iload_n 2, 1) := by decide +kernel
theorem dX4_removeUnseen_23 : decode cX4_removeUnseen 23 = .ok (.aaload, 1) := by decide +kernel
theorem dX4_removeUnseen_24 : decode cX4_removeUnseen 24 = .ok (.iconst (-1), 1) := by decide +kernel
theorem dX4_removeUnseen_25 : decode cX4_removeUnseen 25 = .ok (.invokevirtual 104, 3) := by decide +kernel
theorem dX4_removeUnseen_28 : decode cX4_removeUnseen 28 = .ok (.invokevirtual 108, 3) := by decide +kernel
theorem dX4_removeUnseen_31 : decode cX4_removeUnseen 31 = .ok (.iadd, 1) := by decide +kernel
theorem dX4_removeUnseen_32 : decode cX4_removeUnseen 32 = .ok (.istore_n 1, 1) := by decide +kernel
theorem dX4_removeUnseen_33 : decode cX4_removeUnseen 33 = .ok (.iinc 2 1, 3) := by decide +kernel
theorem dX4_removeUnseen_36 : decode cX4_removeUnseen 36 = .ok (.goto (-32), 3) := by decide +kernel
theorem dX4_removeUnseen_39 : decode cX4_removeUnseen 39 = .ok (.aload_n 0, 1) := by decide +kernel
theorem dX4_removeUnseen_40 : decode cX4_removeUnseen 40 = .ok (.dup, 1) := by decide +kernel
theorem dX4_removeUnseen_41 : decode cX4_removeUnseen 41 = .ok (.getfield 62, 3) := by decide +kernel
theorem dX4_removeUnseen_44 : decode cX4_removeUnseen 44 = .ok (.iload_n 1, 1) := by decide +kernel
theorem dX4_removeUnseen_45 : decode cX4_removeUnseen 45 = .ok (.iadd, 1) := by decide +kernel
theorem dX4_removeUnseen_46 : decode cX4_removeUnseen 46 = .ok (.putfield 62, 3) := by decide +kernel
theorem dX4_removeUnseen_49 : decode cX4_removeUnseen 49 = .ok (.iload_n 1, 1) := by decide +kernel
theorem dX4_removeUnseen_50 : decode cX4_removeUnseen 50 = .ok (.ireturn, 1) := by decide +kernel
theorem dX4_shareOf_0 : decode cX4_shareOf 0 = .ok (.iload_n 2, 1) := by decide +kernel
theorem dX4_shareOf_1 : decode cX4_shareOf 1 = .ok (.ifCond .gt 5, 3) := by decide +kernel
theorem dX4_shareOf_4 : decode cX4_shareOf 4 = .ok (.iconst 0, 1) := by decide +kernel
theorem dX4_shareOf_5 : decode cX4_shareOf 5 = .ok (.ireturn, 1) := by decide +kernel
theorem dX4_shareOf_6 : decode cX4_shareOf 6 = .ok (.aload_n 0, 1) := by decide +kernel
theorem dX4_shareOf_7 : decode cX4_shareOf 7 = .ok (.aload_n 1, 1) := by decide +kernel
theorem dX4_shareOf_8 : decode cX4_shareOf 8 = .ok (.iload_n 2, 1) := by decide +kernel
theorem dX4_shareOf_9 : decode cX4_shareOf 9 = .ok (.invokevirtual 111, 3) := by decide +kernel
theorem dX4_shareOf_12 : decode cX4_shareOf 12 = .ok (.istore_n 3, 1) := by decide +kernel
theorem dX4_shareOf_13 : decode cX4_shareOf 13 = .ok (.iload_n 3, 1) := by decide +kernel
theorem dX4_shareOf_14 : decode cX4_shareOf 14 = .ok (.ifCond .ne 7, 3) := by decide +kernel
theorem dX4_shareOf_17 : decode cX4_shareOf 17 = .ok (.iconst 0, 1) := by decide +kernel
theorem dX4_shareOf_18 : decode cX4_shareOf 18 = .ok (.goto 13, 3) := by decide +kernel
theorem dX4_shareOf_21 : decode cX4_shareOf 21 = .ok (.aload_n 0, 1) := by decide +kernel
theorem dX4_shareOf_22 : decode cX4_shareOf 22 = .ok (.getfield 29, 3) := by decide +kernel
theorem dX4_shareOf_25 : decode cX4_shareOf 25 = .ok (.iload_n 3, 1) := by decide +kernel
theorem dX4_shareOf_26 : decode cX4_shareOf 26 = .ok (.iadd, 1) := by decide +kernel
theorem dX4_shareOf_27 : decode cX4_shareOf 27 = .ok (.iconst 1, 1) := by decide +kernel
theorem dX4_shareOf_28 : decode cX4_shareOf 28 = .ok (.isub, 1) := by decide +kernel
theorem dX4_shareOf_29 : decode cX4_shareOf 29 = .ok (.iload_n 3, 1) := by decide +kernel
theorem dX4_shareOf_30 : decode cX4_shareOf 30 = .ok (.idiv, 1) := by decide +kernel
theorem dX4_shareOf_31 : decode cX4_shareOf 31 = .ok (.ireturn, 1) := by decide +kernel
theorem dX4_dueOf_0 : decode cX4_dueOf 0 = .ok (.aload_n 1, 1) := by decide +kernel
theorem dX4_dueOf_1 : decode cX4_dueOf 1 = .ok (.invokevirtual 95, 3) := by decide +kernel
theorem dX4_dueOf_4 : decode cX4_dueOf 4 = .ok (.ifCond .ne 5, 3) := by decide +kernel
theorem dX4_dueOf_7 : decode cX4_dueOf 7 = .ok (.iconst 0, 1) := by decide +kernel
theorem dX4_dueOf_8 : decode cX4_dueOf 8 = .ok (.ireturn, 1) := by decide +kernel
theorem dX4_dueOf_9 : decode cX4_dueOf 9 = .ok (.iconst 0, 1) := by decide +kernel
theorem dX4_dueOf_10 : decode cX4_dueOf 10 = .ok (.istore_n 2, 1) := by decide +kernel
theorem dX4_dueOf_11 : decode cX4_dueOf 11 = .ok (.iconst 0, 1) := by decide +kernel
theorem dX4_dueOf_12 : decode cX4_dueOf 12 = .ok (.istore_n 3, 1) := by decide +kernel
theorem dX4_dueOf_13 : decode cX4_dueOf 13 = .ok (.iload_n 3, 1) := by decide +kernel
theorem dX4_dueOf_14 : decode cX4_dueOf 14 = .ok (.bipush 12, 2) := by decide +kernel
theorem dX4_dueOf_16 : decode cX4_dueOf 16 = .ok (.if_icmp .ge 35, 3) := by decide +kernel
theorem dX4_dueOf_19 : decode cX4_dueOf 19 = .ok (.iload_n 2, 1) := by decide +kernel
theorem dX4_dueOf_20 : decode cX4_dueOf 20 = .ok (.aload_n 0, 1) := by decide +kernel
theorem dX4_dueOf_21 : decode cX4_dueOf 21 = .ok (.aload_n 0, 1) := by decide +kernel
theorem dX4_dueOf_22 : decode cX4_dueOf 22 = .ok (.getfield 11, 3) := by decide +kernel
theorem dX4_dueOf_25 : decode cX4_dueOf 25 = .ok (.iload_n 3, 1) := by decide +kernel
theorem dX4_dueOf_26 : decode cX4_dueOf 26 = .ok (.aaload, 1) := by decide +kernel
theorem dX4_dueOf_27 : decode cX4_dueOf 27 = .ok (.aload_n 0, 1) := by decide +kernel
theorem dX4_dueOf_28 : decode cX4_dueOf 28 = .ok (.getfield 11, 3) := by decide +kernel
theorem dX4_dueOf_31 : decode cX4_dueOf 31 = .ok (.iload_n 3, 1) := by decide +kernel
theorem dX4_dueOf_32 : decode cX4_dueOf 32 = .ok (.aaload, 1) := by decide +kernel
theorem dX4_dueOf_33 : decode cX4_dueOf 33 = .ok (.aload_n 1, 1) := by decide +kernel
theorem dX4_dueOf_34 : decode cX4_dueOf 34 = .ok (.getfield 90, 3) := by decide +kernel
theorem dX4_dueOf_37 : decode cX4_dueOf 37 = .ok (.invokevirtual 91, 3) := by decide +kernel
theorem dX4_dueOf_40 : decode cX4_dueOf 40 = .ok (.invokevirtual 114, 3) := by decide +kernel
theorem dX4_dueOf_43 : decode cX4_dueOf 43 = .ok (.iadd, 1) := by decide +kernel
theorem dX4_dueOf_44 : decode cX4_dueOf 44 = .ok (.istore_n 2, 1) := by decide +kernel
theorem dX4_dueOf_45 : decode cX4_dueOf 45 = .ok (.iinc 3 1, 3) := by decide +kernel
theorem dX4_dueOf_48 : decode cX4_dueOf 48 = .ok (.goto (-35), 3) := by decide +kernel
theorem dX4_dueOf_51 : decode cX4_dueOf 51 = .ok (.iload_n 2, 1) := by decide +kernel
theorem dX4_dueOf_52 : decode cX4_dueOf 52 = .ok (.ireturn, 1) := by decide +kernel
theorem dX4_tellDues_0 : decode cX4_tellDues 0 = .ok (.iconst 0, 1) := by decide +kernel
theorem dX4_tellDues_1 : decode cX4_tellDues 1 = .ok (.istore_n 1, 1) := by decide +kernel
theorem dX4_tellDues_2 : decode cX4_tellDues 2 = .ok (.iload_n 1, 1) := by decide +kernel
theorem dX4_tellDues_3 : decode cX4_tellDues 3 = .ok (.aload_n 0, 1) := by decide +kernel
theorem dX4_tellDues_4 : decode cX4_tellDues 4 = .ok (.getfield 44, 3) := by decide +kernel
theorem dX4_tellDues_7 : decode cX4_tellDues 7 = .ok (.if_icmp .ge 25, 3) := by decide +kernel
theorem dX4_tellDues_10 : decode cX4_tellDues 10 = .ok (.aload_n 0, 1) := by decide +kernel
theorem dX4_tellDues_11 : decode cX4_tellDues 11 = .ok (.getfield 33, 3) := by decide +kernel
theorem dX4_tellDues_14 : decode cX4_tellDues 14 = .ok (.iload_n 1, 1) := by decide +kernel
theorem dX4_tellDues_15 : decode cX4_tellDues 15 = .ok (.aload_n 0, 1) := by decide +kernel
theorem dX4_tellDues_16 : decode cX4_tellDues 16 = .ok (.aload_n 0, 1) := by decide +kernel
theorem dX4_tellDues_17 : decode cX4_tellDues 17 = .ok (.getfield 19, 3) := by decide +kernel
theorem dX4_tellDues_20 : decode cX4_tellDues 20 = .ok (.iload_n 1, 1) := by decide +kernel
theorem dX4_tellDues_21 : decode cX4_tellDues 21 = .ok (.aaload, 1) := by decide +kernel
theorem dX4_tellDues_22 : decode cX4_tellDues 22 = .ok (.invokevirtual 117, 3) := by decide +kernel
theorem dX4_tellDues_25 : decode cX4_tellDues 25 = .ok (.iastore, 1) := by decide +kernel
theorem dX4_tellDues_26 : decode cX4_tellDues 26 = .ok (.iinc 1 1, 3) := by decide +kernel
theorem dX4_tellDues_29 : decode cX4_tellDues 29 = .ok (.goto (-27), 3) := by decide +kernel
theorem dX4_tellDues_32 : decode cX4_tellDues 32 = .ok (.return_, 1) := by decide +kernel
theorem dX4_letTicksPass_0 : decode cX4_letTicksPass 0 = .ok (.iconst 1, 1) := by decide +kernel
theorem dX4_letTicksPass_1 : decode cX4_letTicksPass 1 = .ok (.istore_n 3, 1) := by decide +kernel
theorem dX4_letTicksPass_2 : decode cX4_letTicksPass 2 = .ok (.iconst 0, 1) := by decide +kernel
theorem dX4_letTicksPass_3 : decode cX4_letTicksPass 3 = .ok (.istore 4, 2) := by decide +kernel
theorem dX4_letTicksPass_5 : decode cX4_letTicksPass 5 = .ok (.iload 4, 2) := by decide +kernel
theorem dX4_letTicksPass_7 : decode cX4_letTicksPass 7 = .ok (.iload_n 1, 1) := by decide +kernel
theorem dX4_letTicksPass_8 : decode cX4_letTicksPass 8 = .ok (.if_icmp .ge 86, 3) := by decide +kernel
theorem dX4_letTicksPass_11 : decode cX4_letTicksPass 11 = .ok (.iload_n 3, 1) := by decide +kernel
theorem dX4_letTicksPass_12 : decode cX4_letTicksPass 12 = .ok (.ifCond .eq 7, 3) := by decide +kernel
theorem dX4_letTicksPass_15 : decode cX4_letTicksPass 15 = .ok (.aload_n 0, 1) := by decide +kernel
theorem dX4_letTicksPass_16 : decode cX4_letTicksPass 16 = .ok (.invokevirtual 121, 3) := by decide +kernel
theorem dX4_letTicksPass_19 : decode cX4_letTicksPass 19 = .ok (.aload_n 0, 1) := by decide +kernel
theorem dX4_letTicksPass_20 : decode cX4_letTicksPass 20 = .ok (.invokevirtual 124, 3) := by decide +kernel
theorem dX4_letTicksPass_23 : decode cX4_letTicksPass 23 = .ok (.istore 5, 2) := by decide +kernel
theorem dX4_letTicksPass_25 : decode cX4_letTicksPass 25 = .ok (.aload_n 0, 1) := by decide +kernel
theorem dX4_letTicksPass_26 : decode cX4_letTicksPass 26 = .ok (.invokevirtual 127, 3) := by decide +kernel
theorem dX4_letTicksPass_29 : decode cX4_letTicksPass 29 = .ok (.istore 6, 2) := by decide +kernel
theorem dX4_letTicksPass_31 : decode cX4_letTicksPass 31 = .ok (.iload 5, 2) := by decide +kernel
theorem dX4_letTicksPass_33 : decode cX4_letTicksPass 33 = .ok (.ifCond .eq 8, 3) := by decide +kernel
theorem dX4_letTicksPass_36 : decode cX4_letTicksPass 36 = .ok (.aload_n 0, 1) := by decide +kernel
theorem dX4_letTicksPass_37 : decode cX4_letTicksPass 37 = .ok (.invokevirtual 130, 3) := by decide +kernel
theorem dX4_letTicksPass_40 : decode cX4_letTicksPass 40 = .ok (.pop, 1) := by decide +kernel
theorem dX4_letTicksPass_41 : decode cX4_letTicksPass 41 = .ok (.iload 5, 2) := by decide +kernel
theorem dX4_letTicksPass_43 : decode cX4_letTicksPass 43 = .ok (.ifCond .ne 8, 3) := by decide +kernel
theorem dX4_letTicksPass_46 : decode cX4_letTicksPass 46 = .ok (.iload 6, 2) := by decide +kernel
theorem dX4_letTicksPass_48 : decode cX4_letTicksPass 48 = .ok (.ifCond .eq 7, 3) := by decide +kernel
theorem dX4_letTicksPass_51 : decode cX4_letTicksPass 51 = .ok (.iconst 1, 1) := by decide +kernel
theorem dX4_letTicksPass_52 : decode cX4_letTicksPass 52 = .ok (.goto 4, 3) := by decide +kernel
theorem dX4_letTicksPass_55 : decode cX4_letTicksPass 55 = .ok (.iconst 0, 1) := by decide +kernel
theorem dX4_letTicksPass_56 : decode cX4_letTicksPass 56 = .ok (.istore_n 3, 1) := by decide +kernel
theorem dX4_letTicksPass_57 : decode cX4_letTicksPass 57 = .ok (.aload_n 0, 1) := by decide +kernel
theorem dX4_letTicksPass_58 : decode cX4_letTicksPass 58 = .ok (.dup, 1) := by decide +kernel
theorem dX4_letTicksPass_59 : decode cX4_letTicksPass 59 = .ok (.getfield 59, 3) := by decide +kernel
theorem dX4_letTicksPass_62 : decode cX4_letTicksPass 62 = .ok (.iconst 1, 1) := by decide +kernel
theorem dX4_letTicksPass_63 : decode cX4_letTicksPass 63 = .ok (.iadd, 1) := by decide +kernel
theorem dX4_letTicksPass_64 : decode cX4_letTicksPass 64 = .ok (.putfield 59, 3) := by decide +kernel
theorem dX4_letTicksPass_67 : decode cX4_letTicksPass 67 = .ok (.aload_n 0, 1) := by decide +kernel
theorem dX4_letTicksPass_68 : decode cX4_letTicksPass 68 = .ok (.iload_n 2, 1) := by decide +kernel
theorem dX4_letTicksPass_69 : decode cX4_letTicksPass 69 = .ok (.invokevirtual 134, 3) := by decide +kernel
theorem dX4_letTicksPass_72 : decode cX4_letTicksPass 72 = .ok (.ifCond .eq 16, 3) := by decide +kernel
theorem dX4_letTicksPass_75 : decode cX4_letTicksPass 75 = .ok (.aload_n 0, 1) := by decide +kernel
theorem dX4_letTicksPass_76 : decode cX4_letTicksPass 76 = .ok (.getfield 19, 3) := by decide +kernel
theorem dX4_letTicksPass_79 : decode cX4_letTicksPass 79 = .ok (.iload_n 2, 1) := by decide +kernel
theorem dX4_letTicksPass_80 : decode cX4_letTicksPass 80 = .ok (.aaload, 1) := by decide +kernel
theorem dX4_letTicksPass_81 : decode cX4_letTicksPass 81 = .ok (.invokevirtual 83, 3) := by decide +kernel
theorem dX4_letTicksPass_84 : decode cX4_letTicksPass 84 = .ok (.ifCond .ne 4, 3) := by decide +kernel
theorem dX4_letTicksPass_87 : decode cX4_letTicksPass 87 = .ok (.return_, 1) := by decide +kernel
theorem dX4_letTicksPass_88 : decode cX4_letTicksPass 88 = .ok (.iinc 4 1, 3) := by decide +kernel
theorem dX4_letTicksPass_91 : decode cX4_letTicksPass 91 = .ok (.goto (-86), 3) := by decide +kernel
theorem dX4_letTicksPass_94 : decode cX4_letTicksPass 94 = .ok (.return_, 1) := by decide +kernel
theorem dX4_takeDues_0 : decode cX4_takeDues 0 = .ok (.iconst 0, 1) := by decide +kernel
theorem dX4_takeDues_1 : decode cX4_takeDues 1 = .ok (.istore_n 1, 1) := by decide +kernel
theorem dX4_takeDues_2 : decode cX4_takeDues 2 = .ok (.iconst 0, 1) := by decide +kernel
theorem dX4_takeDues_3 : decode cX4_takeDues 3 = .ok (.istore_n 2, 1) := by decide +kernel
theorem dX4_takeDues_4 : decode cX4_takeDues 4 = .ok (.iload_n 2, 1) := by decide +kernel
theorem dX4_takeDues_5 : decode cX4_takeDues 5 = .ok (.aload_n 0, 1) := by decide +kernel
theorem dX4_takeDues_6 : decode cX4_takeDues 6 = .ok (.getfield 44, 3) := by decide +kernel
theorem dX4_takeDues_9 : decode cX4_takeDues 9 = .ok (.if_icmp .ge 76, 3) := by decide +kernel
theorem dX4_takeDues_12 : decode cX4_takeDues 12 = .ok (.aload_n 0, 1) := by decide +kernel
theorem dX4_takeDues_13 : decode cX4_takeDues 13 = .ok (.getfield 19, 3) := by decide +kernel
theorem dX4_takeDues_16 : decode cX4_takeDues 16 = .ok (.iload_n 2, 1) := by decide +kernel
theorem dX4_takeDues_17 : decode cX4_takeDues 17 = .ok (.aaload, 1) := by decide +kernel
theorem dX4_takeDues_18 : decode cX4_takeDues 18 = .ok (.astore_n 3, 1) := by decide +kernel
theorem dX4_takeDues_19 : decode cX4_takeDues 19 = .ok (.aload_n 3, 1) := by decide +kernel
theorem dX4_takeDues_20 : decode cX4_takeDues 20 = .ok (.invokevirtual 95, 3) := by decide +kernel
theorem dX4_takeDues_23 : decode cX4_takeDues 23 = .ok (.ifCond .eq 56, 3) := by decide +kernel
theorem dX4_takeDues_26 : decode cX4_takeDues 26 = .ok (.aload_n 3, 1) := by decide +kernel
theorem dX4_takeDues_27 : decode cX4_takeDues 27 = .ok (.getfield 137, 3) := by decide +kernel
theorem dX4_takeDues_30 : decode cX4_takeDues 30 = .ok (.aload_n 0, 1) := by decide +kernel
theorem dX4_takeDues_31 : decode cX4_takeDues 31 = .ok (.getfield 33, 3) := by decide +kernel
theorem dX4_takeDues_34 : decode cX4_takeDues 34 = .ok (.iload_n 2, 1) := by decide +kernel
theorem dX4_takeDues_35 : decode cX4_takeDues 35 = .ok (.iaload, 1) := by decide +kernel
theorem dX4_takeDues_36 : decode cX4_takeDues 36 = .ok (.if_icmp .lt 36, 3) := by decide +kernel
theorem dX4_takeDues_39 : decode cX4_takeDues 39 = .ok (.aload_n 3, 1) := by decide +kernel
theorem dX4_takeDues_40 : decode cX4_takeDues 40 = .ok (.dup, 1) := by decide +kernel
theorem dX4_takeDues_41 : decode cX4_takeDues 41 = .ok (.getfield 137, 3) := by decide +kernel
theorem dX4_takeDues_44 : decode cX4_takeDues 44 = .ok (.aload_n 0, 1) := by decide +kernel
theorem dX4_takeDues_45 : decode cX4_takeDues 45 = .ok (.getfield 33, 3) := by decide +kernel
theorem dX4_takeDues_48 : decode cX4_takeDues 48 = .ok (.iload_n 2, 1) := by decide +kernel
theorem dX4_takeDues_49 : decode cX4_takeDues 49 = .ok (.iaload, 1) := by decide +kernel
theorem dX4_takeDues_50 : decode cX4_takeDues 50 = .ok (.isub, 1) := by decide +kernel
theorem dX4_takeDues_51 : decode cX4_takeDues 51 = .ok (.putfield 137, 3) := by decide +kernel
theorem dX4_takeDues_54 : decode cX4_takeDues 54 = .ok (.aload_n 3, 1) := by decide +kernel
theorem dX4_takeDues_55 : decode cX4_takeDues 55 = .ok (.dup, 1) := by decide +kernel
theorem dX4_takeDues_56 : decode cX4_takeDues 56 = .ok (.getfield 80, 3) := by decide +kernel
theorem dX4_takeDues_59 : decode cX4_takeDues 59 = .ok (.aload_n 0, 1) := by decide +kernel
theorem dX4_takeDues_60 : decode cX4_takeDues 60 = .ok (.getfield 33, 3) := by decide +kernel
theorem dX4_takeDues_63 : decode cX4_takeDues 63 = .ok (.iload_n 2, 1) := by decide +kernel
theorem dX4_takeDues_64 : decode cX4_takeDues 64 = .ok (.iaload, 1) := by decide +kernel
theorem dX4_takeDues_65 : decode cX4_takeDues 65 = .ok (.iadd, 1) := by decide +kernel
theorem dX4_takeDues_66 : decode cX4_takeDues 66 = .ok (.putfield 80, 3) := by decide +kernel
theorem dX4_takeDues_69 : decode cX4_takeDues 69 = .ok (.goto 10, 3) := by decide +kernel
theorem dX4_takeDues_72 : decode cX4_takeDues 72 = .ok (.aload_n 3, 1) := by decide +kernel
theorem dX4_takeDues_73 : decode cX4_takeDues 73 = .ok (.iconst 3, 1) := by decide +kernel
theorem dX4_takeDues_74 : decode cX4_takeDues 74 = .ok (.putfield 73, 3) := by decide +kernel
theorem dX4_takeDues_77 : decode cX4_takeDues 77 = .ok (.iconst 1, 1) := by decide +kernel
theorem dX4_takeDues_78 : decode cX4_takeDues 78 = .ok (.istore_n 1, 1) := by decide +kernel
theorem dX4_takeDues_79 : decode cX4_takeDues 79 = .ok (.iinc 2 1, 3) := by decide +kernel
theorem dX4_takeDues_82 : decode cX4_takeDues 82 = .ok (.goto (-78), 3) := by decide +kernel
theorem dX4_takeDues_85 : decode cX4_takeDues 85 = .ok (.iload_n 1, 1) := by decide +kernel
theorem dX4_takeDues_86 : decode cX4_takeDues 86 = .ok (.ireturn, 1) := by decide +kernel
theorem dX4_shortenTerms_0 : decode cX4_shortenTerms 0 = .ok (.iconst 0, 1) := by decide +kernel
theorem dX4_shortenTerms_1 : decode cX4_shortenTerms 1 = .ok (.istore_n 1, 1) := by decide +kernel
theorem dX4_shortenTerms_2 : decode cX4_shortenTerms 2 = .ok (.iconst 0, 1) := by decide +kernel
theorem dX4_shortenTerms_3 : decode cX4_shortenTerms 3 = .ok (.istore_n 2, 1) := by decide +kernel
theorem dX4_shortenTerms_4 : decode cX4_shortenTerms 4 = .ok (.iload_n 2, 1) := by decide +kernel
theorem dX4_shortenTerms_5 : decode cX4_shortenTerms 5 = .ok (.aload_n 0, 1) := by decide +kernel
theorem dX4_shortenTerms_6 : decode cX4_shortenTerms 6 = .ok (.getfield 44, 3) := by decide +kernel
theorem dX4_shortenTerms_9 : decode cX4_shortenTerms 9 = .ok (.if_icmp .ge 50, 3) := by decide +kernel
theorem dX4_shortenTerms_12 : decode cX4_shortenTerms 12 = .ok (.aload_n 0, 1) := by decide +kernel
theorem dX4_shortenTerms_13 : decode cX4_shortenTerms 13 = .ok (.getfield 19, 3) := by decide +kernel
theorem dX4_shortenTerms_16 : decode cX4_shortenTerms 16 = .ok (.iload_n 2, 1) := by decide +kernel
theorem dX4_shortenTerms_17 : decode cX4_shortenTerms 17 = .ok (.aaload, 1) := by decide +kernel
theorem dX4_shortenTerms_18 : decode cX4_shortenTerms 18 = .ok (.astore_n 3, 1) := by decide +kernel
theorem dX4_shortenTerms_19 : decode cX4_shortenTerms 19 = .ok (.aload_n 3, 1) := by decide +kernel
theorem dX4_shortenTerms_20 : decode cX4_shortenTerms 20 = .ok (.invokevirtual 76, 3) := by decide +kernel
theorem dX4_shortenTerms_23 : decode cX4_shortenTerms 23 = .ok (.ifCond .eq 30, 3) := by decide +kernel
theorem dX4_shortenTerms_26 : decode cX4_shortenTerms 26 = .ok (.aload_n 3, 1) := by decide +kernel
theorem dX4_shortenTerms_27 : decode cX4_shortenTerms 27 = .ok (.dup, 1) := by decide +kernel
theorem dX4_shortenTerms_28 : decode cX4_shortenTerms 28 = .ok (.getfield 140, 3) := by decide +kernel
theorem dX4_shortenTerms_31 : decode cX4_shortenTerms 31 = .ok (.iconst 1, 1) := by decide +kernel
theorem dX4_shortenTerms_32 : decode cX4_shortenTerms 32 = .ok (.isub, 1) := by decide +kernel
theorem dX4_shortenTerms_33 : decode cX4_shortenTerms 33 = .ok (.putfield 140, 3) := by decide +kernel
theorem dX4_shortenTerms_36 : decode cX4_shortenTerms 36 = .ok (.iload_n 1, 1) := by decide +kernel
theorem dX4_shortenTerms_37 : decode cX4_shortenTerms 37 = .ok (.ifCond .ne 10, 3) := by decide +kernel
theorem dX4_shortenTerms_40 : decode cX4_shortenTerms 40 = .ok (.aload_n 3, 1) := by decide +kernel
theorem dX4_shortenTerms_41 : decode cX4_shortenTerms 41 = .ok (.getfield 140, 3) := by decide +kernel
theorem dX4_shortenTerms_44 : decode cX4_shortenTerms 44 = .ok (.ifCond .ne 7, 3) := by decide +kernel
theorem dX4_shortenTerms_47 : decode cX4_shortenTerms 47 = .ok (.iconst 1, 1) := by decide +kernel
theorem dX4_shortenTerms_48 : decode cX4_shortenTerms 48 = .ok (.goto 4, 3) := by decide +kernel
theorem dX4_shortenTerms_51 : decode cX4_shortenTerms 51 = .ok (.iconst 0, 1) := by decide +kernel
theorem dX4_shortenTerms_52 : decode cX4_shortenTerms 52 = .ok (.istore_n 1, 1) := by decide +kernel
theorem dX4_shortenTerms_53 : decode cX4_shortenTerms 53 = .ok (.iinc 2 1, 3) := by decide +kernel
theorem dX4_shortenTerms_56 : decode cX4_shortenTerms 56 = .ok (.goto (-52), 3) := by decide +kernel
theorem dX4_shortenTerms_59 : decode cX4_shortenTerms 59 = .ok (.iload_n 1, 1) := by decide +kernel
theorem dX4_shortenTerms_60 : decode cX4_shortenTerms 60 = .ok (.ireturn, 1) := by decide +kernel
theorem dX4_hasConflict_0 : decode cX4_hasConflict 0 = .ok (.iconst 0, 1) := by decide +kernel
theorem dX4_hasConflict_1 : decode cX4_hasConflict 1 = .ok (.istore_n 2, 1) := by decide +kernel
theorem dX4_hasConflict_2 : decode cX4_hasConflict 2 = .ok (.iload_n 2, 1) := by decide +kernel
theorem dX4_hasConflict_3 : decode cX4_hasConflict 3 = .ok (.bipush 12, 2) := by decide +kernel
theorem dX4_hasConflict_5 : decode cX4_hasConflict 5 = .ok (.if_icmp .ge 37, 3) := by decide +kernel
theorem dX4_hasConflict_8 : decode cX4_hasConflict 8 = .ok (.aload_n 1, 1) := by decide +kernel
theorem dX4_hasConflict_9 : decode cX4_hasConflict 9 = .ok (.iload_n 2, 1) := by decide +kernel
theorem dX4_hasConflict_10 : decode cX4_hasConflict 10 = .ok (.invokevirtual 86, 3) := by decide +kernel
theorem dX4_hasConflict_13 : decode cX4_hasConflict 13 = .ok (.ifCond .eq 23, 3) := by decide +kernel
theorem dX4_hasConflict_16 : decode cX4_hasConflict 16 = .ok (.aload_n 0, 1) := by decide +kernel
theorem dX4_hasConflict_17 : decode cX4_hasConflict 17 = .ok (.getfield 11, 3) := by decide +kernel
theorem dX4_hasConflict_20 : decode cX4_hasConflict 20 = .ok (.iload_n 2, 1) := by decide +kernel
theorem dX4_hasConflict_21 : decode cX4_hasConflict 21 = .ok (.aaload, 1) := by decide +kernel
theorem dX4_hasConflict_22 : decode cX4_hasConflict 22 = .ok (.getfield 143, 3) := by decide +kernel
theorem dX4_hasConflict_25 : decode cX4_hasConflict 25 = .ok (.iconst 0, 1) := by decide +kernel
theorem dX4_hasConflict_26 : decode cX4_hasConflict 26 = .ok (.iaload, 1) := by decide +kernel
theorem dX4_hasConflict_27 : decode cX4_hasConflict 27 = .ok (.aload_n 1, 1) := by decide +kernel
theorem dX4_hasConflict_28 : decode cX4_hasConflict 28 = .ok (.getfield 90, 3) := by decide +kernel
theorem dX4_hasConflict_31 : decode cX4_hasConflict 31 = .ok (.if_icmp .le 5, 3) := by decide +kernel
theorem dX4_hasConflict_34 : decode cX4_hasConflict 34 = .ok (.iconst 1, 1) := by decide +kernel
theorem dX4_hasConflict_35 : decode cX4_hasConflict 35 = .ok (.ireturn, 1) := by decide +kernel
theorem dX4_hasConflict_36 : decode cX4_hasConflict 36 = .ok (.iinc 2 1, 3) := by decide +kernel
theorem dX4_hasConflict_39 : decode cX4_hasConflict 39 = .ok (.goto (-37), 3) := by decide +kernel
theorem dX4_hasConflict_42 : decode cX4_hasConflict 42 = .ok (.iconst 0, 1) := by decide +kernel
theorem dX4_hasConflict_43 : decode cX4_hasConflict 43 = .ok (.ireturn, 1) := by decide +kernel
theorem dX4_skewsOf_0 : decode cX4_skewsOf 0 = .ok (.iconst 0, 1) := by decide +kernel
theorem dX4_skewsOf_1 : decode cX4_skewsOf 1 = .ok (.istore_n 2, 1) := by decide +kernel
theorem dX4_skewsOf_2 : decode cX4_skewsOf 2 = .ok (.iconst 0, 1) := by decide +kernel
theorem dX4_skewsOf_3 : decode cX4_skewsOf 3 = .ok (.istore_n 3, 1) := by decide +kernel
theorem dX4_skewsOf_4 : decode cX4_skewsOf 4 = .ok (.iload_n 3, 1) := by decide +kernel
theorem dX4_skewsOf_5 : decode cX4_skewsOf 5 = .ok (.aload_n 0, 1) := by decide +kernel
theorem dX4_skewsOf_6 : decode cX4_skewsOf 6 = .ok (.getfield 50, 3) := by decide +kernel
theorem dX4_skewsOf_9 : decode cX4_skewsOf 9 = .ok (.if_icmp .ge 25, 3) := by decide +kernel
theorem dX4_skewsOf_12 : decode cX4_skewsOf 12 = .ok (.aload_n 0, 1) := by decide +kernel
theorem dX4_skewsOf_13 : decode cX4_skewsOf 13 = .ok (.getfield 25, 3) := by decide +kernel
theorem dX4_skewsOf_16 : decode cX4_skewsOf 16 = .ok (.iload_n 3, 1) := by decide +kernel
theorem dX4_skewsOf_17 : decode cX4_skewsOf 17 = .ok (.aaload, 1) := by decide +kernel
theorem dX4_skewsOf_18 : decode cX4_skewsOf 18 = .ok (.aload_n 1, 1) := by decide +kernel
theorem dX4_skewsOf_19 : decode cX4_skewsOf 19 = .ok (.invokevirtual 146, 3) := by decide +kernel
theorem dX4_skewsOf_22 : decode cX4_skewsOf 22 = .ok (.ifCond .eq 6, 3) := by decide +kernel
theorem dX4_skewsOf_25 : decode cX4_skewsOf 25 = .ok (.iinc 2 1, 3) := by decide +kernel
theorem dX4_skewsOf_28 : decode cX4_skewsOf 28 = .ok (.iinc 3 1, 3) := by decide +kernel
theorem dX4_skewsOf_31 : decode cX4_skewsOf 31 = .ok (.goto (-27), 3) := by decide +kernel
theorem dX4_skewsOf_34 : decode cX4_skewsOf 34 = .ok (.iload_n 2, 1) := by decide +kernel
theorem dX4_skewsOf_35 : decode cX4_skewsOf 35 = .ok (.ireturn, 1) := by decide +kernel
theorem dX4_pairsInSkew_0 : decode cX4_pairsInSkew 0 = .ok (.iconst 0, 1) := by decide +kernel
theorem dX4_pairsInSkew_1 : decode cX4_pairsInSkew 1 = .ok (.istore_n 1, 1) := by decide +kernel
theorem dX4_pairsInSkew_2 : decode cX4_pairsInSkew 2 = .ok (.iconst 0, 1) := by decide +kernel
theorem dX4_pairsInSkew_3 : decode cX4_pairsInSkew 3 = .ok (.istore_n 2, 1) := by decide +kernel
theorem dX4_pairsInSkew_4 : decode cX4_pairsInSkew 4 = .ok (.iload_n 2, 1) := by decide +kernel
theorem dX4_pairsInSkew_5 : decode cX4_pairsInSkew 5 = .ok (.aload_n 0, 1) := by decide +kernel
theorem dX4_pairsInSkew_6 : decode cX4_pairsInSkew 6 = .ok (.getfield 50, 3) := by decide +kernel
theorem dX4_pairsInSkew_9 : decode cX4_pairsInSkew 9 = .ok (.if_icmp .ge 21, 3) := by decide +kernel
theorem dX4_pairsInSkew_12 : decode cX4_pairsInSkew 12 = .ok (.iload_n 1, 1) := by decide +kernel
theorem dX4_pairsInSkew_13 : decode cX4_pairsInSkew 13 = .ok (.aload_n 0, 1) := by decide +kernel
theorem dX4_pairsInSkew_14 : decode cX4_pairsInSkew 14 = .ok (.getfield 25, 3) := by decide +kernel
theorem dX4_pairsInSkew_17 : decode cX4_pairsInSkew 17 = .ok (.iload_n 2, 1) := by decide +kernel
theorem dX4_pairsInSkew_18 : decode cX4_pairsInSkew 18 = .ok (.aaload, 1) := by decide +kernel
theorem dX4_pairsInSkew_19 : decode cX4_pairsInSkew 19 = .ok (.getfield 150, 3) := by decide +kernel
theorem dX4_pairsInSkew_22 : decode cX4_pairsInSkew 22 = .ok (.iadd, 1) := by decide +kernel
theorem dX4_pairsInSkew_23 : decode cX4_pairsInSkew 23 = .ok (.istore_n 1, 1) := by decide +kernel
theorem dX4_pairsInSkew_24 : decode cX4_pairsInSkew 24 = .ok (.iinc 2 1, 3) := by decide +kernel
theorem dX4_pairsInSkew_27 : decode cX4_pairsInSkew 27 = .ok (.goto (-23), 3) := by decide +kernel
theorem dX4_pairsInSkew_30 : decode cX4_pairsInSkew 30 = .ok (.iload_n 1, 1) := by decide +kernel
theorem dX4_pairsInSkew_31 : decode cX4_pairsInSkew 31 = .ok (.ireturn, 1) := by decide +kernel
theorem dX4_oldVersionsWithout_0 : decode cX4_oldVersionsWithout 0 = .ok (.iconst 0, 1) := by decide +kernel
theorem dX4_oldVersionsWithout_1 : decode cX4_oldVersionsWithout 1 = .ok (.istore_n 2, 1) := by decide +kernel
theorem dX4_oldVersionsWithout_2 : decode cX4_oldVersionsWithout 2 = .ok (.iconst 0, 1) := by decide +kernel
theorem dX4_oldVersionsWithout_3 : decode cX4_oldVersionsWithout 3 = .ok (.istore_n 3, 1) := by decide +kernel
theorem dX4_oldVersionsWithout_4 : decode cX4_oldVersionsWithout 4 = .ok (.iload_n 3, 1) := by decide +kernel
theorem dX4_oldVersionsWithout_5 : decode cX4_oldVersionsWithout 5 = .ok (.bipush 12, 2) := by decide +kernel
theorem dX4_oldVersionsWithout_7 : decode cX4_oldVersionsWithout 7 = .ok (.if_icmp .ge 55, 3) := by decide +kernel
theorem dX4_oldVersionsWithout_10 : decode cX4_oldVersionsWithout 10 = .ok (.aload_n 0, 1) := by decide +kernel
theorem dX4_oldVersionsWithout_11 : decode cX4_oldVersionsWithout 11 = .ok (.aload_n 0, 1) := by decide +kernel
theorem dX4_oldVersionsWithout_12 : decode cX4_oldVersionsWithout 12 = .ok (.getfield 11, 3) := by decide +kernel
theorem dX4_oldVersionsWithout_15 : decode cX4_oldVersionsWithout 15 = .ok (.iload_n 3, 1) := by decide +kernel
theorem dX4_oldVersionsWithout_16 : decode cX4_oldVersionsWithout 16 = .ok (.aaload, 1) := by decide +kernel
theorem dX4_oldVersionsWithout_17 : decode cX4_oldVersionsWithout 17 = .ok (.iload_n 1, 1) := by decide +kernel
theorem dX4_oldVersionsWithout_18 : decode cX4_oldVersionsWithout 18 = .ok (.invokevirtual 104, 3) := by decide +kernel
theorem dX4_oldVersionsWithout_21 : decode cX4_oldVersionsWithout 21 = .ok (.istore 4, 2) := by decide +kernel
theorem dX4_oldVersionsWithout_23 : decode cX4_oldVersionsWithout 23 = .ok (.aload_n 0, 1) := by decide +kernel
theorem dX4_oldVersionsWithout_24 : decode cX4_oldVersionsWithout 24 = .ok (.getfield 19, 3) := by decide +kernel
theorem dX4_oldVersionsWithout_27 : decode cX4_oldVersionsWithout 27 = .ok (.iload_n 1, 1) := by decide +kernel
theorem dX4_oldVersionsWithout_28 : decode cX4_oldVersionsWithout 28 = .ok (.aaload, 1) := by decide +kernel
theorem dX4_oldVersionsWithout_29 : decode cX4_oldVersionsWithout 29 = .ok (.iload_n 3, 1) := by decide +kernel
theorem dX4_oldVersionsWithout_30 : decode cX4_oldVersionsWithout 30 = .ok (.invokevirtual 86, 3) := by decide +kernel
theorem dX4_oldVersionsWithout_33 : decode cX4_oldVersionsWithout 33 = .ok (.istore 5, 2) := by decide +kernel
theorem dX4_oldVersionsWithout_35 : decode cX4_oldVersionsWithout 35 = .ok (.iload_n 2, 1) := by decide +kernel
theorem dX4_oldVersionsWithout_36 : decode cX4_oldVersionsWithout 36 = .ok (.iload 5, 2) := by decide +kernel
theorem dX4_oldVersionsWithout_38 : decode cX4_oldVersionsWithout 38 = .ok (.ifCond .eq 8, 3) := by decide +kernel
theorem dX4_oldVersionsWithout_41 : decode cX4_oldVersionsWithout 41 = .ok (.iload 4, 2) := by decide +kernel
theorem dX4_oldVersionsWithout_43 : decode cX4_oldVersionsWithout 43 = .ok (.goto 8, 3) := by decide +kernel
theorem dX4_oldVersionsWithout_46 : decode cX4_oldVersionsWithout 46 = .ok (.iload 4, 2) := by decide +kernel
theorem dX4_oldVersionsWithout_48 : decode cX4_oldVersionsWithout 48 = .ok (.bipush (-2), 2) := by decide +kernel
theorem dX4_oldVersionsWithout_50 : decode cX4_oldVersionsWithout 50 = .ok (.iand, 1) := by decide +kernel
theorem dX4_oldVersionsWithout_51 : decode cX4_oldVersionsWithout 51 = .ok (.invokestatic 153, 3) := by decide +kernel
theorem dX4_oldVersionsWithout_54 : decode cX4_oldVersionsWithout 54 = .ok (.iadd, 1) := by decide +kernel
theorem dX4_oldVersionsWithout_55 : decode cX4_oldVersionsWithout 55 = .ok (.istore_n 2, 1) := by decide +kernel
theorem dX4_oldVersionsWithout_56 : decode cX4_oldVersionsWithout 56 = .ok (.iinc 3 1, 3) := by decide +kernel
theorem dX4_oldVersionsWithout_59 : decode cX4_oldVersionsWithout 59 = .ok (.goto (-55), 3) := by decide +kernel
theorem dX4_oldVersionsWithout_62 : decode cX4_oldVersionsWithout 62 = .ok (.iload_n 2, 1) := by decide +kernel
theorem dX4_oldVersionsWithout_63 : decode cX4_oldVersionsWithout 63 = .ok (.ireturn, 1) := by decide +kernel
theorem dX4_land_0 : decode cX4_land 0 = .ok (.aload_n 0, 1) := by decide +kernel
theorem dX4_land_1 : decode cX4_land 1 = .ok (.getfield 19, 3) := by decide +kernel
theorem dX4_land_4 : decode cX4_land 4 = .ok (.iload_n 1, 1) := by decide +kernel
theorem dX4_land_5 : decode cX4_land 5 = .ok (.aaload, 1) := by decide +kernel
theorem dX4_land_6 : decode cX4_land 6 = .ok (.astore_n 2, 1) := by decide +kernel
theorem dX4_land_7 : decode cX4_land 7 = .ok (.aload_n 2, 1) := by decide +kernel
theorem dX4_land_8 : decode cX4_land 8 = .ok (.getfield 158, 3) := by decide +kernel
theorem dX4_land_11 : decode cX4_land 11 = .ok (.ifCond .eq 23, 3) := by decide +kernel
theorem dX4_land_14 : decode cX4_land 14 = .ok (.aload_n 0, 1) := by decide +kernel
theorem dX4_land_15 : decode cX4_land 15 = .ok (.iload_n 1, 1) := by decide +kernel
theorem dX4_land_16 : decode cX4_land 16 = .ok (.invokevirtual 161, 3) := by decide +kernel
theorem dX4_land_19 : decode cX4_land 19 = .ok (.aload_n 0, 1) := by decide +kernel
theorem dX4_land_20 : decode cX4_land 20 = .ok (.dup, 1) := by decide +kernel
theorem dX4_land_21 : decode cX4_land 21 = .ok (.getfield 56, 3) := by decide +kernel
theorem dX4_land_24 : decode cX4_land 24 = .ok (.iconst 1, 1) := by decide +kernel
theorem dX4_land_25 : decode cX4_land 25 = .ok (.iadd, 1) := by decide +kernel
theorem dX4_land_26 : decode cX4_land 26 = .ok (.putfield 56, 3) := by decide +kernel
theorem dX4_land_29 : decode cX4_land 29 = .ok (.aload_n 0, 1) := by decide +kernel
theorem dX4_land_30 : decode cX4_land 30 = .ok (.aload_n 2, 1) := by decide +kernel
theorem dX4_land_31 : decode cX4_land 31 = .ok (.invokevirtual 165, 3) := by decide +kernel
theorem dX4_land_34 : decode cX4_land 34 = .ok (.aload_n 2, 1) := by decide +kernel
theorem dX4_land_35 : decode cX4_land 35 = .ok (.iconst 1, 1) := by decide +kernel
theorem dX4_land_36 : decode cX4_land 36 = .ok (.putfield 73, 3) := by decide +kernel
theorem dX4_land_39 : decode cX4_land 39 = .ok (.aload_n 0, 1) := by decide +kernel
theorem dX4_land_40 : decode cX4_land 40 = .ok (.invokevirtual 130, 3) := by decide +kernel
theorem dX4_land_43 : decode cX4_land 43 = .ok (.pop, 1) := by decide +kernel
theorem dX4_land_44 : decode cX4_land 44 = .ok (.return_, 1) := by decide +kernel
theorem dX4_noteCommit_0 : decode cX4_noteCommit 0 = .ok (.aload_n 0, 1) := by decide +kernel
theorem dX4_noteCommit_1 : decode cX4_noteCommit 1 = .ok (.getfield 50, 3) := by decide +kernel
theorem dX4_noteCommit_4 : decode cX4_noteCommit 4 = .ok (.bipush 40, 2) := by decide +kernel
theorem dX4_noteCommit_6 : decode cX4_noteCommit 6 = .ok (.if_icmp .lt 4, 3) := by decide +kernel
theorem dX4_noteCommit_9 : decode cX4_noteCommit 9 = .ok (.return_, 1) := by decide +kernel
theorem dX4_noteCommit_10 : decode cX4_noteCommit 10 = .ok (.aload_n 0, 1) := by decide +kernel
theorem dX4_noteCommit_11 : decode cX4_noteCommit 11 = .ok (.getfield 19, 3) := by decide +kernel
theorem dX4_noteCommit_14 : decode cX4_noteCommit 14 = .ok (.iload_n 1, 1) := by decide +kernel
theorem dX4_noteCommit_15 : decode cX4_noteCommit 15 = .ok (.aaload, 1) := by decide +kernel
theorem dX4_noteCommit_16 : decode cX4_noteCommit 16 = .ok (.astore_n 2, 1) := by decide +kernel
theorem dX4_noteCommit_17 : decode cX4_noteCommit 17 = .ok (.aload_n 0, 1) := by decide +kernel
theorem dX4_noteCommit_18 : decode cX4_noteCommit 18 = .ok (.getfield 25, 3) := by decide +kernel
theorem dX4_noteCommit_21 : decode cX4_noteCommit 21 = .ok (.aload_n 0, 1) := by decide +kernel
theorem dX4_noteCommit_22 : decode cX4_noteCommit 22 = .ok (.getfield 50, 3) := by decide +kernel
theorem dX4_noteCommit_25 : decode cX4_noteCommit 25 = .ok (.aaload, 1) := by decide +kernel
theorem dX4_noteCommit_26 : decode cX4_noteCommit 26 = .ok (.astore_n 3, 1) := by decide +kernel
theorem dX4_noteCommit_27 : decode cX4_noteCommit 27 = .ok (.aload_n 3, 1) := by decide +kernel
theorem dX4_noteCommit_28 : decode cX4_noteCommit 28 = .ok (.iload_n 1, 1) := by decide +kernel
theorem dX4_noteCommit_29 : decode cX4_noteCommit 29 = .ok (.putfield 168, 3) := by decide +kernel
theorem dX4_noteCommit_32 : decode cX4_noteCommit 32 = .ok (.aload_n 3, 1) := by decide +kernel
theorem dX4_noteCommit_33 : decode cX4_noteCommit 33 = .ok (.aload_n 2, 1) := by decide +kernel
theorem dX4_noteCommit_34 : decode cX4_noteCommit 34 = .ok (.getfield 90, 3) := by decide +kernel
theorem dX4_noteCommit_37 : decode cX4_noteCommit 37 = .ok (.putfield 171, 3) := by decide +kernel
theorem dX4_noteCommit_40 : decode cX4_noteCommit 40 = .ok (.aload_n 3, 1) := by decide +kernel
theorem dX4_noteCommit_41 : decode cX4_noteCommit 41 = .ok (.aload_n 0, 1) := by decide +kernel
theorem dX4_noteCommit_42 : decode cX4_noteCommit 42 = .ok (.getfield 56, 3) := by decide +kernel
theorem dX4_noteCommit_45 : decode cX4_noteCommit 45 = .ok (.iconst 1, 1) := by decide +kernel
theorem dX4_noteCommit_46 : decode cX4_noteCommit 46 = .ok (.iadd, 1) := by decide +kernel
theorem dX4_noteCommit_47 : decode cX4_noteCommit 47 = .ok (.putfield 174, 3) := by decide +kernel
theorem dX4_noteCommit_50 : decode cX4_noteCommit 50 = .ok (.aload_n 3, 1) := by decide +kernel
theorem dX4_noteCommit_51 : decode cX4_noteCommit 51 = .ok (.aload_n 2, 1) := by decide +kernel
theorem dX4_noteCommit_52 : decode cX4_noteCommit 52 = .ok (.getfield 158, 3) := by decide +kernel
theorem dX4_noteCommit_55 : decode cX4_noteCommit 55 = .ok (.putfield 177, 3) := by decide +kernel
theorem dX4_noteCommit_58 : decode cX4_noteCommit 58 = .ok (.aload_n 3, 1) := by decide +kernel
theorem dX4_noteCommit_59 : decode cX4_noteCommit 59 = .ok (.aload_n 2, 1) := by decide +kernel
theorem dX4_noteCommit_60 : decode cX4_noteCommit 60 = .ok (.getfield 178, 3) := by decide +kernel
theorem dX4_noteCommit_63 : decode cX4_noteCommit 63 = .ok (.putfield 181, 3) := by decide +kernel
theorem dX4_noteCommit_66 : decode cX4_noteCommit 66 = .ok (.aload_n 3, 1) := by decide +kernel
theorem dX4_noteCommit_67 : decode cX4_noteCommit 67 = .ok (.aload_n 0, 1) := by decide +kernel
theorem dX4_noteCommit_68 : decode cX4_noteCommit 68 = .ok (.aload_n 2, 1) := by decide +kernel
theorem dX4_noteCommit_69 : decode cX4_noteCommit 69 = .ok (.invokevirtual 182, 3) := by decide +kernel
theorem dX4_noteCommit_72 : decode cX4_noteCommit 72 = .ok (.putfield 150, 3) := by decide +kernel
theorem dX4_noteCommit_75 : decode cX4_noteCommit 75 = .ok (.aload_n 0, 1) := by decide +kernel
theorem dX4_noteCommit_76 : decode cX4_noteCommit 76 = .ok (.dup, 1) := by decide +kernel
theorem dX4_noteCommit_77 : decode cX4_noteCommit 77 = .ok (.getfield 50, 3) := by decide +kernel
theorem dX4_noteCommit_80 : decode cX4_noteCommit 80 = .ok (.iconst 1, 1) := by decide +kernel
theorem dX4_noteCommit_81 : decode cX4_noteCommit 81 = .ok (.iadd, 1) := by decide +kernel
theorem dX4_noteCommit_82 : decode cX4_noteCommit 82 = .ok (.putfield 50, 3) := by decide +kernel
theorem dX4_noteCommit_85 : decode cX4_noteCommit 85 = .ok (.return_, 1) := by decide +kernel
theorem dX4_pushWrites_0 : decode cX4_pushWrites 0 = .ok (.iconst 0, 1) := by decide +kernel
theorem dX4_pushWrites_1 : decode cX4_pushWrites 1 = .ok (.istore_n 2, 1) := by decide +kernel
theorem dX4_pushWrites_2 : decode cX4_pushWrites 2 = .ok (.iload_n 2, 1) := by decide +kernel
theorem dX4_pushWrites_3 : decode cX4_pushWrites 3 = .ok (.bipush 12, 2) := by decide +kernel
theorem dX4_pushWrites_5 : decode cX4_pushWrites 5 = .ok (.if_icmp .ge 36, 3) := by decide +kernel
theorem dX4_pushWrites_8 : decode cX4_pushWrites 8 = .ok (.aload_n 1, 1) := by decide +kernel
theorem dX4_pushWrites_9 : decode cX4_pushWrites 9 = .ok (.iload_n 2, 1) := by decide +kernel
theorem dX4_pushWrites_10 : decode cX4_pushWrites 10 = .ok (.invokevirtual 86, 3) := by decide +kernel
theorem dX4_pushWrites_13 : decode cX4_pushWrites 13 = .ok (.ifCond .eq 22, 3) := by decide +kernel
theorem dX4_pushWrites_16 : decode cX4_pushWrites 16 = .ok (.aload_n 0, 1) := by decide +kernel
theorem dX4_pushWrites_17 : decode cX4_pushWrites 17 = .ok (.getfield 11, 3) := by decide +kernel
theorem dX4_pushWrites_20 : decode cX4_pushWrites 20 = .ok (.iload_n 2, 1) := by decide +kernel
theorem dX4_pushWrites_21 : decode cX4_pushWrites 21 = .ok (.aaload, 1) := by decide +kernel
theorem dX4_pushWrites_22 : decode cX4_pushWrites 22 = .ok (.aload_n 1, 1) := by decide +kernel
theorem dX4_pushWrites_23 : decode cX4_pushWrites 23 = .ok (.getfield 185, 3) := by decide +kernel
theorem dX4_pushWrites_26 : decode cX4_pushWrites 26 = .ok (.iload_n 2, 1) := by decide +kernel
theorem dX4_pushWrites_27 : decode cX4_pushWrites 27 = .ok (.iaload, 1) := by decide +kernel
theorem dX4_pushWrites_28 : decode cX4_pushWrites 28 = .ok (.aload_n 0, 1) := by decide +kernel
theorem dX4_pushWrites_29 : decode cX4_pushWrites 29 = .ok (.getfield 56, 3) := by decide +kernel
theorem dX4_pushWrites_32 : decode cX4_pushWrites 32 = .ok (.invokevirtual 188, 3) := by decide +kernel
theorem dX4_pushWrites_35 : decode cX4_pushWrites 35 = .ok (.iinc 2 1, 3) := by decide +kernel
theorem dX4_pushWrites_38 : decode cX4_pushWrites 38 = .ok (.goto (-36), 3) := by decide +kernel
theorem dX4_pushWrites_41 : decode cX4_pushWrites 41 = .ok (.return_, 1) := by decide +kernel
theorem dX5_init_0 : decode cX5_init 0 = .ok (.aload_n 0, 1) := by decide +kernel
theorem dX5_init_1 : decode cX5_init 1 = .ok (.invokespecial 3, 3) := by decide +kernel
theorem dX5_init_4 : decode cX5_init 4 = .ok (.aload_n 0, 1) := by decide +kernel
theorem dX5_init_5 : decode cX5_init 5 = .ok (.bipush 60, 2) := by decide +kernel
theorem dX5_init_7 : decode cX5_init 7 = .ok (.newarray .char, 2) := by decide +kernel
theorem dX5_init_9 : decode cX5_init 9 = .ok (.putfield 9, 3) := by decide +kernel
theorem dX5_init_12 : decode cX5_init 12 = .ok (.aload_n 0, 1) := by decide +kernel
theorem dX5_init_13 : decode cX5_init 13 = .ok (.bipush 16, 2) := by decide +kernel
theorem dX5_init_15 : decode cX5_init 15 = .ok (.newarray .int, 2) := by decide +kernel
theorem dX5_init_17 : decode cX5_init 17 = .ok (.putfield 15, 3) := by decide +kernel
theorem dX5_init_20 : decode cX5_init 20 = .ok (.aload_n 0, 1) := by decide +kernel
theorem dX5_init_21 : decode cX5_init 21 = .ok (.bipush 16, 2) := by decide +kernel
theorem dX5_init_23 : decode cX5_init 23 = .ok (.newarray .int, 2) := by decide +kernel
theorem dX5_init_25 : decode cX5_init 25 = .ok (.putfield 19, 3) := by decide +kernel
theorem dX5_init_28 : decode cX5_init 28 = .ok (.return_, 1) := by decide +kernel
theorem dX5_add_0 : decode cX5_add 0 = .ok (.aload_n 0, 1) := by decide +kernel
theorem dX5_add_1 : decode cX5_add 1 = .ok (.getfield 22, 3) := by decide +kernel
theorem dX5_add_4 : decode cX5_add 4 = .ok (.bipush 60, 2) := by decide +kernel
theorem dX5_add_6 : decode cX5_add 6 = .ok (.if_icmp .ge 23, 3) := by decide +kernel
theorem dX5_add_9 : decode cX5_add 9 = .ok (.aload_n 0, 1) := by decide +kernel
theorem dX5_add_10 : decode cX5_add 10 = .ok (.getfield 9, 3) := by decide +kernel
theorem dX5_add_13 : decode cX5_add 13 = .ok (.aload_n 0, 1) := by decide +kernel
theorem dX5_add_14 : decode cX5_add 14 = .ok (.getfield 22, 3) := by decide +kernel
theorem dX5_add_17 : decode cX5_add 17 = .ok (.iload_n 1, 1) := by decide +kernel
theorem dX5_add_18 : decode cX5_add 18 = .ok (.castore, 1) := by decide +kernel
theorem dX5_add_19 : decode cX5_add 19 = .ok (.aload_n 0, 1) := by decide +kernel
theorem dX5_add_20 : decode cX5_add 20 = .ok (.dup, 1) := by decide +kernel
theorem dX5_add_21 : decode cX5_add 21 = .ok (.getfield 22, 3) := by decide +kernel
end
section
theorem dX5_add_24 : decode cX5_add 24 = .ok (.iconst 1, 1) := by decide +kernel
theorem dX5_add_25 : decode cX5_add 25 = .ok (.iadd, 1) := by decide +kernel
theorem dX5_add_26 : decode cX5_add 26 = .ok (.putfield 22, 3) := by decide +kernel
theorem dX5_add_29 : decode cX5_add 29 = .ok (.return_, 1) := by decide +kernel
theorem dX5_parse_0 : decode cX5_parse 0 = .ok (.aload_n 0, 1) := by decide +kernel
theorem dX5_parse_1 : decode cX5_parse 1 = .ok (.iconst 0, 1) := by decide +kernel
theorem dX5_parse_2 : decode cX5_parse 2 = .ok (.putfield 26, 3) := by decide +kernel
theorem dX5_parse_5 : decode cX5_parse 5 = .ok (.iconst 0, 1) := by decide +kernel
theorem dX5_parse_6 : decode cX5_parse 6 = .ok (.istore_n 1, 1) := by decide +kernel
theorem dX5_parse_7 : decode cX5_parse 7 = .ok (.iconst 0, 1) := by decide +kernel
theorem dX5_parse_8 : decode cX5_parse 8 = .ok (.istore_n 2, 1) := by decide +kernel
theorem dX5_parse_9 : decode cX5_parse 9 = .ok (.iload_n 2, 1) := by decide +kernel
theorem dX5_parse_10 : decode cX5_parse 10 = .ok (.bipush 16, 2) := by decide +kernel
theorem dX5_parse_12 : decode cX5_parse 12 = .ok (.if_icmp .ge 120, 3) := by decide +kernel
theorem dX5_parse_15 : decode cX5_parse 15 = .ok (.aload_n 0, 1) := by decide +kernel
theorem dX5_parse_16 : decode cX5_parse 16 = .ok (.iload_n 1, 1) := by decide +kernel
theorem dX5_parse_17 : decode cX5_parse 17 = .ok (.iconst 2, 1) := by decide +kernel
theorem dX5_parse_18 : decode cX5_parse 18 = .ok (.invokevirtual 29, 3) := by decide +kernel
theorem dX5_parse_21 : decode cX5_parse 21 = .ok (.istore_n 3, 1) := by decide +kernel
theorem dX5_parse_22 : decode cX5_parse 22 = .ok (.iload_n 3, 1) := by decide +kernel
theorem dX5_parse_23 : decode cX5_parse 23 = .ok (.iload_n 1, 1) := by decide +kernel
theorem dX5_parse_24 : decode cX5_parse 24 = .ok (.if_icmp .eq 13, 3) := by decide +kernel
theorem dX5_parse_27 : decode cX5_parse 27 = .ok (.aload_n 0, 1) := by decide +kernel
theorem dX5_parse_28 : decode cX5_parse 28 = .ok (.iload_n 3, 1) := by decide +kernel
theorem dX5_parse_29 : decode cX5_parse 29 = .ok (.bipush 61, 2) := by decide +kernel
theorem dX5_parse_31 : decode cX5_parse 31 = .ok (.invokevirtual 33, 3) := by decide +kernel
theorem dX5_parse_34 : decode cX5_parse 34 = .ok (.ifCond .ne 5, 3) := by decide +kernel
theorem dX5_parse_37 : decode cX5_parse 37 = .ok (.iload_n 3, 1) := by decide +kernel
theorem dX5_parse_38 : decode cX5_parse 38 = .ok (.ireturn, 1) := by decide +kernel
theorem dX5_parse_39 : decode cX5_parse 39 = .ok (.iload_n 3, 1) := by decide +kernel
theorem dX5_parse_40 : decode cX5_parse 40 = .ok (.iconst 1, 1) := by decide +kernel
theorem dX5_parse_41 : decode cX5_parse 41 = .ok (.iadd, 1) := by decide +kernel
theorem dX5_parse_42 : decode cX5_parse 42 = .ok (.istore 4, 2) := by decide +kernel
theorem dX5_parse_44 : decode cX5_parse 44 = .ok (.aload_n 0, 1) := by decide +kernel
theorem dX5_parse_45 : decode cX5_parse 45 = .ok (.iload 4, 2) := by decide +kernel
theorem dX5_parse_47 : decode cX5_parse 47 = .ok (.iconst 4, 1) := by decide +kernel
theorem dX5_parse_48 : decode cX5_parse 48 = .ok (.invokevirtual 29, 3) := by decide +kernel
theorem dX5_parse_51 : decode cX5_parse 51 = .ok (.istore 5, 2) := by decide +kernel
theorem dX5_parse_53 : decode cX5_parse 53 = .ok (.iload 5, 2) := by decide +kernel
theorem dX5_parse_55 : decode cX5_parse 55 = .ok (.iload 4, 2) := by decide +kernel
theorem dX5_parse_57 : decode cX5_parse 57 = .ok (.if_icmp .ne 6, 3) := by decide +kernel
theorem dX5_parse_60 : decode cX5_parse 60 = .ok (.iload 5, 2) := by decide +kernel
theorem dX5_parse_62 : decode cX5_parse 62 = .ok (.ireturn, 1) := by decide +kernel
theorem dX5_parse_63 : decode cX5_parse 63 = .ok (.aload_n 0, 1) := by decide +kernel
theorem dX5_parse_64 : decode cX5_parse 64 = .ok (.getfield 15, 3) := by decide +kernel
theorem dX5_parse_67 : decode cX5_parse 67 = .ok (.iload_n 2, 1) := by decide +kernel
theorem dX5_parse_68 : decode cX5_parse 68 = .ok (.aload_n 0, 1) := by decide +kernel
theorem dX5_parse_69 : decode cX5_parse 69 = .ok (.iload_n 1, 1) := by decide +kernel
theorem dX5_parse_70 : decode cX5_parse 70 = .ok (.iload_n 3, 1) := by decide +kernel
theorem dX5_parse_71 : decode cX5_parse 71 = .ok (.invokevirtual 37, 3) := by decide +kernel
theorem dX5_parse_74 : decode cX5_parse 74 = .ok (.iastore, 1) := by decide +kernel
theorem dX5_parse_75 : decode cX5_parse 75 = .ok (.aload_n 0, 1) := by decide +kernel
theorem dX5_parse_76 : decode cX5_parse 76 = .ok (.getfield 19, 3) := by decide +kernel
theorem dX5_parse_79 : decode cX5_parse 79 = .ok (.iload_n 2, 1) := by decide +kernel
theorem dX5_parse_80 : decode cX5_parse 80 = .ok (.aload_n 0, 1) := by decide +kernel
theorem dX5_parse_81 : decode cX5_parse 81 = .ok (.iload 4, 2) := by decide +kernel
theorem dX5_parse_83 : decode cX5_parse 83 = .ok (.iload 5, 2) := by decide +kernel
theorem dX5_parse_85 : decode cX5_parse 85 = .ok (.invokevirtual 37, 3) := by decide +kernel
theorem dX5_parse_88 : decode cX5_parse 88 = .ok (.iastore, 1) := by decide +kernel
theorem dX5_parse_89 : decode cX5_parse 89 = .ok (.aload_n 0, 1) := by decide +kernel
theorem dX5_parse_90 : decode cX5_parse 90 = .ok (.iload_n 2, 1) := by decide +kernel
theorem dX5_parse_91 : decode cX5_parse 91 = .ok (.iconst 1, 1) := by decide +kernel
theorem dX5_parse_92 : decode cX5_parse 92 = .ok (.iadd, 1) := by decide +kernel
theorem dX5_parse_93 : decode cX5_parse 93 = .ok (.putfield 26, 3) := by decide +kernel
theorem dX5_parse_96 : decode cX5_parse 96 = .ok (.iload 5, 2) := by decide +kernel
theorem dX5_parse_98 : decode cX5_parse 98 = .ok (.aload_n 0, 1) := by decide +kernel
theorem dX5_parse_99 : decode cX5_parse 99 = .ok (.getfield 22, 3) := by decide +kernel
theorem dX5_parse_102 : decode cX5_parse 102 = .ok (.if_icmp .lt 5, 3) := by decide +kernel
theorem dX5_parse_105 : decode cX5_parse 105 = .ok (.iconst (-1), 1) := by decide +kernel
theorem dX5_parse_106 : decode cX5_parse 106 = .ok (.ireturn, 1) := by decide +kernel
theorem dX5_parse_107 : decode cX5_parse 107 = .ok (.aload_n 0, 1) := by decide +kernel
theorem dX5_parse_108 : decode cX5_parse 108 = .ok (.iload 5, 2) := by decide +kernel
theorem dX5_parse_110 : decode cX5_parse 110 = .ok (.bipush 59, 2) := by decide +kernel
theorem dX5_parse_112 : decode cX5_parse 112 = .ok (.invokevirtual 33, 3) := by decide +kernel
theorem dX5_parse_115 : decode cX5_parse 115 = .ok (.ifCond .ne 6, 3) := by decide +kernel
theorem dX5_parse_118 : decode cX5_parse 118 = .ok (.iload 5, 2) := by decide +kernel
theorem dX5_parse_120 : decode cX5_parse 120 = .ok (.ireturn, 1) := by decide +kernel
theorem dX5_parse_121 : decode cX5_parse 121 = .ok (.iload 5, 2) := by decide +kernel
theorem dX5_parse_123 : decode cX5_parse 123 = .ok (.iconst 1, 1) := by decide +kernel
theorem dX5_parse_124 : decode cX5_parse 124 = .ok (.iadd, 1) := by decide +kernel
theorem dX5_parse_125 : decode cX5_parse 125 = .ok (.istore_n 1, 1) := by decide +kernel
theorem dX5_parse_126 : decode cX5_parse 126 = .ok (.iinc 2 1, 3) := by decide +kernel
theorem dX5_parse_129 : decode cX5_parse 129 = .ok (.goto (-120), 3) := by decide +kernel
theorem dX5_parse_132 : decode cX5_parse 132 = .ok (.aload_n 0, 1) := by decide +kernel
theorem dX5_parse_133 : decode cX5_parse 133 = .ok (.getfield 22, 3) := by decide +kernel
theorem dX5_parse_136 : decode cX5_parse 136 = .ok (.ireturn, 1) := by decide +kernel
theorem dX5_greatestCell_0 : decode cX5_greatestCell 0 = .ok (.iconst 0, 1) := by decide +kernel
theorem dX5_greatestCell_1 : decode cX5_greatestCell 1 = .ok (.istore_n 1, 1) := by decide +kernel
theorem dX5_greatestCell_2 : decode cX5_greatestCell 2 = .ok (.iconst 0, 1) := by decide +kernel
theorem dX5_greatestCell_3 : decode cX5_greatestCell 3 = .ok (.istore_n 2, 1) := by decide +kernel
theorem dX5_greatestCell_4 : decode cX5_greatestCell 4 = .ok (.iload_n 2, 1) := by decide +kernel
theorem dX5_greatestCell_5 : decode cX5_greatestCell 5 = .ok (.aload_n 0, 1) := by decide +kernel
theorem dX5_greatestCell_6 : decode cX5_greatestCell 6 = .ok (.getfield 26, 3) := by decide +kernel
theorem dX5_greatestCell_9 : decode cX5_greatestCell 9 = .ok (.if_icmp .ge 20, 3) := by decide +kernel
theorem dX5_greatestCell_12 : decode cX5_greatestCell 12 = .ok (.iload_n 1, 1) := by decide +kernel
theorem dX5_greatestCell_13 : decode cX5_greatestCell 13 = .ok (.aload_n 0, 1) := by decide +kernel
theorem dX5_greatestCell_14 : decode cX5_greatestCell 14 = .ok (.getfield 15, 3) := by decide +kernel
theorem dX5_greatestCell_17 : decode cX5_greatestCell 17 = .ok (.iload_n 2, 1) := by decide +kernel
theorem dX5_greatestCell_18 : decode cX5_greatestCell 18 = .ok (.iaload, 1) := by decide +kernel
theorem dX5_greatestCell_19 : decode cX5_greatestCell 19 = .ok (.invokestatic 40, 3) := by decide +kernel
theorem dX5_greatestCell_22 : decode cX5_greatestCell 22 = .ok (.istore_n 1, 1) := by decide +kernel
theorem dX5_greatestCell_23 : decode cX5_greatestCell 23 = .ok (.iinc 2 1, 3) := by decide +kernel
theorem dX5_greatestCell_26 : decode cX5_greatestCell 26 = .ok (.goto (-22), 3) := by decide +kernel
theorem dX5_greatestCell_29 : decode cX5_greatestCell 29 = .ok (.iload_n 1, 1) := by decide +kernel
theorem dX5_greatestCell_30 : decode cX5_greatestCell 30 = .ok (.ireturn, 1) := by decide +kernel
theorem dX5_isSign_0 : decode cX5_isSign 0 = .ok (.iload_n 1, 1) := by decide +kernel
theorem dX5_isSign_1 : decode cX5_isSign 1 = .ok (.aload_n 0, 1) := by decide +kernel
theorem dX5_isSign_2 : decode cX5_isSign 2 = .ok (.getfield 22, 3) := by decide +kernel
theorem dX5_isSign_5 : decode cX5_isSign 5 = .ok (.if_icmp .ge 17, 3) := by decide +kernel
theorem dX5_isSign_8 : decode cX5_isSign 8 = .ok (.aload_n 0, 1) := by decide +kernel
theorem dX5_isSign_9 : decode cX5_isSign 9 = .ok (.getfield 9, 3) := by decide +kernel
theorem dX5_isSign_12 : decode cX5_isSign 12 = .ok (.iload_n 1, 1) := by decide +kernel
theorem dX5_isSign_13 : decode cX5_isSign 13 = .ok (.caload, 1) := by decide +kernel
theorem dX5_isSign_14 : decode cX5_isSign 14 = .ok (.iload_n 2, 1) := by decide +kernel
theorem dX5_isSign_15 : decode cX5_isSign 15 = .ok (.if_icmp .ne 7, 3) := by decide +kernel
theorem dX5_isSign_18 : decode cX5_isSign 18 = .ok (.iconst 1, 1) := by decide +kernel
theorem dX5_isSign_19 : decode cX5_isSign 19 = .ok (.goto 4, 3) := by decide +kernel
theorem dX5_isSign_22 : decode cX5_isSign 22 = .ok (.iconst 0, 1) := by decide +kernel
theorem dX5_isSign_23 : decode cX5_isSign 23 = .ok (.ireturn, 1) := by decide +kernel
theorem dX5_isDigit_0 : decode cX5_isDigit 0 = .ok (.iload_n 1, 1) := by decide +kernel
theorem dX5_isDigit_1 : decode cX5_isDigit 1 = .ok (.aload_n 0, 1) := by decide +kernel
theorem dX5_isDigit_2 : decode cX5_isDigit 2 = .ok (.getfield 22, 3) := by decide +kernel
theorem dX5_isDigit_5 : decode cX5_isDigit 5 = .ok (.if_icmp .ge 29, 3) := by decide +kernel
theorem dX5_isDigit_8 : decode cX5_isDigit 8 = .ok (.aload_n 0, 1) := by decide +kernel
theorem dX5_isDigit_9 : decode cX5_isDigit 9 = .ok (.getfield 9, 3) := by decide +kernel
theorem dX5_isDigit_12 : decode cX5_isDigit 12 = .ok (.iload_n 1, 1) := by decide +kernel
theorem dX5_isDigit_13 : decode cX5_isDigit 13 = .ok (.caload, 1) := by decide +kernel
theorem dX5_isDigit_14 : decode cX5_isDigit 14 = .ok (.bipush 48, 2) := by decide +kernel
theorem dX5_isDigit_16 : decode cX5_isDigit 16 = .ok (.if_icmp .lt 18, 3) := by decide +kernel
theorem dX5_isDigit_19 : decode cX5_isDigit 19 = .ok (.aload_n 0, 1) := by decide +kernel
theorem dX5_isDigit_20 : decode cX5_isDigit 20 = .ok (.getfield 9, 3) := by decide +kernel
theorem dX5_isDigit_23 : decode cX5_isDigit 23 = .ok (.iload_n 1, 1) := by decide +kernel
theorem dX5_isDigit_24 : decode cX5_isDigit 24 = .ok (.caload, 1) := by decide +kernel
theorem dX5_isDigit_25 : decode cX5_isDigit 25 = .ok (.bipush 57, 2) := by decide +kernel
theorem dX5_isDigit_27 : decode cX5_isDigit 27 = .ok (.if_icmp .gt 7, 3) := by decide +kernel
theorem dX5_isDigit_30 : decode cX5_isDigit 30 = .ok (.iconst 1, 1) := by decide +kernel
theorem dX5_isDigit_31 : decode cX5_isDigit 31 = .ok (.goto 4, 3) := by decide +kernel
theorem dX5_isDigit_34 : decode cX5_isDigit 34 = .ok (.iconst 0, 1) := by decide +kernel
theorem dX5_isDigit_35 : decode cX5_isDigit 35 = .ok (.ireturn, 1) := by decide +kernel
theorem dX5_endOfNumber_0 : decode cX5_endOfNumber 0 = .ok (.aload_n 0, 1) := by decide +kernel
theorem dX5_endOfNumber_1 : decode cX5_endOfNumber 1 = .ok (.iload_n 1, 1) := by decide +kernel
theorem dX5_endOfNumber_2 : decode cX5_endOfNumber 2 = .ok (.bipush 48, 2) := by decide +kernel
theorem dX5_endOfNumber_4 : decode cX5_endOfNumber 4 = .ok (.invokevirtual 33, 3) := by decide +kernel
theorem dX5_endOfNumber_7 : decode cX5_endOfNumber 7 = .ok (.ifCond .eq 7, 3) := by decide +kernel
theorem dX5_endOfNumber_10 : decode cX5_endOfNumber 10 = .ok (.iconst 1, 1) := by decide +kernel
theorem dX5_endOfNumber_11 : decode cX5_endOfNumber 11 = .ok (.goto 4, 3) := by decide +kernel
theorem dX5_endOfNumber_14 : decode cX5_endOfNumber 14 = .ok (.iload_n 2, 1) := by decide +kernel
theorem dX5_endOfNumber_15 : decode cX5_endOfNumber 15 = .ok (.istore_n 3, 1) := by decide +kernel
theorem dX5_endOfNumber_16 : decode cX5_endOfNumber 16 = .ok (.iload_n 1, 1) := by decide +kernel
theorem dX5_endOfNumber_17 : decode cX5_endOfNumber 17 = .ok (.istore 4, 2) := by decide +kernel
theorem dX5_endOfNumber_19 : decode cX5_endOfNumber 19 = .ok (.iload 4, 2) := by decide +kernel
theorem dX5_endOfNumber_21 : decode cX5_endOfNumber 21 = .ok (.iload_n 1, 1) := by decide +kernel
theorem dX5_endOfNumber_22 : decode cX5_endOfNumber 22 = .ok (.isub, 1) := by decide +kernel
theorem dX5_endOfNumber_23 : decode cX5_endOfNumber 23 = .ok (.iload_n 3, 1) := by decide +kernel
theorem dX5_endOfNumber_24 : decode cX5_endOfNumber 24 = .ok (.if_icmp .ge 18, 3) := by decide +kernel
theorem dX5_endOfNumber_27 : decode cX5_endOfNumber 27 = .ok (.aload_n 0, 1) := by decide +kernel
theorem dX5_endOfNumber_28 : decode cX5_endOfNumber 28 = .ok (.iload 4, 2) := by decide +kernel
theorem dX5_endOfNumber_30 : decode cX5_endOfNumber 30 = .ok (.invokevirtual 45, 3) := by decide +kernel
theorem dX5_endOfNumber_33 : decode cX5_endOfNumber 33 = .ok (.ifCond .eq 9, 3) := by decide +kernel
theorem dX5_endOfNumber_36 : decode cX5_endOfNumber 36 = .ok (.iinc 4 1, 3) := by decide +kernel
theorem dX5_endOfNumber_39 : decode cX5_endOfNumber 39 = .ok (.goto (-20), 3) := by decide +kernel
theorem dX5_endOfNumber_42 : decode cX5_endOfNumber 42 = .ok (.iload 4, 2) := by decide +kernel
theorem dX5_endOfNumber_44 : decode cX5_endOfNumber 44 = .ok (.ireturn, 1) := by decide +kernel
theorem dX5_number_0 : decode cX5_number 0 = .ok (.iconst 0, 1) := by decide +kernel
theorem dX5_number_1 : decode cX5_number 1 = .ok (.istore_n 3, 1) := by decide +kernel
theorem dX5_number_2 : decode cX5_number 2 = .ok (.iload_n 1, 1) := by decide +kernel
theorem dX5_number_3 : decode cX5_number 3 = .ok (.istore 4, 2) := by decide +kernel
theorem dX5_number_5 : decode cX5_number 5 = .ok (.iload 4, 2) := by decide +kernel
theorem dX5_number_7 : decode cX5_number 7 = .ok (.iload_n 2, 1) := by decide +kernel
theorem dX5_number_8 : decode cX5_number 8 = .ok (.if_icmp .ge 25, 3) := by decide +kernel
theorem dX5_number_11 : decode cX5_number 11 = .ok (.iload_n 3, 1) := by decide +kernel
theorem dX5_number_12 : decode cX5_number 12 = .ok (.bipush 10, 2) := by decide +kernel
theorem dX5_number_14 : decode cX5_number 14 = .ok (.imul, 1) := by decide +kernel
theorem dX5_number_15 : decode cX5_number 15 = .ok (.aload_n 0, 1) := by decide +kernel
theorem dX5_number_16 : decode cX5_number 16 = .ok (.getfield 9, 3) := by decide +kernel
theorem dX5_number_19 : decode cX5_number 19 = .ok (.iload 4, 2) := by decide +kernel
theorem dX5_number_21 : decode cX5_number 21 = .ok (.caload, 1) := by decide +kernel
theorem dX5_number_22 : decode cX5_number 22 = .ok (.bipush 48, 2) := by decide +kernel
theorem dX5_number_24 : decode cX5_number 24 = .ok (.isub, 1) := by decide +kernel
theorem dX5_number_25 : decode cX5_number 25 = .ok (.iadd, 1) := by decide +kernel
theorem dX5_number_26 : decode cX5_number 26 = .ok (.istore_n 3, 1) := by decide +kernel
theorem dX5_number_27 : decode cX5_number 27 = .ok (.iinc 4 1, 3) := by decide +kernel
theorem dX5_number_30 : decode cX5_number 30 = .ok (.goto (-25), 3) := by decide +kernel
theorem dX5_number_33 : decode cX5_number 33 = .ok (.iload_n 3, 1) := by decide +kernel
theorem dX5_number_34 : decode cX5_number 34 = .ok (.ireturn, 1) := by decide +kernel
theorem dX6_init_0 : decode cX6_init 0 = .ok (.aload_n 0, 1) := by decide +kernel
theorem dX6_init_1 : decode cX6_init 1 = .ok (.invokespecial 3, 3) := by decide +kernel
theorem dX6_init_4 : decode cX6_init 4 = .ok (.aload_n 0, 1) := by decide +kernel
theorem dX6_init_5 : decode cX6_init 5 = .ok (.new 9, 3) := by decide +kernel
theorem dX6_init_8 : decode cX6_init 8 = .ok (.dup, 1) := by decide +kernel
theorem dX6_init_9 : decode cX6_init 9 = .ok (.invokespecial 11, 3) := by decide +kernel
theorem dX6_init_12 : decode cX6_init 12 = .ok (.putfield 12, 3) := by decide +kernel
theorem dX6_init_15 : decode cX6_init 15 = .ok (.aload_n 0, 1) := by decide +kernel
theorem dX6_init_16 : decode cX6_init 16 = .ok (.new 9, 3) := by decide +kernel
theorem dX6_init_19 : decode cX6_init 19 = .ok (.dup, 1) := by decide +kernel
theorem dX6_init_20 : decode cX6_init 20 = .ok (.invokespecial 11, 3) := by decide +kernel
theorem dX6_init_23 : decode cX6_init 23 = .ok (.putfield 16, 3) := by decide +kernel
theorem dX6_init_26 : decode cX6_init 26 = .ok (.aload_n 0, 1) := by decide +kernel
theorem dX6_init_27 : decode cX6_init 27 = .ok (.new 9, 3) := by decide +kernel
theorem dX6_init_30 : decode cX6_init 30 = .ok (.dup, 1) := by decide +kernel
theorem dX6_init_31 : decode cX6_init 31 = .ok (.invokespecial 11, 3) := by decide +kernel
theorem dX6_init_34 : decode cX6_init 34 = .ok (.putfield 19, 3) := by decide +kernel
theorem dX6_init_37 : decode cX6_init 37 = .ok (.aload_n 0, 1) := by decide +kernel
theorem dX6_init_38 : decode cX6_init 38 = .ok (.new 22, 3) := by decide +kernel
theorem dX6_init_41 : decode cX6_init 41 = .ok (.dup, 1) := by decide +kernel
theorem dX6_init_42 : decode cX6_init 42 = .ok (.invokespecial 24, 3) := by decide +kernel
theorem dX6_init_45 : decode cX6_init 45 = .ok (.putfield 25, 3) := by decide +kernel
theorem dX6_init_48 : decode cX6_init 48 = .ok (.aload_n 0, 1) := by decide +kernel
theorem dX6_init_49 : decode cX6_init 49 = .ok (.new 29, 3) := by decide +kernel
theorem dX6_init_52 : decode cX6_init 52 = .ok (.dup, 1) := by decide +kernel
theorem dX6_init_53 : decode cX6_init 53 = .ok (.invokespecial 31, 3) := by decide +kernel
theorem dX6_init_56 : decode cX6_init 56 = .ok (.putfield 32, 3) := by decide +kernel
theorem dX6_init_59 : decode cX6_init 59 = .ok (.return_, 1) := by decide +kernel
theorem dX6_open_0 : decode cX6_open 0 = .ok (.iload_n 1, 1) := by decide +kernel
theorem dX6_open_1 : decode cX6_open 1 = .ok (.ifCond .lt 10, 3) := by decide +kernel
theorem dX6_open_4 : decode cX6_open 4 = .ok (.iload_n 1, 1) := by decide +kernel
theorem dX6_open_5 : decode cX6_open 5 = .ok (.sipush 9999, 3) := by decide +kernel
theorem dX6_open_8 : decode cX6_open 8 = .ok (.if_icmp .le 6, 3) := by decide +kernel
theorem dX6_open_11 : decode cX6_open 11 = .ok (.bipush (-2), 2) := by decide +kernel
theorem dX6_open_13 : decode cX6_open 13 = .ok (.ireturn, 1) := by decide +kernel
theorem dX6_open_14 : decode cX6_open 14 = .ok (.aload_n 0, 1) := by decide +kernel
theorem dX6_open_15 : decode cX6_open 15 = .ok (.getfield 12, 3) := by decide +kernel
theorem dX6_open_18 : decode cX6_open 18 = .ok (.getfield 36, 3) := by decide +kernel
theorem dX6_open_21 : decode cX6_open 21 = .ok (.bipush 40, 2) := by decide +kernel
theorem dX6_open_23 : decode cX6_open 23 = .ok (.if_icmp .ge 16, 3) := by decide +kernel
theorem dX6_open_26 : decode cX6_open 26 = .ok (.aload_n 0, 1) := by decide +kernel
theorem dX6_open_27 : decode cX6_open 27 = .ok (.getfield 12, 3) := by decide +kernel
theorem dX6_open_30 : decode cX6_open 30 = .ok (.iconst 0, 1) := by decide +kernel
theorem dX6_open_31 : decode cX6_open 31 = .ok (.invokevirtual 40, 3) := by decide +kernel
theorem dX6_open_34 : decode cX6_open 34 = .ok (.bipush 8, 2) := by decide +kernel
theorem dX6_open_36 : decode cX6_open 36 = .ok (.if_icmp .lt 6, 3) := by decide +kernel
theorem dX6_open_39 : decode cX6_open 39 = .ok (.bipush (-3), 2) := by decide +kernel
theorem dX6_open_41 : decode cX6_open 41 = .ok (.ireturn, 1) := by decide +kernel
theorem dX6_open_42 : decode cX6_open 42 = .ok (.aload_n 0, 1) := by decide +kernel
theorem dX6_open_43 : decode cX6_open 43 = .ok (.getfield 25, 3) := by decide +kernel
theorem dX6_open_46 : decode cX6_open 46 = .ok (.aload_n 0, 1) := by decide +kernel
theorem dX6_open_47 : decode cX6_open 47 = .ok (.getfield 12, 3) := by decide +kernel
theorem dX6_open_50 : decode cX6_open 50 = .ok (.invokevirtual 44, 3) := by decide +kernel
theorem dX6_open_53 : decode cX6_open 53 = .ok (.aload_n 0, 1) := by decide +kernel
theorem dX6_open_54 : decode cX6_open 54 = .ok (.getfield 12, 3) := by decide +kernel
theorem dX6_open_57 : decode cX6_open 57 = .ok (.iload_n 1, 1) := by decide +kernel
theorem dX6_open_58 : decode cX6_open 58 = .ok (.invokevirtual 48, 3) := by decide +kernel
theorem dX6_open_61 : decode cX6_open 61 = .ok (.ireturn, 1) := by decide +kernel
theorem dX6_pay_0 : decode cX6_pay 0 = .ok (.aload_n 0, 1) := by decide +kernel
theorem dX6_pay_1 : decode cX6_pay 1 = .ok (.getfield 12, 3) := by decide +kernel
theorem dX6_pay_4 : decode cX6_pay 4 = .ok (.iload_n 1, 1) := by decide +kernel
theorem dX6_pay_5 : decode cX6_pay 5 = .ok (.invokevirtual 51, 3) := by decide +kernel
theorem dX6_pay_8 : decode cX6_pay 8 = .ok (.ifCond .ne 5, 3) := by decide +kernel
theorem dX6_pay_11 : decode cX6_pay 11 = .ok (.iconst (-1), 1) := by decide +kernel
theorem dX6_pay_12 : decode cX6_pay 12 = .ok (.ireturn, 1) := by decide +kernel
theorem dX6_pay_13 : decode cX6_pay 13 = .ok (.iload_n 2, 1) := by decide +kernel
theorem dX6_pay_14 : decode cX6_pay 14 = .ok (.iconst 1, 1) := by decide +kernel
theorem dX6_pay_15 : decode cX6_pay 15 = .ok (.if_icmp .lt 10, 3) := by decide +kernel
theorem dX6_pay_18 : decode cX6_pay 18 = .ok (.iload_n 2, 1) := by decide +kernel
theorem dX6_pay_19 : decode cX6_pay 19 = .ok (.sipush 9999, 3) := by decide +kernel
theorem dX6_pay_22 : decode cX6_pay 22 = .ok (.if_icmp .le 6, 3) := by decide +kernel
theorem dX6_pay_25 : decode cX6_pay 25 = .ok (.bipush (-2), 2) := by decide +kernel
theorem dX6_pay_27 : decode cX6_pay 27 = .ok (.ireturn, 1) := by decide +kernel
theorem dX6_pay_28 : decode cX6_pay 28 = .ok (.aload_n 0, 1) := by decide +kernel
theorem dX6_pay_29 : decode cX6_pay 29 = .ok (.getfield 12, 3) := by decide +kernel
theorem dX6_pay_32 : decode cX6_pay 32 = .ok (.getfield 55, 3) := by decide +kernel
theorem dX6_pay_35 : decode cX6_pay 35 = .ok (.iload_n 1, 1) := by decide +kernel
theorem dX6_pay_36 : decode cX6_pay 36 = .ok (.aaload, 1) := by decide +kernel
theorem dX6_pay_37 : decode cX6_pay 37 = .ok (.astore_n 3, 1) := by decide +kernel
theorem dX6_pay_38 : decode cX6_pay 38 = .ok (.aload_n 3, 1) := by decide +kernel
theorem dX6_pay_39 : decode cX6_pay 39 = .ok (.invokevirtual 59, 3) := by decide +kernel
theorem dX6_pay_42 : decode cX6_pay 42 = .ok (.ifCond .ne 6, 3) := by decide +kernel
theorem dX6_pay_45 : decode cX6_pay 45 = .ok (.bipush (-4), 2) := by decide +kernel
theorem dX6_pay_47 : decode cX6_pay 47 = .ok (.ireturn, 1) := by decide +kernel
theorem dX6_pay_48 : decode cX6_pay 48 = .ok (.aload_n 3, 1) := by decide +kernel
theorem dX6_pay_49 : decode cX6_pay 49 = .ok (.getfield 65, 3) := by decide +kernel
theorem dX6_pay_52 : decode cX6_pay 52 = .ok (.iload_n 2, 1) := by decide +kernel
theorem dX6_pay_53 : decode cX6_pay 53 = .ok (.iadd, 1) := by decide +kernel
theorem dX6_pay_54 : decode cX6_pay 54 = .ok (.sipush 9999, 3) := by decide +kernel
theorem dX6_pay_57 : decode cX6_pay 57 = .ok (.if_icmp .le 6, 3) := by decide +kernel
theorem dX6_pay_60 : decode cX6_pay 60 = .ok (.bipush (-3), 2) := by decide +kernel
theorem dX6_pay_62 : decode cX6_pay 62 = .ok (.ireturn, 1) := by decide +kernel
theorem dX6_pay_63 : decode cX6_pay 63 = .ok (.aload_n 0, 1) := by decide +kernel
theorem dX6_pay_64 : decode cX6_pay 64 = .ok (.getfield 25, 3) := by decide +kernel
theorem dX6_pay_67 : decode cX6_pay 67 = .ok (.aload_n 0, 1) := by decide +kernel
theorem dX6_pay_68 : decode cX6_pay 68 = .ok (.getfield 12, 3) := by decide +kernel
theorem dX6_pay_71 : decode cX6_pay 71 = .ok (.invokevirtual 44, 3) := by decide +kernel
theorem dX6_pay_74 : decode cX6_pay 74 = .ok (.aload_n 3, 1) := by decide +kernel
theorem dX6_pay_75 : decode cX6_pay 75 = .ok (.dup, 1) := by decide +kernel
theorem dX6_pay_76 : decode cX6_pay 76 = .ok (.getfield 65, 3) := by decide +kernel
theorem dX6_pay_79 : decode cX6_pay 79 = .ok (.iload_n 2, 1) := by decide +kernel
theorem dX6_pay_80 : decode cX6_pay 80 = .ok (.iadd, 1) := by decide +kernel
theorem dX6_pay_81 : decode cX6_pay 81 = .ok (.putfield 65, 3) := by decide +kernel
theorem dX6_pay_84 : decode cX6_pay 84 = .ok (.aload_n 3, 1) := by decide +kernel
theorem dX6_pay_85 : decode cX6_pay 85 = .ok (.getfield 65, 3) := by decide +kernel
theorem dX6_pay_88 : decode cX6_pay 88 = .ok (.ireturn, 1) := by decide +kernel
theorem dX6_widow_0 : decode cX6_widow 0 = .ok (.aload_n 0, 1) := by decide +kernel
theorem dX6_widow_1 : decode cX6_widow 1 = .ok (.getfield 12, 3) := by decide +kernel
theorem dX6_widow_4 : decode cX6_widow 4 = .ok (.iload_n 1, 1) := by decide +kernel
theorem dX6_widow_5 : decode cX6_widow 5 = .ok (.invokevirtual 51, 3) := by decide +kernel
theorem dX6_widow_8 : decode cX6_widow 8 = .ok (.ifCond .ne 5, 3) := by decide +kernel
theorem dX6_widow_11 : decode cX6_widow 11 = .ok (.iconst (-1), 1) := by decide +kernel
theorem dX6_widow_12 : decode cX6_widow 12 = .ok (.ireturn, 1) := by decide +kernel
theorem dX6_widow_13 : decode cX6_widow 13 = .ok (.iload_n 2, 1) := by decide +kernel
theorem dX6_widow_14 : decode cX6_widow 14 = .ok (.iconst 1, 1) := by decide +kernel
theorem dX6_widow_15 : decode cX6_widow 15 = .ok (.if_icmp .lt 9, 3) := by decide +kernel
theorem dX6_widow_18 : decode cX6_widow 18 = .ok (.iload_n 2, 1) := by decide +kernel
theorem dX6_widow_19 : decode cX6_widow 19 = .ok (.bipush 20, 2) := by decide +kernel
theorem dX6_widow_21 : decode cX6_widow 21 = .ok (.if_icmp .le 6, 3) := by decide +kernel
theorem dX6_widow_24 : decode cX6_widow 24 = .ok (.bipush (-2), 2) := by decide +kernel
theorem dX6_widow_26 : decode cX6_widow 26 = .ok (.ireturn, 1) := by decide +kernel
theorem dX6_widow_27 : decode cX6_widow 27 = .ok (.aload_n 0, 1) := by decide +kernel
theorem dX6_widow_28 : decode cX6_widow 28 = .ok (.getfield 12, 3) := by decide +kernel
theorem dX6_widow_31 : decode cX6_widow 31 = .ok (.getfield 55, 3) := by decide +kernel
theorem dX6_widow_34 : decode cX6_widow 34 = .ok (.iload_n 1, 1) := by decide +kernel
theorem dX6_widow_35 : decode cX6_widow 35 = .ok (.aaload, 1) := by decide +kernel
theorem dX6_widow_36 : decode cX6_widow 36 = .ok (.astore_n 3, 1) := by decide +kernel
theorem dX6_widow_37 : decode cX6_widow 37 = .ok (.aload_n 3, 1) := by decide +kernel
theorem dX6_widow_38 : decode cX6_widow 38 = .ok (.invokevirtual 59, 3) := by decide +kernel
theorem dX6_widow_41 : decode cX6_widow 41 = .ok (.ifCond .eq 10, 3) := by decide +kernel
theorem dX6_widow_44 : decode cX6_widow 44 = .ok (.aload_n 3, 1) := by decide +kernel
theorem dX6_widow_45 : decode cX6_widow 45 = .ok (.getfield 68, 3) := by decide +kernel
theorem dX6_widow_48 : decode cX6_widow 48 = .ok (.ifCond .eq 6, 3) := by decide +kernel
theorem dX6_widow_51 : decode cX6_widow 51 = .ok (.bipush (-4), 2) := by decide +kernel
theorem dX6_widow_53 : decode cX6_widow 53 = .ok (.ireturn, 1) := by decide +kernel
theorem dX6_widow_54 : decode cX6_widow 54 = .ok (.aload_n 0, 1) := by decide +kernel
theorem dX6_widow_55 : decode cX6_widow 55 = .ok (.getfield 25, 3) := by decide +kernel
theorem dX6_widow_58 : decode cX6_widow 58 = .ok (.aload_n 0, 1) := by decide +kernel
theorem dX6_widow_59 : decode cX6_widow 59 = .ok (.getfield 12, 3) := by decide +kernel
theorem dX6_widow_62 : decode cX6_widow 62 = .ok (.invokevirtual 44, 3) := by decide +kernel
theorem dX6_widow_65 : decode cX6_widow 65 = .ok (.aload_n 0, 1) := by decide +kernel
theorem dX6_widow_66 : decode cX6_widow 66 = .ok (.getfield 12, 3) := by decide +kernel
theorem dX6_widow_69 : decode cX6_widow 69 = .ok (.aload_n 3, 1) := by decide +kernel
theorem dX6_widow_70 : decode cX6_widow 70 = .ok (.invokevirtual 72, 3) := by decide +kernel
theorem dX6_widow_73 : decode cX6_widow 73 = .ok (.istore 4, 2) := by decide +kernel
theorem dX6_widow_75 : decode cX6_widow 75 = .ok (.aload_n 3, 1) := by decide +kernel
theorem dX6_widow_76 : decode cX6_widow 76 = .ok (.iconst 1, 1) := by decide +kernel
theorem dX6_widow_77 : decode cX6_widow 77 = .ok (.putfield 68, 3) := by decide +kernel
theorem dX6_widow_80 : decode cX6_widow 80 = .ok (.aload_n 3, 1) := by decide +kernel
theorem dX6_widow_81 : decode cX6_widow 81 = .ok (.iload_n 2, 1) := by decide +kernel
theorem dX6_widow_82 : decode cX6_widow 82 = .ok (.putfield 76, 3) := by decide +kernel
theorem dX6_widow_85 : decode cX6_widow 85 = .ok (.iload 4, 2) := by decide +kernel
theorem dX6_widow_87 : decode cX6_widow 87 = .ok (.ireturn, 1) := by decide +kernel
theorem dX6_close_0 : decode cX6_close 0 = .ok (.aload_n 0, 1) := by decide +kernel
theorem dX6_close_1 : decode cX6_close 1 = .ok (.getfield 12, 3) := by decide +kernel
theorem dX6_close_4 : decode cX6_close 4 = .ok (.iload_n 1, 1) := by decide +kernel
theorem dX6_close_5 : decode cX6_close 5 = .ok (.invokevirtual 51, 3) := by decide +kernel
theorem dX6_close_8 : decode cX6_close 8 = .ok (.ifCond .ne 5, 3) := by decide +kernel
theorem dX6_close_11 : decode cX6_close 11 = .ok (.iconst (-1), 1) := by decide +kernel
theorem dX6_close_12 : decode cX6_close 12 = .ok (.ireturn, 1) := by decide +kernel
theorem dX6_close_13 : decode cX6_close 13 = .ok (.aload_n 0, 1) := by decide +kernel
theorem dX6_close_14 : decode cX6_close 14 = .ok (.getfield 12, 3) := by decide +kernel
theorem dX6_close_17 : decode cX6_close 17 = .ok (.getfield 55, 3) := by decide +kernel
theorem dX6_close_20 : decode cX6_close 20 = .ok (.iload_n 1, 1) := by decide +kernel
theorem dX6_close_21 : decode cX6_close 21 = .ok (.aaload, 1) := by decide +kernel
theorem dX6_close_22 : decode cX6_close 22 = .ok (.astore_n 2, 1) := by decide +kernel
theorem dX6_close_23 : decode cX6_close 23 = .ok (.aload_n 2, 1) := by decide +kernel
theorem dX6_close_24 : decode cX6_close 24 = .ok (.invokevirtual 59, 3) := by decide +kernel
theorem dX6_close_27 : decode cX6_close 27 = .ok (.ifCond .ne 6, 3) := by decide +kernel
theorem dX6_close_30 : decode cX6_close 30 = .ok (.bipush (-4), 2) := by decide +kernel
theorem dX6_close_32 : decode cX6_close 32 = .ok (.ireturn, 1) := by decide +kernel
theorem dX6_close_33 : decode cX6_close 33 = .ok (.aload_n 0, 1) := by decide +kernel
theorem dX6_close_34 : decode cX6_close 34 = .ok (.getfield 25, 3) := by decide +kernel
theorem dX6_close_37 : decode cX6_close 37 = .ok (.aload_n 0, 1) := by decide +kernel
theorem dX6_close_38 : decode cX6_close 38 = .ok (.getfield 12, 3) := by decide +kernel
theorem dX6_close_41 : decode cX6_close 41 = .ok (.invokevirtual 44, 3) := by decide +kernel
theorem dX6_close_44 : decode cX6_close 44 = .ok (.aload_n 2, 1) := by decide +kernel
theorem dX6_close_45 : decode cX6_close 45 = .ok (.iconst 2, 1) := by decide +kernel
theorem dX6_close_46 : decode cX6_close 46 = .ok (.putfield 79, 3) := by decide +kernel
theorem dX6_close_49 : decode cX6_close 49 = .ok (.aload_n 0, 1) := by decide +kernel
theorem dX6_close_50 : decode cX6_close 50 = .ok (.getfield 12, 3) := by decide +kernel
theorem dX6_close_53 : decode cX6_close 53 = .ok (.invokevirtual 82, 3) := by decide +kernel
theorem dX6_close_56 : decode cX6_close 56 = .ok (.ireturn, 1) := by decide +kernel
theorem dX6_setRent_0 : decode cX6_setRent 0 = .ok (.iload_n 1, 1) := by decide +kernel
theorem dX6_setRent_1 : decode cX6_setRent 1 = .ok (.ifCond .lt 9, 3) := by decide +kernel
theorem dX6_setRent_4 : decode cX6_setRent 4 = .ok (.iload_n 1, 1) := by decide +kernel
theorem dX6_setRent_5 : decode cX6_setRent 5 = .ok (.bipush 99, 2) := by decide +kernel
theorem dX6_setRent_7 : decode cX6_setRent 7 = .ok (.if_icmp .le 6, 3) := by decide +kernel
theorem dX6_setRent_10 : decode cX6_setRent 10 = .ok (.bipush (-2), 2) := by decide +kernel
theorem dX6_setRent_12 : decode cX6_setRent 12 = .ok (.ireturn, 1) := by decide +kernel
theorem dX6_setRent_13 : decode cX6_setRent 13 = .ok (.aload_n 0, 1) := by decide +kernel
theorem dX6_setRent_14 : decode cX6_setRent 14 = .ok (.getfield 12, 3) := by decide +kernel
theorem dX6_setRent_17 : decode cX6_setRent 17 = .ok (.getfield 86, 3) := by decide +kernel
theorem dX6_setRent_20 : decode cX6_setRent 20 = .ok (.istore_n 2, 1) := by decide +kernel
theorem dX6_setRent_21 : decode cX6_setRent 21 = .ok (.iload_n 1, 1) := by decide +kernel
theorem dX6_setRent_22 : decode cX6_setRent 22 = .ok (.iload_n 2, 1) := by decide +kernel
theorem dX6_setRent_23 : decode cX6_setRent 23 = .ok (.if_icmp .ne 6, 3) := by decide +kernel
theorem dX6_setRent_26 : decode cX6_setRent 26 = .ok (.bipush (-5), 2) := by decide +kernel
theorem dX6_setRent_28 : decode cX6_setRent 28 = .ok (.ireturn, 1) := by decide +kernel
theorem dX6_setRent_29 : decode cX6_setRent 29 = .ok (.aload_n 0, 1) := by decide +kernel
theorem dX6_setRent_30 : decode cX6_setRent 30 = .ok (.getfield 25, 3) := by decide +kernel
theorem dX6_setRent_33 : decode cX6_setRent 33 = .ok (.aload_n 0, 1) := by decide +kernel
theorem dX6_setRent_34 : decode cX6_setRent 34 = .ok (.getfield 12, 3) := by decide +kernel
theorem dX6_setRent_37 : decode cX6_setRent 37 = .ok (.invokevirtual 44, 3) := by decide +kernel
theorem dX6_setRent_40 : decode cX6_setRent 40 = .ok (.aload_n 0, 1) := by decide +kernel
theorem dX6_setRent_41 : decode cX6_setRent 41 = .ok (.getfield 12, 3) := by decide +kernel
theorem dX6_setRent_44 : decode cX6_setRent 44 = .ok (.iload_n 1, 1) := by decide +kernel
theorem dX6_setRent_45 : decode cX6_setRent 45 = .ok (.putfield 86, 3) := by decide +kernel
theorem dX6_setRent_48 : decode cX6_setRent 48 = .ok (.iload_n 2, 1) := by decide +kernel
theorem dX6_setRent_49 : decode cX6_setRent 49 = .ok (.ireturn, 1) := by decide +kernel
theorem dX6_forbidSkew_0 : decode cX6_forbidSkew 0 = .ok (.iload_n 1, 1) := by decide +kernel
theorem dX6_forbidSkew_1 : decode cX6_forbidSkew 1 = .ok (.aload_n 0, 1) := by decide +kernel
theorem dX6_forbidSkew_2 : decode cX6_forbidSkew 2 = .ok (.getfield 12, 3) := by decide +kernel
theorem dX6_forbidSkew_5 : decode cX6_forbidSkew 5 = .ok (.getfield 89, 3) := by decide +kernel
theorem dX6_forbidSkew_8 : decode cX6_forbidSkew 8 = .ok (.if_icmp .ne 6, 3) := by decide +kernel
theorem dX6_forbidSkew_11 : decode cX6_forbidSkew 11 = .ok (.bipush (-5), 2) := by decide +kernel
theorem dX6_forbidSkew_13 : decode cX6_forbidSkew 13 = .ok (.ireturn, 1) := by decide +kernel
theorem dX6_forbidSkew_14 : decode cX6_forbidSkew 14 = .ok (.aload_n 0, 1) := by decide +kernel
theorem dX6_forbidSkew_15 : decode cX6_forbidSkew 15 = .ok (.getfield 25, 3) := by decide +kernel
theorem dX6_forbidSkew_18 : decode cX6_forbidSkew 18 = .ok (.aload_n 0, 1) := by decide +kernel
theorem dX6_forbidSkew_19 : decode cX6_forbidSkew 19 = .ok (.getfield 12, 3) := by decide +kernel
theorem dX6_forbidSkew_22 : decode cX6_forbidSkew 22 = .ok (.invokevirtual 44, 3) := by decide +kernel
theorem dX6_forbidSkew_25 : decode cX6_forbidSkew 25 = .ok (.aload_n 0, 1) := by decide +kernel
theorem dX6_forbidSkew_26 : decode cX6_forbidSkew 26 = .ok (.getfield 12, 3) := by decide +kernel
theorem dX6_forbidSkew_29 : decode cX6_forbidSkew 29 = .ok (.iload_n 1, 1) := by decide +kernel
theorem dX6_forbidSkew_30 : decode cX6_forbidSkew 30 = .ok (.putfield 89, 3) := by decide +kernel
theorem dX6_forbidSkew_33 : decode cX6_forbidSkew 33 = .ok (.aload_n 0, 1) := by decide +kernel
theorem dX6_forbidSkew_34 : decode cX6_forbidSkew 34 = .ok (.getfield 12, 3) := by decide +kernel
theorem dX6_forbidSkew_37 : decode cX6_forbidSkew 37 = .ok (.invokevirtual 92, 3) := by decide +kernel
theorem dX6_forbidSkew_40 : decode cX6_forbidSkew 40 = .ok (.ireturn, 1) := by decide +kernel
theorem dX6_tick_0 : decode cX6_tick 0 = .ok (.iload_n 1, 1) := by decide +kernel
theorem dX6_tick_1 : decode cX6_tick 1 = .ok (.iconst 1, 1) := by decide +kernel
theorem dX6_tick_2 : decode cX6_tick 2 = .ok (.if_icmp .lt 9, 3) := by decide +kernel
theorem dX6_tick_5 : decode cX6_tick 5 = .ok (.iload_n 1, 1) := by decide +kernel
theorem dX6_tick_6 : decode cX6_tick 6 = .ok (.bipush 60, 2) := by decide +kernel
theorem dX6_tick_8 : decode cX6_tick 8 = .ok (.if_icmp .le 6, 3) := by decide +kernel
theorem dX6_tick_11 : decode cX6_tick 11 = .ok (.bipush (-2), 2) := by decide +kernel
theorem dX6_tick_13 : decode cX6_tick 13 = .ok (.ireturn, 1) := by decide +kernel
theorem dX6_tick_14 : decode cX6_tick 14 = .ok (.aload_n 0, 1) := by decide +kernel
theorem dX6_tick_15 : decode cX6_tick 15 = .ok (.getfield 25, 3) := by decide +kernel
theorem dX6_tick_18 : decode cX6_tick 18 = .ok (.aload_n 0, 1) := by decide +kernel
theorem dX6_tick_19 : decode cX6_tick 19 = .ok (.getfield 12, 3) := by decide +kernel
theorem dX6_tick_22 : decode cX6_tick 22 = .ok (.invokevirtual 44, 3) := by decide +kernel
theorem dX6_tick_25 : decode cX6_tick 25 = .ok (.aload_n 0, 1) := by decide +kernel
theorem dX6_tick_26 : decode cX6_tick 26 = .ok (.getfield 12, 3) := by decide +kernel
theorem dX6_tick_29 : decode cX6_tick 29 = .ok (.iconst 3, 1) := by decide +kernel
theorem dX6_tick_30 : decode cX6_tick 30 = .ok (.invokevirtual 40, 3) := by decide +kernel
theorem dX6_tick_33 : decode cX6_tick 33 = .ok (.istore_n 2, 1) := by decide +kernel
theorem dX6_tick_34 : decode cX6_tick 34 = .ok (.aload_n 0, 1) := by decide +kernel
theorem dX6_tick_35 : decode cX6_tick 35 = .ok (.getfield 12, 3) := by decide +kernel
theorem dX6_tick_38 : decode cX6_tick 38 = .ok (.iload_n 1, 1) := by decide +kernel
theorem dX6_tick_39 : decode cX6_tick 39 = .ok (.iconst (-1), 1) := by decide +kernel
theorem dX6_tick_40 : decode cX6_tick 40 = .ok (.invokevirtual 95, 3) := by decide +kernel
theorem dX6_tick_43 : decode cX6_tick 43 = .ok (.aload_n 0, 1) := by decide +kernel
theorem dX6_tick_44 : decode cX6_tick 44 = .ok (.getfield 12, 3) := by decide +kernel
theorem dX6_tick_47 : decode cX6_tick 47 = .ok (.iconst 3, 1) := by decide +kernel
theorem dX6_tick_48 : decode cX6_tick 48 = .ok (.invokevirtual 40, 3) := by decide +kernel
theorem dX6_tick_51 : decode cX6_tick 51 = .ok (.iload_n 2, 1) := by decide +kernel
theorem dX6_tick_52 : decode cX6_tick 52 = .ok (.isub, 1) := by decide +kernel
theorem dX6_tick_53 : decode cX6_tick 53 = .ok (.ireturn, 1) := by decide +kernel
theorem dX6_read_0 : decode cX6_read 0 = .ok (.aload_n 0, 1) := by decide +kernel
theorem dX6_read_1 : decode cX6_read 1 = .ok (.getfield 12, 3) := by decide +kernel
theorem dX6_read_4 : decode cX6_read 4 = .ok (.iload_n 1, 1) := by decide +kernel
theorem dX6_read_5 : decode cX6_read 5 = .ok (.invokevirtual 51, 3) := by decide +kernel
theorem dX6_read_8 : decode cX6_read 8 = .ok (.ifCond .eq 10, 3) := by decide +kernel
theorem dX6_read_11 : decode cX6_read 11 = .ok (.iload_n 2, 1) := by decide +kernel
theorem dX6_read_12 : decode cX6_read 12 = .ok (.invokestatic 99, 3) := by decide +kernel
theorem dX6_read_15 : decode cX6_read 15 = .ok (.ifCond .ne 5, 3) := by decide +kernel
theorem dX6_read_18 : decode cX6_read 18 = .ok (.iconst (-1), 1) := by decide +kernel
theorem dX6_read_19 : decode cX6_read 19 = .ok (.ireturn, 1) := by decide +kernel
theorem dX6_read_20 : decode cX6_read 20 = .ok (.aload_n 0, 1) := by decide +kernel
theorem dX6_read_21 : decode cX6_read 21 = .ok (.getfield 12, 3) := by decide +kernel
theorem dX6_read_24 : decode cX6_read 24 = .ok (.getfield 55, 3) := by decide +kernel
theorem dX6_read_27 : decode cX6_read 27 = .ok (.iload_n 1, 1) := by decide +kernel
theorem dX6_read_28 : decode cX6_read 28 = .ok (.aaload, 1) := by decide +kernel
theorem dX6_read_29 : decode cX6_read 29 = .ok (.astore_n 3, 1) := by decide +kernel
theorem dX6_read_30 : decode cX6_read 30 = .ok (.aload_n 3, 1) := by decide +kernel
theorem dX6_read_31 : decode cX6_read 31 = .ok (.invokevirtual 59, 3) := by decide +kernel
theorem dX6_read_34 : decode cX6_read 34 = .ok (.ifCond .ne 6, 3) := by decide +kernel
theorem dX6_read_37 : decode cX6_read 37 = .ok (.bipush (-4), 2) := by decide +kernel
theorem dX6_read_39 : decode cX6_read 39 = .ok (.ireturn, 1) := by decide +kernel
theorem dX6_read_40 : decode cX6_read 40 = .ok (.aload_n 0, 1) := by decide +kernel
theorem dX6_read_41 : decode cX6_read 41 = .ok (.getfield 25, 3) := by decide +kernel
theorem dX6_read_44 : decode cX6_read 44 = .ok (.aload_n 0, 1) := by decide +kernel
theorem dX6_read_45 : decode cX6_read 45 = .ok (.getfield 12, 3) := by decide +kernel
theorem dX6_read_48 : decode cX6_read 48 = .ok (.invokevirtual 44, 3) := by decide +kernel
theorem dX6_read_51 : decode cX6_read 51 = .ok (.aload_n 3, 1) := by decide +kernel
theorem dX6_read_52 : decode cX6_read 52 = .ok (.iload_n 2, 1) := by decide +kernel
theorem dX6_read_53 : decode cX6_read 53 = .ok (.invokevirtual 102, 3) := by decide +kernel
theorem dX6_read_56 : decode cX6_read 56 = .ok (.ifCond .eq 10, 3) := by decide +kernel
theorem dX6_read_59 : decode cX6_read 59 = .ok (.aload_n 3, 1) := by decide +kernel
theorem dX6_read_60 : decode cX6_read 60 = .ok (.getfield 105, 3) := by decide +kernel
theorem dX6_read_63 : decode cX6_read 63 = .ok (.iload_n 2, 1) := by decide +kernel
theorem dX6_read_64 : decode cX6_read 64 = .ok (.iaload, 1) := by decide +kernel
theorem dX6_read_65 : decode cX6_read 65 = .ok (.ireturn, 1) := by decide +kernel
theorem dX6_read_66 : decode cX6_read 66 = .ok (.aload_n 3, 1) := by decide +kernel
theorem dX6_read_67 : decode cX6_read 67 = .ok (.dup, 1) := by decide +kernel
theorem dX6_read_68 : decode cX6_read 68 = .ok (.getfield 109, 3) := by decide +kernel
theorem dX6_read_71 : decode cX6_read 71 = .ok (.iconst 1, 1) := by decide +kernel
theorem dX6_read_72 : decode cX6_read 72 = .ok (.iload_n 2, 1) := by decide +kernel
theorem dX6_read_73 : decode cX6_read 73 = .ok (.ishl, 1) := by decide +kernel
theorem dX6_read_74 : decode cX6_read 74 = .ok (.ior, 1) := by decide +kernel
theorem dX6_read_75 : decode cX6_read 75 = .ok (.putfield 109, 3) := by decide +kernel
theorem dX6_read_78 : decode cX6_read 78 = .ok (.aload_n 0, 1) := by decide +kernel
theorem dX6_read_79 : decode cX6_read 79 = .ok (.getfield 12, 3) := by decide +kernel
theorem dX6_read_82 : decode cX6_read 82 = .ok (.getfield 112, 3) := by decide +kernel
theorem dX6_read_85 : decode cX6_read 85 = .ok (.iload_n 2, 1) := by decide +kernel
theorem dX6_read_86 : decode cX6_read 86 = .ok (.aaload, 1) := by decide +kernel
theorem dX6_read_87 : decode cX6_read 87 = .ok (.aload_n 3, 1) := by decide +kernel
theorem dX6_read_88 : decode cX6_read 88 = .ok (.getfield 116, 3) := by decide +kernel
theorem dX6_read_91 : decode cX6_read 91 = .ok (.invokevirtual 119, 3) := by decide +kernel
theorem dX6_read_94 : decode cX6_read 94 = .ok (.ireturn, 1) := by decide +kernel
theorem dX6_write_0 : decode cX6_write 0 = .ok (.aload_n 0, 1) := by decide +kernel
theorem dX6_write_1 : decode cX6_write 1 = .ok (.getfield 12, 3) := by decide +kernel
theorem dX6_write_4 : decode cX6_write 4 = .ok (.iload_n 1, 1) := by decide +kernel
theorem dX6_write_5 : decode cX6_write 5 = .ok (.invokevirtual 51, 3) := by decide +kernel
theorem dX6_write_8 : decode cX6_write 8 = .ok (.ifCond .eq 10, 3) := by decide +kernel
theorem dX6_write_11 : decode cX6_write 11 = .ok (.iload_n 2, 1) := by decide +kernel
theorem dX6_write_12 : decode cX6_write 12 = .ok (.invokestatic 99, 3) := by decide +kernel
theorem dX6_write_15 : decode cX6_write 15 = .ok (.ifCond .ne 5, 3) := by decide +kernel
theorem dX6_write_18 : decode cX6_write 18 = .ok (.iconst (-1), 1) := by decide +kernel
theorem dX6_write_19 : decode cX6_write 19 = .ok (.ireturn, 1) := by decide +kernel
theorem dX6_write_20 : decode cX6_write 20 = .ok (.iload_n 3, 1) := by decide +kernel
theorem dX6_write_21 : decode cX6_write 21 = .ok (.ifCond .lt 10, 3) := by decide +kernel
theorem dX6_write_24 : decode cX6_write 24 = .ok (.iload_n 3, 1) := by decide +kernel
theorem dX6_write_25 : decode cX6_write 25 = .ok (.sipush 9999, 3) := by decide +kernel
theorem dX6_write_28 : decode cX6_write 28 = .ok (.if_icmp .le 6, 3) := by decide +kernel
theorem dX6_write_31 : decode cX6_write 31 = .ok (.bipush (-2), 2) := by decide +kernel
theorem dX6_write_33 : decode cX6_write 33 = .ok (.ireturn, 1) := by decide +kernel
theorem dX6_write_34 : decode cX6_write 34 = .ok (.aload_n 0, 1) := by decide +kernel
theorem dX6_write_35 : decode cX6_write 35 = .ok (.getfield 12, 3) := by decide +kernel
theorem dX6_write_38 : decode cX6_write 38 = .ok (.getfield 55, 3) := by decide +kernel
theorem dX6_write_41 : decode cX6_write 41 = .ok (.iload_n 1, 1) := by decide +kernel
theorem dX6_write_42 : decode cX6_write 42 = .ok (.aaload, 1) := by decide +kernel
theorem dX6_write_43 : decode cX6_write 43 = .ok (.astore 4, 2) := by decide +kernel
theorem dX6_write_45 : decode cX6_write 45 = .ok (.aload 4, 2) := by decide +kernel
theorem dX6_write_47 : decode cX6_write 47 = .ok (.invokevirtual 59, 3) := by decide +kernel
theorem dX6_write_50 : decode cX6_write 50 = .ok (.ifCond .ne 6, 3) := by decide +kernel
theorem dX6_write_53 : decode cX6_write 53 = .ok (.bipush (-4), 2) := by decide +kernel
theorem dX6_write_55 : decode cX6_write 55 = .ok (.ireturn, 1) := by decide +kernel
theorem dX6_write_56 : decode cX6_write 56 = .ok (.aload_n 0, 1) := by decide +kernel
theorem dX6_write_57 : decode cX6_write 57 = .ok (.getfield 25, 3) := by decide +kernel
theorem dX6_write_60 : decode cX6_write 60 = .ok (.aload_n 0, 1) := by decide +kernel
theorem dX6_write_61 : decode cX6_write 61 = .ok (.getfield 12, 3) := by decide +kernel
theorem dX6_write_64 : decode cX6_write 64 = .ok (.invokevirtual 44, 3) := by decide +kernel
theorem dX6_write_67 : decode cX6_write 67 = .ok (.aload 4, 2) := by decide +kernel
theorem dX6_write_69 : decode cX6_write 69 = .ok (.iload_n 2, 1) := by decide +kernel
theorem dX6_write_70 : decode cX6_write 70 = .ok (.iload_n 3, 1) := by decide +kernel
theorem dX6_write_71 : decode cX6_write 71 = .ok (.invokevirtual 124, 3) := by decide +kernel
theorem dX6_write_74 : decode cX6_write 74 = .ok (.aload 4, 2) := by decide +kernel
theorem dX6_write_76 : decode cX6_write 76 = .ok (.invokevirtual 127, 3) := by decide +kernel
theorem dX6_write_79 : decode cX6_write 79 = .ok (.ireturn, 1) := by decide +kernel
theorem dX6_commit_0 : decode cX6_commit 0 = .ok (.aload_n 0, 1) := by decide +kernel
theorem dX6_commit_1 : decode cX6_commit 1 = .ok (.getfield 12, 3) := by decide +kernel
theorem dX6_commit_4 : decode cX6_commit 4 = .ok (.iload_n 1, 1) := by decide +kernel
theorem dX6_commit_5 : decode cX6_commit 5 = .ok (.invokevirtual 51, 3) := by decide +kernel
theorem dX6_commit_8 : decode cX6_commit 8 = .ok (.ifCond .ne 5, 3) := by decide +kernel
theorem dX6_commit_11 : decode cX6_commit 11 = .ok (.iconst (-1), 1) := by decide +kernel
theorem dX6_commit_12 : decode cX6_commit 12 = .ok (.ireturn, 1) := by decide +kernel
theorem dX6_commit_13 : decode cX6_commit 13 = .ok (.aload_n 0, 1) := by decide +kernel
theorem dX6_commit_14 : decode cX6_commit 14 = .ok (.getfield 12, 3) := by decide +kernel
theorem dX6_commit_17 : decode cX6_commit 17 = .ok (.getfield 55, 3) := by decide +kernel
theorem dX6_commit_20 : decode cX6_commit 20 = .ok (.iload_n 1, 1) := by decide +kernel
theorem dX6_commit_21 : decode cX6_commit 21 = .ok (.aaload, 1) := by decide +kernel
theorem dX6_commit_22 : decode cX6_commit 22 = .ok (.astore_n 2, 1) := by decide +kernel
theorem dX6_commit_23 : decode cX6_commit 23 = .ok (.aload_n 2, 1) := by decide +kernel
theorem dX6_commit_24 : decode cX6_commit 24 = .ok (.invokevirtual 59, 3) := by decide +kernel
theorem dX6_commit_27 : decode cX6_commit 27 = .ok (.ifCond .ne 6, 3) := by decide +kernel
theorem dX6_commit_30 : decode cX6_commit 30 = .ok (.bipush (-4), 2) := by decide +kernel
theorem dX6_commit_32 : decode cX6_commit 32 = .ok (.ireturn, 1) := by decide +kernel
theorem dX6_commit_33 : decode cX6_commit 33 = .ok (.aload_n 0, 1) := by decide +kernel
theorem dX6_commit_34 : decode cX6_commit 34 = .ok (.getfield 12, 3) := by decide +kernel
theorem dX6_commit_37 : decode cX6_commit 37 = .ok (.aload_n 2, 1) := by decide +kernel
theorem dX6_commit_38 : decode cX6_commit 38 = .ok (.invokevirtual 130, 3) := by decide +kernel
theorem dX6_commit_41 : decode cX6_commit 41 = .ok (.ifCond .eq 6, 3) := by decide +kernel
theorem dX6_commit_44 : decode cX6_commit 44 = .ok (.bipush (-6), 2) := by decide +kernel
theorem dX6_commit_46 : decode cX6_commit 46 = .ok (.ireturn, 1) := by decide +kernel
theorem dX6_commit_47 : decode cX6_commit 47 = .ok (.aload_n 0, 1) := by decide +kernel
theorem dX6_commit_48 : decode cX6_commit 48 = .ok (.getfield 12, 3) := by decide +kernel
theorem dX6_commit_51 : decode cX6_commit 51 = .ok (.getfield 89, 3) := by decide +kernel
theorem dX6_commit_54 : decode cX6_commit 54 = .ok (.ifCond .eq 17, 3) := by decide +kernel
theorem dX6_commit_57 : decode cX6_commit 57 = .ok (.aload_n 0, 1) := by decide +kernel
theorem dX6_commit_58 : decode cX6_commit 58 = .ok (.getfield 12, 3) := by decide +kernel
theorem dX6_commit_61 : decode cX6_commit 61 = .ok (.aload_n 2, 1) := by decide +kernel
theorem dX6_commit_62 : decode cX6_commit 62 = .ok (.invokevirtual 134, 3) := by decide +kernel
theorem dX6_commit_65 : decode cX6_commit 65 = .ok (.ifCond .le 6, 3) := by decide +kernel
theorem dX6_commit_68 : decode cX6_commit 68 = .ok (.bipush (-4), 2) := by decide +kernel
theorem dX6_commit_70 : decode cX6_commit 70 = .ok (.ireturn, 1) := by decide +kernel
theorem dX6_commit_71 : decode cX6_commit 71 = .ok (.aload_n 0, 1) := by decide +kernel
theorem dX6_commit_72 : decode cX6_commit 72 = .ok (.getfield 12, 3) := by decide +kernel
theorem dX6_commit_75 : decode cX6_commit 75 = .ok (.iload_n 1, 1) := by decide +kernel
theorem dX6_commit_76 : decode cX6_commit 76 = .ok (.invokevirtual 137, 3) := by decide +kernel
theorem dX6_commit_79 : decode cX6_commit 79 = .ok (.bipush 40, 2) := by decide +kernel
theorem dX6_commit_81 : decode cX6_commit 81 = .ok (.if_icmp .le 6, 3) := by decide +kernel
theorem dX6_commit_84 : decode cX6_commit 84 = .ok (.bipush (-3), 2) := by decide +kernel
theorem dX6_commit_86 : decode cX6_commit 86 = .ok (.ireturn, 1) := by decide +kernel
theorem dX6_commit_87 : decode cX6_commit 87 = .ok (.aload_n 0, 1) := by decide +kernel
theorem dX6_commit_88 : decode cX6_commit 88 = .ok (.getfield 25, 3) := by decide +kernel
theorem dX6_commit_91 : decode cX6_commit 91 = .ok (.aload_n 0, 1) := by decide +kernel
theorem dX6_commit_92 : decode cX6_commit 92 = .ok (.getfield 12, 3) := by decide +kernel
theorem dX6_commit_95 : decode cX6_commit 95 = .ok (.invokevirtual 44, 3) := by decide +kernel
theorem dX6_commit_98 : decode cX6_commit 98 = .ok (.aload_n 0, 1) := by decide +kernel
theorem dX6_commit_99 : decode cX6_commit 99 = .ok (.getfield 12, 3) := by decide +kernel
theorem dX6_commit_102 : decode cX6_commit 102 = .ok (.iload_n 1, 1) := by decide +kernel
theorem dX6_commit_103 : decode cX6_commit 103 = .ok (.invokevirtual 140, 3) := by decide +kernel
theorem dX6_commit_106 : decode cX6_commit 106 = .ok (.aload_n 0, 1) := by decide +kernel
theorem dX6_commit_107 : decode cX6_commit 107 = .ok (.getfield 12, 3) := by decide +kernel
theorem dX6_commit_110 : decode cX6_commit 110 = .ok (.getfield 144, 3) := by decide +kernel
theorem dX6_commit_113 : decode cX6_commit 113 = .ok (.ireturn, 1) := by decide +kernel
theorem dX6_type_0 : decode cX6_type 0 = .ok (.aload_n 0, 1) := by decide +kernel
theorem dX6_type_1 : decode cX6_type 1 = .ok (.getfield 32, 3) := by decide +kernel
theorem dX6_type_4 : decode cX6_type 4 = .ok (.getfield 145, 3) := by decide +kernel
theorem dX6_type_7 : decode cX6_type 7 = .ok (.bipush 60, 2) := by decide +kernel
theorem dX6_type_9 : decode cX6_type 9 = .ok (.if_icmp .lt 6, 3) := by decide +kernel
theorem dX6_type_12 : decode cX6_type 12 = .ok (.bipush (-3), 2) := by decide +kernel
theorem dX6_type_14 : decode cX6_type 14 = .ok (.ireturn, 1) := by decide +kernel
theorem dX6_type_15 : decode cX6_type 15 = .ok (.aload_n 0, 1) := by decide +kernel
theorem dX6_type_16 : decode cX6_type 16 = .ok (.getfield 32, 3) := by decide +kernel
theorem dX6_type_19 : decode cX6_type 19 = .ok (.iload_n 1, 1) := by decide +kernel
theorem dX6_type_20 : decode cX6_type 20 = .ok (.invokevirtual 148, 3) := by decide +kernel
theorem dX6_type_23 : decode cX6_type 23 = .ok (.aload_n 0, 1) := by decide +kernel
theorem dX6_type_24 : decode cX6_type 24 = .ok (.getfield 32, 3) := by decide +kernel
theorem dX6_type_27 : decode cX6_type 27 = .ok (.getfield 145, 3) := by decide +kernel
theorem dX6_type_30 : decode cX6_type 30 = .ok (.ireturn, 1) := by decide +kernel
theorem dX6_clearText_0 : decode cX6_clearText 0 = .ok (.aload_n 0, 1) := by decide +kernel
theorem dX6_clearText_1 : decode cX6_clearText 1 = .ok (.getfield 32, 3) := by decide +kernel
theorem dX6_clearText_4 : decode cX6_clearText 4 = .ok (.getfield 145, 3) := by decide +kernel
theorem dX6_clearText_7 : decode cX6_clearText 7 = .ok (.istore_n 1, 1) := by decide +kernel
theorem dX6_clearText_8 : decode cX6_clearText 8 = .ok (.aload_n 0, 1) := by decide +kernel
theorem dX6_clearText_9 : decode cX6_clearText 9 = .ok (.getfield 32, 3) := by decide +kernel
theorem dX6_clearText_12 : decode cX6_clearText 12 = .ok (.iconst 0, 1) := by decide +kernel
theorem dX6_clearText_13 : decode cX6_clearText 13 = .ok (.putfield 145, 3) := by decide +kernel
theorem dX6_clearText_16 : decode cX6_clearText 16 = .ok (.iload_n 1, 1) := by decide +kernel
theorem dX6_clearText_17 : decode cX6_clearText 17 = .ok (.ireturn, 1) := by decide +kernel
theorem dX6_readWrites_0 : decode cX6_readWrites 0 = .ok (.aload_n 0, 1) := by decide +kernel
theorem dX6_readWrites_1 : decode cX6_readWrites 1 = .ok (.getfield 12, 3) := by decide +kernel
theorem dX6_readWrites_4 : decode cX6_readWrites 4 = .ok (.iload_n 1, 1) := by decide +kernel
theorem dX6_readWrites_5 : decode cX6_readWrites 5 = .ok (.invokevirtual 51, 3) := by decide +kernel
theorem dX6_readWrites_8 : decode cX6_readWrites 8 = .ok (.ifCond .ne 5, 3) := by decide +kernel
theorem dX6_readWrites_11 : decode cX6_readWrites 11 = .ok (.iconst (-1), 1) := by decide +kernel
theorem dX6_readWrites_12 : decode cX6_readWrites 12 = .ok (.ireturn, 1) := by decide +kernel
theorem dX6_readWrites_13 : decode cX6_readWrites 13 = .ok (.aload_n 0, 1) := by decide +kernel
theorem dX6_readWrites_14 : decode cX6_readWrites 14 = .ok (.getfield 32, 3) := by decide +kernel
theorem dX6_readWrites_17 : decode cX6_readWrites 17 = .ok (.invokevirtual 152, 3) := by decide +kernel
theorem dX6_readWrites_20 : decode cX6_readWrites 20 = .ok (.istore_n 2, 1) := by decide +kernel
theorem dX6_readWrites_21 : decode cX6_readWrites 21 = .ok (.iload_n 2, 1) := by decide +kernel
theorem dX6_readWrites_22 : decode cX6_readWrites 22 = .ok (.iconst (-1), 1) := by decide +kernel
theorem dX6_readWrites_23 : decode cX6_readWrites 23 = .ok (.if_icmp .eq 8, 3) := by decide +kernel
theorem dX6_readWrites_26 : decode cX6_readWrites 26 = .ok (.bipush (-100), 2) := by decide +kernel
theorem dX6_readWrites_28 : decode cX6_readWrites 28 = .ok (.iload_n 2, 1) := by decide +kernel
theorem dX6_readWrites_29 : decode cX6_readWrites 29 = .ok (.isub, 1) := by decide +kernel
theorem dX6_readWrites_30 : decode cX6_readWrites 30 = .ok (.ireturn, 1) := by decide +kernel
theorem dX6_readWrites_31 : decode cX6_readWrites 31 = .ok (.aload_n 0, 1) := by decide +kernel
theorem dX6_readWrites_32 : decode cX6_readWrites 32 = .ok (.getfield 32, 3) := by decide +kernel
theorem dX6_readWrites_35 : decode cX6_readWrites 35 = .ok (.invokevirtual 155, 3) := by decide +kernel
theorem dX6_readWrites_38 : decode cX6_readWrites 38 = .ok (.bipush 12, 2) := by decide +kernel
theorem dX6_readWrites_40 : decode cX6_readWrites 40 = .ok (.if_icmp .lt 5, 3) := by decide +kernel
theorem dX6_readWrites_43 : decode cX6_readWrites 43 = .ok (.iconst (-1), 1) := by decide +kernel
theorem dX6_readWrites_44 : decode cX6_readWrites 44 = .ok (.ireturn, 1) := by decide +kernel
theorem dX6_readWrites_45 : decode cX6_readWrites 45 = .ok (.aload_n 0, 1) := by decide +kernel
theorem dX6_readWrites_46 : decode cX6_readWrites 46 = .ok (.getfield 12, 3) := by decide +kernel
theorem dX6_readWrites_49 : decode cX6_readWrites 49 = .ok (.getfield 55, 3) := by decide +kernel
theorem dX6_readWrites_52 : decode cX6_readWrites 52 = .ok (.iload_n 1, 1) := by decide +kernel
theorem dX6_readWrites_53 : decode cX6_readWrites 53 = .ok (.aaload, 1) := by decide +kernel
theorem dX6_readWrites_54 : decode cX6_readWrites 54 = .ok (.astore_n 3, 1) := by decide +kernel
theorem dX6_readWrites_55 : decode cX6_readWrites 55 = .ok (.aload_n 3, 1) := by decide +kernel
theorem dX6_readWrites_56 : decode cX6_readWrites 56 = .ok (.invokevirtual 59, 3) := by decide +kernel
theorem dX6_readWrites_59 : decode cX6_readWrites 59 = .ok (.ifCond .ne 6, 3) := by decide +kernel
theorem dX6_readWrites_62 : decode cX6_readWrites 62 = .ok (.bipush (-4), 2) := by decide +kernel
theorem dX6_readWrites_64 : decode cX6_readWrites 64 = .ok (.ireturn, 1) := by decide +kernel
theorem dX6_readWrites_65 : decode cX6_readWrites 65 = .ok (.aload_n 0, 1) := by decide +kernel
theorem dX6_readWrites_66 : decode cX6_readWrites 66 = .ok (.getfield 25, 3) := by decide +kernel
theorem dX6_readWrites_69 : decode cX6_readWrites 69 = .ok (.aload_n 0, 1) := by decide +kernel
theorem dX6_readWrites_70 : decode cX6_readWrites 70 = .ok (.getfield 12, 3) := by decide +kernel
theorem dX6_readWrites_73 : decode cX6_readWrites 73 = .ok (.invokevirtual 44, 3) := by decide +kernel
theorem dX6_readWrites_76 : decode cX6_readWrites 76 = .ok (.iconst 0, 1) := by decide +kernel
theorem dX6_readWrites_77 : decode cX6_readWrites 77 = .ok (.istore 4, 2) := by decide +kernel
theorem dX6_readWrites_79 : decode cX6_readWrites 79 = .ok (.iload 4, 2) := by decide +kernel
theorem dX6_readWrites_81 : decode cX6_readWrites 81 = .ok (.aload_n 0, 1) := by decide +kernel
theorem dX6_readWrites_82 : decode cX6_readWrites 82 = .ok (.getfield 32, 3) := by decide +kernel
theorem dX6_readWrites_85 : decode cX6_readWrites 85 = .ok (.getfield 158, 3) := by decide +kernel
theorem dX6_readWrites_88 : decode cX6_readWrites 88 = .ok (.if_icmp .ge 33, 3) := by decide +kernel
theorem dX6_readWrites_91 : decode cX6_readWrites 91 = .ok (.aload_n 3, 1) := by decide +kernel
theorem dX6_readWrites_92 : decode cX6_readWrites 92 = .ok (.aload_n 0, 1) := by decide +kernel
theorem dX6_readWrites_93 : decode cX6_readWrites 93 = .ok (.getfield 32, 3) := by decide +kernel
theorem dX6_readWrites_96 : decode cX6_readWrites 96 = .ok (.getfield 160, 3) := by decide +kernel
theorem dX6_readWrites_99 : decode cX6_readWrites 99 = .ok (.iload 4, 2) := by decide +kernel
theorem dX6_readWrites_101 : decode cX6_readWrites 101 = .ok (.iaload, 1) := by decide +kernel
theorem dX6_readWrites_102 : decode cX6_readWrites 102 = .ok (.aload_n 0, 1) := by decide +kernel
theorem dX6_readWrites_103 : decode cX6_readWrites 103 = .ok (.getfield 32, 3) := by decide +kernel
theorem dX6_readWrites_106 : decode cX6_readWrites 106 = .ok (.getfield 162, 3) := by decide +kernel
theorem dX6_readWrites_109 : decode cX6_readWrites 109 = .ok (.iload 4, 2) := by decide +kernel
theorem dX6_readWrites_111 : decode cX6_readWrites 111 = .ok (.iaload, 1) := by decide +kernel
theorem dX6_readWrites_112 : decode cX6_readWrites 112 = .ok (.invokevirtual 124, 3) := by decide +kernel
theorem dX6_readWrites_115 : decode cX6_readWrites 115 = .ok (.iinc 4 1, 3) := by decide +kernel
theorem dX6_readWrites_118 : decode cX6_readWrites 118 = .ok (.goto (-39), 3) := by decide +kernel
theorem dX6_readWrites_121 : decode cX6_readWrites 121 = .ok (.aload_n 3, 1) := by decide +kernel
theorem dX6_readWrites_122 : decode cX6_readWrites 122 = .ok (.invokevirtual 127, 3) := by decide +kernel
theorem dX6_readWrites_125 : decode cX6_readWrites 125 = .ok (.ireturn, 1) := by decide +kernel
theorem dX6_undo_0 : decode cX6_undo 0 = .ok (.aload_n 0, 1) := by decide +kernel
theorem dX6_undo_1 : decode cX6_undo 1 = .ok (.getfield 25, 3) := by decide +kernel
theorem dX6_undo_4 : decode cX6_undo 4 = .ok (.getfield 165, 3) := by decide +kernel
theorem dX6_undo_7 : decode cX6_undo 7 = .ok (.ifCond .ne 6, 3) := by decide +kernel
theorem dX6_undo_10 : decode cX6_undo 10 = .ok (.bipush (-5), 2) := by decide +kernel
theorem dX6_undo_12 : decode cX6_undo 12 = .ok (.ireturn, 1) := by decide +kernel
theorem dX6_undo_13 : decode cX6_undo 13 = .ok (.aload_n 0, 1) := by decide +kernel
theorem dX6_undo_14 : decode cX6_undo 14 = .ok (.getfield 25, 3) := by decide +kernel
theorem dX6_undo_17 : decode cX6_undo 17 = .ok (.aload_n 0, 1) := by decide +kernel
theorem dX6_undo_18 : decode cX6_undo 18 = .ok (.getfield 12, 3) := by decide +kernel
theorem dX6_undo_21 : decode cX6_undo 21 = .ok (.invokevirtual 166, 3) := by decide +kernel
theorem dX6_undo_24 : decode cX6_undo 24 = .ok (.aload_n 0, 1) := by decide +kernel
theorem dX6_undo_25 : decode cX6_undo 25 = .ok (.getfield 25, 3) := by decide +kernel
theorem dX6_undo_28 : decode cX6_undo 28 = .ok (.getfield 165, 3) := by decide +kernel
theorem dX6_undo_31 : decode cX6_undo 31 = .ok (.ireturn, 1) := by decide +kernel
theorem dX6_keep_0 : decode cX6_keep 0 = .ok (.aload_n 0, 1) := by decide +kernel
theorem dX6_keep_1 : decode cX6_keep 1 = .ok (.getfield 19, 3) := by decide +kernel
theorem dX6_keep_4 : decode cX6_keep 4 = .ok (.aload_n 0, 1) := by decide +kernel
theorem dX6_keep_5 : decode cX6_keep 5 = .ok (.getfield 12, 3) := by decide +kernel
theorem dX6_keep_8 : decode cX6_keep 8 = .ok (.invokevirtual 169, 3) := by decide +kernel
theorem dX6_keep_11 : decode cX6_keep 11 = .ok (.aload_n 0, 1) := by decide +kernel
theorem dX6_keep_12 : decode cX6_keep 12 = .ok (.iconst 1, 1) := by decide +kernel
theorem dX6_keep_13 : decode cX6_keep 13 = .ok (.putfield 172, 3) := by decide +kernel
theorem dX6_keep_16 : decode cX6_keep 16 = .ok (.aload_n 0, 1) := by decide +kernel
theorem dX6_keep_17 : decode cX6_keep 17 = .ok (.getfield 12, 3) := by decide +kernel
theorem dX6_keep_20 : decode cX6_keep 20 = .ok (.getfield 144, 3) := by decide +kernel
theorem dX6_keep_23 : decode cX6_keep 23 = .ok (.ireturn, 1) := by decide +kernel
theorem dX6_restore_0 : decode cX6_restore 0 = .ok (.aload_n 0, 1) := by decide +kernel
theorem dX6_restore_1 : decode cX6_restore 1 = .ok (.getfield 172, 3) := by decide +kernel
theorem dX6_restore_4 : decode cX6_restore 4 = .ok (.ifCond .ne 6, 3) := by decide +kernel
theorem dX6_restore_7 : decode cX6_restore 7 = .ok (.bipush (-5), 2) := by decide +kernel
theorem dX6_restore_9 : decode cX6_restore 9 = .ok (.ireturn, 1) := by decide +kernel
theorem dX6_restore_10 : decode cX6_restore 10 = .ok (.aload_n 0, 1) := by decide +kernel
theorem dX6_restore_11 : decode cX6_restore 11 = .ok (.getfield 25, 3) := by decide +kernel
theorem dX6_restore_14 : decode cX6_restore 14 = .ok (.aload_n 0, 1) := by decide +kernel
theorem dX6_restore_15 : decode cX6_restore 15 = .ok (.getfield 12, 3) := by decide +kernel
theorem dX6_restore_18 : decode cX6_restore 18 = .ok (.invokevirtual 44, 3) := by decide +kernel
theorem dX6_restore_21 : decode cX6_restore 21 = .ok (.aload_n 0, 1) := by decide +kernel
theorem dX6_restore_22 : decode cX6_restore 22 = .ok (.getfield 12, 3) := by decide +kernel
theorem dX6_restore_25 : decode cX6_restore 25 = .ok (.aload_n 0, 1) := by decide +kernel
theorem dX6_restore_26 : decode cX6_restore 26 = .ok (.getfield 19, 3) := by decide +kernel
theorem dX6_restore_29 : decode cX6_restore 29 = .ok (.invokevirtual 169, 3) := by decide +kernel
theorem dX6_restore_32 : decode cX6_restore 32 = .ok (.aload_n 0, 1) := by decide +kernel
theorem dX6_restore_33 : decode cX6_restore 33 = .ok (.getfield 12, 3) := by decide +kernel
theorem dX6_restore_36 : decode cX6_restore 36 = .ok (.getfield 144, 3) := by decide +kernel
theorem dX6_restore_39 : decode cX6_restore 39 = .ok (.ireturn, 1) := by decide +kernel
theorem dX6_cell_0 : decode cX6_cell 0 = .ok (.iload_n 1, 1) := by decide +kernel
theorem dX6_cell_1 : decode cX6_cell 1 = .ok (.invokestatic 99, 3) := by decide +kernel
theorem dX6_cell_4 : decode cX6_cell 4 = .ok (.ifCond .ne 5, 3) := by decide +kernel
theorem dX6_cell_7 : decode cX6_cell 7 = .ok (.iconst (-1), 1) := by decide +kernel
theorem dX6_cell_8 : decode cX6_cell 8 = .ok (.ireturn, 1) := by decide +kernel
theorem dX6_cell_9 : decode cX6_cell 9 = .ok (.aload_n 0, 1) := by decide +kernel
theorem dX6_cell_10 : decode cX6_cell 10 = .ok (.getfield 12, 3) := by decide +kernel
theorem dX6_cell_13 : decode cX6_cell 13 = .ok (.getfield 112, 3) := by decide +kernel
theorem dX6_cell_16 : decode cX6_cell 16 = .ok (.iload_n 1, 1) := by decide +kernel
theorem dX6_cell_17 : decode cX6_cell 17 = .ok (.aaload, 1) := by decide +kernel
theorem dX6_cell_18 : decode cX6_cell 18 = .ok (.astore_n 3, 1) := by decide +kernel
theorem dX6_cell_19 : decode cX6_cell 19 = .ok (.iload_n 2, 1) := by decide +kernel
theorem dX6_cell_20 : decode cX6_cell 20 = .ok (.tableswitch 74 0 4 #[36, 43, 50, 55, 65], 36) := by decide +kernel
theorem dX6_cell_56 : decode cX6_cell 56 = .ok (.aload_n 3, 1) := by decide +kernel
theorem dX6_cell_57 : decode cX6_cell 57 = .ok (.getfield 175, 3) := by decide +kernel
theorem dX6_cell_60 : decode cX6_cell 60 = .ok (.iconst 0, 1) := by decide +kernel
theorem dX6_cell_61 : decode cX6_cell 61 = .ok (.iaload, 1) := by decide +kernel
theorem dX6_cell_62 : decode cX6_cell 62 = .ok (.ireturn, 1) := by decide +kernel
theorem dX6_cell_63 : decode cX6_cell 63 = .ok (.aload_n 3, 1) := by decide +kernel
theorem dX6_cell_64 : decode cX6_cell 64 = .ok (.getfield 176, 3) := by decide +kernel
theorem dX6_cell_67 : decode cX6_cell 67 = .ok (.iconst 0, 1) := by decide +kernel
theorem dX6_cell_68 : decode cX6_cell 68 = .ok (.iaload, 1) := by decide +kernel
theorem dX6_cell_69 : decode cX6_cell 69 = .ok (.ireturn, 1) := by decide +kernel
theorem dX6_cell_70 : decode cX6_cell 70 = .ok (.aload_n 3, 1) := by decide +kernel
theorem dX6_cell_71 : decode cX6_cell 71 = .ok (.getfield 179, 3) := by decide +kernel
theorem dX6_cell_74 : decode cX6_cell 74 = .ok (.ireturn, 1) := by decide +kernel
theorem dX6_cell_75 : decode cX6_cell 75 = .ok (.aload_n 0, 1) := by decide +kernel
theorem dX6_cell_76 : decode cX6_cell 76 = .ok (.getfield 12, 3) := by decide +kernel
theorem dX6_cell_79 : decode cX6_cell 79 = .ok (.aload_n 3, 1) := by decide +kernel
theorem dX6_cell_80 : decode cX6_cell 80 = .ok (.iconst 0, 1) := by decide +kernel
theorem dX6_cell_81 : decode cX6_cell 81 = .ok (.invokevirtual 182, 3) := by decide +kernel
theorem dX6_cell_84 : decode cX6_cell 84 = .ok (.ireturn, 1) := by decide +kernel
theorem dX6_cell_85 : decode cX6_cell 85 = .ok (.aload_n 0, 1) := by decide +kernel
theorem dX6_cell_86 : decode cX6_cell 86 = .ok (.getfield 12, 3) := by decide +kernel
theorem dX6_cell_89 : decode cX6_cell 89 = .ok (.iload_n 1, 1) := by decide +kernel
theorem dX6_cell_90 : decode cX6_cell 90 = .ok (.invokevirtual 186, 3) := by decide +kernel
theorem dX6_cell_93 : decode cX6_cell 93 = .ok (.ireturn, 1) := by decide +kernel
theorem dX6_cell_94 : decode cX6_cell 94 = .ok (.bipush (-2), 2) := by decide +kernel
theorem dX6_cell_96 : decode cX6_cell 96 = .ok (.ireturn, 1) := by decide +kernel
theorem dX6_version_0 : decode cX6_version 0 = .ok (.iload_n 1, 1) := by decide +kernel
theorem dX6_version_1 : decode cX6_version 1 = .ok (.invokestatic 99, 3) := by decide +kernel
theorem dX6_version_4 : decode cX6_version 4 = .ok (.ifCond .ne 5, 3) := by decide +kernel
theorem dX6_version_7 : decode cX6_version 7 = .ok (.iconst (-1), 1) := by decide +kernel
theorem dX6_version_8 : decode cX6_version 8 = .ok (.ireturn, 1) := by decide +kernel
theorem dX6_version_9 : decode cX6_version 9 = .ok (.iload_n 2, 1) := by decide +kernel
theorem dX6_version_10 : decode cX6_version 10 = .ok (.ifCond .lt 12, 3) := by decide +kernel
theorem dX6_version_13 : decode cX6_version 13 = .ok (.iload_n 3, 1) := by decide +kernel
theorem dX6_version_14 : decode cX6_version 14 = .ok (.ifCond .lt 8, 3) := by decide +kernel
theorem dX6_version_17 : decode cX6_version 17 = .ok (.iload_n 3, 1) := by decide +kernel
theorem dX6_version_18 : decode cX6_version 18 = .ok (.iconst 4, 1) := by decide +kernel
theorem dX6_version_19 : decode cX6_version 19 = .ok (.if_icmp .le 6, 3) := by decide +kernel
theorem dX6_version_22 : decode cX6_version 22 = .ok (.bipush (-2), 2) := by decide +kernel
theorem dX6_version_24 : decode cX6_version 24 = .ok (.ireturn, 1) := by decide +kernel
theorem dX6_version_25 : decode cX6_version 25 = .ok (.aload_n 0, 1) := by decide +kernel
theorem dX6_version_26 : decode cX6_version 26 = .ok (.getfield 12, 3) := by decide +kernel
theorem dX6_version_29 : decode cX6_version 29 = .ok (.getfield 112, 3) := by decide +kernel
theorem dX6_version_32 : decode cX6_version 32 = .ok (.iload_n 1, 1) := by decide +kernel
theorem dX6_version_33 : decode cX6_version 33 = .ok (.aaload, 1) := by decide +kernel
theorem dX6_version_34 : decode cX6_version 34 = .ok (.astore 4, 2) := by decide +kernel
theorem dX6_version_36 : decode cX6_version 36 = .ok (.iload_n 2, 1) := by decide +kernel
theorem dX6_version_37 : decode cX6_version 37 = .ok (.aload 4, 2) := by decide +kernel
theorem dX6_version_39 : decode cX6_version 39 = .ok (.getfield 179, 3) := by decide +kernel
theorem dX6_version_42 : decode cX6_version 42 = .ok (.if_icmp .lt 6, 3) := by decide +kernel
theorem dX6_version_45 : decode cX6_version 45 = .ok (.bipush (-5), 2) := by decide +kernel
theorem dX6_version_47 : decode cX6_version 47 = .ok (.ireturn, 1) := by decide +kernel
theorem dX6_version_48 : decode cX6_version 48 = .ok (.iload_n 3, 1) := by decide +kernel
theorem dX6_version_49 : decode cX6_version 49 = .ok (.tableswitch 69 0 3 #[31, 39, 47, 58], 31) := by decide +kernel
theorem dX6_version_80 : decode cX6_version 80 = .ok (.aload 4, 2) := by decide +kernel
theorem dX6_version_82 : decode cX6_version 82 = .ok (.getfield 175, 3) := by decide +kernel
theorem dX6_version_85 : decode cX6_version 85 = .ok (.iload_n 2, 1) := by decide +kernel
theorem dX6_version_86 : decode cX6_version 86 = .ok (.iaload, 1) := by decide +kernel
theorem dX6_version_87 : decode cX6_version 87 = .ok (.ireturn, 1) := by decide +kernel
theorem dX6_version_88 : decode cX6_version 88 = .ok (.aload 4, 2) := by decide +kernel
theorem dX6_version_90 : decode cX6_version 90 = .ok (.getfield 176, 3) := by decide +kernel
theorem dX6_version_93 : decode cX6_version 93 = .ok (.iload_n 2, 1) := by decide +kernel
theorem dX6_version_94 : decode cX6_version 94 = .ok (.iaload, 1) := by decide +kernel
theorem dX6_version_95 : decode cX6_version 95 = .ok (.ireturn, 1) := by decide +kernel
theorem dX6_version_96 : decode cX6_version 96 = .ok (.aload_n 0, 1) := by decide +kernel
theorem dX6_version_97 : decode cX6_version 97 = .ok (.getfield 12, 3) := by decide +kernel
theorem dX6_version_100 : decode cX6_version 100 = .ok (.aload 4, 2) := by decide +kernel
theorem dX6_version_102 : decode cX6_version 102 = .ok (.iload_n 2, 1) := by decide +kernel
theorem dX6_version_103 : decode cX6_version 103 = .ok (.invokevirtual 182, 3) := by decide +kernel
theorem dX6_version_106 : decode cX6_version 106 = .ok (.ireturn, 1) := by decide +kernel
theorem dX6_version_107 : decode cX6_version 107 = .ok (.aload_n 0, 1) := by decide +kernel
theorem dX6_version_108 : decode cX6_version 108 = .ok (.getfield 12, 3) := by decide +kernel
theorem dX6_version_111 : decode cX6_version 111 = .ok (.aload 4, 2) := by decide +kernel
theorem dX6_version_113 : decode cX6_version 113 = .ok (.iload_n 2, 1) := by decide +kernel
theorem dX6_version_114 : decode cX6_version 114 = .ok (.invokevirtual 189, 3) := by decide +kernel
theorem dX6_version_117 : decode cX6_version 117 = .ok (.ireturn, 1) := by decide +kernel
theorem dX6_version_118 : decode cX6_version 118 = .ok (.aload_n 0, 1) := by decide +kernel
theorem dX6_version_119 : decode cX6_version 119 = .ok (.getfield 12, 3) := by decide +kernel
theorem dX6_version_122 : decode cX6_version 122 = .ok (.aload 4, 2) := by decide +kernel
theorem dX6_version_124 : decode cX6_version 124 = .ok (.iload_n 2, 1) := by decide +kernel
theorem dX6_version_125 : decode cX6_version 125 = .ok (.invokevirtual 192, 3) := by decide +kernel
theorem dX6_version_128 : decode cX6_version 128 = .ok (.ireturn, 1) := by decide +kernel
theorem dX6_reader_0 : decode cX6_reader 0 = .ok (.aload_n 0, 1) := by decide +kernel
theorem dX6_reader_1 : decode cX6_reader 1 = .ok (.getfield 12, 3) := by decide +kernel
theorem dX6_reader_4 : decode cX6_reader 4 = .ok (.iload_n 1, 1) := by decide +kernel
theorem dX6_reader_5 : decode cX6_reader 5 = .ok (.invokevirtual 51, 3) := by decide +kernel
theorem dX6_reader_8 : decode cX6_reader 8 = .ok (.ifCond .ne 5, 3) := by decide +kernel
theorem dX6_reader_11 : decode cX6_reader 11 = .ok (.iconst (-1), 1) := by decide +kernel
theorem dX6_reader_12 : decode cX6_reader 12 = .ok (.ireturn, 1) := by decide +kernel
theorem dX6_reader_13 : decode cX6_reader 13 = .ok (.aload_n 0, 1) := by decide +kernel
theorem dX6_reader_14 : decode cX6_reader 14 = .ok (.getfield 12, 3) := by decide +kernel
theorem dX6_reader_17 : decode cX6_reader 17 = .ok (.getfield 55, 3) := by decide +kernel
theorem dX6_reader_20 : decode cX6_reader 20 = .ok (.iload_n 1, 1) := by decide +kernel
theorem dX6_reader_21 : decode cX6_reader 21 = .ok (.aaload, 1) := by decide +kernel
theorem dX6_reader_22 : decode cX6_reader 22 = .ok (.astore_n 3, 1) := by decide +kernel
theorem dX6_reader_23 : decode cX6_reader 23 = .ok (.iload_n 2, 1) := by decide +kernel
theorem dX6_reader_24 : decode cX6_reader 24 = .ok (.tableswitch 192 0 11 #[64, 69, 74, 79, 88, 93, 98, 103, 108, 128, 148, 172], 64) := by decide +kernel
theorem dX6_reader_88 : decode cX6_reader 88 = .ok (.aload_n 3, 1) := by decide +kernel
theorem dX6_reader_89 : decode cX6_reader 89 = .ok (.getfield 79, 3) := by decide +kernel
theorem dX6_reader_92 : decode cX6_reader 92 = .ok (.ireturn, 1) := by decide +kernel
theorem dX6_reader_93 : decode cX6_reader 93 = .ok (.aload_n 3, 1) := by decide +kernel
theorem dX6_reader_94 : decode cX6_reader 94 = .ok (.getfield 116, 3) := by decide +kernel
theorem dX6_reader_97 : decode cX6_reader 97 = .ok (.ireturn, 1) := by decide +kernel
theorem dX6_reader_98 : decode cX6_reader 98 = .ok (.aload_n 3, 1) := by decide +kernel
theorem dX6_reader_99 : decode cX6_reader 99 = .ok (.getfield 65, 3) := by decide +kernel
theorem dX6_reader_102 : decode cX6_reader 102 = .ok (.ireturn, 1) := by decide +kernel
theorem dX6_reader_103 : decode cX6_reader 103 = .ok (.aload_n 0, 1) := by decide +kernel
theorem dX6_reader_104 : decode cX6_reader 104 = .ok (.getfield 12, 3) := by decide +kernel
theorem dX6_reader_107 : decode cX6_reader 107 = .ok (.aload_n 3, 1) := by decide +kernel
theorem dX6_reader_108 : decode cX6_reader 108 = .ok (.invokevirtual 72, 3) := by decide +kernel
theorem dX6_reader_111 : decode cX6_reader 111 = .ok (.ireturn, 1) := by decide +kernel
theorem dX6_reader_112 : decode cX6_reader 112 = .ok (.aload_n 3, 1) := by decide +kernel
theorem dX6_reader_113 : decode cX6_reader 113 = .ok (.getfield 109, 3) := by decide +kernel
theorem dX6_reader_116 : decode cX6_reader 116 = .ok (.ireturn, 1) := by decide +kernel
theorem dX6_reader_117 : decode cX6_reader 117 = .ok (.aload_n 3, 1) := by decide +kernel
theorem dX6_reader_118 : decode cX6_reader 118 = .ok (.getfield 195, 3) := by decide +kernel
theorem dX6_reader_121 : decode cX6_reader 121 = .ok (.ireturn, 1) := by decide +kernel
theorem dX6_reader_122 : decode cX6_reader 122 = .ok (.aload_n 3, 1) := by decide +kernel
theorem dX6_reader_123 : decode cX6_reader 123 = .ok (.getfield 76, 3) := by decide +kernel
theorem dX6_reader_126 : decode cX6_reader 126 = .ok (.ireturn, 1) := by decide +kernel
theorem dX6_reader_127 : decode cX6_reader 127 = .ok (.aload_n 3, 1) := by decide +kernel
theorem dX6_reader_128 : decode cX6_reader 128 = .ok (.getfield 198, 3) := by decide +kernel
theorem dX6_reader_131 : decode cX6_reader 131 = .ok (.ireturn, 1) := by decide +kernel
theorem dX6_reader_132 : decode cX6_reader 132 = .ok (.aload_n 3, 1) := by decide +kernel
theorem dX6_reader_133 : decode cX6_reader 133 = .ok (.invokevirtual 59, 3) := by decide +kernel
theorem dX6_reader_136 : decode cX6_reader 136 = .ok (.ifCond .eq 14, 3) := by decide +kernel
theorem dX6_reader_139 : decode cX6_reader 139 = .ok (.aload_n 0, 1) := by decide +kernel
theorem dX6_reader_140 : decode cX6_reader 140 = .ok (.getfield 12, 3) := by decide +kernel
theorem dX6_reader_143 : decode cX6_reader 143 = .ok (.aload_n 3, 1) := by decide +kernel
theorem dX6_reader_144 : decode cX6_reader 144 = .ok (.invokevirtual 201, 3) := by decide +kernel
theorem dX6_reader_147 : decode cX6_reader 147 = .ok (.goto 4, 3) := by decide +kernel
theorem dX6_reader_150 : decode cX6_reader 150 = .ok (.iconst 0, 1) := by decide +kernel
theorem dX6_reader_151 : decode cX6_reader 151 = .ok (.ireturn, 1) := by decide +kernel
theorem dX6_reader_152 : decode cX6_reader 152 = .ok (.aload_n 3, 1) := by decide +kernel
theorem dX6_reader_153 : decode cX6_reader 153 = .ok (.invokevirtual 59, 3) := by decide +kernel
theorem dX6_reader_156 : decode cX6_reader 156 = .ok (.ifCond .eq 14, 3) := by decide +kernel
theorem dX6_reader_159 : decode cX6_reader 159 = .ok (.aload_n 0, 1) := by decide +kernel
theorem dX6_reader_160 : decode cX6_reader 160 = .ok (.getfield 12, 3) := by decide +kernel
theorem dX6_reader_163 : decode cX6_reader 163 = .ok (.aload_n 3, 1) := by decide +kernel
theorem dX6_reader_164 : decode cX6_reader 164 = .ok (.invokevirtual 204, 3) := by decide +kernel
theorem dX6_reader_167 : decode cX6_reader 167 = .ok (.goto 4, 3) := by decide +kernel
theorem dX6_reader_170 : decode cX6_reader 170 = .ok (.iconst 0, 1) := by decide +kernel
theorem dX6_reader_171 : decode cX6_reader 171 = .ok (.ireturn, 1) := by decide +kernel
theorem dX6_reader_172 : decode cX6_reader 172 = .ok (.aload_n 3, 1) := by decide +kernel
theorem dX6_reader_173 : decode cX6_reader 173 = .ok (.invokevirtual 59, 3) := by decide +kernel
theorem dX6_reader_176 : decode cX6_reader 176 = .ok (.ifCond .eq 18, 3) := by decide +kernel
theorem dX6_reader_179 : decode cX6_reader 179 = .ok (.aload_n 0, 1) := by decide +kernel
theorem dX6_reader_180 : decode cX6_reader 180 = .ok (.getfield 12, 3) := by decide +kernel
theorem dX6_reader_183 : decode cX6_reader 183 = .ok (.aload_n 3, 1) := by decide +kernel
theorem dX6_reader_184 : decode cX6_reader 184 = .ok (.invokevirtual 130, 3) := by decide +kernel
theorem dX6_reader_187 : decode cX6_reader 187 = .ok (.ifCond .eq 7, 3) := by decide +kernel
theorem dX6_reader_190 : decode cX6_reader 190 = .ok (.iconst 1, 1) := by decide +kernel
theorem dX6_reader_191 : decode cX6_reader 191 = .ok (.goto 4, 3) := by decide +kernel
theorem dX6_reader_194 : decode cX6_reader 194 = .ok (.iconst 0, 1) := by decide +kernel
theorem dX6_reader_195 : decode cX6_reader 195 = .ok (.ireturn, 1) := by decide +kernel
theorem dX6_reader_196 : decode cX6_reader 196 = .ok (.aload_n 3, 1) := by decide +kernel
theorem dX6_reader_197 : decode cX6_reader 197 = .ok (.invokevirtual 59, 3) := by decide +kernel
theorem dX6_reader_200 : decode cX6_reader 200 = .ok (.ifCond .eq 14, 3) := by decide +kernel
theorem dX6_reader_203 : decode cX6_reader 203 = .ok (.aload_n 0, 1) := by decide +kernel
theorem dX6_reader_204 : decode cX6_reader 204 = .ok (.getfield 12, 3) := by decide +kernel
theorem dX6_reader_207 : decode cX6_reader 207 = .ok (.aload_n 3, 1) := by decide +kernel
theorem dX6_reader_208 : decode cX6_reader 208 = .ok (.invokevirtual 134, 3) := by decide +kernel
theorem dX6_reader_211 : decode cX6_reader 211 = .ok (.goto 4, 3) := by decide +kernel
theorem dX6_reader_214 : decode cX6_reader 214 = .ok (.iconst 0, 1) := by decide +kernel
theorem dX6_reader_215 : decode cX6_reader 215 = .ok (.ireturn, 1) := by decide +kernel
theorem dX6_reader_216 : decode cX6_reader 216 = .ok (.bipush (-2), 2) := by decide +kernel
theorem dX6_reader_218 : decode cX6_reader 218 = .ok (.ireturn, 1) := by decide +kernel
theorem dX6_lasts_0 : decode cX6_lasts 0 = .ok (.aload_n 0, 1) := by decide +kernel
theorem dX6_lasts_1 : decode cX6_lasts 1 = .ok (.getfield 12, 3) := by decide +kernel
theorem dX6_lasts_4 : decode cX6_lasts 4 = .ok (.iload_n 1, 1) := by decide +kernel
theorem dX6_lasts_5 : decode cX6_lasts 5 = .ok (.invokevirtual 51, 3) := by decide +kernel
theorem dX6_lasts_8 : decode cX6_lasts 8 = .ok (.ifCond .ne 5, 3) := by decide +kernel
theorem dX6_lasts_11 : decode cX6_lasts 11 = .ok (.iconst (-1), 1) := by decide +kernel
theorem dX6_lasts_12 : decode cX6_lasts 12 = .ok (.ireturn, 1) := by decide +kernel
theorem dX6_lasts_13 : decode cX6_lasts 13 = .ok (.aload_n 0, 1) := by decide +kernel
theorem dX6_lasts_14 : decode cX6_lasts 14 = .ok (.getfield 12, 3) := by decide +kernel
theorem dX6_lasts_17 : decode cX6_lasts 17 = .ok (.getfield 55, 3) := by decide +kernel
theorem dX6_lasts_20 : decode cX6_lasts 20 = .ok (.iload_n 1, 1) := by decide +kernel
theorem dX6_lasts_21 : decode cX6_lasts 21 = .ok (.aaload, 1) := by decide +kernel
theorem dX6_lasts_22 : decode cX6_lasts 22 = .ok (.invokevirtual 59, 3) := by decide +kernel
theorem dX6_lasts_25 : decode cX6_lasts 25 = .ok (.ifCond .ne 6, 3) := by decide +kernel
theorem dX6_lasts_28 : decode cX6_lasts 28 = .ok (.bipush (-4), 2) := by decide +kernel
theorem dX6_lasts_30 : decode cX6_lasts 30 = .ok (.ireturn, 1) := by decide +kernel
theorem dX6_lasts_31 : decode cX6_lasts 31 = .ok (.aload_n 0, 1) := by decide +kernel
theorem dX6_lasts_32 : decode cX6_lasts 32 = .ok (.getfield 16, 3) := by decide +kernel
theorem dX6_lasts_35 : decode cX6_lasts 35 = .ok (.aload_n 0, 1) := by decide +kernel
theorem dX6_lasts_36 : decode cX6_lasts 36 = .ok (.getfield 12, 3) := by decide +kernel
theorem dX6_lasts_39 : decode cX6_lasts 39 = .ok (.invokevirtual 169, 3) := by decide +kernel
theorem dX6_lasts_42 : decode cX6_lasts 42 = .ok (.aload_n 0, 1) := by decide +kernel
theorem dX6_lasts_43 : decode cX6_lasts 43 = .ok (.getfield 16, 3) := by decide +kernel
theorem dX6_lasts_46 : decode cX6_lasts 46 = .ok (.sipush 200, 3) := by decide +kernel
theorem dX6_lasts_49 : decode cX6_lasts 49 = .ok (.iload_n 1, 1) := by decide +kernel
theorem dX6_lasts_50 : decode cX6_lasts 50 = .ok (.invokevirtual 95, 3) := by decide +kernel
theorem dX6_lasts_53 : decode cX6_lasts 53 = .ok (.aload_n 0, 1) := by decide +kernel
theorem dX6_lasts_54 : decode cX6_lasts 54 = .ok (.getfield 16, 3) := by decide +kernel
theorem dX6_lasts_57 : decode cX6_lasts 57 = .ok (.getfield 55, 3) := by decide +kernel
theorem dX6_lasts_60 : decode cX6_lasts 60 = .ok (.iload_n 1, 1) := by decide +kernel
theorem dX6_lasts_61 : decode cX6_lasts 61 = .ok (.aaload, 1) := by decide +kernel
theorem dX6_lasts_62 : decode cX6_lasts 62 = .ok (.invokevirtual 59, 3) := by decide +kernel
theorem dX6_lasts_65 : decode cX6_lasts 65 = .ok (.ifCond .eq 8, 3) := by decide +kernel
theorem dX6_lasts_68 : decode cX6_lasts 68 = .ok (.bipush (-5), 2) := by decide +kernel
theorem dX6_lasts_70 : decode cX6_lasts 70 = .ok (.goto 18, 3) := by decide +kernel
theorem dX6_lasts_73 : decode cX6_lasts 73 = .ok (.aload_n 0, 1) := by decide +kernel
theorem dX6_lasts_74 : decode cX6_lasts 74 = .ok (.getfield 16, 3) := by decide +kernel
theorem dX6_lasts_77 : decode cX6_lasts 77 = .ok (.getfield 207, 3) := by decide +kernel
theorem dX6_lasts_80 : decode cX6_lasts 80 = .ok (.aload_n 0, 1) := by decide +kernel
theorem dX6_lasts_81 : decode cX6_lasts 81 = .ok (.getfield 12, 3) := by decide +kernel
theorem dX6_lasts_84 : decode cX6_lasts 84 = .ok (.getfield 207, 3) := by decide +kernel
theorem dX6_lasts_87 : decode cX6_lasts 87 = .ok (.isub, 1) := by decide +kernel
theorem dX6_lasts_88 : decode cX6_lasts 88 = .ok (.ireturn, 1) := by decide +kernel
theorem dX6_committed_0 : decode cX6_committed 0 = .ok (.iload_n 1, 1) := by decide +kernel
theorem dX6_committed_1 : decode cX6_committed 1 = .ok (.ifCond .lt 14, 3) := by decide +kernel
theorem dX6_committed_4 : decode cX6_committed 4 = .ok (.iload_n 1, 1) := by decide +kernel
theorem dX6_committed_5 : decode cX6_committed 5 = .ok (.aload_n 0, 1) := by decide +kernel
theorem dX6_committed_6 : decode cX6_committed 6 = .ok (.getfield 12, 3) := by decide +kernel
theorem dX6_committed_9 : decode cX6_committed 9 = .ok (.getfield 210, 3) := by decide +kernel
theorem dX6_committed_12 : decode cX6_committed 12 = .ok (.if_icmp .lt 5, 3) := by decide +kernel
theorem dX6_committed_15 : decode cX6_committed 15 = .ok (.iconst (-1), 1) := by decide +kernel
theorem dX6_committed_16 : decode cX6_committed 16 = .ok (.ireturn, 1) := by decide +kernel
theorem dX6_committed_17 : decode cX6_committed 17 = .ok (.aload_n 0, 1) := by decide +kernel
theorem dX6_committed_18 : decode cX6_committed 18 = .ok (.getfield 12, 3) := by decide +kernel
theorem dX6_committed_21 : decode cX6_committed 21 = .ok (.getfield 213, 3) := by decide +kernel
theorem dX6_committed_24 : decode cX6_committed 24 = .ok (.iload_n 1, 1) := by decide +kernel
theorem dX6_committed_25 : decode cX6_committed 25 = .ok (.aaload, 1) := by decide +kernel
theorem dX6_committed_26 : decode cX6_committed 26 = .ok (.astore_n 3, 1) := by decide +kernel
theorem dX6_committed_27 : decode cX6_committed 27 = .ok (.iload_n 2, 1) := by decide +kernel
theorem dX6_committed_28 : decode cX6_committed 28 = .ok (.tableswitch 70 0 5 #[40, 45, 50, 55, 60, 65], 40) := by decide +kernel
theorem dX6_committed_68 : decode cX6_committed 68 = .ok (.aload_n 3, 1) := by decide +kernel
theorem dX6_committed_69 : decode cX6_committed 69 = .ok (.getfield 217, 3) := by decide +kernel
theorem dX6_committed_72 : decode cX6_committed 72 = .ok (.ireturn, 1) := by decide +kernel
theorem dX6_committed_73 : decode cX6_committed 73 = .ok (.aload_n 3, 1) := by decide +kernel
theorem dX6_committed_74 : decode cX6_committed 74 = .ok (.getfield 222, 3) := by decide +kernel
theorem dX6_committed_77 : decode cX6_committed 77 = .ok (.ireturn, 1) := by decide +kernel
theorem dX6_committed_78 : decode cX6_committed 78 = .ok (.aload_n 3, 1) := by decide +kernel
theorem dX6_committed_79 : decode cX6_committed 79 = .ok (.getfield 225, 3) := by decide +kernel
theorem dX6_committed_82 : decode cX6_committed 82 = .ok (.ireturn, 1) := by decide +kernel
theorem dX6_committed_83 : decode cX6_committed 83 = .ok (.aload_n 3, 1) := by decide +kernel
theorem dX6_committed_84 : decode cX6_committed 84 = .ok (.getfield 228, 3) := by decide +kernel
theorem dX6_committed_87 : decode cX6_committed 87 = .ok (.ireturn, 1) := by decide +kernel
theorem dX6_committed_88 : decode cX6_committed 88 = .ok (.aload_n 3, 1) := by decide +kernel
theorem dX6_committed_89 : decode cX6_committed 89 = .ok (.getfield 229, 3) := by decide +kernel
theorem dX6_committed_92 : decode cX6_committed 92 = .ok (.ireturn, 1) := by decide +kernel
theorem dX6_committed_93 : decode cX6_committed 93 = .ok (.aload_n 3, 1) := by decide +kernel
theorem dX6_committed_94 : decode cX6_committed 94 = .ok (.getfield 230, 3) := by decide +kernel
theorem dX6_committed_97 : decode cX6_committed 97 = .ok (.ireturn, 1) := by decide +kernel
theorem dX6_committed_98 : decode cX6_committed 98 = .ok (.bipush (-2), 2) := by decide +kernel
theorem dX6_committed_100 : decode cX6_committed 100 = .ok (.ireturn, 1) := by decide +kernel
theorem dX6_count_0 : decode cX6_count 0 = .ok (.iload_n 1, 1) := by decide +kernel
theorem dX6_count_1 : decode cX6_count 1 = .ok (.tableswitch 231 0 16 #[83, 91, 99, 107, 116, 125, 134, 143, 151, 159, 167, 175, 183, 191, 207, 215, 223], 83) := by decide +kernel
theorem dX6_count_84 : decode cX6_count 84 = .ok (.aload_n 0, 1) := by decide +kernel
theorem dX6_count_85 : decode cX6_count 85 = .ok (.getfield 12, 3) := by decide +kernel
theorem dX6_count_88 : decode cX6_count 88 = .ok (.getfield 144, 3) := by decide +kernel
theorem dX6_count_91 : decode cX6_count 91 = .ok (.ireturn, 1) := by decide +kernel
theorem dX6_count_92 : decode cX6_count 92 = .ok (.aload_n 0, 1) := by decide +kernel
theorem dX6_count_93 : decode cX6_count 93 = .ok (.getfield 12, 3) := by decide +kernel
theorem dX6_count_96 : decode cX6_count 96 = .ok (.getfield 207, 3) := by decide +kernel
theorem dX6_count_99 : decode cX6_count 99 = .ok (.ireturn, 1) := by decide +kernel
theorem dX6_count_100 : decode cX6_count 100 = .ok (.aload_n 0, 1) := by decide +kernel
theorem dX6_count_101 : decode cX6_count 101 = .ok (.getfield 12, 3) := by decide +kernel
theorem dX6_count_104 : decode cX6_count 104 = .ok (.getfield 36, 3) := by decide +kernel
theorem dX6_count_107 : decode cX6_count 107 = .ok (.ireturn, 1) := by decide +kernel
theorem dX6_count_108 : decode cX6_count 108 = .ok (.aload_n 0, 1) := by decide +kernel
theorem dX6_count_109 : decode cX6_count 109 = .ok (.getfield 12, 3) := by decide +kernel
theorem dX6_count_112 : decode cX6_count 112 = .ok (.iconst 0, 1) := by decide +kernel
theorem dX6_count_113 : decode cX6_count 113 = .ok (.invokevirtual 40, 3) := by decide +kernel
theorem dX6_count_116 : decode cX6_count 116 = .ok (.ireturn, 1) := by decide +kernel
theorem dX6_count_117 : decode cX6_count 117 = .ok (.aload_n 0, 1) := by decide +kernel
theorem dX6_count_118 : decode cX6_count 118 = .ok (.getfield 12, 3) := by decide +kernel
theorem dX6_count_121 : decode cX6_count 121 = .ok (.iconst 1, 1) := by decide +kernel
theorem dX6_count_122 : decode cX6_count 122 = .ok (.invokevirtual 40, 3) := by decide +kernel
theorem dX6_count_125 : decode cX6_count 125 = .ok (.ireturn, 1) := by decide +kernel
theorem dX6_count_126 : decode cX6_count 126 = .ok (.aload_n 0, 1) := by decide +kernel
theorem dX6_count_127 : decode cX6_count 127 = .ok (.getfield 12, 3) := by decide +kernel
theorem dX6_count_130 : decode cX6_count 130 = .ok (.iconst 2, 1) := by decide +kernel
theorem dX6_count_131 : decode cX6_count 131 = .ok (.invokevirtual 40, 3) := by decide +kernel
theorem dX6_count_134 : decode cX6_count 134 = .ok (.ireturn, 1) := by decide +kernel
theorem dX6_count_135 : decode cX6_count 135 = .ok (.aload_n 0, 1) := by decide +kernel
theorem dX6_count_136 : decode cX6_count 136 = .ok (.getfield 12, 3) := by decide +kernel
theorem dX6_count_139 : decode cX6_count 139 = .ok (.iconst 3, 1) := by decide +kernel
theorem dX6_count_140 : decode cX6_count 140 = .ok (.invokevirtual 40, 3) := by decide +kernel
theorem dX6_count_143 : decode cX6_count 143 = .ok (.ireturn, 1) := by decide +kernel
theorem dX6_count_144 : decode cX6_count 144 = .ok (.aload_n 0, 1) := by decide +kernel
theorem dX6_count_145 : decode cX6_count 145 = .ok (.getfield 12, 3) := by decide +kernel
theorem dX6_count_148 : decode cX6_count 148 = .ok (.invokevirtual 233, 3) := by decide +kernel
theorem dX6_count_151 : decode cX6_count 151 = .ok (.ireturn, 1) := by decide +kernel
theorem dX6_count_152 : decode cX6_count 152 = .ok (.aload_n 0, 1) := by decide +kernel
theorem dX6_count_153 : decode cX6_count 153 = .ok (.getfield 12, 3) := by decide +kernel
theorem dX6_count_156 : decode cX6_count 156 = .ok (.getfield 236, 3) := by decide +kernel
theorem dX6_count_159 : decode cX6_count 159 = .ok (.ireturn, 1) := by decide +kernel
theorem dX6_count_160 : decode cX6_count 160 = .ok (.aload_n 0, 1) := by decide +kernel
theorem dX6_count_161 : decode cX6_count 161 = .ok (.getfield 12, 3) := by decide +kernel
theorem dX6_count_164 : decode cX6_count 164 = .ok (.getfield 86, 3) := by decide +kernel
theorem dX6_count_167 : decode cX6_count 167 = .ok (.ireturn, 1) := by decide +kernel
theorem dX6_count_168 : decode cX6_count 168 = .ok (.aload_n 0, 1) := by decide +kernel
theorem dX6_count_169 : decode cX6_count 169 = .ok (.getfield 12, 3) := by decide +kernel
theorem dX6_count_172 : decode cX6_count 172 = .ok (.invokevirtual 239, 3) := by decide +kernel
theorem dX6_count_175 : decode cX6_count 175 = .ok (.ireturn, 1) := by decide +kernel
theorem dX6_count_176 : decode cX6_count 176 = .ok (.aload_n 0, 1) := by decide +kernel
theorem dX6_count_177 : decode cX6_count 177 = .ok (.getfield 12, 3) := by decide +kernel
theorem dX6_count_180 : decode cX6_count 180 = .ok (.getfield 210, 3) := by decide +kernel
theorem dX6_count_183 : decode cX6_count 183 = .ok (.ireturn, 1) := by decide +kernel
theorem dX6_count_184 : decode cX6_count 184 = .ok (.aload_n 0, 1) := by decide +kernel
theorem dX6_count_185 : decode cX6_count 185 = .ok (.getfield 12, 3) := by decide +kernel
theorem dX6_count_188 : decode cX6_count 188 = .ok (.invokevirtual 92, 3) := by decide +kernel
theorem dX6_count_191 : decode cX6_count 191 = .ok (.ireturn, 1) := by decide +kernel
theorem dX6_count_192 : decode cX6_count 192 = .ok (.aload_n 0, 1) := by decide +kernel
theorem dX6_count_193 : decode cX6_count 193 = .ok (.getfield 12, 3) := by decide +kernel
theorem dX6_count_196 : decode cX6_count 196 = .ok (.getfield 89, 3) := by decide +kernel
theorem dX6_count_199 : decode cX6_count 199 = .ok (.ifCond .eq 7, 3) := by decide +kernel
theorem dX6_count_202 : decode cX6_count 202 = .ok (.iconst 1, 1) := by decide +kernel
theorem dX6_count_203 : decode cX6_count 203 = .ok (.goto 4, 3) := by decide +kernel
theorem dX6_count_206 : decode cX6_count 206 = .ok (.iconst 0, 1) := by decide +kernel
theorem dX6_count_207 : decode cX6_count 207 = .ok (.ireturn, 1) := by decide +kernel
theorem dX6_count_208 : decode cX6_count 208 = .ok (.aload_n 0, 1) := by decide +kernel
theorem dX6_count_209 : decode cX6_count 209 = .ok (.getfield 12, 3) := by decide +kernel
theorem dX6_count_212 : decode cX6_count 212 = .ok (.invokevirtual 242, 3) := by decide +kernel
theorem dX6_count_215 : decode cX6_count 215 = .ok (.ireturn, 1) := by decide +kernel
theorem dX6_count_216 : decode cX6_count 216 = .ok (.aload_n 0, 1) := by decide +kernel
theorem dX6_count_217 : decode cX6_count 217 = .ok (.getfield 25, 3) := by decide +kernel
theorem dX6_count_220 : decode cX6_count 220 = .ok (.getfield 165, 3) := by decide +kernel
theorem dX6_count_223 : decode cX6_count 223 = .ok (.ireturn, 1) := by decide +kernel
theorem dX6_count_224 : decode cX6_count 224 = .ok (.aload_n 0, 1) := by decide +kernel
theorem dX6_count_225 : decode cX6_count 225 = .ok (.getfield 32, 3) := by decide +kernel
theorem dX6_count_228 : decode cX6_count 228 = .ok (.getfield 145, 3) := by decide +kernel
theorem dX6_count_231 : decode cX6_count 231 = .ok (.ireturn, 1) := by decide +kernel
theorem dX6_count_232 : decode cX6_count 232 = .ok (.bipush (-2), 2) := by decide +kernel
theorem dX6_count_234 : decode cX6_count 234 = .ok (.ireturn, 1) := by decide +kernel
theorem dX6_isCell_0 : decode cX6_isCell 0 = .ok (.iload_n 0, 1) := by decide +kernel
theorem dX6_isCell_1 : decode cX6_isCell 1 = .ok (.ifCond .lt 13, 3) := by decide +kernel
theorem dX6_isCell_4 : decode cX6_isCell 4 = .ok (.iload_n 0, 1) := by decide +kernel
theorem dX6_isCell_5 : decode cX6_isCell 5 = .ok (.bipush 12, 2) := by decide +kernel
theorem dX6_isCell_7 : decode cX6_isCell 7 = .ok (.if_icmp .ge 7, 3) := by decide +kernel
theorem dX6_isCell_10 : decode cX6_isCell 10 = .ok (.iconst 1, 1) := by decide +kernel
theorem dX6_isCell_11 : decode cX6_isCell 11 = .ok (.goto 4, 3) := by decide +kernel
theorem dX6_isCell_14 : decode cX6_isCell 14 = .ok (.iconst 0, 1) := by decide +kernel
theorem dX6_isCell_15 : decode cX6_isCell 15 = .ok (.ireturn, 1) := by decide +kernel
theorem dX7_init_0 : decode cX7_init 0 = .ok (.aload_n 0, 1) := by decide +kernel
theorem dX7_init_1 : decode cX7_init 1 = .ok (.invokespecial 1, 3) := by decide +kernel
theorem dX7_init_4 : decode cX7_init 4 = .ok (.aload_n 0, 1) := by decide +kernel
theorem dX7_init_5 : decode cX7_init 5 = .ok (.sipush 1201, 3) := by decide +kernel
theorem dX7_init_8 : decode cX7_init 8 = .ok (.newarray .int, 2) := by decide +kernel
theorem dX7_init_10 : decode cX7_init 10 = .ok (.putfield 7, 3) := by decide +kernel
theorem dX7_init_13 : decode cX7_init 13 = .ok (.aload_n 0, 1) := by decide +kernel
theorem dX7_init_14 : decode cX7_init 14 = .ok (.sipush 7206, 3) := by decide +kernel
theorem dX7_init_17 : decode cX7_init 17 = .ok (.newarray .int, 2) := by decide +kernel
theorem dX7_init_19 : decode cX7_init 19 = .ok (.putfield 13, 3) := by decide +kernel
theorem dX7_init_22 : decode cX7_init 22 = .ok (.aload_n 0, 1) := by decide +kernel
theorem dX7_init_23 : decode cX7_init 23 = .ok (.bipush 60, 2) := by decide +kernel
theorem dX7_init_25 : decode cX7_init 25 = .ok (.newarray .int, 2) := by decide +kernel
theorem dX7_init_27 : decode cX7_init 27 = .ok (.putfield 16, 3) := by decide +kernel
theorem dX7_init_30 : decode cX7_init 30 = .ok (.aload_n 0, 1) := by decide +kernel
theorem dX7_init_31 : decode cX7_init 31 = .ok (.bipush 30, 2) := by decide +kernel
theorem dX7_init_33 : decode cX7_init 33 = .ok (.newarray .int, 2) := by decide +kernel
theorem dX7_init_35 : decode cX7_init 35 = .ok (.putfield 19, 3) := by decide +kernel
theorem dX7_init_38 : decode cX7_init 38 = .ok (.aload_n 0, 1) := by decide +kernel
theorem dX7_init_39 : decode cX7_init 39 = .ok (.bipush 30, 2) := by decide +kernel
theorem dX7_init_41 : decode cX7_init 41 = .ok (.newarray .int, 2) := by decide +kernel
theorem dX7_init_43 : decode cX7_init 43 = .ok (.putfield 22, 3) := by decide +kernel
theorem dX7_init_46 : decode cX7_init 46 = .ok (.aload_n 0, 1) := by decide +kernel
theorem dX7_init_47 : decode cX7_init 47 = .ok (.bipush 40, 2) := by decide +kernel
theorem dX7_init_49 : decode cX7_init 49 = .ok (.newarray .int, 2) := by decide +kernel
theorem dX7_init_51 : decode cX7_init 51 = .ok (.putfield 25, 3) := by decide +kernel
theorem dX7_init_54 : decode cX7_init 54 = .ok (.aload_n 0, 1) := by decide +kernel
theorem dX7_init_55 : decode cX7_init 55 = .ok (.getfield 7, 3) := by decide +kernel
theorem dX7_init_58 : decode cX7_init 58 = .ok (.iconst 4, 1) := by decide +kernel
theorem dX7_init_59 : decode cX7_init 59 = .ok (.iconst 4, 1) := by decide +kernel
theorem dX7_init_60 : decode cX7_init 60 = .ok (.iastore, 1) := by decide +kernel
theorem dX7_init_61 : decode cX7_init 61 = .ok (.aload_n 0, 1) := by decide +kernel
theorem dX7_init_62 : decode cX7_init 62 = .ok (.getfield 7, 3) := by decide +kernel
theorem dX7_init_65 : decode cX7_init 65 = .ok (.bipush 8, 2) := by decide +kernel
theorem dX7_init_67 : decode cX7_init 67 = .ok (.bipush 12, 2) := by decide +kernel
theorem dX7_init_69 : decode cX7_init 69 = .ok (.iastore, 1) := by decide +kernel
theorem dX7_init_70 : decode cX7_init 70 = .ok (.iconst 0, 1) := by decide +kernel
theorem dX7_init_71 : decode cX7_init 71 = .ok (.istore_n 1, 1) := by decide +kernel
theorem dX7_init_72 : decode cX7_init 72 = .ok (.iload_n 1, 1) := by decide +kernel
theorem dX7_init_73 : decode cX7_init 73 = .ok (.bipush 12, 2) := by decide +kernel
theorem dX7_init_75 : decode cX7_init 75 = .ok (.if_icmp .ge 24, 3) := by decide +kernel
theorem dX7_init_78 : decode cX7_init 78 = .ok (.aload_n 0, 1) := by decide +kernel
theorem dX7_init_79 : decode cX7_init 79 = .ok (.getfield 7, 3) := by decide +kernel
theorem dX7_init_82 : decode cX7_init 82 = .ok (.sipush 809, 3) := by decide +kernel
theorem dX7_init_85 : decode cX7_init 85 = .ok (.iconst 3, 1) := by decide +kernel
theorem dX7_init_86 : decode cX7_init 86 = .ok (.iload_n 1, 1) := by decide +kernel
theorem dX7_init_87 : decode cX7_init 87 = .ok (.imul, 1) := by decide +kernel
theorem dX7_init_88 : decode cX7_init 88 = .ok (.iadd, 1) := by decide +kernel
theorem dX7_init_89 : decode cX7_init 89 = .ok (.iconst 0, 1) := by decide +kernel
theorem dX7_init_90 : decode cX7_init 90 = .ok (.iadd, 1) := by decide +kernel
theorem dX7_init_91 : decode cX7_init 91 = .ok (.iload_n 1, 1) := by decide +kernel
theorem dX7_init_92 : decode cX7_init 92 = .ok (.iastore, 1) := by decide +kernel
theorem dX7_init_93 : decode cX7_init 93 = .ok (.iinc 1 1, 3) := by decide +kernel
theorem dX7_init_96 : decode cX7_init 96 = .ok (.goto (-24), 3) := by decide +kernel
theorem dX7_init_99 : decode cX7_init 99 = .ok (.return_, 1) := by decide +kernel
theorem dX7_isIn_0 : decode cX7_isIn 0 = .ok (.iload_n 0, 1) := by decide +kernel
theorem dX7_isIn_1 : decode cX7_isIn 1 = .ok (.iload_n 1, 1) := by decide +kernel
theorem dX7_isIn_2 : decode cX7_isIn 2 = .ok (.if_icmp .lt 12, 3) := by decide +kernel
theorem dX7_isIn_5 : decode cX7_isIn 5 = .ok (.iload_n 0, 1) := by decide +kernel
theorem dX7_isIn_6 : decode cX7_isIn 6 = .ok (.iload_n 2, 1) := by decide +kernel
theorem dX7_isIn_7 : decode cX7_isIn 7 = .ok (.if_icmp .gt 7, 3) := by decide +kernel
theorem dX7_isIn_10 : decode cX7_isIn 10 = .ok (.iconst 1, 1) := by decide +kernel
theorem dX7_isIn_11 : decode cX7_isIn 11 = .ok (.goto 4, 3) := by decide +kernel
theorem dX7_isIn_14 : decode cX7_isIn 14 = .ok (.iconst 0, 1) := by decide +kernel
theorem dX7_isIn_15 : decode cX7_isIn 15 = .ok (.ireturn, 1) := by decide +kernel
theorem dX7_has_0 : decode cX7_has 0 = .ok (.iload_n 0, 1) := by decide +kernel
theorem dX7_has_1 : decode cX7_has 1 = .ok (.iload_n 1, 1) := by decide +kernel
theorem dX7_has_2 : decode cX7_has 2 = .ok (.ishr, 1) := by decide +kernel
theorem dX7_has_3 : decode cX7_has 3 = .ok (.iconst 1, 1) := by decide +kernel
theorem dX7_has_4 : decode cX7_has 4 = .ok (.iand, 1) := by decide +kernel
theorem dX7_has_5 : decode cX7_has 5 = .ok (.iconst 1, 1) := by decide +kernel
theorem dX7_has_6 : decode cX7_has 6 = .ok (.if_icmp .ne 7, 3) := by decide +kernel
theorem dX7_has_9 : decode cX7_has 9 = .ok (.iconst 1, 1) := by decide +kernel
theorem dX7_has_10 : decode cX7_has 10 = .ok (.goto 4, 3) := by decide +kernel
theorem dX7_has_13 : decode cX7_has 13 = .ok (.iconst 0, 1) := by decide +kernel
theorem dX7_has_14 : decode cX7_has 14 = .ok (.ireturn, 1) := by decide +kernel
theorem dX7_ones_0 : decode cX7_ones 0 = .ok (.iconst 0, 1) := by decide +kernel
theorem dX7_ones_1 : decode cX7_ones 1 = .ok (.istore_n 1, 1) := by decide +kernel
theorem dX7_ones_2 : decode cX7_ones 2 = .ok (.iconst 0, 1) := by decide +kernel
theorem dX7_ones_3 : decode cX7_ones 3 = .ok (.istore_n 2, 1) := by decide +kernel
theorem dX7_ones_4 : decode cX7_ones 4 = .ok (.iload_n 2, 1) := by decide +kernel
theorem dX7_ones_5 : decode cX7_ones 5 = .ok (.bipush 12, 2) := by decide +kernel
theorem dX7_ones_7 : decode cX7_ones 7 = .ok (.if_icmp .ge 17, 3) := by decide +kernel
theorem dX7_ones_10 : decode cX7_ones 10 = .ok (.iload_n 1, 1) := by decide +kernel
theorem dX7_ones_11 : decode cX7_ones 11 = .ok (.iload_n 0, 1) := by decide +kernel
theorem dX7_ones_12 : decode cX7_ones 12 = .ok (.iload_n 2, 1) := by decide +kernel
theorem dX7_ones_13 : decode cX7_ones 13 = .ok (.ishr, 1) := by decide +kernel
theorem dX7_ones_14 : decode cX7_ones 14 = .ok (.iconst 1, 1) := by decide +kernel
theorem dX7_ones_15 : decode cX7_ones 15 = .ok (.iand, 1) := by decide +kernel
theorem dX7_ones_16 : decode cX7_ones 16 = .ok (.iadd, 1) := by decide +kernel
theorem dX7_ones_17 : decode cX7_ones 17 = .ok (.istore_n 1, 1) := by decide +kernel
theorem dX7_ones_18 : decode cX7_ones 18 = .ok (.iinc 2 1, 3) := by decide +kernel
theorem dX7_ones_21 : decode cX7_ones 21 = .ok (.goto (-17), 3) := by decide +kernel
theorem dX7_ones_24 : decode cX7_ones 24 = .ok (.iload_n 1, 1) := by decide +kernel
theorem dX7_ones_25 : decode cX7_ones 25 = .ok (.ireturn, 1) := by decide +kernel
theorem dX7_ofR_0 : decode cX7_ofR 0 = .ok (.aload_n 0, 1) := by decide +kernel
theorem dX7_ofR_1 : decode cX7_ofR 1 = .ok (.getfield 7, 3) := by decide +kernel
theorem dX7_ofR_4 : decode cX7_ofR 4 = .ok (.bipush 9, 2) := by decide +kernel
theorem dX7_ofR_6 : decode cX7_ofR 6 = .ok (.bipush 20, 2) := by decide +kernel
theorem dX7_ofR_8 : decode cX7_ofR 8 = .ok (.iload_n 1, 1) := by decide +kernel
theorem dX7_ofR_9 : decode cX7_ofR 9 = .ok (.imul, 1) := by decide +kernel
theorem dX7_ofR_10 : decode cX7_ofR 10 = .ok (.iadd, 1) := by decide +kernel
theorem dX7_ofR_11 : decode cX7_ofR 11 = .ok (.iload_n 2, 1) := by decide +kernel
theorem dX7_ofR_12 : decode cX7_ofR 12 = .ok (.iadd, 1) := by decide +kernel
theorem dX7_ofR_13 : decode cX7_ofR 13 = .ok (.iaload, 1) := by decide +kernel
theorem dX7_ofR_14 : decode cX7_ofR 14 = .ok (.ireturn, 1) := by decide +kernel
theorem dX7_setsR_0 : decode cX7_setsR 0 = .ok (.aload_n 0, 1) := by decide +kernel
theorem dX7_setsR_1 : decode cX7_setsR 1 = .ok (.getfield 7, 3) := by decide +kernel
theorem dX7_setsR_4 : decode cX7_setsR 4 = .ok (.bipush 9, 2) := by decide +kernel
theorem dX7_setsR_6 : decode cX7_setsR 6 = .ok (.bipush 20, 2) := by decide +kernel
theorem dX7_setsR_8 : decode cX7_setsR 8 = .ok (.iload_n 1, 1) := by decide +kernel
theorem dX7_setsR_9 : decode cX7_setsR 9 = .ok (.imul, 1) := by decide +kernel
theorem dX7_setsR_10 : decode cX7_setsR 10 = .ok (.iadd, 1) := by decide +kernel
theorem dX7_setsR_11 : decode cX7_setsR 11 = .ok (.iload_n 2, 1) := by decide +kernel
theorem dX7_setsR_12 : decode cX7_setsR 12 = .ok (.iadd, 1) := by decide +kernel
theorem dX7_setsR_13 : decode cX7_setsR 13 = .ok (.iload_n 3, 1) := by decide +kernel
theorem dX7_setsR_14 : decode cX7_setsR 14 = .ok (.iastore, 1) := by decide +kernel
theorem dX7_setsR_15 : decode cX7_setsR 15 = .ok (.return_, 1) := by decide +kernel
theorem dX7_ofV_0 : decode cX7_ofV 0 = .ok (.aload_n 0, 1) := by decide +kernel
theorem dX7_ofV_1 : decode cX7_ofV 1 = .ok (.getfield 7, 3) := by decide +kernel
theorem dX7_ofV_4 : decode cX7_ofV 4 = .ok (.sipush 809, 3) := by decide +kernel
theorem dX7_ofV_7 : decode cX7_ofV 7 = .ok (.iconst 3, 1) := by decide +kernel
theorem dX7_ofV_8 : decode cX7_ofV 8 = .ok (.iload_n 1, 1) := by decide +kernel
theorem dX7_ofV_9 : decode cX7_ofV 9 = .ok (.imul, 1) := by decide +kernel
theorem dX7_ofV_10 : decode cX7_ofV 10 = .ok (.iadd, 1) := by decide +kernel
theorem dX7_ofV_11 : decode cX7_ofV 11 = .ok (.iload_n 2, 1) := by decide +kernel
theorem dX7_ofV_12 : decode cX7_ofV 12 = .ok (.iadd, 1) := by decide +kernel
theorem dX7_ofV_13 : decode cX7_ofV 13 = .ok (.iaload, 1) := by decide +kernel
theorem dX7_ofV_14 : decode cX7_ofV 14 = .ok (.ireturn, 1) := by decide +kernel
theorem dX7_ofC_0 : decode cX7_ofC 0 = .ok (.aload_n 0, 1) := by decide +kernel
theorem dX7_ofC_1 : decode cX7_ofC 1 = .ok (.getfield 7, 3) := by decide +kernel
theorem dX7_ofC_4 : decode cX7_ofC 4 = .ok (.sipush 1001, 3) := by decide +kernel
theorem dX7_ofC_7 : decode cX7_ofC 7 = .ok (.iconst 5, 1) := by decide +kernel
theorem dX7_ofC_8 : decode cX7_ofC 8 = .ok (.iload_n 1, 1) := by decide +kernel
theorem dX7_ofC_9 : decode cX7_ofC 9 = .ok (.imul, 1) := by decide +kernel
theorem dX7_ofC_10 : decode cX7_ofC 10 = .ok (.iadd, 1) := by decide +kernel
theorem dX7_ofC_11 : decode cX7_ofC 11 = .ok (.iload_n 2, 1) := by decide +kernel
theorem dX7_ofC_12 : decode cX7_ofC 12 = .ok (.iadd, 1) := by decide +kernel
theorem dX7_ofC_13 : decode cX7_ofC 13 = .ok (.iaload, 1) := by decide +kernel
theorem dX7_ofC_14 : decode cX7_ofC 14 = .ok (.ireturn, 1) := by decide +kernel
theorem dX7_isCell_0 : decode cX7_isCell 0 = .ok (.iload_n 0, 1) := by decide +kernel
theorem dX7_isCell_1 : decode cX7_isCell 1 = .ok (.iconst 0, 1) := by decide +kernel
theorem dX7_isCell_2 : decode cX7_isCell 2 = .ok (.bipush 11, 2) := by decide +kernel
theorem dX7_isCell_4 : decode cX7_isCell 4 = .ok (.invokestatic 28, 3) := by decide +kernel
theorem dX7_isCell_7 : decode cX7_isCell 7 = .ok (.ireturn, 1) := by decide +kernel
theorem dX7_isReader_0 : decode cX7_isReader 0 = .ok (.iload_n 1, 1) := by decide +kernel
theorem dX7_isReader_1 : decode cX7_isReader 1 = .ok (.iconst 0, 1) := by decide +kernel
theorem dX7_isReader_2 : decode cX7_isReader 2 = .ok (.aload_n 0, 1) := by decide +kernel
theorem dX7_isReader_3 : decode cX7_isReader 3 = .ok (.getfield 7, 3) := by decide +kernel
theorem dX7_isReader_6 : decode cX7_isReader 6 = .ok (.iconst 2, 1) := by decide +kernel
theorem dX7_isReader_7 : decode cX7_isReader 7 = .ok (.iaload, 1) := by decide +kernel
theorem dX7_isReader_8 : decode cX7_isReader 8 = .ok (.iconst 1, 1) := by decide +kernel
theorem dX7_isReader_9 : decode cX7_isReader 9 = .ok (.isub, 1) := by decide +kernel
theorem dX7_isReader_10 : decode cX7_isReader 10 = .ok (.invokestatic 28, 3) := by decide +kernel
theorem dX7_isReader_13 : decode cX7_isReader 13 = .ok (.ireturn, 1) := by decide +kernel
theorem dX7_isOpen_0 : decode cX7_isOpen 0 = .ok (.aload_n 0, 1) := by decide +kernel
theorem dX7_isOpen_1 : decode cX7_isOpen 1 = .ok (.iload_n 1, 1) := by decide +kernel
theorem dX7_isOpen_2 : decode cX7_isOpen 2 = .ok (.iconst 2, 1) := by decide +kernel
theorem dX7_isOpen_3 : decode cX7_isOpen 3 = .ok (.invokevirtual 32, 3) := by decide +kernel
theorem dX7_isOpen_6 : decode cX7_isOpen 6 = .ok (.ifCond .ne 7, 3) := by decide +kernel
theorem dX7_isOpen_9 : decode cX7_isOpen 9 = .ok (.iconst 1, 1) := by decide +kernel
theorem dX7_isOpen_10 : decode cX7_isOpen 10 = .ok (.goto 4, 3) := by decide +kernel
theorem dX7_isOpen_13 : decode cX7_isOpen 13 = .ok (.iconst 0, 1) := by decide +kernel
theorem dX7_isOpen_14 : decode cX7_isOpen 14 = .ok (.ireturn, 1) := by decide +kernel
theorem dX7_keeps_0 : decode cX7_keeps 0 = .ok (.iconst 0, 1) := by decide +kernel
theorem dX7_keeps_1 : decode cX7_keeps 1 = .ok (.istore_n 2, 1) := by decide +kernel
theorem dX7_keeps_2 : decode cX7_keeps 2 = .ok (.iload_n 2, 1) := by decide +kernel
theorem dX7_keeps_3 : decode cX7_keeps 3 = .ok (.sipush 1201, 3) := by decide +kernel
theorem dX7_keeps_6 : decode cX7_keeps 6 = .ok (.if_icmp .ge 27, 3) := by decide +kernel
theorem dX7_keeps_9 : decode cX7_keeps 9 = .ok (.aload_n 0, 1) := by decide +kernel
theorem dX7_keeps_10 : decode cX7_keeps 10 = .ok (.getfield 13, 3) := by decide +kernel
theorem dX7_keeps_13 : decode cX7_keeps 13 = .ok (.iload_n 1, 1) := by decide +kernel
theorem dX7_keeps_14 : decode cX7_keeps 14 = .ok (.sipush 1201, 3) := by decide +kernel
theorem dX7_keeps_17 : decode cX7_keeps 17 = .ok (.imul, 1) := by decide +kernel
theorem dX7_keeps_18 : decode cX7_keeps 18 = .ok (.iload_n 2, 1) := by decide +kernel
theorem dX7_keeps_19 : decode cX7_keeps 19 = .ok (.iadd, 1) := by decide +kernel
theorem dX7_keeps_20 : decode cX7_keeps 20 = .ok (.aload_n 0, 1) := by decide +kernel
theorem dX7_keeps_21 : decode cX7_keeps 21 = .ok (.getfield 7, 3) := by decide +kernel
theorem dX7_keeps_24 : decode cX7_keeps 24 = .ok (.iload_n 2, 1) := by decide +kernel
theorem dX7_keeps_25 : decode cX7_keeps 25 = .ok (.iaload, 1) := by decide +kernel
theorem dX7_keeps_26 : decode cX7_keeps 26 = .ok (.iastore, 1) := by decide +kernel
theorem dX7_keeps_27 : decode cX7_keeps 27 = .ok (.iinc 2 1, 3) := by decide +kernel
theorem dX7_keeps_30 : decode cX7_keeps 30 = .ok (.goto (-28), 3) := by decide +kernel
theorem dX7_keeps_33 : decode cX7_keeps 33 = .ok (.return_, 1) := by decide +kernel
theorem dX7_brings_0 : decode cX7_brings 0 = .ok (.iconst 0, 1) := by decide +kernel
theorem dX7_brings_1 : decode cX7_brings 1 = .ok (.istore_n 2, 1) := by decide +kernel
theorem dX7_brings_2 : decode cX7_brings 2 = .ok (.iload_n 2, 1) := by decide +kernel
theorem dX7_brings_3 : decode cX7_brings 3 = .ok (.sipush 1201, 3) := by decide +kernel
theorem dX7_brings_6 : decode cX7_brings 6 = .ok (.if_icmp .ge 27, 3) := by decide +kernel
theorem dX7_brings_9 : decode cX7_brings 9 = .ok (.aload_n 0, 1) := by decide +kernel
theorem dX7_brings_10 : decode cX7_brings 10 = .ok (.getfield 7, 3) := by decide +kernel
theorem dX7_brings_13 : decode cX7_brings 13 = .ok (.iload_n 2, 1) := by decide +kernel
theorem dX7_brings_14 : decode cX7_brings 14 = .ok (.aload_n 0, 1) := by decide +kernel
theorem dX7_brings_15 : decode cX7_brings 15 = .ok (.getfield 13, 3) := by decide +kernel
theorem dX7_brings_18 : decode cX7_brings 18 = .ok (.iload_n 1, 1) := by decide +kernel
theorem dX7_brings_19 : decode cX7_brings 19 = .ok (.sipush 1201, 3) := by decide +kernel
theorem dX7_brings_22 : decode cX7_brings 22 = .ok (.imul, 1) := by decide +kernel
theorem dX7_brings_23 : decode cX7_brings 23 = .ok (.iload_n 2, 1) := by decide +kernel
theorem dX7_brings_24 : decode cX7_brings 24 = .ok (.iadd, 1) := by decide +kernel
theorem dX7_brings_25 : decode cX7_brings 25 = .ok (.iaload, 1) := by decide +kernel
theorem dX7_brings_26 : decode cX7_brings 26 = .ok (.iastore, 1) := by decide +kernel
theorem dX7_brings_27 : decode cX7_brings 27 = .ok (.iinc 2 1, 3) := by decide +kernel
theorem dX7_brings_30 : decode cX7_brings 30 = .ok (.goto (-28), 3) := by decide +kernel
theorem dX7_brings_33 : decode cX7_brings 33 = .ok (.return_, 1) := by decide +kernel
theorem dX7_records_0 : decode cX7_records 0 = .ok (.aload_n 0, 1) := by decide +kernel
theorem dX7_records_1 : decode cX7_records 1 = .ok (.getfield 36, 3) := by decide +kernel
theorem dX7_records_4 : decode cX7_records 4 = .ok (.iconst 4, 1) := by decide +kernel
theorem dX7_records_5 : decode cX7_records 5 = .ok (.if_icmp .ne 44, 3) := by decide +kernel
theorem dX7_records_8 : decode cX7_records 8 = .ok (.iconst 0, 1) := by decide +kernel
theorem dX7_records_9 : decode cX7_records 9 = .ok (.istore_n 1, 1) := by decide +kernel
theorem dX7_records_10 : decode cX7_records 10 = .ok (.iload_n 1, 1) := by decide +kernel
theorem dX7_records_11 : decode cX7_records 11 = .ok (.sipush 3603, 3) := by decide +kernel
theorem dX7_records_14 : decode cX7_records 14 = .ok (.if_icmp .ge 25, 3) := by decide +kernel
theorem dX7_records_17 : decode cX7_records 17 = .ok (.aload_n 0, 1) := by decide +kernel
theorem dX7_records_18 : decode cX7_records 18 = .ok (.getfield 13, 3) := by decide +kernel
theorem dX7_records_21 : decode cX7_records 21 = .ok (.iload_n 1, 1) := by decide +kernel
theorem dX7_records_22 : decode cX7_records 22 = .ok (.aload_n 0, 1) := by decide +kernel
theorem dX7_records_23 : decode cX7_records 23 = .ok (.getfield 13, 3) := by decide +kernel
theorem dX7_records_26 : decode cX7_records 26 = .ok (.iload_n 1, 1) := by decide +kernel
theorem dX7_records_27 : decode cX7_records 27 = .ok (.sipush 1201, 3) := by decide +kernel
theorem dX7_records_30 : decode cX7_records 30 = .ok (.iadd, 1) := by decide +kernel
end
section
theorem dX7_records_31 : decode cX7_records 31 = .ok (.iaload, 1) := by decide +kernel
theorem dX7_records_32 : decode cX7_records 32 = .ok (.iastore, 1) := by decide +kernel
theorem dX7_records_33 : decode cX7_records 33 = .ok (.iinc 1 1, 3) := by decide +kernel
theorem dX7_records_36 : decode cX7_records 36 = .ok (.goto (-26), 3) := by decide +kernel
theorem dX7_records_39 : decode cX7_records 39 = .ok (.aload_n 0, 1) := by decide +kernel
theorem dX7_records_40 : decode cX7_records 40 = .ok (.dup, 1) := by decide +kernel
theorem dX7_records_41 : decode cX7_records 41 = .ok (.getfield 36, 3) := by decide +kernel
theorem dX7_records_44 : decode cX7_records 44 = .ok (.iconst 1, 1) := by decide +kernel
theorem dX7_records_45 : decode cX7_records 45 = .ok (.isub, 1) := by decide +kernel
theorem dX7_records_46 : decode cX7_records 46 = .ok (.putfield 36, 3) := by decide +kernel
theorem dX7_records_49 : decode cX7_records 49 = .ok (.aload_n 0, 1) := by decide +kernel
theorem dX7_records_50 : decode cX7_records 50 = .ok (.aload_n 0, 1) := by decide +kernel
theorem dX7_records_51 : decode cX7_records 51 = .ok (.getfield 36, 3) := by decide +kernel
theorem dX7_records_54 : decode cX7_records 54 = .ok (.invokevirtual 40, 3) := by decide +kernel
theorem dX7_records_57 : decode cX7_records 57 = .ok (.aload_n 0, 1) := by decide +kernel
theorem dX7_records_58 : decode cX7_records 58 = .ok (.dup, 1) := by decide +kernel
theorem dX7_records_59 : decode cX7_records 59 = .ok (.getfield 36, 3) := by decide +kernel
theorem dX7_records_62 : decode cX7_records 62 = .ok (.iconst 1, 1) := by decide +kernel
theorem dX7_records_63 : decode cX7_records 63 = .ok (.iadd, 1) := by decide +kernel
theorem dX7_records_64 : decode cX7_records 64 = .ok (.putfield 36, 3) := by decide +kernel
theorem dX7_records_67 : decode cX7_records 67 = .ok (.return_, 1) := by decide +kernel
theorem dX7_undo_0 : decode cX7_undo 0 = .ok (.aload_n 0, 1) := by decide +kernel
theorem dX7_undo_1 : decode cX7_undo 1 = .ok (.getfield 36, 3) := by decide +kernel
theorem dX7_undo_4 : decode cX7_undo 4 = .ok (.ifCond .ne 6, 3) := by decide +kernel
theorem dX7_undo_7 : decode cX7_undo 7 = .ok (.bipush (-5), 2) := by decide +kernel
theorem dX7_undo_9 : decode cX7_undo 9 = .ok (.ireturn, 1) := by decide +kernel
theorem dX7_undo_10 : decode cX7_undo 10 = .ok (.aload_n 0, 1) := by decide +kernel
theorem dX7_undo_11 : decode cX7_undo 11 = .ok (.dup, 1) := by decide +kernel
theorem dX7_undo_12 : decode cX7_undo 12 = .ok (.getfield 36, 3) := by decide +kernel
theorem dX7_undo_15 : decode cX7_undo 15 = .ok (.iconst 1, 1) := by decide +kernel
theorem dX7_undo_16 : decode cX7_undo 16 = .ok (.isub, 1) := by decide +kernel
theorem dX7_undo_17 : decode cX7_undo 17 = .ok (.putfield 36, 3) := by decide +kernel
theorem dX7_undo_20 : decode cX7_undo 20 = .ok (.aload_n 0, 1) := by decide +kernel
theorem dX7_undo_21 : decode cX7_undo 21 = .ok (.aload_n 0, 1) := by decide +kernel
theorem dX7_undo_22 : decode cX7_undo 22 = .ok (.getfield 36, 3) := by decide +kernel
theorem dX7_undo_25 : decode cX7_undo 25 = .ok (.invokevirtual 44, 3) := by decide +kernel
theorem dX7_undo_28 : decode cX7_undo 28 = .ok (.aload_n 0, 1) := by decide +kernel
theorem dX7_undo_29 : decode cX7_undo 29 = .ok (.getfield 36, 3) := by decide +kernel
theorem dX7_undo_32 : decode cX7_undo 32 = .ok (.ireturn, 1) := by decide +kernel
theorem dX7_keep_0 : decode cX7_keep 0 = .ok (.aload_n 0, 1) := by decide +kernel
theorem dX7_keep_1 : decode cX7_keep 1 = .ok (.iconst 4, 1) := by decide +kernel
theorem dX7_keep_2 : decode cX7_keep 2 = .ok (.invokevirtual 40, 3) := by decide +kernel
theorem dX7_keep_5 : decode cX7_keep 5 = .ok (.aload_n 0, 1) := by decide +kernel
theorem dX7_keep_6 : decode cX7_keep 6 = .ok (.iconst 1, 1) := by decide +kernel
theorem dX7_keep_7 : decode cX7_keep 7 = .ok (.putfield 47, 3) := by decide +kernel
theorem dX7_keep_10 : decode cX7_keep 10 = .ok (.aload_n 0, 1) := by decide +kernel
theorem dX7_keep_11 : decode cX7_keep 11 = .ok (.getfield 7, 3) := by decide +kernel
theorem dX7_keep_14 : decode cX7_keep 14 = .ok (.iconst 0, 1) := by decide +kernel
theorem dX7_keep_15 : decode cX7_keep 15 = .ok (.iaload, 1) := by decide +kernel
theorem dX7_keep_16 : decode cX7_keep 16 = .ok (.ireturn, 1) := by decide +kernel
theorem dX7_restore_0 : decode cX7_restore 0 = .ok (.aload_n 0, 1) := by decide +kernel
theorem dX7_restore_1 : decode cX7_restore 1 = .ok (.getfield 47, 3) := by decide +kernel
theorem dX7_restore_4 : decode cX7_restore 4 = .ok (.ifCond .ne 6, 3) := by decide +kernel
theorem dX7_restore_7 : decode cX7_restore 7 = .ok (.bipush (-5), 2) := by decide +kernel
theorem dX7_restore_9 : decode cX7_restore 9 = .ok (.ireturn, 1) := by decide +kernel
theorem dX7_restore_10 : decode cX7_restore 10 = .ok (.aload_n 0, 1) := by decide +kernel
theorem dX7_restore_11 : decode cX7_restore 11 = .ok (.invokevirtual 51, 3) := by decide +kernel
theorem dX7_restore_14 : decode cX7_restore 14 = .ok (.aload_n 0, 1) := by decide +kernel
theorem dX7_restore_15 : decode cX7_restore 15 = .ok (.iconst 4, 1) := by decide +kernel
theorem dX7_restore_16 : decode cX7_restore 16 = .ok (.invokevirtual 44, 3) := by decide +kernel
theorem dX7_restore_19 : decode cX7_restore 19 = .ok (.aload_n 0, 1) := by decide +kernel
theorem dX7_restore_20 : decode cX7_restore 20 = .ok (.getfield 7, 3) := by decide +kernel
theorem dX7_restore_23 : decode cX7_restore 23 = .ok (.iconst 0, 1) := by decide +kernel
theorem dX7_restore_24 : decode cX7_restore 24 = .ok (.iaload, 1) := by decide +kernel
theorem dX7_restore_25 : decode cX7_restore 25 = .ok (.ireturn, 1) := by decide +kernel
theorem dX7_versionAt_0 : decode cX7_versionAt 0 = .ok (.iconst 0, 1) := by decide +kernel
theorem dX7_versionAt_1 : decode cX7_versionAt 1 = .ok (.istore_n 3, 1) := by decide +kernel
theorem dX7_versionAt_2 : decode cX7_versionAt 2 = .ok (.iconst (-1), 1) := by decide +kernel
theorem dX7_versionAt_3 : decode cX7_versionAt 3 = .ok (.istore 4, 2) := by decide +kernel
theorem dX7_versionAt_5 : decode cX7_versionAt 5 = .ok (.iconst 0, 1) := by decide +kernel
theorem dX7_versionAt_6 : decode cX7_versionAt 6 = .ok (.istore 5, 2) := by decide +kernel
theorem dX7_versionAt_8 : decode cX7_versionAt 8 = .ok (.iload 5, 2) := by decide +kernel
theorem dX7_versionAt_10 : decode cX7_versionAt 10 = .ok (.aload_n 0, 1) := by decide +kernel
theorem dX7_versionAt_11 : decode cX7_versionAt 11 = .ok (.getfield 7, 3) := by decide +kernel
theorem dX7_versionAt_14 : decode cX7_versionAt 14 = .ok (.bipush 8, 2) := by decide +kernel
theorem dX7_versionAt_16 : decode cX7_versionAt 16 = .ok (.iaload, 1) := by decide +kernel
theorem dX7_versionAt_17 : decode cX7_versionAt 17 = .ok (.if_icmp .ge 81, 3) := by decide +kernel
theorem dX7_versionAt_20 : decode cX7_versionAt 20 = .ok (.aload_n 0, 1) := by decide +kernel
theorem dX7_versionAt_21 : decode cX7_versionAt 21 = .ok (.iload 5, 2) := by decide +kernel
theorem dX7_versionAt_23 : decode cX7_versionAt 23 = .ok (.iconst 0, 1) := by decide +kernel
theorem dX7_versionAt_24 : decode cX7_versionAt 24 = .ok (.invokevirtual 54, 3) := by decide +kernel
theorem dX7_versionAt_27 : decode cX7_versionAt 27 = .ok (.iload_n 1, 1) := by decide +kernel
theorem dX7_versionAt_28 : decode cX7_versionAt 28 = .ok (.if_icmp .ne 30, 3) := by decide +kernel
theorem dX7_versionAt_31 : decode cX7_versionAt 31 = .ok (.aload_n 0, 1) := by decide +kernel
theorem dX7_versionAt_32 : decode cX7_versionAt 32 = .ok (.iload 5, 2) := by decide +kernel
theorem dX7_versionAt_34 : decode cX7_versionAt 34 = .ok (.iconst 1, 1) := by decide +kernel
theorem dX7_versionAt_35 : decode cX7_versionAt 35 = .ok (.invokevirtual 54, 3) := by decide +kernel
theorem dX7_versionAt_38 : decode cX7_versionAt 38 = .ok (.iload_n 2, 1) := by decide +kernel
theorem dX7_versionAt_39 : decode cX7_versionAt 39 = .ok (.if_icmp .gt 19, 3) := by decide +kernel
theorem dX7_versionAt_42 : decode cX7_versionAt 42 = .ok (.aload_n 0, 1) := by decide +kernel
theorem dX7_versionAt_43 : decode cX7_versionAt 43 = .ok (.iload 5, 2) := by decide +kernel
theorem dX7_versionAt_45 : decode cX7_versionAt 45 = .ok (.iconst 1, 1) := by decide +kernel
theorem dX7_versionAt_46 : decode cX7_versionAt 46 = .ok (.invokevirtual 54, 3) := by decide +kernel
theorem dX7_versionAt_49 : decode cX7_versionAt 49 = .ok (.iload 4, 2) := by decide +kernel
theorem dX7_versionAt_51 : decode cX7_versionAt 51 = .ok (.if_icmp .le 7, 3) := by decide +kernel
theorem dX7_versionAt_54 : decode cX7_versionAt 54 = .ok (.iconst 1, 1) := by decide +kernel
theorem dX7_versionAt_55 : decode cX7_versionAt 55 = .ok (.goto 4, 3) := by decide +kernel
theorem dX7_versionAt_58 : decode cX7_versionAt 58 = .ok (.iconst 0, 1) := by decide +kernel
theorem dX7_versionAt_59 : decode cX7_versionAt 59 = .ok (.istore 6, 2) := by decide +kernel
theorem dX7_versionAt_61 : decode cX7_versionAt 61 = .ok (.iload 6, 2) := by decide +kernel
theorem dX7_versionAt_63 : decode cX7_versionAt 63 = .ok (.ifCond .eq 8, 3) := by decide +kernel
theorem dX7_versionAt_66 : decode cX7_versionAt 66 = .ok (.iload 5, 2) := by decide +kernel
theorem dX7_versionAt_68 : decode cX7_versionAt 68 = .ok (.goto 4, 3) := by decide +kernel
theorem dX7_versionAt_71 : decode cX7_versionAt 71 = .ok (.iload_n 3, 1) := by decide +kernel
theorem dX7_versionAt_72 : decode cX7_versionAt 72 = .ok (.istore_n 3, 1) := by decide +kernel
theorem dX7_versionAt_73 : decode cX7_versionAt 73 = .ok (.iload 6, 2) := by decide +kernel
theorem dX7_versionAt_75 : decode cX7_versionAt 75 = .ok (.ifCond .eq 13, 3) := by decide +kernel
theorem dX7_versionAt_78 : decode cX7_versionAt 78 = .ok (.aload_n 0, 1) := by decide +kernel
theorem dX7_versionAt_79 : decode cX7_versionAt 79 = .ok (.iload 5, 2) := by decide +kernel
theorem dX7_versionAt_81 : decode cX7_versionAt 81 = .ok (.iconst 1, 1) := by decide +kernel
theorem dX7_versionAt_82 : decode cX7_versionAt 82 = .ok (.invokevirtual 54, 3) := by decide +kernel
theorem dX7_versionAt_85 : decode cX7_versionAt 85 = .ok (.goto 5, 3) := by decide +kernel
theorem dX7_versionAt_88 : decode cX7_versionAt 88 = .ok (.iload 4, 2) := by decide +kernel
theorem dX7_versionAt_90 : decode cX7_versionAt 90 = .ok (.istore 4, 2) := by decide +kernel
theorem dX7_versionAt_92 : decode cX7_versionAt 92 = .ok (.iinc 5 1, 3) := by decide +kernel
theorem dX7_versionAt_95 : decode cX7_versionAt 95 = .ok (.goto (-87), 3) := by decide +kernel
theorem dX7_versionAt_98 : decode cX7_versionAt 98 = .ok (.iload_n 3, 1) := by decide +kernel
theorem dX7_versionAt_99 : decode cX7_versionAt 99 = .ok (.ireturn, 1) := by decide +kernel
theorem dX7_newest_0 : decode cX7_newest 0 = .ok (.aload_n 0, 1) := by decide +kernel
theorem dX7_newest_1 : decode cX7_newest 1 = .ok (.iload_n 1, 1) := by decide +kernel
theorem dX7_newest_2 : decode cX7_newest 2 = .ok (.aload_n 0, 1) := by decide +kernel
theorem dX7_newest_3 : decode cX7_newest 3 = .ok (.getfield 7, 3) := by decide +kernel
theorem dX7_newest_6 : decode cX7_newest 6 = .ok (.iconst 0, 1) := by decide +kernel
theorem dX7_newest_7 : decode cX7_newest 7 = .ok (.iaload, 1) := by decide +kernel
theorem dX7_newest_8 : decode cX7_newest 8 = .ok (.invokevirtual 57, 3) := by decide +kernel
theorem dX7_newest_11 : decode cX7_newest 11 = .ok (.ireturn, 1) := by decide +kernel
theorem dX7_isOld_0 : decode cX7_isOld 0 = .ok (.aload_n 0, 1) := by decide +kernel
theorem dX7_isOld_1 : decode cX7_isOld 1 = .ok (.aload_n 0, 1) := by decide +kernel
theorem dX7_isOld_2 : decode cX7_isOld 2 = .ok (.iload_n 1, 1) := by decide +kernel
theorem dX7_isOld_3 : decode cX7_isOld 3 = .ok (.iconst 0, 1) := by decide +kernel
theorem dX7_isOld_4 : decode cX7_isOld 4 = .ok (.invokevirtual 54, 3) := by decide +kernel
theorem dX7_isOld_7 : decode cX7_isOld 7 = .ok (.invokevirtual 60, 3) := by decide +kernel
theorem dX7_isOld_10 : decode cX7_isOld 10 = .ok (.iload_n 1, 1) := by decide +kernel
theorem dX7_isOld_11 : decode cX7_isOld 11 = .ok (.if_icmp .eq 7, 3) := by decide +kernel
theorem dX7_isOld_14 : decode cX7_isOld 14 = .ok (.iconst 1, 1) := by decide +kernel
theorem dX7_isOld_15 : decode cX7_isOld 15 = .ok (.goto 4, 3) := by decide +kernel
theorem dX7_isOld_18 : decode cX7_isOld 18 = .ok (.iconst 0, 1) := by decide +kernel
theorem dX7_isOld_19 : decode cX7_isOld 19 = .ok (.ireturn, 1) := by decide +kernel
theorem dX7_sees_0 : decode cX7_sees 0 = .ok (.aload_n 0, 1) := by decide +kernel
theorem dX7_sees_1 : decode cX7_sees 1 = .ok (.iload_n 1, 1) := by decide +kernel
theorem dX7_sees_2 : decode cX7_sees 2 = .ok (.invokevirtual 64, 3) := by decide +kernel
theorem dX7_sees_5 : decode cX7_sees 5 = .ok (.ifCond .eq 27, 3) := by decide +kernel
theorem dX7_sees_8 : decode cX7_sees 8 = .ok (.aload_n 0, 1) := by decide +kernel
theorem dX7_sees_9 : decode cX7_sees 9 = .ok (.aload_n 0, 1) := by decide +kernel
theorem dX7_sees_10 : decode cX7_sees 10 = .ok (.iload_n 2, 1) := by decide +kernel
theorem dX7_sees_11 : decode cX7_sees 11 = .ok (.iconst 0, 1) := by decide +kernel
theorem dX7_sees_12 : decode cX7_sees 12 = .ok (.invokevirtual 54, 3) := by decide +kernel
theorem dX7_sees_15 : decode cX7_sees 15 = .ok (.aload_n 0, 1) := by decide +kernel
theorem dX7_sees_16 : decode cX7_sees 16 = .ok (.iload_n 1, 1) := by decide +kernel
theorem dX7_sees_17 : decode cX7_sees 17 = .ok (.iconst 0, 1) := by decide +kernel
theorem dX7_sees_18 : decode cX7_sees 18 = .ok (.invokevirtual 32, 3) := by decide +kernel
theorem dX7_sees_21 : decode cX7_sees 21 = .ok (.invokevirtual 57, 3) := by decide +kernel
theorem dX7_sees_24 : decode cX7_sees 24 = .ok (.iload_n 2, 1) := by decide +kernel
theorem dX7_sees_25 : decode cX7_sees 25 = .ok (.if_icmp .ne 7, 3) := by decide +kernel
theorem dX7_sees_28 : decode cX7_sees 28 = .ok (.iconst 1, 1) := by decide +kernel
theorem dX7_sees_29 : decode cX7_sees 29 = .ok (.goto 4, 3) := by decide +kernel
theorem dX7_sees_32 : decode cX7_sees 32 = .ok (.iconst 0, 1) := by decide +kernel
theorem dX7_sees_33 : decode cX7_sees 33 = .ok (.ireturn, 1) := by decide +kernel
theorem dX7_isWidow_0 : decode cX7_isWidow 0 = .ok (.aload_n 0, 1) := by decide +kernel
theorem dX7_isWidow_1 : decode cX7_isWidow 1 = .ok (.iload_n 1, 1) := by decide +kernel
theorem dX7_isWidow_2 : decode cX7_isWidow 2 = .ok (.iconst 5, 1) := by decide +kernel
theorem dX7_isWidow_3 : decode cX7_isWidow 3 = .ok (.invokevirtual 32, 3) := by decide +kernel
theorem dX7_isWidow_6 : decode cX7_isWidow 6 = .ok (.ifCond .le 7, 3) := by decide +kernel
theorem dX7_isWidow_9 : decode cX7_isWidow 9 = .ok (.iconst 1, 1) := by decide +kernel
theorem dX7_isWidow_10 : decode cX7_isWidow 10 = .ok (.goto 4, 3) := by decide +kernel
theorem dX7_isWidow_13 : decode cX7_isWidow 13 = .ok (.iconst 0, 1) := by decide +kernel
theorem dX7_isWidow_14 : decode cX7_isWidow 14 = .ok (.ireturn, 1) := by decide +kernel
theorem dX7_seenBy_0 : decode cX7_seenBy 0 = .ok (.iconst 0, 1) := by decide +kernel
theorem dX7_seenBy_1 : decode cX7_seenBy 1 = .ok (.istore_n 3, 1) := by decide +kernel
theorem dX7_seenBy_2 : decode cX7_seenBy 2 = .ok (.iconst 0, 1) := by decide +kernel
theorem dX7_seenBy_3 : decode cX7_seenBy 3 = .ok (.istore 4, 2) := by decide +kernel
theorem dX7_seenBy_5 : decode cX7_seenBy 5 = .ok (.iload 4, 2) := by decide +kernel
theorem dX7_seenBy_7 : decode cX7_seenBy 7 = .ok (.aload_n 0, 1) := by decide +kernel
theorem dX7_seenBy_8 : decode cX7_seenBy 8 = .ok (.getfield 7, 3) := by decide +kernel
theorem dX7_seenBy_11 : decode cX7_seenBy 11 = .ok (.iconst 2, 1) := by decide +kernel
theorem dX7_seenBy_12 : decode cX7_seenBy 12 = .ok (.iaload, 1) := by decide +kernel
theorem dX7_seenBy_13 : decode cX7_seenBy 13 = .ok (.if_icmp .ge 40, 3) := by decide +kernel
theorem dX7_seenBy_16 : decode cX7_seenBy 16 = .ok (.iload_n 3, 1) := by decide +kernel
theorem dX7_seenBy_17 : decode cX7_seenBy 17 = .ok (.aload_n 0, 1) := by decide +kernel
theorem dX7_seenBy_18 : decode cX7_seenBy 18 = .ok (.iload 4, 2) := by decide +kernel
theorem dX7_seenBy_20 : decode cX7_seenBy 20 = .ok (.iload_n 1, 1) := by decide +kernel
theorem dX7_seenBy_21 : decode cX7_seenBy 21 = .ok (.invokevirtual 68, 3) := by decide +kernel
theorem dX7_seenBy_24 : decode cX7_seenBy 24 = .ok (.ifCond .eq 20, 3) := by decide +kernel
theorem dX7_seenBy_27 : decode cX7_seenBy 27 = .ok (.iload_n 2, 1) := by decide +kernel
theorem dX7_seenBy_28 : decode cX7_seenBy 28 = .ok (.ifCond .ne 12, 3) := by decide +kernel
theorem dX7_seenBy_31 : decode cX7_seenBy 31 = .ok (.aload_n 0, 1) := by decide +kernel
theorem dX7_seenBy_32 : decode cX7_seenBy 32 = .ok (.iload 4, 2) := by decide +kernel
theorem dX7_seenBy_34 : decode cX7_seenBy 34 = .ok (.invokevirtual 72, 3) := by decide +kernel
theorem dX7_seenBy_37 : decode cX7_seenBy 37 = .ok (.ifCond .ne 7, 3) := by decide +kernel
theorem dX7_seenBy_40 : decode cX7_seenBy 40 = .ok (.iconst 1, 1) := by decide +kernel
theorem dX7_seenBy_41 : decode cX7_seenBy 41 = .ok (.goto 4, 3) := by decide +kernel
theorem dX7_seenBy_44 : decode cX7_seenBy 44 = .ok (.iconst 0, 1) := by decide +kernel
theorem dX7_seenBy_45 : decode cX7_seenBy 45 = .ok (.iadd, 1) := by decide +kernel
theorem dX7_seenBy_46 : decode cX7_seenBy 46 = .ok (.istore_n 3, 1) := by decide +kernel
theorem dX7_seenBy_47 : decode cX7_seenBy 47 = .ok (.iinc 4 1, 3) := by decide +kernel
theorem dX7_seenBy_50 : decode cX7_seenBy 50 = .ok (.goto (-45), 3) := by decide +kernel
theorem dX7_seenBy_53 : decode cX7_seenBy 53 = .ok (.iload_n 3, 1) := by decide +kernel
theorem dX7_seenBy_54 : decode cX7_seenBy 54 = .ok (.ireturn, 1) := by decide +kernel
theorem dX7_rentOf_0 : decode cX7_rentOf 0 = .ok (.aload_n 0, 1) := by decide +kernel
theorem dX7_rentOf_1 : decode cX7_rentOf 1 = .ok (.iload_n 1, 1) := by decide +kernel
theorem dX7_rentOf_2 : decode cX7_rentOf 2 = .ok (.iconst 0, 1) := by decide +kernel
theorem dX7_rentOf_3 : decode cX7_rentOf 3 = .ok (.invokevirtual 75, 3) := by decide +kernel
theorem dX7_rentOf_6 : decode cX7_rentOf 6 = .ok (.istore_n 2, 1) := by decide +kernel
theorem dX7_rentOf_7 : decode cX7_rentOf 7 = .ok (.iload_n 2, 1) := by decide +kernel
theorem dX7_rentOf_8 : decode cX7_rentOf 8 = .ok (.ifCond .ne 7, 3) := by decide +kernel
theorem dX7_rentOf_11 : decode cX7_rentOf 11 = .ok (.iconst 0, 1) := by decide +kernel
theorem dX7_rentOf_12 : decode cX7_rentOf 12 = .ok (.goto 15, 3) := by decide +kernel
theorem dX7_rentOf_15 : decode cX7_rentOf 15 = .ok (.aload_n 0, 1) := by decide +kernel
theorem dX7_rentOf_16 : decode cX7_rentOf 16 = .ok (.getfield 7, 3) := by decide +kernel
theorem dX7_rentOf_19 : decode cX7_rentOf 19 = .ok (.iconst 4, 1) := by decide +kernel
theorem dX7_rentOf_20 : decode cX7_rentOf 20 = .ok (.iaload, 1) := by decide +kernel
theorem dX7_rentOf_21 : decode cX7_rentOf 21 = .ok (.iload_n 2, 1) := by decide +kernel
theorem dX7_rentOf_22 : decode cX7_rentOf 22 = .ok (.iadd, 1) := by decide +kernel
theorem dX7_rentOf_23 : decode cX7_rentOf 23 = .ok (.iconst 1, 1) := by decide +kernel
theorem dX7_rentOf_24 : decode cX7_rentOf 24 = .ok (.isub, 1) := by decide +kernel
theorem dX7_rentOf_25 : decode cX7_rentOf 25 = .ok (.iload_n 2, 1) := by decide +kernel
theorem dX7_rentOf_26 : decode cX7_rentOf 26 = .ok (.idiv, 1) := by decide +kernel
theorem dX7_rentOf_27 : decode cX7_rentOf 27 = .ok (.ireturn, 1) := by decide +kernel
theorem dX7_dueOf_0 : decode cX7_dueOf 0 = .ok (.aload_n 0, 1) := by decide +kernel
theorem dX7_dueOf_1 : decode cX7_dueOf 1 = .ok (.iload_n 1, 1) := by decide +kernel
theorem dX7_dueOf_2 : decode cX7_dueOf 2 = .ok (.invokevirtual 64, 3) := by decide +kernel
theorem dX7_dueOf_5 : decode cX7_dueOf 5 = .ok (.ifCond .eq 11, 3) := by decide +kernel
theorem dX7_dueOf_8 : decode cX7_dueOf 8 = .ok (.aload_n 0, 1) := by decide +kernel
theorem dX7_dueOf_9 : decode cX7_dueOf 9 = .ok (.iload_n 1, 1) := by decide +kernel
theorem dX7_dueOf_10 : decode cX7_dueOf 10 = .ok (.invokevirtual 72, 3) := by decide +kernel
theorem dX7_dueOf_13 : decode cX7_dueOf 13 = .ok (.ifCond .eq 5, 3) := by decide +kernel
theorem dX7_dueOf_16 : decode cX7_dueOf 16 = .ok (.iconst 0, 1) := by decide +kernel
theorem dX7_dueOf_17 : decode cX7_dueOf 17 = .ok (.ireturn, 1) := by decide +kernel
theorem dX7_dueOf_18 : decode cX7_dueOf 18 = .ok (.iconst 0, 1) := by decide +kernel
theorem dX7_dueOf_19 : decode cX7_dueOf 19 = .ok (.istore_n 2, 1) := by decide +kernel
theorem dX7_dueOf_20 : decode cX7_dueOf 20 = .ok (.iconst 0, 1) := by decide +kernel
theorem dX7_dueOf_21 : decode cX7_dueOf 21 = .ok (.istore_n 3, 1) := by decide +kernel
theorem dX7_dueOf_22 : decode cX7_dueOf 22 = .ok (.iload_n 3, 1) := by decide +kernel
theorem dX7_dueOf_23 : decode cX7_dueOf 23 = .ok (.aload_n 0, 1) := by decide +kernel
theorem dX7_dueOf_24 : decode cX7_dueOf 24 = .ok (.getfield 7, 3) := by decide +kernel
theorem dX7_dueOf_27 : decode cX7_dueOf 27 = .ok (.bipush 8, 2) := by decide +kernel
theorem dX7_dueOf_29 : decode cX7_dueOf 29 = .ok (.iaload, 1) := by decide +kernel
theorem dX7_dueOf_30 : decode cX7_dueOf 30 = .ok (.if_icmp .ge 38, 3) := by decide +kernel
theorem dX7_dueOf_33 : decode cX7_dueOf 33 = .ok (.iload_n 2, 1) := by decide +kernel
theorem dX7_dueOf_34 : decode cX7_dueOf 34 = .ok (.aload_n 0, 1) := by decide +kernel
theorem dX7_dueOf_35 : decode cX7_dueOf 35 = .ok (.iload_n 3, 1) := by decide +kernel
theorem dX7_dueOf_36 : decode cX7_dueOf 36 = .ok (.invokevirtual 79, 3) := by decide +kernel
theorem dX7_dueOf_39 : decode cX7_dueOf 39 = .ok (.ifCond .eq 20, 3) := by decide +kernel
theorem dX7_dueOf_42 : decode cX7_dueOf 42 = .ok (.aload_n 0, 1) := by decide +kernel
theorem dX7_dueOf_43 : decode cX7_dueOf 43 = .ok (.iload_n 1, 1) := by decide +kernel
theorem dX7_dueOf_44 : decode cX7_dueOf 44 = .ok (.iload_n 3, 1) := by decide +kernel
theorem dX7_dueOf_45 : decode cX7_dueOf 45 = .ok (.invokevirtual 68, 3) := by decide +kernel
theorem dX7_dueOf_48 : decode cX7_dueOf 48 = .ok (.ifCond .eq 11, 3) := by decide +kernel
theorem dX7_dueOf_51 : decode cX7_dueOf 51 = .ok (.aload_n 0, 1) := by decide +kernel
theorem dX7_dueOf_52 : decode cX7_dueOf 52 = .ok (.iload_n 3, 1) := by decide +kernel
theorem dX7_dueOf_53 : decode cX7_dueOf 53 = .ok (.invokevirtual 82, 3) := by decide +kernel
theorem dX7_dueOf_56 : decode cX7_dueOf 56 = .ok (.goto 4, 3) := by decide +kernel
theorem dX7_dueOf_59 : decode cX7_dueOf 59 = .ok (.iconst 0, 1) := by decide +kernel
theorem dX7_dueOf_60 : decode cX7_dueOf 60 = .ok (.iadd, 1) := by decide +kernel
theorem dX7_dueOf_61 : decode cX7_dueOf 61 = .ok (.istore_n 2, 1) := by decide +kernel
theorem dX7_dueOf_62 : decode cX7_dueOf 62 = .ok (.iinc 3 1, 3) := by decide +kernel
theorem dX7_dueOf_65 : decode cX7_dueOf 65 = .ok (.goto (-43), 3) := by decide +kernel
theorem dX7_dueOf_68 : decode cX7_dueOf 68 = .ok (.iload_n 2, 1) := by decide +kernel
theorem dX7_dueOf_69 : decode cX7_dueOf 69 = .ok (.ireturn, 1) := by decide +kernel
theorem dX7_oldMany_0 : decode cX7_oldMany 0 = .ok (.aload_n 0, 1) := by decide +kernel
theorem dX7_oldMany_1 : decode cX7_oldMany 1 = .ok (.getfield 7, 3) := by decide +kernel
theorem dX7_oldMany_4 : decode cX7_oldMany 4 = .ok (.bipush 8, 2) := by decide +kernel
theorem dX7_oldMany_6 : decode cX7_oldMany 6 = .ok (.iaload, 1) := by decide +kernel
theorem dX7_oldMany_7 : decode cX7_oldMany 7 = .ok (.bipush 12, 2) := by decide +kernel
theorem dX7_oldMany_9 : decode cX7_oldMany 9 = .ok (.isub, 1) := by decide +kernel
theorem dX7_oldMany_10 : decode cX7_oldMany 10 = .ok (.ireturn, 1) := by decide +kernel
theorem dX7_removes_0 : decode cX7_removes 0 = .ok (.iconst 0, 1) := by decide +kernel
theorem dX7_removes_1 : decode cX7_removes 1 = .ok (.istore_n 1, 1) := by decide +kernel
theorem dX7_removes_2 : decode cX7_removes 2 = .ok (.aload_n 0, 1) := by decide +kernel
theorem dX7_removes_3 : decode cX7_removes 3 = .ok (.getfield 7, 3) := by decide +kernel
theorem dX7_removes_6 : decode cX7_removes 6 = .ok (.bipush 8, 2) := by decide +kernel
theorem dX7_removes_8 : decode cX7_removes 8 = .ok (.iaload, 1) := by decide +kernel
theorem dX7_removes_9 : decode cX7_removes 9 = .ok (.iconst 1, 1) := by decide +kernel
theorem dX7_removes_10 : decode cX7_removes 10 = .ok (.isub, 1) := by decide +kernel
theorem dX7_removes_11 : decode cX7_removes 11 = .ok (.istore_n 2, 1) := by decide +kernel
theorem dX7_removes_12 : decode cX7_removes 12 = .ok (.iload_n 2, 1) := by decide +kernel
theorem dX7_removes_13 : decode cX7_removes 13 = .ok (.ifCond .lt 85, 3) := by decide +kernel
theorem dX7_removes_16 : decode cX7_removes 16 = .ok (.aload_n 0, 1) := by decide +kernel
theorem dX7_removes_17 : decode cX7_removes 17 = .ok (.iload_n 2, 1) := by decide +kernel
theorem dX7_removes_18 : decode cX7_removes 18 = .ok (.invokevirtual 79, 3) := by decide +kernel
theorem dX7_removes_21 : decode cX7_removes 21 = .ok (.ifCond .eq 71, 3) := by decide +kernel
theorem dX7_removes_24 : decode cX7_removes 24 = .ok (.aload_n 0, 1) := by decide +kernel
theorem dX7_removes_25 : decode cX7_removes 25 = .ok (.iload_n 2, 1) := by decide +kernel
theorem dX7_removes_26 : decode cX7_removes 26 = .ok (.iconst 1, 1) := by decide +kernel
theorem dX7_removes_27 : decode cX7_removes 27 = .ok (.invokevirtual 75, 3) := by decide +kernel
theorem dX7_removes_30 : decode cX7_removes 30 = .ok (.ifCond .ne 62, 3) := by decide +kernel
theorem dX7_removes_33 : decode cX7_removes 33 = .ok (.aload_n 0, 1) := by decide +kernel
theorem dX7_removes_34 : decode cX7_removes 34 = .ok (.getfield 7, 3) := by decide +kernel
theorem dX7_removes_37 : decode cX7_removes 37 = .ok (.bipush 8, 2) := by decide +kernel
theorem dX7_removes_39 : decode cX7_removes 39 = .ok (.dup2, 1) := by decide +kernel
theorem dX7_removes_40 : decode cX7_removes 40 = .ok (.iaload, 1) := by decide +kernel
theorem dX7_removes_41 : decode cX7_removes 41 = .ok (.iconst 1, 1) := by decide +kernel
theorem dX7_removes_42 : decode cX7_removes 42 = .ok (.isub, 1) := by decide +kernel
theorem dX7_removes_43 : decode cX7_removes 43 = .ok (.iastore, 1) := by decide +kernel
theorem dX7_removes_44 : decode cX7_removes 44 = .ok (.iconst 3, 1) := by decide +kernel
theorem dX7_removes_45 : decode cX7_removes 45 = .ok (.iload_n 2, 1) := by decide +kernel
theorem dX7_removes_46 : decode cX7_removes 46 = .ok (.imul, 1) := by decide +kernel
theorem dX7_removes_47 : decode cX7_removes 47 = .ok (.istore_n 3, 1) := by decide +kernel
theorem dX7_removes_48 : decode cX7_removes 48 = .ok (.iload_n 3, 1) := by decide +kernel
theorem dX7_removes_49 : decode cX7_removes 49 = .ok (.iconst 3, 1) := by decide +kernel
theorem dX7_removes_50 : decode cX7_removes 50 = .ok (.aload_n 0, 1) := by decide +kernel
theorem dX7_removes_51 : decode cX7_removes 51 = .ok (.getfield 7, 3) := by decide +kernel
theorem dX7_removes_54 : decode cX7_removes 54 = .ok (.bipush 8, 2) := by decide +kernel
theorem dX7_removes_56 : decode cX7_removes 56 = .ok (.iaload, 1) := by decide +kernel
theorem dX7_removes_57 : decode cX7_removes 57 = .ok (.imul, 1) := by decide +kernel
theorem dX7_removes_58 : decode cX7_removes 58 = .ok (.if_icmp .ge 31, 3) := by decide +kernel
theorem dX7_removes_61 : decode cX7_removes 61 = .ok (.aload_n 0, 1) := by decide +kernel
theorem dX7_removes_62 : decode cX7_removes 62 = .ok (.getfield 7, 3) := by decide +kernel
theorem dX7_removes_65 : decode cX7_removes 65 = .ok (.sipush 809, 3) := by decide +kernel
theorem dX7_removes_68 : decode cX7_removes 68 = .ok (.iload_n 3, 1) := by decide +kernel
theorem dX7_removes_69 : decode cX7_removes 69 = .ok (.iadd, 1) := by decide +kernel
theorem dX7_removes_70 : decode cX7_removes 70 = .ok (.aload_n 0, 1) := by decide +kernel
theorem dX7_removes_71 : decode cX7_removes 71 = .ok (.getfield 7, 3) := by decide +kernel
theorem dX7_removes_74 : decode cX7_removes 74 = .ok (.sipush 809, 3) := by decide +kernel
theorem dX7_removes_77 : decode cX7_removes 77 = .ok (.iload_n 3, 1) := by decide +kernel
theorem dX7_removes_78 : decode cX7_removes 78 = .ok (.iadd, 1) := by decide +kernel
theorem dX7_removes_79 : decode cX7_removes 79 = .ok (.iconst 3, 1) := by decide +kernel
theorem dX7_removes_80 : decode cX7_removes 80 = .ok (.iadd, 1) := by decide +kernel
theorem dX7_removes_81 : decode cX7_removes 81 = .ok (.iaload, 1) := by decide +kernel
theorem dX7_removes_82 : decode cX7_removes 82 = .ok (.iastore, 1) := by decide +kernel
theorem dX7_removes_83 : decode cX7_removes 83 = .ok (.iinc 3 1, 3) := by decide +kernel
theorem dX7_removes_86 : decode cX7_removes 86 = .ok (.goto (-38), 3) := by decide +kernel
theorem dX7_removes_89 : decode cX7_removes 89 = .ok (.iinc 1 1, 3) := by decide +kernel
theorem dX7_removes_92 : decode cX7_removes 92 = .ok (.iinc 2 (-1), 3) := by decide +kernel
theorem dX7_removes_95 : decode cX7_removes 95 = .ok (.goto (-83), 3) := by decide +kernel
theorem dX7_removes_98 : decode cX7_removes 98 = .ok (.aload_n 0, 1) := by decide +kernel
theorem dX7_removes_99 : decode cX7_removes 99 = .ok (.getfield 7, 3) := by decide +kernel
theorem dX7_removes_102 : decode cX7_removes 102 = .ok (.iconst 3, 1) := by decide +kernel
theorem dX7_removes_103 : decode cX7_removes 103 = .ok (.dup2, 1) := by decide +kernel
theorem dX7_removes_104 : decode cX7_removes 104 = .ok (.iaload, 1) := by decide +kernel
theorem dX7_removes_105 : decode cX7_removes 105 = .ok (.iload_n 1, 1) := by decide +kernel
theorem dX7_removes_106 : decode cX7_removes 106 = .ok (.iadd, 1) := by decide +kernel
theorem dX7_removes_107 : decode cX7_removes 107 = .ok (.iastore, 1) := by decide +kernel
theorem dX7_removes_108 : decode cX7_removes 108 = .ok (.iload_n 1, 1) := by decide +kernel
theorem dX7_removes_109 : decode cX7_removes 109 = .ok (.ireturn, 1) := by decide +kernel
theorem dX7_ofState_0 : decode cX7_ofState 0 = .ok (.iconst 0, 1) := by decide +kernel
theorem dX7_ofState_1 : decode cX7_ofState 1 = .ok (.istore_n 2, 1) := by decide +kernel
theorem dX7_ofState_2 : decode cX7_ofState 2 = .ok (.iconst 0, 1) := by decide +kernel
theorem dX7_ofState_3 : decode cX7_ofState 3 = .ok (.istore_n 3, 1) := by decide +kernel
theorem dX7_ofState_4 : decode cX7_ofState 4 = .ok (.iload_n 3, 1) := by decide +kernel
theorem dX7_ofState_5 : decode cX7_ofState 5 = .ok (.aload_n 0, 1) := by decide +kernel
theorem dX7_ofState_6 : decode cX7_ofState 6 = .ok (.getfield 7, 3) := by decide +kernel
theorem dX7_ofState_9 : decode cX7_ofState 9 = .ok (.iconst 2, 1) := by decide +kernel
theorem dX7_ofState_10 : decode cX7_ofState 10 = .ok (.iaload, 1) := by decide +kernel
theorem dX7_ofState_11 : decode cX7_ofState 11 = .ok (.if_icmp .ge 27, 3) := by decide +kernel
theorem dX7_ofState_14 : decode cX7_ofState 14 = .ok (.iload_n 2, 1) := by decide +kernel
theorem dX7_ofState_15 : decode cX7_ofState 15 = .ok (.aload_n 0, 1) := by decide +kernel
theorem dX7_ofState_16 : decode cX7_ofState 16 = .ok (.iload_n 3, 1) := by decide +kernel
theorem dX7_ofState_17 : decode cX7_ofState 17 = .ok (.iconst 2, 1) := by decide +kernel
theorem dX7_ofState_18 : decode cX7_ofState 18 = .ok (.invokevirtual 32, 3) := by decide +kernel
theorem dX7_ofState_21 : decode cX7_ofState 21 = .ok (.iload_n 1, 1) := by decide +kernel
theorem dX7_ofState_22 : decode cX7_ofState 22 = .ok (.if_icmp .ne 7, 3) := by decide +kernel
theorem dX7_ofState_25 : decode cX7_ofState 25 = .ok (.iconst 1, 1) := by decide +kernel
theorem dX7_ofState_26 : decode cX7_ofState 26 = .ok (.goto 4, 3) := by decide +kernel
theorem dX7_ofState_29 : decode cX7_ofState 29 = .ok (.iconst 0, 1) := by decide +kernel
theorem dX7_ofState_30 : decode cX7_ofState 30 = .ok (.iadd, 1) := by decide +kernel
theorem dX7_ofState_31 : decode cX7_ofState 31 = .ok (.istore_n 2, 1) := by decide +kernel
theorem dX7_ofState_32 : decode cX7_ofState 32 = .ok (.iinc 3 1, 3) := by decide +kernel
theorem dX7_ofState_35 : decode cX7_ofState 35 = .ok (.goto (-31), 3) := by decide +kernel
theorem dX7_ofState_38 : decode cX7_ofState 38 = .ok (.iload_n 2, 1) := by decide +kernel
theorem dX7_ofState_39 : decode cX7_ofState 39 = .ok (.ireturn, 1) := by decide +kernel
theorem dX7_open_0 : decode cX7_open 0 = .ok (.iload_n 1, 1) := by decide +kernel
theorem dX7_open_1 : decode cX7_open 1 = .ok (.iconst 0, 1) := by decide +kernel
theorem dX7_open_2 : decode cX7_open 2 = .ok (.sipush 9999, 3) := by decide +kernel
theorem dX7_open_5 : decode cX7_open 5 = .ok (.invokestatic 28, 3) := by decide +kernel
theorem dX7_open_8 : decode cX7_open 8 = .ok (.ifCond .ne 6, 3) := by decide +kernel
theorem dX7_open_11 : decode cX7_open 11 = .ok (.bipush (-2), 2) := by decide +kernel
theorem dX7_open_13 : decode cX7_open 13 = .ok (.ireturn, 1) := by decide +kernel
theorem dX7_open_14 : decode cX7_open 14 = .ok (.aload_n 0, 1) := by decide +kernel
theorem dX7_open_15 : decode cX7_open 15 = .ok (.iconst 0, 1) := by decide +kernel
theorem dX7_open_16 : decode cX7_open 16 = .ok (.invokevirtual 85, 3) := by decide +kernel
theorem dX7_open_19 : decode cX7_open 19 = .ok (.bipush 8, 2) := by decide +kernel
theorem dX7_open_21 : decode cX7_open 21 = .ok (.if_icmp .eq 14, 3) := by decide +kernel
theorem dX7_open_24 : decode cX7_open 24 = .ok (.aload_n 0, 1) := by decide +kernel
theorem dX7_open_25 : decode cX7_open 25 = .ok (.getfield 7, 3) := by decide +kernel
theorem dX7_open_28 : decode cX7_open 28 = .ok (.iconst 2, 1) := by decide +kernel
theorem dX7_open_29 : decode cX7_open 29 = .ok (.iaload, 1) := by decide +kernel
theorem dX7_open_30 : decode cX7_open 30 = .ok (.bipush 40, 2) := by decide +kernel
theorem dX7_open_32 : decode cX7_open 32 = .ok (.if_icmp .ne 6, 3) := by decide +kernel
theorem dX7_open_35 : decode cX7_open 35 = .ok (.bipush (-3), 2) := by decide +kernel
theorem dX7_open_37 : decode cX7_open 37 = .ok (.ireturn, 1) := by decide +kernel
theorem dX7_open_38 : decode cX7_open 38 = .ok (.aload_n 0, 1) := by decide +kernel
theorem dX7_open_39 : decode cX7_open 39 = .ok (.invokevirtual 51, 3) := by decide +kernel
theorem dX7_open_42 : decode cX7_open 42 = .ok (.aload_n 0, 1) := by decide +kernel
theorem dX7_open_43 : decode cX7_open 43 = .ok (.getfield 7, 3) := by decide +kernel
theorem dX7_open_46 : decode cX7_open 46 = .ok (.iconst 2, 1) := by decide +kernel
theorem dX7_open_47 : decode cX7_open 47 = .ok (.iaload, 1) := by decide +kernel
theorem dX7_open_48 : decode cX7_open 48 = .ok (.istore_n 2, 1) := by decide +kernel
theorem dX7_open_49 : decode cX7_open 49 = .ok (.aload_n 0, 1) := by decide +kernel
theorem dX7_open_50 : decode cX7_open 50 = .ok (.getfield 7, 3) := by decide +kernel
theorem dX7_open_53 : decode cX7_open 53 = .ok (.iconst 2, 1) := by decide +kernel
theorem dX7_open_54 : decode cX7_open 54 = .ok (.dup2, 1) := by decide +kernel
theorem dX7_open_55 : decode cX7_open 55 = .ok (.iaload, 1) := by decide +kernel
theorem dX7_open_56 : decode cX7_open 56 = .ok (.iconst 1, 1) := by decide +kernel
theorem dX7_open_57 : decode cX7_open 57 = .ok (.iadd, 1) := by decide +kernel
theorem dX7_open_58 : decode cX7_open 58 = .ok (.iastore, 1) := by decide +kernel
theorem dX7_open_59 : decode cX7_open 59 = .ok (.iconst 0, 1) := by decide +kernel
theorem dX7_open_60 : decode cX7_open 60 = .ok (.istore_n 3, 1) := by decide +kernel
theorem dX7_open_61 : decode cX7_open 61 = .ok (.iload_n 3, 1) := by decide +kernel
theorem dX7_open_62 : decode cX7_open 62 = .ok (.bipush 20, 2) := by decide +kernel
theorem dX7_open_64 : decode cX7_open 64 = .ok (.if_icmp .ge 16, 3) := by decide +kernel
theorem dX7_open_67 : decode cX7_open 67 = .ok (.aload_n 0, 1) := by decide +kernel
theorem dX7_open_68 : decode cX7_open 68 = .ok (.iload_n 2, 1) := by decide +kernel
theorem dX7_open_69 : decode cX7_open 69 = .ok (.iload_n 3, 1) := by decide +kernel
theorem dX7_open_70 : decode cX7_open 70 = .ok (.iconst 0, 1) := by decide +kernel
theorem dX7_open_71 : decode cX7_open 71 = .ok (.invokevirtual 88, 3) := by decide +kernel
theorem dX7_open_74 : decode cX7_open 74 = .ok (.iinc 3 1, 3) := by decide +kernel
theorem dX7_open_77 : decode cX7_open 77 = .ok (.goto (-16), 3) := by decide +kernel
theorem dX7_open_80 : decode cX7_open 80 = .ok (.aload_n 0, 1) := by decide +kernel
theorem dX7_open_81 : decode cX7_open 81 = .ok (.iload_n 2, 1) := by decide +kernel
theorem dX7_open_82 : decode cX7_open 82 = .ok (.iconst 0, 1) := by decide +kernel
theorem dX7_open_83 : decode cX7_open 83 = .ok (.aload_n 0, 1) := by decide +kernel
theorem dX7_open_84 : decode cX7_open 84 = .ok (.getfield 7, 3) := by decide +kernel
theorem dX7_open_87 : decode cX7_open 87 = .ok (.iconst 0, 1) := by decide +kernel
theorem dX7_open_88 : decode cX7_open 88 = .ok (.iaload, 1) := by decide +kernel
theorem dX7_open_89 : decode cX7_open 89 = .ok (.invokevirtual 88, 3) := by decide +kernel
theorem dX7_open_92 : decode cX7_open 92 = .ok (.aload_n 0, 1) := by decide +kernel
theorem dX7_open_93 : decode cX7_open 93 = .ok (.iload_n 2, 1) := by decide +kernel
theorem dX7_open_94 : decode cX7_open 94 = .ok (.iconst 1, 1) := by decide +kernel
theorem dX7_open_95 : decode cX7_open 95 = .ok (.iload_n 1, 1) := by decide +kernel
theorem dX7_open_96 : decode cX7_open 96 = .ok (.invokevirtual 88, 3) := by decide +kernel
theorem dX7_open_99 : decode cX7_open 99 = .ok (.iload_n 2, 1) := by decide +kernel
theorem dX7_open_100 : decode cX7_open 100 = .ok (.ireturn, 1) := by decide +kernel
theorem dX7_pay_0 : decode cX7_pay 0 = .ok (.aload_n 0, 1) := by decide +kernel
theorem dX7_pay_1 : decode cX7_pay 1 = .ok (.iload_n 1, 1) := by decide +kernel
theorem dX7_pay_2 : decode cX7_pay 2 = .ok (.invokevirtual 92, 3) := by decide +kernel
theorem dX7_pay_5 : decode cX7_pay 5 = .ok (.ifCond .ne 5, 3) := by decide +kernel
theorem dX7_pay_8 : decode cX7_pay 8 = .ok (.iconst (-1), 1) := by decide +kernel
theorem dX7_pay_9 : decode cX7_pay 9 = .ok (.ireturn, 1) := by decide +kernel
theorem dX7_pay_10 : decode cX7_pay 10 = .ok (.iload_n 2, 1) := by decide +kernel
theorem dX7_pay_11 : decode cX7_pay 11 = .ok (.iconst 1, 1) := by decide +kernel
theorem dX7_pay_12 : decode cX7_pay 12 = .ok (.sipush 9999, 3) := by decide +kernel
theorem dX7_pay_15 : decode cX7_pay 15 = .ok (.invokestatic 28, 3) := by decide +kernel
theorem dX7_pay_18 : decode cX7_pay 18 = .ok (.ifCond .ne 6, 3) := by decide +kernel
theorem dX7_pay_21 : decode cX7_pay 21 = .ok (.bipush (-2), 2) := by decide +kernel
theorem dX7_pay_23 : decode cX7_pay 23 = .ok (.ireturn, 1) := by decide +kernel
theorem dX7_pay_24 : decode cX7_pay 24 = .ok (.aload_n 0, 1) := by decide +kernel
theorem dX7_pay_25 : decode cX7_pay 25 = .ok (.iload_n 1, 1) := by decide +kernel
theorem dX7_pay_26 : decode cX7_pay 26 = .ok (.invokevirtual 64, 3) := by decide +kernel
theorem dX7_pay_29 : decode cX7_pay 29 = .ok (.ifCond .ne 6, 3) := by decide +kernel
theorem dX7_pay_32 : decode cX7_pay 32 = .ok (.bipush (-4), 2) := by decide +kernel
theorem dX7_pay_34 : decode cX7_pay 34 = .ok (.ireturn, 1) := by decide +kernel
theorem dX7_pay_35 : decode cX7_pay 35 = .ok (.aload_n 0, 1) := by decide +kernel
theorem dX7_pay_36 : decode cX7_pay 36 = .ok (.iload_n 1, 1) := by decide +kernel
theorem dX7_pay_37 : decode cX7_pay 37 = .ok (.iconst 1, 1) := by decide +kernel
theorem dX7_pay_38 : decode cX7_pay 38 = .ok (.invokevirtual 32, 3) := by decide +kernel
theorem dX7_pay_41 : decode cX7_pay 41 = .ok (.iload_n 2, 1) := by decide +kernel
theorem dX7_pay_42 : decode cX7_pay 42 = .ok (.iadd, 1) := by decide +kernel
theorem dX7_pay_43 : decode cX7_pay 43 = .ok (.istore_n 3, 1) := by decide +kernel
theorem dX7_pay_44 : decode cX7_pay 44 = .ok (.iload_n 3, 1) := by decide +kernel
theorem dX7_pay_45 : decode cX7_pay 45 = .ok (.sipush 9999, 3) := by decide +kernel
theorem dX7_pay_48 : decode cX7_pay 48 = .ok (.if_icmp .le 6, 3) := by decide +kernel
theorem dX7_pay_51 : decode cX7_pay 51 = .ok (.bipush (-3), 2) := by decide +kernel
theorem dX7_pay_53 : decode cX7_pay 53 = .ok (.ireturn, 1) := by decide +kernel
theorem dX7_pay_54 : decode cX7_pay 54 = .ok (.aload_n 0, 1) := by decide +kernel
theorem dX7_pay_55 : decode cX7_pay 55 = .ok (.invokevirtual 51, 3) := by decide +kernel
theorem dX7_pay_58 : decode cX7_pay 58 = .ok (.aload_n 0, 1) := by decide +kernel
theorem dX7_pay_59 : decode cX7_pay 59 = .ok (.iload_n 1, 1) := by decide +kernel
theorem dX7_pay_60 : decode cX7_pay 60 = .ok (.iconst 1, 1) := by decide +kernel
theorem dX7_pay_61 : decode cX7_pay 61 = .ok (.iload_n 3, 1) := by decide +kernel
theorem dX7_pay_62 : decode cX7_pay 62 = .ok (.invokevirtual 88, 3) := by decide +kernel
theorem dX7_pay_65 : decode cX7_pay 65 = .ok (.iload_n 3, 1) := by decide +kernel
theorem dX7_pay_66 : decode cX7_pay 66 = .ok (.ireturn, 1) := by decide +kernel
theorem dX7_widow_0 : decode cX7_widow 0 = .ok (.aload_n 0, 1) := by decide +kernel
theorem dX7_widow_1 : decode cX7_widow 1 = .ok (.iload_n 1, 1) := by decide +kernel
theorem dX7_widow_2 : decode cX7_widow 2 = .ok (.invokevirtual 92, 3) := by decide +kernel
theorem dX7_widow_5 : decode cX7_widow 5 = .ok (.ifCond .ne 5, 3) := by decide +kernel
theorem dX7_widow_8 : decode cX7_widow 8 = .ok (.iconst (-1), 1) := by decide +kernel
theorem dX7_widow_9 : decode cX7_widow 9 = .ok (.ireturn, 1) := by decide +kernel
theorem dX7_widow_10 : decode cX7_widow 10 = .ok (.iload_n 2, 1) := by decide +kernel
theorem dX7_widow_11 : decode cX7_widow 11 = .ok (.iconst 1, 1) := by decide +kernel
theorem dX7_widow_12 : decode cX7_widow 12 = .ok (.bipush 20, 2) := by decide +kernel
theorem dX7_widow_14 : decode cX7_widow 14 = .ok (.invokestatic 28, 3) := by decide +kernel
theorem dX7_widow_17 : decode cX7_widow 17 = .ok (.ifCond .ne 6, 3) := by decide +kernel
theorem dX7_widow_20 : decode cX7_widow 20 = .ok (.bipush (-2), 2) := by decide +kernel
theorem dX7_widow_22 : decode cX7_widow 22 = .ok (.ireturn, 1) := by decide +kernel
theorem dX7_widow_23 : decode cX7_widow 23 = .ok (.aload_n 0, 1) := by decide +kernel
theorem dX7_widow_24 : decode cX7_widow 24 = .ok (.iload_n 1, 1) := by decide +kernel
theorem dX7_widow_25 : decode cX7_widow 25 = .ok (.invokevirtual 64, 3) := by decide +kernel
theorem dX7_widow_28 : decode cX7_widow 28 = .ok (.ifCond .eq 14, 3) := by decide +kernel
theorem dX7_widow_31 : decode cX7_widow 31 = .ok (.aload_n 0, 1) := by decide +kernel
theorem dX7_widow_32 : decode cX7_widow 32 = .ok (.iload_n 1, 1) := by decide +kernel
theorem dX7_widow_33 : decode cX7_widow 33 = .ok (.bipush 6, 2) := by decide +kernel
theorem dX7_widow_35 : decode cX7_widow 35 = .ok (.invokevirtual 32, 3) := by decide +kernel
theorem dX7_widow_38 : decode cX7_widow 38 = .ok (.iconst 1, 1) := by decide +kernel
theorem dX7_widow_39 : decode cX7_widow 39 = .ok (.if_icmp .ne 6, 3) := by decide +kernel
theorem dX7_widow_42 : decode cX7_widow 42 = .ok (.bipush (-4), 2) := by decide +kernel
theorem dX7_widow_44 : decode cX7_widow 44 = .ok (.ireturn, 1) := by decide +kernel
theorem dX7_widow_45 : decode cX7_widow 45 = .ok (.aload_n 0, 1) := by decide +kernel
theorem dX7_widow_46 : decode cX7_widow 46 = .ok (.invokevirtual 51, 3) := by decide +kernel
theorem dX7_widow_49 : decode cX7_widow 49 = .ok (.aload_n 0, 1) := by decide +kernel
theorem dX7_widow_50 : decode cX7_widow 50 = .ok (.iload_n 1, 1) := by decide +kernel
theorem dX7_widow_51 : decode cX7_widow 51 = .ok (.invokevirtual 95, 3) := by decide +kernel
theorem dX7_widow_54 : decode cX7_widow 54 = .ok (.istore_n 3, 1) := by decide +kernel
theorem dX7_widow_55 : decode cX7_widow 55 = .ok (.aload_n 0, 1) := by decide +kernel
theorem dX7_widow_56 : decode cX7_widow 56 = .ok (.iload_n 1, 1) := by decide +kernel
theorem dX7_widow_57 : decode cX7_widow 57 = .ok (.iconst 5, 1) := by decide +kernel
theorem dX7_widow_58 : decode cX7_widow 58 = .ok (.iload_n 2, 1) := by decide +kernel
theorem dX7_widow_59 : decode cX7_widow 59 = .ok (.invokevirtual 88, 3) := by decide +kernel
theorem dX7_widow_62 : decode cX7_widow 62 = .ok (.aload_n 0, 1) := by decide +kernel
theorem dX7_widow_63 : decode cX7_widow 63 = .ok (.iload_n 1, 1) := by decide +kernel
theorem dX7_widow_64 : decode cX7_widow 64 = .ok (.bipush 6, 2) := by decide +kernel
theorem dX7_widow_66 : decode cX7_widow 66 = .ok (.iconst 1, 1) := by decide +kernel
theorem dX7_widow_67 : decode cX7_widow 67 = .ok (.invokevirtual 88, 3) := by decide +kernel
theorem dX7_widow_70 : decode cX7_widow 70 = .ok (.iload_n 3, 1) := by decide +kernel
theorem dX7_widow_71 : decode cX7_widow 71 = .ok (.ireturn, 1) := by decide +kernel
theorem dX7_close_0 : decode cX7_close 0 = .ok (.aload_n 0, 1) := by decide +kernel
theorem dX7_close_1 : decode cX7_close 1 = .ok (.iload_n 1, 1) := by decide +kernel
theorem dX7_close_2 : decode cX7_close 2 = .ok (.invokevirtual 92, 3) := by decide +kernel
theorem dX7_close_5 : decode cX7_close 5 = .ok (.ifCond .ne 5, 3) := by decide +kernel
theorem dX7_close_8 : decode cX7_close 8 = .ok (.iconst (-1), 1) := by decide +kernel
theorem dX7_close_9 : decode cX7_close 9 = .ok (.ireturn, 1) := by decide +kernel
theorem dX7_close_10 : decode cX7_close 10 = .ok (.aload_n 0, 1) := by decide +kernel
theorem dX7_close_11 : decode cX7_close 11 = .ok (.iload_n 1, 1) := by decide +kernel
theorem dX7_close_12 : decode cX7_close 12 = .ok (.invokevirtual 64, 3) := by decide +kernel
theorem dX7_close_15 : decode cX7_close 15 = .ok (.ifCond .ne 6, 3) := by decide +kernel
theorem dX7_close_18 : decode cX7_close 18 = .ok (.bipush (-4), 2) := by decide +kernel
theorem dX7_close_20 : decode cX7_close 20 = .ok (.ireturn, 1) := by decide +kernel
theorem dX7_close_21 : decode cX7_close 21 = .ok (.aload_n 0, 1) := by decide +kernel
theorem dX7_close_22 : decode cX7_close 22 = .ok (.invokevirtual 51, 3) := by decide +kernel
theorem dX7_close_25 : decode cX7_close 25 = .ok (.aload_n 0, 1) := by decide +kernel
theorem dX7_close_26 : decode cX7_close 26 = .ok (.iload_n 1, 1) := by decide +kernel
theorem dX7_close_27 : decode cX7_close 27 = .ok (.iconst 2, 1) := by decide +kernel
theorem dX7_close_28 : decode cX7_close 28 = .ok (.iconst 2, 1) := by decide +kernel
theorem dX7_close_29 : decode cX7_close 29 = .ok (.invokevirtual 88, 3) := by decide +kernel
theorem dX7_close_32 : decode cX7_close 32 = .ok (.aload_n 0, 1) := by decide +kernel
theorem dX7_close_33 : decode cX7_close 33 = .ok (.invokevirtual 98, 3) := by decide +kernel
theorem dX7_close_36 : decode cX7_close 36 = .ok (.ireturn, 1) := by decide +kernel
theorem dX7_setRent_0 : decode cX7_setRent 0 = .ok (.iload_n 1, 1) := by decide +kernel
theorem dX7_setRent_1 : decode cX7_setRent 1 = .ok (.iconst 0, 1) := by decide +kernel
theorem dX7_setRent_2 : decode cX7_setRent 2 = .ok (.bipush 99, 2) := by decide +kernel
theorem dX7_setRent_4 : decode cX7_setRent 4 = .ok (.invokestatic 28, 3) := by decide +kernel
theorem dX7_setRent_7 : decode cX7_setRent 7 = .ok (.ifCond .ne 6, 3) := by decide +kernel
theorem dX7_setRent_10 : decode cX7_setRent 10 = .ok (.bipush (-2), 2) := by decide +kernel
theorem dX7_setRent_12 : decode cX7_setRent 12 = .ok (.ireturn, 1) := by decide +kernel
theorem dX7_setRent_13 : decode cX7_setRent 13 = .ok (.aload_n 0, 1) := by decide +kernel
theorem dX7_setRent_14 : decode cX7_setRent 14 = .ok (.getfield 7, 3) := by decide +kernel
theorem dX7_setRent_17 : decode cX7_setRent 17 = .ok (.iconst 4, 1) := by decide +kernel
theorem dX7_setRent_18 : decode cX7_setRent 18 = .ok (.iaload, 1) := by decide +kernel
theorem dX7_setRent_19 : decode cX7_setRent 19 = .ok (.istore_n 2, 1) := by decide +kernel
theorem dX7_setRent_20 : decode cX7_setRent 20 = .ok (.iload_n 2, 1) := by decide +kernel
theorem dX7_setRent_21 : decode cX7_setRent 21 = .ok (.iload_n 1, 1) := by decide +kernel
theorem dX7_setRent_22 : decode cX7_setRent 22 = .ok (.if_icmp .ne 6, 3) := by decide +kernel
theorem dX7_setRent_25 : decode cX7_setRent 25 = .ok (.bipush (-5), 2) := by decide +kernel
theorem dX7_setRent_27 : decode cX7_setRent 27 = .ok (.ireturn, 1) := by decide +kernel
theorem dX7_setRent_28 : decode cX7_setRent 28 = .ok (.aload_n 0, 1) := by decide +kernel
theorem dX7_setRent_29 : decode cX7_setRent 29 = .ok (.invokevirtual 51, 3) := by decide +kernel
theorem dX7_setRent_32 : decode cX7_setRent 32 = .ok (.aload_n 0, 1) := by decide +kernel
theorem dX7_setRent_33 : decode cX7_setRent 33 = .ok (.getfield 7, 3) := by decide +kernel
theorem dX7_setRent_36 : decode cX7_setRent 36 = .ok (.iconst 4, 1) := by decide +kernel
theorem dX7_setRent_37 : decode cX7_setRent 37 = .ok (.iload_n 1, 1) := by decide +kernel
theorem dX7_setRent_38 : decode cX7_setRent 38 = .ok (.iastore, 1) := by decide +kernel
theorem dX7_setRent_39 : decode cX7_setRent 39 = .ok (.iload_n 2, 1) := by decide +kernel
theorem dX7_setRent_40 : decode cX7_setRent 40 = .ok (.ireturn, 1) := by decide +kernel
theorem dX7_forbidSkew_0 : decode cX7_forbidSkew 0 = .ok (.iload_n 1, 1) := by decide +kernel
theorem dX7_forbidSkew_1 : decode cX7_forbidSkew 1 = .ok (.ifCond .eq 7, 3) := by decide +kernel
theorem dX7_forbidSkew_4 : decode cX7_forbidSkew 4 = .ok (.iconst 1, 1) := by decide +kernel
theorem dX7_forbidSkew_5 : decode cX7_forbidSkew 5 = .ok (.goto 4, 3) := by decide +kernel
theorem dX7_forbidSkew_8 : decode cX7_forbidSkew 8 = .ok (.iconst 0, 1) := by decide +kernel
theorem dX7_forbidSkew_9 : decode cX7_forbidSkew 9 = .ok (.istore_n 2, 1) := by decide +kernel
theorem dX7_forbidSkew_10 : decode cX7_forbidSkew 10 = .ok (.aload_n 0, 1) := by decide +kernel
theorem dX7_forbidSkew_11 : decode cX7_forbidSkew 11 = .ok (.getfield 7, 3) := by decide +kernel
theorem dX7_forbidSkew_14 : decode cX7_forbidSkew 14 = .ok (.bipush 7, 2) := by decide +kernel
theorem dX7_forbidSkew_16 : decode cX7_forbidSkew 16 = .ok (.iaload, 1) := by decide +kernel
theorem dX7_forbidSkew_17 : decode cX7_forbidSkew 17 = .ok (.iload_n 2, 1) := by decide +kernel
theorem dX7_forbidSkew_18 : decode cX7_forbidSkew 18 = .ok (.if_icmp .ne 6, 3) := by decide +kernel
theorem dX7_forbidSkew_21 : decode cX7_forbidSkew 21 = .ok (.bipush (-5), 2) := by decide +kernel
theorem dX7_forbidSkew_23 : decode cX7_forbidSkew 23 = .ok (.ireturn, 1) := by decide +kernel
theorem dX7_forbidSkew_24 : decode cX7_forbidSkew 24 = .ok (.aload_n 0, 1) := by decide +kernel
theorem dX7_forbidSkew_25 : decode cX7_forbidSkew 25 = .ok (.invokevirtual 51, 3) := by decide +kernel
theorem dX7_forbidSkew_28 : decode cX7_forbidSkew 28 = .ok (.aload_n 0, 1) := by decide +kernel
theorem dX7_forbidSkew_29 : decode cX7_forbidSkew 29 = .ok (.getfield 7, 3) := by decide +kernel
theorem dX7_forbidSkew_32 : decode cX7_forbidSkew 32 = .ok (.bipush 7, 2) := by decide +kernel
theorem dX7_forbidSkew_34 : decode cX7_forbidSkew 34 = .ok (.iload_n 2, 1) := by decide +kernel
theorem dX7_forbidSkew_35 : decode cX7_forbidSkew 35 = .ok (.iastore, 1) := by decide +kernel
theorem dX7_forbidSkew_36 : decode cX7_forbidSkew 36 = .ok (.aload_n 0, 1) := by decide +kernel
theorem dX7_forbidSkew_37 : decode cX7_forbidSkew 37 = .ok (.invokevirtual 102, 3) := by decide +kernel
theorem dX7_forbidSkew_40 : decode cX7_forbidSkew 40 = .ok (.ireturn, 1) := by decide +kernel
theorem dX7_passes_0 : decode cX7_passes 0 = .ok (.iconst 0, 1) := by decide +kernel
theorem dX7_passes_1 : decode cX7_passes 1 = .ok (.istore_n 1, 1) := by decide +kernel
theorem dX7_passes_2 : decode cX7_passes 2 = .ok (.iconst 0, 1) := by decide +kernel
theorem dX7_passes_3 : decode cX7_passes 3 = .ok (.istore_n 2, 1) := by decide +kernel
theorem dX7_passes_4 : decode cX7_passes 4 = .ok (.iload_n 2, 1) := by decide +kernel
theorem dX7_passes_5 : decode cX7_passes 5 = .ok (.aload_n 0, 1) := by decide +kernel
theorem dX7_passes_6 : decode cX7_passes 6 = .ok (.getfield 7, 3) := by decide +kernel
theorem dX7_passes_9 : decode cX7_passes 9 = .ok (.iconst 2, 1) := by decide +kernel
theorem dX7_passes_10 : decode cX7_passes 10 = .ok (.iaload, 1) := by decide +kernel
theorem dX7_passes_11 : decode cX7_passes 11 = .ok (.if_icmp .ge 20, 3) := by decide +kernel
theorem dX7_passes_14 : decode cX7_passes 14 = .ok (.aload_n 0, 1) := by decide +kernel
theorem dX7_passes_15 : decode cX7_passes 15 = .ok (.getfield 25, 3) := by decide +kernel
theorem dX7_passes_18 : decode cX7_passes 18 = .ok (.iload_n 2, 1) := by decide +kernel
theorem dX7_passes_19 : decode cX7_passes 19 = .ok (.aload_n 0, 1) := by decide +kernel
theorem dX7_passes_20 : decode cX7_passes 20 = .ok (.iload_n 2, 1) := by decide +kernel
theorem dX7_passes_21 : decode cX7_passes 21 = .ok (.invokevirtual 95, 3) := by decide +kernel
theorem dX7_passes_24 : decode cX7_passes 24 = .ok (.iastore, 1) := by decide +kernel
theorem dX7_passes_25 : decode cX7_passes 25 = .ok (.iinc 2 1, 3) := by decide +kernel
theorem dX7_passes_28 : decode cX7_passes 28 = .ok (.goto (-24), 3) := by decide +kernel
theorem dX7_passes_31 : decode cX7_passes 31 = .ok (.iconst 0, 1) := by decide +kernel
theorem dX7_passes_32 : decode cX7_passes 32 = .ok (.istore_n 2, 1) := by decide +kernel
theorem dX7_passes_33 : decode cX7_passes 33 = .ok (.iload_n 2, 1) := by decide +kernel
theorem dX7_passes_34 : decode cX7_passes 34 = .ok (.aload_n 0, 1) := by decide +kernel
theorem dX7_passes_35 : decode cX7_passes 35 = .ok (.getfield 7, 3) := by decide +kernel
theorem dX7_passes_38 : decode cX7_passes 38 = .ok (.iconst 2, 1) := by decide +kernel
theorem dX7_passes_39 : decode cX7_passes 39 = .ok (.iaload, 1) := by decide +kernel
theorem dX7_passes_40 : decode cX7_passes 40 = .ok (.if_icmp .ge 133, 3) := by decide +kernel
theorem dX7_passes_43 : decode cX7_passes 43 = .ok (.aload_n 0, 1) := by decide +kernel
theorem dX7_passes_44 : decode cX7_passes 44 = .ok (.iload_n 2, 1) := by decide +kernel
theorem dX7_passes_45 : decode cX7_passes 45 = .ok (.invokevirtual 64, 3) := by decide +kernel
theorem dX7_passes_48 : decode cX7_passes 48 = .ok (.ifCond .eq 97, 3) := by decide +kernel
theorem dX7_passes_51 : decode cX7_passes 51 = .ok (.aload_n 0, 1) := by decide +kernel
theorem dX7_passes_52 : decode cX7_passes 52 = .ok (.iload_n 2, 1) := by decide +kernel
theorem dX7_passes_53 : decode cX7_passes 53 = .ok (.invokevirtual 72, 3) := by decide +kernel
theorem dX7_passes_56 : decode cX7_passes 56 = .ok (.ifCond .ne 89, 3) := by decide +kernel
theorem dX7_passes_59 : decode cX7_passes 59 = .ok (.aload_n 0, 1) := by decide +kernel
theorem dX7_passes_60 : decode cX7_passes 60 = .ok (.iload_n 2, 1) := by decide +kernel
theorem dX7_passes_61 : decode cX7_passes 61 = .ok (.iconst 1, 1) := by decide +kernel
theorem dX7_passes_62 : decode cX7_passes 62 = .ok (.invokevirtual 32, 3) := by decide +kernel
theorem dX7_passes_65 : decode cX7_passes 65 = .ok (.aload_n 0, 1) := by decide +kernel
theorem dX7_passes_66 : decode cX7_passes 66 = .ok (.getfield 25, 3) := by decide +kernel
theorem dX7_passes_69 : decode cX7_passes 69 = .ok (.iload_n 2, 1) := by decide +kernel
theorem dX7_passes_70 : decode cX7_passes 70 = .ok (.iaload, 1) := by decide +kernel
theorem dX7_passes_71 : decode cX7_passes 71 = .ok (.if_icmp .lt 61, 3) := by decide +kernel
theorem dX7_passes_74 : decode cX7_passes 74 = .ok (.aload_n 0, 1) := by decide +kernel
theorem dX7_passes_75 : decode cX7_passes 75 = .ok (.iload_n 2, 1) := by decide +kernel
theorem dX7_passes_76 : decode cX7_passes 76 = .ok (.iconst 1, 1) := by decide +kernel
theorem dX7_passes_77 : decode cX7_passes 77 = .ok (.aload_n 0, 1) := by decide +kernel
theorem dX7_passes_78 : decode cX7_passes 78 = .ok (.iload_n 2, 1) := by decide +kernel
theorem dX7_passes_79 : decode cX7_passes 79 = .ok (.iconst 1, 1) := by decide +kernel
theorem dX7_passes_80 : decode cX7_passes 80 = .ok (.invokevirtual 32, 3) := by decide +kernel
theorem dX7_passes_83 : decode cX7_passes 83 = .ok (.aload_n 0, 1) := by decide +kernel
theorem dX7_passes_84 : decode cX7_passes 84 = .ok (.getfield 25, 3) := by decide +kernel
theorem dX7_passes_87 : decode cX7_passes 87 = .ok (.iload_n 2, 1) := by decide +kernel
theorem dX7_passes_88 : decode cX7_passes 88 = .ok (.iaload, 1) := by decide +kernel
theorem dX7_passes_89 : decode cX7_passes 89 = .ok (.isub, 1) := by decide +kernel
theorem dX7_passes_90 : decode cX7_passes 90 = .ok (.invokevirtual 88, 3) := by decide +kernel
theorem dX7_passes_93 : decode cX7_passes 93 = .ok (.aload_n 0, 1) := by decide +kernel
theorem dX7_passes_94 : decode cX7_passes 94 = .ok (.iload_n 2, 1) := by decide +kernel
theorem dX7_passes_95 : decode cX7_passes 95 = .ok (.bipush 7, 2) := by decide +kernel
theorem dX7_passes_97 : decode cX7_passes 97 = .ok (.aload_n 0, 1) := by decide +kernel
theorem dX7_passes_98 : decode cX7_passes 98 = .ok (.iload_n 2, 1) := by decide +kernel
theorem dX7_passes_99 : decode cX7_passes 99 = .ok (.bipush 7, 2) := by decide +kernel
theorem dX7_passes_101 : decode cX7_passes 101 = .ok (.invokevirtual 32, 3) := by decide +kernel
theorem dX7_passes_104 : decode cX7_passes 104 = .ok (.aload_n 0, 1) := by decide +kernel
theorem dX7_passes_105 : decode cX7_passes 105 = .ok (.getfield 25, 3) := by decide +kernel
theorem dX7_passes_108 : decode cX7_passes 108 = .ok (.iload_n 2, 1) := by decide +kernel
theorem dX7_passes_109 : decode cX7_passes 109 = .ok (.iaload, 1) := by decide +kernel
theorem dX7_passes_110 : decode cX7_passes 110 = .ok (.iadd, 1) := by decide +kernel
theorem dX7_passes_111 : decode cX7_passes 111 = .ok (.invokevirtual 88, 3) := by decide +kernel
theorem dX7_passes_114 : decode cX7_passes 114 = .ok (.aload_n 0, 1) := by decide +kernel
theorem dX7_passes_115 : decode cX7_passes 115 = .ok (.getfield 7, 3) := by decide +kernel
theorem dX7_passes_118 : decode cX7_passes 118 = .ok (.iconst 5, 1) := by decide +kernel
theorem dX7_passes_119 : decode cX7_passes 119 = .ok (.dup2, 1) := by decide +kernel
theorem dX7_passes_120 : decode cX7_passes 120 = .ok (.iaload, 1) := by decide +kernel
theorem dX7_passes_121 : decode cX7_passes 121 = .ok (.aload_n 0, 1) := by decide +kernel
theorem dX7_passes_122 : decode cX7_passes 122 = .ok (.getfield 25, 3) := by decide +kernel
theorem dX7_passes_125 : decode cX7_passes 125 = .ok (.iload_n 2, 1) := by decide +kernel
theorem dX7_passes_126 : decode cX7_passes 126 = .ok (.iaload, 1) := by decide +kernel
theorem dX7_passes_127 : decode cX7_passes 127 = .ok (.iadd, 1) := by decide +kernel
theorem dX7_passes_128 : decode cX7_passes 128 = .ok (.iastore, 1) := by decide +kernel
theorem dX7_passes_129 : decode cX7_passes 129 = .ok (.goto 38, 3) := by decide +kernel
theorem dX7_passes_132 : decode cX7_passes 132 = .ok (.aload_n 0, 1) := by decide +kernel
theorem dX7_passes_133 : decode cX7_passes 133 = .ok (.iload_n 2, 1) := by decide +kernel
theorem dX7_passes_134 : decode cX7_passes 134 = .ok (.iconst 2, 1) := by decide +kernel
theorem dX7_passes_135 : decode cX7_passes 135 = .ok (.iconst 3, 1) := by decide +kernel
theorem dX7_passes_136 : decode cX7_passes 136 = .ok (.invokevirtual 88, 3) := by decide +kernel
theorem dX7_passes_139 : decode cX7_passes 139 = .ok (.iinc 1 1, 3) := by decide +kernel
theorem dX7_passes_142 : decode cX7_passes 142 = .ok (.goto 25, 3) := by decide +kernel
theorem dX7_passes_145 : decode cX7_passes 145 = .ok (.aload_n 0, 1) := by decide +kernel
theorem dX7_passes_146 : decode cX7_passes 146 = .ok (.iload_n 2, 1) := by decide +kernel
theorem dX7_passes_147 : decode cX7_passes 147 = .ok (.invokevirtual 64, 3) := by decide +kernel
theorem dX7_passes_150 : decode cX7_passes 150 = .ok (.ifCond .eq 17, 3) := by decide +kernel
theorem dX7_passes_153 : decode cX7_passes 153 = .ok (.aload_n 0, 1) := by decide +kernel
theorem dX7_passes_154 : decode cX7_passes 154 = .ok (.iload_n 2, 1) := by decide +kernel
theorem dX7_passes_155 : decode cX7_passes 155 = .ok (.iconst 5, 1) := by decide +kernel
theorem dX7_passes_156 : decode cX7_passes 156 = .ok (.aload_n 0, 1) := by decide +kernel
theorem dX7_passes_157 : decode cX7_passes 157 = .ok (.iload_n 2, 1) := by decide +kernel
theorem dX7_passes_158 : decode cX7_passes 158 = .ok (.iconst 5, 1) := by decide +kernel
theorem dX7_passes_159 : decode cX7_passes 159 = .ok (.invokevirtual 32, 3) := by decide +kernel
theorem dX7_passes_162 : decode cX7_passes 162 = .ok (.iconst 1, 1) := by decide +kernel
theorem dX7_passes_163 : decode cX7_passes 163 = .ok (.isub, 1) := by decide +kernel
theorem dX7_passes_164 : decode cX7_passes 164 = .ok (.invokevirtual 88, 3) := by decide +kernel
theorem dX7_passes_167 : decode cX7_passes 167 = .ok (.iinc 2 1, 3) := by decide +kernel
theorem dX7_passes_170 : decode cX7_passes 170 = .ok (.goto (-137), 3) := by decide +kernel
theorem dX7_passes_173 : decode cX7_passes 173 = .ok (.aload_n 0, 1) := by decide +kernel
theorem dX7_passes_174 : decode cX7_passes 174 = .ok (.invokevirtual 98, 3) := by decide +kernel
theorem dX7_passes_177 : decode cX7_passes 177 = .ok (.pop, 1) := by decide +kernel
theorem dX7_passes_178 : decode cX7_passes 178 = .ok (.aload_n 0, 1) := by decide +kernel
theorem dX7_passes_179 : decode cX7_passes 179 = .ok (.getfield 7, 3) := by decide +kernel
theorem dX7_passes_182 : decode cX7_passes 182 = .ok (.iconst 1, 1) := by decide +kernel
theorem dX7_passes_183 : decode cX7_passes 183 = .ok (.dup2, 1) := by decide +kernel
theorem dX7_passes_184 : decode cX7_passes 184 = .ok (.iaload, 1) := by decide +kernel
theorem dX7_passes_185 : decode cX7_passes 185 = .ok (.iconst 1, 1) := by decide +kernel
theorem dX7_passes_186 : decode cX7_passes 186 = .ok (.iadd, 1) := by decide +kernel
theorem dX7_passes_187 : decode cX7_passes 187 = .ok (.iastore, 1) := by decide +kernel
theorem dX7_passes_188 : decode cX7_passes 188 = .ok (.iload_n 1, 1) := by decide +kernel
theorem dX7_passes_189 : decode cX7_passes 189 = .ok (.ireturn, 1) := by decide +kernel
theorem dX7_tick_0 : decode cX7_tick 0 = .ok (.iload_n 1, 1) := by decide +kernel
theorem dX7_tick_1 : decode cX7_tick 1 = .ok (.iconst 1, 1) := by decide +kernel
theorem dX7_tick_2 : decode cX7_tick 2 = .ok (.bipush 60, 2) := by decide +kernel
theorem dX7_tick_4 : decode cX7_tick 4 = .ok (.invokestatic 28, 3) := by decide +kernel
theorem dX7_tick_7 : decode cX7_tick 7 = .ok (.ifCond .ne 6, 3) := by decide +kernel
theorem dX7_tick_10 : decode cX7_tick 10 = .ok (.bipush (-2), 2) := by decide +kernel
theorem dX7_tick_12 : decode cX7_tick 12 = .ok (.ireturn, 1) := by decide +kernel
theorem dX7_tick_13 : decode cX7_tick 13 = .ok (.aload_n 0, 1) := by decide +kernel
theorem dX7_tick_14 : decode cX7_tick 14 = .ok (.invokevirtual 51, 3) := by decide +kernel
theorem dX7_tick_17 : decode cX7_tick 17 = .ok (.iconst 0, 1) := by decide +kernel
theorem dX7_tick_18 : decode cX7_tick 18 = .ok (.istore_n 2, 1) := by decide +kernel
theorem dX7_tick_19 : decode cX7_tick 19 = .ok (.iconst 0, 1) := by decide +kernel
theorem dX7_tick_20 : decode cX7_tick 20 = .ok (.istore_n 3, 1) := by decide +kernel
theorem dX7_tick_21 : decode cX7_tick 21 = .ok (.iload_n 3, 1) := by decide +kernel
theorem dX7_tick_22 : decode cX7_tick 22 = .ok (.iload_n 1, 1) := by decide +kernel
theorem dX7_tick_23 : decode cX7_tick 23 = .ok (.if_icmp .ge 16, 3) := by decide +kernel
theorem dX7_tick_26 : decode cX7_tick 26 = .ok (.iload_n 2, 1) := by decide +kernel
theorem dX7_tick_27 : decode cX7_tick 27 = .ok (.aload_n 0, 1) := by decide +kernel
theorem dX7_tick_28 : decode cX7_tick 28 = .ok (.invokevirtual 105, 3) := by decide +kernel
theorem dX7_tick_31 : decode cX7_tick 31 = .ok (.iadd, 1) := by decide +kernel
theorem dX7_tick_32 : decode cX7_tick 32 = .ok (.istore_n 2, 1) := by decide +kernel
theorem dX7_tick_33 : decode cX7_tick 33 = .ok (.iinc 3 1, 3) := by decide +kernel
theorem dX7_tick_36 : decode cX7_tick 36 = .ok (.goto (-15), 3) := by decide +kernel
theorem dX7_tick_39 : decode cX7_tick 39 = .ok (.iload_n 2, 1) := by decide +kernel
theorem dX7_tick_40 : decode cX7_tick 40 = .ok (.ireturn, 1) := by decide +kernel
theorem dX7_lasts_0 : decode cX7_lasts 0 = .ok (.aload_n 0, 1) := by decide +kernel
theorem dX7_lasts_1 : decode cX7_lasts 1 = .ok (.iload_n 1, 1) := by decide +kernel
theorem dX7_lasts_2 : decode cX7_lasts 2 = .ok (.invokevirtual 92, 3) := by decide +kernel
theorem dX7_lasts_5 : decode cX7_lasts 5 = .ok (.ifCond .ne 5, 3) := by decide +kernel
theorem dX7_lasts_8 : decode cX7_lasts 8 = .ok (.iconst (-1), 1) := by decide +kernel
theorem dX7_lasts_9 : decode cX7_lasts 9 = .ok (.ireturn, 1) := by decide +kernel
theorem dX7_lasts_10 : decode cX7_lasts 10 = .ok (.aload_n 0, 1) := by decide +kernel
theorem dX7_lasts_11 : decode cX7_lasts 11 = .ok (.iload_n 1, 1) := by decide +kernel
theorem dX7_lasts_12 : decode cX7_lasts 12 = .ok (.invokevirtual 64, 3) := by decide +kernel
theorem dX7_lasts_15 : decode cX7_lasts 15 = .ok (.ifCond .ne 6, 3) := by decide +kernel
theorem dX7_lasts_18 : decode cX7_lasts 18 = .ok (.bipush (-4), 2) := by decide +kernel
theorem dX7_lasts_20 : decode cX7_lasts 20 = .ok (.ireturn, 1) := by decide +kernel
theorem dX7_lasts_21 : decode cX7_lasts 21 = .ok (.aload_n 0, 1) := by decide +kernel
theorem dX7_lasts_22 : decode cX7_lasts 22 = .ok (.iconst 5, 1) := by decide +kernel
theorem dX7_lasts_23 : decode cX7_lasts 23 = .ok (.invokevirtual 40, 3) := by decide +kernel
theorem dX7_lasts_26 : decode cX7_lasts 26 = .ok (.iconst 0, 1) := by decide +kernel
theorem dX7_lasts_27 : decode cX7_lasts 27 = .ok (.istore_n 2, 1) := by decide +kernel
theorem dX7_lasts_28 : decode cX7_lasts 28 = .ok (.aload_n 0, 1) := by decide +kernel
theorem dX7_lasts_29 : decode cX7_lasts 29 = .ok (.iload_n 1, 1) := by decide +kernel
theorem dX7_lasts_30 : decode cX7_lasts 30 = .ok (.invokevirtual 64, 3) := by decide +kernel
theorem dX7_lasts_33 : decode cX7_lasts 33 = .ok (.ifCond .eq 28, 3) := by decide +kernel
theorem dX7_lasts_36 : decode cX7_lasts 36 = .ok (.iload_n 2, 1) := by decide +kernel
theorem dX7_lasts_37 : decode cX7_lasts 37 = .ok (.sipush 200, 3) := by decide +kernel
theorem dX7_lasts_40 : decode cX7_lasts 40 = .ok (.if_icmp .gt 21, 3) := by decide +kernel
theorem dX7_lasts_43 : decode cX7_lasts 43 = .ok (.iload_n 2, 1) := by decide +kernel
theorem dX7_lasts_44 : decode cX7_lasts 44 = .ok (.aload_n 0, 1) := by decide +kernel
theorem dX7_lasts_45 : decode cX7_lasts 45 = .ok (.invokevirtual 105, 3) := by decide +kernel
theorem dX7_lasts_48 : decode cX7_lasts 48 = .ok (.ifCond .ge 7, 3) := by decide +kernel
theorem dX7_lasts_51 : decode cX7_lasts 51 = .ok (.iconst 0, 1) := by decide +kernel
theorem dX7_lasts_52 : decode cX7_lasts 52 = .ok (.goto 4, 3) := by decide +kernel
theorem dX7_lasts_55 : decode cX7_lasts 55 = .ok (.iconst 1, 1) := by decide +kernel
theorem dX7_lasts_56 : decode cX7_lasts 56 = .ok (.iadd, 1) := by decide +kernel
theorem dX7_lasts_57 : decode cX7_lasts 57 = .ok (.istore_n 2, 1) := by decide +kernel
theorem dX7_lasts_58 : decode cX7_lasts 58 = .ok (.goto (-30), 3) := by decide +kernel
theorem dX7_lasts_61 : decode cX7_lasts 61 = .ok (.aload_n 0, 1) := by decide +kernel
theorem dX7_lasts_62 : decode cX7_lasts 62 = .ok (.iconst 5, 1) := by decide +kernel
theorem dX7_lasts_63 : decode cX7_lasts 63 = .ok (.invokevirtual 44, 3) := by decide +kernel
theorem dX7_lasts_66 : decode cX7_lasts 66 = .ok (.iload_n 2, 1) := by decide +kernel
theorem dX7_lasts_67 : decode cX7_lasts 67 = .ok (.sipush 200, 3) := by decide +kernel
theorem dX7_lasts_70 : decode cX7_lasts 70 = .ok (.if_icmp .le 8, 3) := by decide +kernel
theorem dX7_lasts_73 : decode cX7_lasts 73 = .ok (.bipush (-5), 2) := by decide +kernel
theorem dX7_lasts_75 : decode cX7_lasts 75 = .ok (.goto 4, 3) := by decide +kernel
theorem dX7_lasts_78 : decode cX7_lasts 78 = .ok (.iload_n 2, 1) := by decide +kernel
theorem dX7_lasts_79 : decode cX7_lasts 79 = .ok (.ireturn, 1) := by decide +kernel
theorem dX7_read_0 : decode cX7_read 0 = .ok (.aload_n 0, 1) := by decide +kernel
theorem dX7_read_1 : decode cX7_read 1 = .ok (.iload_n 1, 1) := by decide +kernel
theorem dX7_read_2 : decode cX7_read 2 = .ok (.invokevirtual 92, 3) := by decide +kernel
theorem dX7_read_5 : decode cX7_read 5 = .ok (.ifCond .eq 10, 3) := by decide +kernel
theorem dX7_read_8 : decode cX7_read 8 = .ok (.iload_n 2, 1) := by decide +kernel
theorem dX7_read_9 : decode cX7_read 9 = .ok (.invokestatic 108, 3) := by decide +kernel
theorem dX7_read_12 : decode cX7_read 12 = .ok (.ifCond .ne 5, 3) := by decide +kernel
theorem dX7_read_15 : decode cX7_read 15 = .ok (.iconst (-1), 1) := by decide +kernel
theorem dX7_read_16 : decode cX7_read 16 = .ok (.ireturn, 1) := by decide +kernel
theorem dX7_read_17 : decode cX7_read 17 = .ok (.aload_n 0, 1) := by decide +kernel
theorem dX7_read_18 : decode cX7_read 18 = .ok (.iload_n 1, 1) := by decide +kernel
theorem dX7_read_19 : decode cX7_read 19 = .ok (.invokevirtual 64, 3) := by decide +kernel
theorem dX7_read_22 : decode cX7_read 22 = .ok (.ifCond .ne 6, 3) := by decide +kernel
theorem dX7_read_25 : decode cX7_read 25 = .ok (.bipush (-4), 2) := by decide +kernel
theorem dX7_read_27 : decode cX7_read 27 = .ok (.ireturn, 1) := by decide +kernel
theorem dX7_read_28 : decode cX7_read 28 = .ok (.aload_n 0, 1) := by decide +kernel
theorem dX7_read_29 : decode cX7_read 29 = .ok (.invokevirtual 51, 3) := by decide +kernel
theorem dX7_read_32 : decode cX7_read 32 = .ok (.aload_n 0, 1) := by decide +kernel
theorem dX7_read_33 : decode cX7_read 33 = .ok (.iload_n 1, 1) := by decide +kernel
theorem dX7_read_34 : decode cX7_read 34 = .ok (.iconst 4, 1) := by decide +kernel
theorem dX7_read_35 : decode cX7_read 35 = .ok (.invokevirtual 32, 3) := by decide +kernel
theorem dX7_read_38 : decode cX7_read 38 = .ok (.iload_n 2, 1) := by decide +kernel
theorem dX7_read_39 : decode cX7_read 39 = .ok (.invokestatic 111, 3) := by decide +kernel
theorem dX7_read_42 : decode cX7_read 42 = .ok (.ifCond .eq 13, 3) := by decide +kernel
theorem dX7_read_45 : decode cX7_read 45 = .ok (.aload_n 0, 1) := by decide +kernel
theorem dX7_read_46 : decode cX7_read 46 = .ok (.iload_n 1, 1) := by decide +kernel
theorem dX7_read_47 : decode cX7_read 47 = .ok (.bipush 8, 2) := by decide +kernel
theorem dX7_read_49 : decode cX7_read 49 = .ok (.iload_n 2, 1) := by decide +kernel
theorem dX7_read_50 : decode cX7_read 50 = .ok (.iadd, 1) := by decide +kernel
theorem dX7_read_51 : decode cX7_read 51 = .ok (.invokevirtual 32, 3) := by decide +kernel
theorem dX7_read_54 : decode cX7_read 54 = .ok (.ireturn, 1) := by decide +kernel
theorem dX7_read_55 : decode cX7_read 55 = .ok (.aload_n 0, 1) := by decide +kernel
theorem dX7_read_56 : decode cX7_read 56 = .ok (.iload_n 1, 1) := by decide +kernel
theorem dX7_read_57 : decode cX7_read 57 = .ok (.iconst 3, 1) := by decide +kernel
theorem dX7_read_58 : decode cX7_read 58 = .ok (.aload_n 0, 1) := by decide +kernel
theorem dX7_read_59 : decode cX7_read 59 = .ok (.iload_n 1, 1) := by decide +kernel
theorem dX7_read_60 : decode cX7_read 60 = .ok (.iconst 3, 1) := by decide +kernel
theorem dX7_read_61 : decode cX7_read 61 = .ok (.invokevirtual 32, 3) := by decide +kernel
theorem dX7_read_64 : decode cX7_read 64 = .ok (.iconst 1, 1) := by decide +kernel
theorem dX7_read_65 : decode cX7_read 65 = .ok (.iload_n 2, 1) := by decide +kernel
theorem dX7_read_66 : decode cX7_read 66 = .ok (.ishl, 1) := by decide +kernel
theorem dX7_read_67 : decode cX7_read 67 = .ok (.ior, 1) := by decide +kernel
theorem dX7_read_68 : decode cX7_read 68 = .ok (.invokevirtual 88, 3) := by decide +kernel
theorem dX7_read_71 : decode cX7_read 71 = .ok (.aload_n 0, 1) := by decide +kernel
theorem dX7_read_72 : decode cX7_read 72 = .ok (.aload_n 0, 1) := by decide +kernel
theorem dX7_read_73 : decode cX7_read 73 = .ok (.iload_n 2, 1) := by decide +kernel
theorem dX7_read_74 : decode cX7_read 74 = .ok (.aload_n 0, 1) := by decide +kernel
theorem dX7_read_75 : decode cX7_read 75 = .ok (.iload_n 1, 1) := by decide +kernel
theorem dX7_read_76 : decode cX7_read 76 = .ok (.iconst 0, 1) := by decide +kernel
theorem dX7_read_77 : decode cX7_read 77 = .ok (.invokevirtual 32, 3) := by decide +kernel
theorem dX7_read_80 : decode cX7_read 80 = .ok (.invokevirtual 57, 3) := by decide +kernel
theorem dX7_read_83 : decode cX7_read 83 = .ok (.iconst 2, 1) := by decide +kernel
theorem dX7_read_84 : decode cX7_read 84 = .ok (.invokevirtual 54, 3) := by decide +kernel
theorem dX7_read_87 : decode cX7_read 87 = .ok (.ireturn, 1) := by decide +kernel
theorem dX7_writes_0 : decode cX7_writes 0 = .ok (.aload_n 0, 1) := by decide +kernel
theorem dX7_writes_1 : decode cX7_writes 1 = .ok (.iload_n 1, 1) := by decide +kernel
theorem dX7_writes_2 : decode cX7_writes 2 = .ok (.iconst 4, 1) := by decide +kernel
theorem dX7_writes_3 : decode cX7_writes 3 = .ok (.aload_n 0, 1) := by decide +kernel
theorem dX7_writes_4 : decode cX7_writes 4 = .ok (.iload_n 1, 1) := by decide +kernel
theorem dX7_writes_5 : decode cX7_writes 5 = .ok (.iconst 4, 1) := by decide +kernel
theorem dX7_writes_6 : decode cX7_writes 6 = .ok (.invokevirtual 32, 3) := by decide +kernel
theorem dX7_writes_9 : decode cX7_writes 9 = .ok (.iconst 1, 1) := by decide +kernel
theorem dX7_writes_10 : decode cX7_writes 10 = .ok (.iload_n 2, 1) := by decide +kernel
theorem dX7_writes_11 : decode cX7_writes 11 = .ok (.ishl, 1) := by decide +kernel
theorem dX7_writes_12 : decode cX7_writes 12 = .ok (.ior, 1) := by decide +kernel
theorem dX7_writes_13 : decode cX7_writes 13 = .ok (.invokevirtual 88, 3) := by decide +kernel
theorem dX7_writes_16 : decode cX7_writes 16 = .ok (.aload_n 0, 1) := by decide +kernel
theorem dX7_writes_17 : decode cX7_writes 17 = .ok (.iload_n 1, 1) := by decide +kernel
theorem dX7_writes_18 : decode cX7_writes 18 = .ok (.bipush 8, 2) := by decide +kernel
theorem dX7_writes_20 : decode cX7_writes 20 = .ok (.iload_n 2, 1) := by decide +kernel
theorem dX7_writes_21 : decode cX7_writes 21 = .ok (.iadd, 1) := by decide +kernel
theorem dX7_writes_22 : decode cX7_writes 22 = .ok (.iload_n 3, 1) := by decide +kernel
theorem dX7_writes_23 : decode cX7_writes 23 = .ok (.invokevirtual 88, 3) := by decide +kernel
theorem dX7_writes_26 : decode cX7_writes 26 = .ok (.return_, 1) := by decide +kernel
theorem dX7_write_0 : decode cX7_write 0 = .ok (.aload_n 0, 1) := by decide +kernel
theorem dX7_write_1 : decode cX7_write 1 = .ok (.iload_n 1, 1) := by decide +kernel
theorem dX7_write_2 : decode cX7_write 2 = .ok (.invokevirtual 92, 3) := by decide +kernel
theorem dX7_write_5 : decode cX7_write 5 = .ok (.ifCond .eq 10, 3) := by decide +kernel
theorem dX7_write_8 : decode cX7_write 8 = .ok (.iload_n 2, 1) := by decide +kernel
theorem dX7_write_9 : decode cX7_write 9 = .ok (.invokestatic 108, 3) := by decide +kernel
theorem dX7_write_12 : decode cX7_write 12 = .ok (.ifCond .ne 5, 3) := by decide +kernel
theorem dX7_write_15 : decode cX7_write 15 = .ok (.iconst (-1), 1) := by decide +kernel
theorem dX7_write_16 : decode cX7_write 16 = .ok (.ireturn, 1) := by decide +kernel
theorem dX7_write_17 : decode cX7_write 17 = .ok (.iload_n 3, 1) := by decide +kernel
theorem dX7_write_18 : decode cX7_write 18 = .ok (.iconst 0, 1) := by decide +kernel
theorem dX7_write_19 : decode cX7_write 19 = .ok (.sipush 9999, 3) := by decide +kernel
theorem dX7_write_22 : decode cX7_write 22 = .ok (.invokestatic 28, 3) := by decide +kernel
theorem dX7_write_25 : decode cX7_write 25 = .ok (.ifCond .ne 6, 3) := by decide +kernel
theorem dX7_write_28 : decode cX7_write 28 = .ok (.bipush (-2), 2) := by decide +kernel
theorem dX7_write_30 : decode cX7_write 30 = .ok (.ireturn, 1) := by decide +kernel
theorem dX7_write_31 : decode cX7_write 31 = .ok (.aload_n 0, 1) := by decide +kernel
theorem dX7_write_32 : decode cX7_write 32 = .ok (.iload_n 1, 1) := by decide +kernel
theorem dX7_write_33 : decode cX7_write 33 = .ok (.invokevirtual 64, 3) := by decide +kernel
theorem dX7_write_36 : decode cX7_write 36 = .ok (.ifCond .ne 6, 3) := by decide +kernel
theorem dX7_write_39 : decode cX7_write 39 = .ok (.bipush (-4), 2) := by decide +kernel
theorem dX7_write_41 : decode cX7_write 41 = .ok (.ireturn, 1) := by decide +kernel
theorem dX7_write_42 : decode cX7_write 42 = .ok (.aload_n 0, 1) := by decide +kernel
theorem dX7_write_43 : decode cX7_write 43 = .ok (.invokevirtual 51, 3) := by decide +kernel
theorem dX7_write_46 : decode cX7_write 46 = .ok (.aload_n 0, 1) := by decide +kernel
theorem dX7_write_47 : decode cX7_write 47 = .ok (.iload_n 1, 1) := by decide +kernel
theorem dX7_write_48 : decode cX7_write 48 = .ok (.iload_n 2, 1) := by decide +kernel
theorem dX7_write_49 : decode cX7_write 49 = .ok (.iload_n 3, 1) := by decide +kernel
theorem dX7_write_50 : decode cX7_write 50 = .ok (.invokevirtual 114, 3) := by decide +kernel
theorem dX7_write_53 : decode cX7_write 53 = .ok (.aload_n 0, 1) := by decide +kernel
theorem dX7_write_54 : decode cX7_write 54 = .ok (.iload_n 1, 1) := by decide +kernel
theorem dX7_write_55 : decode cX7_write 55 = .ok (.iconst 4, 1) := by decide +kernel
theorem dX7_write_56 : decode cX7_write 56 = .ok (.invokevirtual 32, 3) := by decide +kernel
theorem dX7_write_59 : decode cX7_write 59 = .ok (.invokestatic 117, 3) := by decide +kernel
theorem dX7_write_62 : decode cX7_write 62 = .ok (.ireturn, 1) := by decide +kernel
theorem dX7_hasConflict_0 : decode cX7_hasConflict 0 = .ok (.iconst 0, 1) := by decide +kernel
theorem dX7_hasConflict_1 : decode cX7_hasConflict 1 = .ok (.istore_n 2, 1) := by decide +kernel
theorem dX7_hasConflict_2 : decode cX7_hasConflict 2 = .ok (.iconst 0, 1) := by decide +kernel
theorem dX7_hasConflict_3 : decode cX7_hasConflict 3 = .ok (.istore_n 3, 1) := by decide +kernel
theorem dX7_hasConflict_4 : decode cX7_hasConflict 4 = .ok (.iload_n 3, 1) := by decide +kernel
theorem dX7_hasConflict_5 : decode cX7_hasConflict 5 = .ok (.bipush 12, 2) := by decide +kernel
theorem dX7_hasConflict_7 : decode cX7_hasConflict 7 = .ok (.if_icmp .ge 51, 3) := by decide +kernel
theorem dX7_hasConflict_10 : decode cX7_hasConflict 10 = .ok (.iload_n 2, 1) := by decide +kernel
theorem dX7_hasConflict_11 : decode cX7_hasConflict 11 = .ok (.ifCond .ne 35, 3) := by decide +kernel
theorem dX7_hasConflict_14 : decode cX7_hasConflict 14 = .ok (.aload_n 0, 1) := by decide +kernel
theorem dX7_hasConflict_15 : decode cX7_hasConflict 15 = .ok (.iload_n 1, 1) := by decide +kernel
theorem dX7_hasConflict_16 : decode cX7_hasConflict 16 = .ok (.iconst 4, 1) := by decide +kernel
theorem dX7_hasConflict_17 : decode cX7_hasConflict 17 = .ok (.invokevirtual 32, 3) := by decide +kernel
theorem dX7_hasConflict_20 : decode cX7_hasConflict 20 = .ok (.iload_n 3, 1) := by decide +kernel
theorem dX7_hasConflict_21 : decode cX7_hasConflict 21 = .ok (.invokestatic 111, 3) := by decide +kernel
theorem dX7_hasConflict_24 : decode cX7_hasConflict 24 = .ok (.ifCond .eq 26, 3) := by decide +kernel
theorem dX7_hasConflict_27 : decode cX7_hasConflict 27 = .ok (.aload_n 0, 1) := by decide +kernel
theorem dX7_hasConflict_28 : decode cX7_hasConflict 28 = .ok (.aload_n 0, 1) := by decide +kernel
theorem dX7_hasConflict_29 : decode cX7_hasConflict 29 = .ok (.iload_n 3, 1) := by decide +kernel
theorem dX7_hasConflict_30 : decode cX7_hasConflict 30 = .ok (.invokevirtual 60, 3) := by decide +kernel
theorem dX7_hasConflict_33 : decode cX7_hasConflict 33 = .ok (.iconst 1, 1) := by decide +kernel
theorem dX7_hasConflict_34 : decode cX7_hasConflict 34 = .ok (.invokevirtual 54, 3) := by decide +kernel
theorem dX7_hasConflict_37 : decode cX7_hasConflict 37 = .ok (.aload_n 0, 1) := by decide +kernel
theorem dX7_hasConflict_38 : decode cX7_hasConflict 38 = .ok (.iload_n 1, 1) := by decide +kernel
theorem dX7_hasConflict_39 : decode cX7_hasConflict 39 = .ok (.iconst 0, 1) := by decide +kernel
theorem dX7_hasConflict_40 : decode cX7_hasConflict 40 = .ok (.invokevirtual 32, 3) := by decide +kernel
theorem dX7_hasConflict_43 : decode cX7_hasConflict 43 = .ok (.if_icmp .le 7, 3) := by decide +kernel
theorem dX7_hasConflict_46 : decode cX7_hasConflict 46 = .ok (.iconst 1, 1) := by decide +kernel
theorem dX7_hasConflict_47 : decode cX7_hasConflict 47 = .ok (.goto 4, 3) := by decide +kernel
theorem dX7_hasConflict_50 : decode cX7_hasConflict 50 = .ok (.iconst 0, 1) := by decide +kernel
theorem dX7_hasConflict_51 : decode cX7_hasConflict 51 = .ok (.istore_n 2, 1) := by decide +kernel
theorem dX7_hasConflict_52 : decode cX7_hasConflict 52 = .ok (.iinc 3 1, 3) := by decide +kernel
theorem dX7_hasConflict_55 : decode cX7_hasConflict 55 = .ok (.goto (-51), 3) := by decide +kernel
theorem dX7_hasConflict_58 : decode cX7_hasConflict 58 = .ok (.iload_n 2, 1) := by decide +kernel
theorem dX7_hasConflict_59 : decode cX7_hasConflict 59 = .ok (.ireturn, 1) := by decide +kernel
theorem dX7_areSkew_0 : decode cX7_areSkew 0 = .ok (.iload_n 1, 1) := by decide +kernel
theorem dX7_areSkew_1 : decode cX7_areSkew 1 = .ok (.iload_n 2, 1) := by decide +kernel
theorem dX7_areSkew_2 : decode cX7_areSkew 2 = .ok (.iand, 1) := by decide +kernel
theorem dX7_areSkew_3 : decode cX7_areSkew 3 = .ok (.ifCond .eq 19, 3) := by decide +kernel
theorem dX7_areSkew_6 : decode cX7_areSkew 6 = .ok (.iload_n 3, 1) := by decide +kernel
theorem dX7_areSkew_7 : decode cX7_areSkew 7 = .ok (.iload_n 0, 1) := by decide +kernel
theorem dX7_areSkew_8 : decode cX7_areSkew 8 = .ok (.iand, 1) := by decide +kernel
theorem dX7_areSkew_9 : decode cX7_areSkew 9 = .ok (.ifCond .eq 13, 3) := by decide +kernel
theorem dX7_areSkew_12 : decode cX7_areSkew 12 = .ok (.iload_n 0, 1) := by decide +kernel
theorem dX7_areSkew_13 : decode cX7_areSkew 13 = .ok (.iload_n 2, 1) := by decide +kernel
theorem dX7_areSkew_14 : decode cX7_areSkew 14 = .ok (.iand, 1) := by decide +kernel
theorem dX7_areSkew_15 : decode cX7_areSkew 15 = .ok (.ifCond .ne 7, 3) := by decide +kernel
theorem dX7_areSkew_18 : decode cX7_areSkew 18 = .ok (.iconst 1, 1) := by decide +kernel
theorem dX7_areSkew_19 : decode cX7_areSkew 19 = .ok (.goto 4, 3) := by decide +kernel
theorem dX7_areSkew_22 : decode cX7_areSkew 22 = .ok (.iconst 0, 1) := by decide +kernel
theorem dX7_areSkew_23 : decode cX7_areSkew 23 = .ok (.ireturn, 1) := by decide +kernel
theorem dX7_skewsOf_0 : decode cX7_skewsOf 0 = .ok (.iconst 0, 1) := by decide +kernel
theorem dX7_skewsOf_1 : decode cX7_skewsOf 1 = .ok (.istore_n 2, 1) := by decide +kernel
theorem dX7_skewsOf_2 : decode cX7_skewsOf 2 = .ok (.iconst 0, 1) := by decide +kernel
theorem dX7_skewsOf_3 : decode cX7_skewsOf 3 = .ok (.istore_n 3, 1) := by decide +kernel
theorem dX7_skewsOf_4 : decode cX7_skewsOf 4 = .ok (.iload_n 3, 1) := by decide +kernel
theorem dX7_skewsOf_5 : decode cX7_skewsOf 5 = .ok (.aload_n 0, 1) := by decide +kernel
theorem dX7_skewsOf_6 : decode cX7_skewsOf 6 = .ok (.getfield 7, 3) := by decide +kernel
theorem dX7_skewsOf_9 : decode cX7_skewsOf 9 = .ok (.bipush 6, 2) := by decide +kernel
theorem dX7_skewsOf_11 : decode cX7_skewsOf 11 = .ok (.iaload, 1) := by decide +kernel
theorem dX7_skewsOf_12 : decode cX7_skewsOf 12 = .ok (.if_icmp .ge 91, 3) := by decide +kernel
theorem dX7_skewsOf_15 : decode cX7_skewsOf 15 = .ok (.aload_n 0, 1) := by decide +kernel
theorem dX7_skewsOf_16 : decode cX7_skewsOf 16 = .ok (.iload_n 1, 1) := by decide +kernel
theorem dX7_skewsOf_17 : decode cX7_skewsOf 17 = .ok (.iconst 0, 1) := by decide +kernel
theorem dX7_skewsOf_18 : decode cX7_skewsOf 18 = .ok (.invokevirtual 32, 3) := by decide +kernel
theorem dX7_skewsOf_21 : decode cX7_skewsOf 21 = .ok (.aload_n 0, 1) := by decide +kernel
theorem dX7_skewsOf_22 : decode cX7_skewsOf 22 = .ok (.iload_n 3, 1) := by decide +kernel
theorem dX7_skewsOf_23 : decode cX7_skewsOf 23 = .ok (.iconst 2, 1) := by decide +kernel
theorem dX7_skewsOf_24 : decode cX7_skewsOf 24 = .ok (.invokevirtual 120, 3) := by decide +kernel
theorem dX7_skewsOf_27 : decode cX7_skewsOf 27 = .ok (.if_icmp .ge 24, 3) := by decide +kernel
theorem dX7_skewsOf_30 : decode cX7_skewsOf 30 = .ok (.aload_n 0, 1) := by decide +kernel
theorem dX7_skewsOf_31 : decode cX7_skewsOf 31 = .ok (.iload_n 3, 1) := by decide +kernel
theorem dX7_skewsOf_32 : decode cX7_skewsOf 32 = .ok (.iconst 1, 1) := by decide +kernel
theorem dX7_skewsOf_33 : decode cX7_skewsOf 33 = .ok (.invokevirtual 120, 3) := by decide +kernel
theorem dX7_skewsOf_36 : decode cX7_skewsOf 36 = .ok (.aload_n 0, 1) := by decide +kernel
theorem dX7_skewsOf_37 : decode cX7_skewsOf 37 = .ok (.getfield 7, 3) := by decide +kernel
theorem dX7_skewsOf_40 : decode cX7_skewsOf 40 = .ok (.iconst 0, 1) := by decide +kernel
theorem dX7_skewsOf_41 : decode cX7_skewsOf 41 = .ok (.iaload, 1) := by decide +kernel
theorem dX7_skewsOf_42 : decode cX7_skewsOf 42 = .ok (.iconst 1, 1) := by decide +kernel
theorem dX7_skewsOf_43 : decode cX7_skewsOf 43 = .ok (.iadd, 1) := by decide +kernel
theorem dX7_skewsOf_44 : decode cX7_skewsOf 44 = .ok (.if_icmp .ge 7, 3) := by decide +kernel
theorem dX7_skewsOf_47 : decode cX7_skewsOf 47 = .ok (.iconst 1, 1) := by decide +kernel
theorem dX7_skewsOf_48 : decode cX7_skewsOf 48 = .ok (.goto 4, 3) := by decide +kernel
theorem dX7_skewsOf_51 : decode cX7_skewsOf 51 = .ok (.iconst 0, 1) := by decide +kernel
theorem dX7_skewsOf_52 : decode cX7_skewsOf 52 = .ok (.istore 4, 2) := by decide +kernel
theorem dX7_skewsOf_54 : decode cX7_skewsOf 54 = .ok (.iload_n 2, 1) := by decide +kernel
theorem dX7_skewsOf_55 : decode cX7_skewsOf 55 = .ok (.iload 4, 2) := by decide +kernel
theorem dX7_skewsOf_57 : decode cX7_skewsOf 57 = .ok (.ifCond .eq 37, 3) := by decide +kernel
theorem dX7_skewsOf_60 : decode cX7_skewsOf 60 = .ok (.aload_n 0, 1) := by decide +kernel
theorem dX7_skewsOf_61 : decode cX7_skewsOf 61 = .ok (.iload_n 1, 1) := by decide +kernel
theorem dX7_skewsOf_62 : decode cX7_skewsOf 62 = .ok (.iconst 4, 1) := by decide +kernel
theorem dX7_skewsOf_63 : decode cX7_skewsOf 63 = .ok (.invokevirtual 32, 3) := by decide +kernel
theorem dX7_skewsOf_66 : decode cX7_skewsOf 66 = .ok (.aload_n 0, 1) := by decide +kernel
theorem dX7_skewsOf_67 : decode cX7_skewsOf 67 = .ok (.iload_n 1, 1) := by decide +kernel
theorem dX7_skewsOf_68 : decode cX7_skewsOf 68 = .ok (.iconst 3, 1) := by decide +kernel
theorem dX7_skewsOf_69 : decode cX7_skewsOf 69 = .ok (.invokevirtual 32, 3) := by decide +kernel
theorem dX7_skewsOf_72 : decode cX7_skewsOf 72 = .ok (.aload_n 0, 1) := by decide +kernel
theorem dX7_skewsOf_73 : decode cX7_skewsOf 73 = .ok (.iload_n 3, 1) := by decide +kernel
theorem dX7_skewsOf_74 : decode cX7_skewsOf 74 = .ok (.iconst 3, 1) := by decide +kernel
theorem dX7_skewsOf_75 : decode cX7_skewsOf 75 = .ok (.invokevirtual 120, 3) := by decide +kernel
theorem dX7_skewsOf_78 : decode cX7_skewsOf 78 = .ok (.aload_n 0, 1) := by decide +kernel
theorem dX7_skewsOf_79 : decode cX7_skewsOf 79 = .ok (.iload_n 3, 1) := by decide +kernel
theorem dX7_skewsOf_80 : decode cX7_skewsOf 80 = .ok (.iconst 4, 1) := by decide +kernel
theorem dX7_skewsOf_81 : decode cX7_skewsOf 81 = .ok (.invokevirtual 120, 3) := by decide +kernel
theorem dX7_skewsOf_84 : decode cX7_skewsOf 84 = .ok (.invokestatic 123, 3) := by decide +kernel
theorem dX7_skewsOf_87 : decode cX7_skewsOf 87 = .ok (.ifCond .eq 7, 3) := by decide +kernel
theorem dX7_skewsOf_90 : decode cX7_skewsOf 90 = .ok (.iconst 1, 1) := by decide +kernel
theorem dX7_skewsOf_91 : decode cX7_skewsOf 91 = .ok (.goto 4, 3) := by decide +kernel
theorem dX7_skewsOf_94 : decode cX7_skewsOf 94 = .ok (.iconst 0, 1) := by decide +kernel
theorem dX7_skewsOf_95 : decode cX7_skewsOf 95 = .ok (.iadd, 1) := by decide +kernel
theorem dX7_skewsOf_96 : decode cX7_skewsOf 96 = .ok (.istore_n 2, 1) := by decide +kernel
theorem dX7_skewsOf_97 : decode cX7_skewsOf 97 = .ok (.iinc 3 1, 3) := by decide +kernel
theorem dX7_skewsOf_100 : decode cX7_skewsOf 100 = .ok (.goto (-96), 3) := by decide +kernel
theorem dX7_skewsOf_103 : decode cX7_skewsOf 103 = .ok (.iload_n 2, 1) := by decide +kernel
theorem dX7_skewsOf_104 : decode cX7_skewsOf 104 = .ok (.ireturn, 1) := by decide +kernel
theorem dX7_skews_0 : decode cX7_skews 0 = .ok (.iconst 0, 1) := by decide +kernel
theorem dX7_skews_1 : decode cX7_skews 1 = .ok (.istore_n 2, 1) := by decide +kernel
theorem dX7_skews_2 : decode cX7_skews 2 = .ok (.iconst 0, 1) := by decide +kernel
theorem dX7_skews_3 : decode cX7_skews 3 = .ok (.istore_n 3, 1) := by decide +kernel
theorem dX7_skews_4 : decode cX7_skews 4 = .ok (.iload_n 3, 1) := by decide +kernel
theorem dX7_skews_5 : decode cX7_skews 5 = .ok (.iload_n 1, 1) := by decide +kernel
theorem dX7_skews_6 : decode cX7_skews 6 = .ok (.if_icmp .ge 89, 3) := by decide +kernel
theorem dX7_skews_9 : decode cX7_skews 9 = .ok (.aload_n 0, 1) := by decide +kernel
theorem dX7_skews_10 : decode cX7_skews 10 = .ok (.iload_n 1, 1) := by decide +kernel
theorem dX7_skews_11 : decode cX7_skews 11 = .ok (.iconst 1, 1) := by decide +kernel
theorem dX7_skews_12 : decode cX7_skews 12 = .ok (.invokevirtual 120, 3) := by decide +kernel
theorem dX7_skews_15 : decode cX7_skews 15 = .ok (.aload_n 0, 1) := by decide +kernel
theorem dX7_skews_16 : decode cX7_skews 16 = .ok (.iload_n 3, 1) := by decide +kernel
theorem dX7_skews_17 : decode cX7_skews 17 = .ok (.iconst 2, 1) := by decide +kernel
theorem dX7_skews_18 : decode cX7_skews 18 = .ok (.invokevirtual 120, 3) := by decide +kernel
theorem dX7_skews_21 : decode cX7_skews 21 = .ok (.if_icmp .ge 22, 3) := by decide +kernel
theorem dX7_skews_24 : decode cX7_skews 24 = .ok (.aload_n 0, 1) := by decide +kernel
theorem dX7_skews_25 : decode cX7_skews 25 = .ok (.iload_n 3, 1) := by decide +kernel
theorem dX7_skews_26 : decode cX7_skews 26 = .ok (.iconst 1, 1) := by decide +kernel
theorem dX7_skews_27 : decode cX7_skews 27 = .ok (.invokevirtual 120, 3) := by decide +kernel
theorem dX7_skews_30 : decode cX7_skews 30 = .ok (.aload_n 0, 1) := by decide +kernel
theorem dX7_skews_31 : decode cX7_skews 31 = .ok (.iload_n 1, 1) := by decide +kernel
theorem dX7_skews_32 : decode cX7_skews 32 = .ok (.iconst 2, 1) := by decide +kernel
theorem dX7_skews_33 : decode cX7_skews 33 = .ok (.invokevirtual 120, 3) := by decide +kernel
theorem dX7_skews_36 : decode cX7_skews 36 = .ok (.if_icmp .ge 7, 3) := by decide +kernel
theorem dX7_skews_39 : decode cX7_skews 39 = .ok (.iconst 1, 1) := by decide +kernel
theorem dX7_skews_40 : decode cX7_skews 40 = .ok (.goto 4, 3) := by decide +kernel
theorem dX7_skews_43 : decode cX7_skews 43 = .ok (.iconst 0, 1) := by decide +kernel
theorem dX7_skews_44 : decode cX7_skews 44 = .ok (.istore 4, 2) := by decide +kernel
theorem dX7_skews_46 : decode cX7_skews 46 = .ok (.iload_n 2, 1) := by decide +kernel
theorem dX7_skews_47 : decode cX7_skews 47 = .ok (.iload 4, 2) := by decide +kernel
theorem dX7_skews_49 : decode cX7_skews 49 = .ok (.ifCond .eq 37, 3) := by decide +kernel
theorem dX7_skews_52 : decode cX7_skews 52 = .ok (.aload_n 0, 1) := by decide +kernel
theorem dX7_skews_53 : decode cX7_skews 53 = .ok (.iload_n 1, 1) := by decide +kernel
theorem dX7_skews_54 : decode cX7_skews 54 = .ok (.iconst 3, 1) := by decide +kernel
theorem dX7_skews_55 : decode cX7_skews 55 = .ok (.invokevirtual 120, 3) := by decide +kernel
theorem dX7_skews_58 : decode cX7_skews 58 = .ok (.aload_n 0, 1) := by decide +kernel
theorem dX7_skews_59 : decode cX7_skews 59 = .ok (.iload_n 1, 1) := by decide +kernel
theorem dX7_skews_60 : decode cX7_skews 60 = .ok (.iconst 4, 1) := by decide +kernel
theorem dX7_skews_61 : decode cX7_skews 61 = .ok (.invokevirtual 120, 3) := by decide +kernel
theorem dX7_skews_64 : decode cX7_skews 64 = .ok (.aload_n 0, 1) := by decide +kernel
theorem dX7_skews_65 : decode cX7_skews 65 = .ok (.iload_n 3, 1) := by decide +kernel
theorem dX7_skews_66 : decode cX7_skews 66 = .ok (.iconst 3, 1) := by decide +kernel
theorem dX7_skews_67 : decode cX7_skews 67 = .ok (.invokevirtual 120, 3) := by decide +kernel
theorem dX7_skews_70 : decode cX7_skews 70 = .ok (.aload_n 0, 1) := by decide +kernel
theorem dX7_skews_71 : decode cX7_skews 71 = .ok (.iload_n 3, 1) := by decide +kernel
theorem dX7_skews_72 : decode cX7_skews 72 = .ok (.iconst 4, 1) := by decide +kernel
theorem dX7_skews_73 : decode cX7_skews 73 = .ok (.invokevirtual 120, 3) := by decide +kernel
theorem dX7_skews_76 : decode cX7_skews 76 = .ok (.invokestatic 123, 3) := by decide +kernel
theorem dX7_skews_79 : decode cX7_skews 79 = .ok (.ifCond .eq 7, 3) := by decide +kernel
theorem dX7_skews_82 : decode cX7_skews 82 = .ok (.iconst 1, 1) := by decide +kernel
theorem dX7_skews_83 : decode cX7_skews 83 = .ok (.goto 4, 3) := by decide +kernel
theorem dX7_skews_86 : decode cX7_skews 86 = .ok (.iconst 0, 1) := by decide +kernel
theorem dX7_skews_87 : decode cX7_skews 87 = .ok (.iadd, 1) := by decide +kernel
theorem dX7_skews_88 : decode cX7_skews 88 = .ok (.istore_n 2, 1) := by decide +kernel
theorem dX7_skews_89 : decode cX7_skews 89 = .ok (.iinc 3 1, 3) := by decide +kernel
theorem dX7_skews_92 : decode cX7_skews 92 = .ok (.goto (-88), 3) := by decide +kernel
theorem dX7_skews_95 : decode cX7_skews 95 = .ok (.iload_n 2, 1) := by decide +kernel
theorem dX7_skews_96 : decode cX7_skews 96 = .ok (.ireturn, 1) := by decide +kernel
theorem dX7_pairs_0 : decode cX7_pairs 0 = .ok (.iconst 0, 1) := by decide +kernel
theorem dX7_pairs_1 : decode cX7_pairs 1 = .ok (.istore_n 1, 1) := by decide +kernel
theorem dX7_pairs_2 : decode cX7_pairs 2 = .ok (.iconst 0, 1) := by decide +kernel
theorem dX7_pairs_3 : decode cX7_pairs 3 = .ok (.istore_n 2, 1) := by decide +kernel
theorem dX7_pairs_4 : decode cX7_pairs 4 = .ok (.iload_n 2, 1) := by decide +kernel
theorem dX7_pairs_5 : decode cX7_pairs 5 = .ok (.aload_n 0, 1) := by decide +kernel
theorem dX7_pairs_6 : decode cX7_pairs 6 = .ok (.getfield 7, 3) := by decide +kernel
theorem dX7_pairs_9 : decode cX7_pairs 9 = .ok (.bipush 6, 2) := by decide +kernel
theorem dX7_pairs_11 : decode cX7_pairs 11 = .ok (.iaload, 1) := by decide +kernel
theorem dX7_pairs_12 : decode cX7_pairs 12 = .ok (.if_icmp .ge 17, 3) := by decide +kernel
theorem dX7_pairs_15 : decode cX7_pairs 15 = .ok (.iload_n 1, 1) := by decide +kernel
theorem dX7_pairs_16 : decode cX7_pairs 16 = .ok (.aload_n 0, 1) := by decide +kernel
theorem dX7_pairs_17 : decode cX7_pairs 17 = .ok (.iload_n 2, 1) := by decide +kernel
theorem dX7_pairs_18 : decode cX7_pairs 18 = .ok (.invokevirtual 127, 3) := by decide +kernel
theorem dX7_pairs_21 : decode cX7_pairs 21 = .ok (.iadd, 1) := by decide +kernel
theorem dX7_pairs_22 : decode cX7_pairs 22 = .ok (.istore_n 1, 1) := by decide +kernel
theorem dX7_pairs_23 : decode cX7_pairs 23 = .ok (.iinc 2 1, 3) := by decide +kernel
theorem dX7_pairs_26 : decode cX7_pairs 26 = .ok (.goto (-22), 3) := by decide +kernel
theorem dX7_pairs_29 : decode cX7_pairs 29 = .ok (.iload_n 1, 1) := by decide +kernel
theorem dX7_pairs_30 : decode cX7_pairs 30 = .ok (.ireturn, 1) := by decide +kernel
theorem dX7_commits_0 : decode cX7_commits 0 = .ok (.aload_n 0, 1) := by decide +kernel
theorem dX7_commits_1 : decode cX7_commits 1 = .ok (.getfield 7, 3) := by decide +kernel
theorem dX7_commits_4 : decode cX7_commits 4 = .ok (.iconst 0, 1) := by decide +kernel
theorem dX7_commits_5 : decode cX7_commits 5 = .ok (.dup2, 1) := by decide +kernel
theorem dX7_commits_6 : decode cX7_commits 6 = .ok (.iaload, 1) := by decide +kernel
theorem dX7_commits_7 : decode cX7_commits 7 = .ok (.iconst 1, 1) := by decide +kernel
theorem dX7_commits_8 : decode cX7_commits 8 = .ok (.iadd, 1) := by decide +kernel
theorem dX7_commits_9 : decode cX7_commits 9 = .ok (.iastore, 1) := by decide +kernel
theorem dX7_commits_10 : decode cX7_commits 10 = .ok (.sipush 1001, 3) := by decide +kernel
theorem dX7_commits_13 : decode cX7_commits 13 = .ok (.iconst 5, 1) := by decide +kernel
theorem dX7_commits_14 : decode cX7_commits 14 = .ok (.aload_n 0, 1) := by decide +kernel
theorem dX7_commits_15 : decode cX7_commits 15 = .ok (.getfield 7, 3) := by decide +kernel
theorem dX7_commits_18 : decode cX7_commits 18 = .ok (.bipush 6, 2) := by decide +kernel
theorem dX7_commits_20 : decode cX7_commits 20 = .ok (.iaload, 1) := by decide +kernel
theorem dX7_commits_21 : decode cX7_commits 21 = .ok (.imul, 1) := by decide +kernel
theorem dX7_commits_22 : decode cX7_commits 22 = .ok (.iadd, 1) := by decide +kernel
theorem dX7_commits_23 : decode cX7_commits 23 = .ok (.istore_n 2, 1) := by decide +kernel
theorem dX7_commits_24 : decode cX7_commits 24 = .ok (.aload_n 0, 1) := by decide +kernel
theorem dX7_commits_25 : decode cX7_commits 25 = .ok (.getfield 7, 3) := by decide +kernel
theorem dX7_commits_28 : decode cX7_commits 28 = .ok (.iload_n 2, 1) := by decide +kernel
theorem dX7_commits_29 : decode cX7_commits 29 = .ok (.iload_n 1, 1) := by decide +kernel
theorem dX7_commits_30 : decode cX7_commits 30 = .ok (.iastore, 1) := by decide +kernel
theorem dX7_commits_31 : decode cX7_commits 31 = .ok (.aload_n 0, 1) := by decide +kernel
theorem dX7_commits_32 : decode cX7_commits 32 = .ok (.getfield 7, 3) := by decide +kernel
theorem dX7_commits_35 : decode cX7_commits 35 = .ok (.iload_n 2, 1) := by decide +kernel
theorem dX7_commits_36 : decode cX7_commits 36 = .ok (.iconst 1, 1) := by decide +kernel
theorem dX7_commits_37 : decode cX7_commits 37 = .ok (.iadd, 1) := by decide +kernel
theorem dX7_commits_38 : decode cX7_commits 38 = .ok (.aload_n 0, 1) := by decide +kernel
theorem dX7_commits_39 : decode cX7_commits 39 = .ok (.iload_n 1, 1) := by decide +kernel
theorem dX7_commits_40 : decode cX7_commits 40 = .ok (.iconst 0, 1) := by decide +kernel
theorem dX7_commits_41 : decode cX7_commits 41 = .ok (.invokevirtual 32, 3) := by decide +kernel
theorem dX7_commits_44 : decode cX7_commits 44 = .ok (.iastore, 1) := by decide +kernel
theorem dX7_commits_45 : decode cX7_commits 45 = .ok (.aload_n 0, 1) := by decide +kernel
theorem dX7_commits_46 : decode cX7_commits 46 = .ok (.getfield 7, 3) := by decide +kernel
theorem dX7_commits_49 : decode cX7_commits 49 = .ok (.iload_n 2, 1) := by decide +kernel
theorem dX7_commits_50 : decode cX7_commits 50 = .ok (.iconst 2, 1) := by decide +kernel
theorem dX7_commits_51 : decode cX7_commits 51 = .ok (.iadd, 1) := by decide +kernel
theorem dX7_commits_52 : decode cX7_commits 52 = .ok (.aload_n 0, 1) := by decide +kernel
theorem dX7_commits_53 : decode cX7_commits 53 = .ok (.getfield 7, 3) := by decide +kernel
theorem dX7_commits_56 : decode cX7_commits 56 = .ok (.iconst 0, 1) := by decide +kernel
theorem dX7_commits_57 : decode cX7_commits 57 = .ok (.iaload, 1) := by decide +kernel
theorem dX7_commits_58 : decode cX7_commits 58 = .ok (.iastore, 1) := by decide +kernel
theorem dX7_commits_59 : decode cX7_commits 59 = .ok (.aload_n 0, 1) := by decide +kernel
theorem dX7_commits_60 : decode cX7_commits 60 = .ok (.getfield 7, 3) := by decide +kernel
theorem dX7_commits_63 : decode cX7_commits 63 = .ok (.iload_n 2, 1) := by decide +kernel
theorem dX7_commits_64 : decode cX7_commits 64 = .ok (.iconst 3, 1) := by decide +kernel
theorem dX7_commits_65 : decode cX7_commits 65 = .ok (.iadd, 1) := by decide +kernel
theorem dX7_commits_66 : decode cX7_commits 66 = .ok (.aload_n 0, 1) := by decide +kernel
theorem dX7_commits_67 : decode cX7_commits 67 = .ok (.iload_n 1, 1) := by decide +kernel
theorem dX7_commits_68 : decode cX7_commits 68 = .ok (.iconst 4, 1) := by decide +kernel
theorem dX7_commits_69 : decode cX7_commits 69 = .ok (.invokevirtual 32, 3) := by decide +kernel
theorem dX7_commits_72 : decode cX7_commits 72 = .ok (.iastore, 1) := by decide +kernel
theorem dX7_commits_73 : decode cX7_commits 73 = .ok (.aload_n 0, 1) := by decide +kernel
theorem dX7_commits_74 : decode cX7_commits 74 = .ok (.getfield 7, 3) := by decide +kernel
theorem dX7_commits_77 : decode cX7_commits 77 = .ok (.iload_n 2, 1) := by decide +kernel
theorem dX7_commits_78 : decode cX7_commits 78 = .ok (.iconst 4, 1) := by decide +kernel
theorem dX7_commits_79 : decode cX7_commits 79 = .ok (.iadd, 1) := by decide +kernel
theorem dX7_commits_80 : decode cX7_commits 80 = .ok (.aload_n 0, 1) := by decide +kernel
theorem dX7_commits_81 : decode cX7_commits 81 = .ok (.iload_n 1, 1) := by decide +kernel
theorem dX7_commits_82 : decode cX7_commits 82 = .ok (.iconst 3, 1) := by decide +kernel
theorem dX7_commits_83 : decode cX7_commits 83 = .ok (.invokevirtual 32, 3) := by decide +kernel
theorem dX7_commits_86 : decode cX7_commits 86 = .ok (.iastore, 1) := by decide +kernel
theorem dX7_commits_87 : decode cX7_commits 87 = .ok (.aload_n 0, 1) := by decide +kernel
theorem dX7_commits_88 : decode cX7_commits 88 = .ok (.getfield 7, 3) := by decide +kernel
theorem dX7_commits_91 : decode cX7_commits 91 = .ok (.bipush 6, 2) := by decide +kernel
theorem dX7_commits_93 : decode cX7_commits 93 = .ok (.dup2, 1) := by decide +kernel
theorem dX7_commits_94 : decode cX7_commits 94 = .ok (.iaload, 1) := by decide +kernel
theorem dX7_commits_95 : decode cX7_commits 95 = .ok (.iconst 1, 1) := by decide +kernel
theorem dX7_commits_96 : decode cX7_commits 96 = .ok (.iadd, 1) := by decide +kernel
theorem dX7_commits_97 : decode cX7_commits 97 = .ok (.iastore, 1) := by decide +kernel
theorem dX7_commits_98 : decode cX7_commits 98 = .ok (.iconst 0, 1) := by decide +kernel
theorem dX7_commits_99 : decode cX7_commits 99 = .ok (.istore_n 3, 1) := by decide +kernel
theorem dX7_commits_100 : decode cX7_commits 100 = .ok (.iload_n 3, 1) := by decide +kernel
theorem dX7_commits_101 : decode cX7_commits 101 = .ok (.bipush 12, 2) := by decide +kernel
theorem dX7_commits_103 : decode cX7_commits 103 = .ok (.if_icmp .ge 89, 3) := by decide +kernel
theorem dX7_commits_106 : decode cX7_commits 106 = .ok (.aload_n 0, 1) := by decide +kernel
theorem dX7_commits_107 : decode cX7_commits 107 = .ok (.iload_n 1, 1) := by decide +kernel
theorem dX7_commits_108 : decode cX7_commits 108 = .ok (.iconst 4, 1) := by decide +kernel
theorem dX7_commits_109 : decode cX7_commits 109 = .ok (.invokevirtual 32, 3) := by decide +kernel
theorem dX7_commits_112 : decode cX7_commits 112 = .ok (.iload_n 3, 1) := by decide +kernel
theorem dX7_commits_113 : decode cX7_commits 113 = .ok (.invokestatic 111, 3) := by decide +kernel
theorem dX7_commits_116 : decode cX7_commits 116 = .ok (.ifCond .eq 70, 3) := by decide +kernel
theorem dX7_commits_119 : decode cX7_commits 119 = .ok (.sipush 809, 3) := by decide +kernel
theorem dX7_commits_122 : decode cX7_commits 122 = .ok (.iconst 3, 1) := by decide +kernel
theorem dX7_commits_123 : decode cX7_commits 123 = .ok (.aload_n 0, 1) := by decide +kernel
theorem dX7_commits_124 : decode cX7_commits 124 = .ok (.getfield 7, 3) := by decide +kernel
theorem dX7_commits_127 : decode cX7_commits 127 = .ok (.bipush 8, 2) := by decide +kernel
theorem dX7_commits_129 : decode cX7_commits 129 = .ok (.iaload, 1) := by decide +kernel
theorem dX7_commits_130 : decode cX7_commits 130 = .ok (.imul, 1) := by decide +kernel
theorem dX7_commits_131 : decode cX7_commits 131 = .ok (.iadd, 1) := by decide +kernel
theorem dX7_commits_132 : decode cX7_commits 132 = .ok (.istore 4, 2) := by decide +kernel
theorem dX7_commits_134 : decode cX7_commits 134 = .ok (.aload_n 0, 1) := by decide +kernel
theorem dX7_commits_135 : decode cX7_commits 135 = .ok (.getfield 7, 3) := by decide +kernel
theorem dX7_commits_138 : decode cX7_commits 138 = .ok (.iload 4, 2) := by decide +kernel
theorem dX7_commits_140 : decode cX7_commits 140 = .ok (.iload_n 3, 1) := by decide +kernel
theorem dX7_commits_141 : decode cX7_commits 141 = .ok (.iastore, 1) := by decide +kernel
theorem dX7_commits_142 : decode cX7_commits 142 = .ok (.aload_n 0, 1) := by decide +kernel
theorem dX7_commits_143 : decode cX7_commits 143 = .ok (.getfield 7, 3) := by decide +kernel
theorem dX7_commits_146 : decode cX7_commits 146 = .ok (.iload 4, 2) := by decide +kernel
theorem dX7_commits_148 : decode cX7_commits 148 = .ok (.iconst 1, 1) := by decide +kernel
theorem dX7_commits_149 : decode cX7_commits 149 = .ok (.iadd, 1) := by decide +kernel
theorem dX7_commits_150 : decode cX7_commits 150 = .ok (.aload_n 0, 1) := by decide +kernel
theorem dX7_commits_151 : decode cX7_commits 151 = .ok (.getfield 7, 3) := by decide +kernel
theorem dX7_commits_154 : decode cX7_commits 154 = .ok (.iconst 0, 1) := by decide +kernel
theorem dX7_commits_155 : decode cX7_commits 155 = .ok (.iaload, 1) := by decide +kernel
theorem dX7_commits_156 : decode cX7_commits 156 = .ok (.iastore, 1) := by decide +kernel
theorem dX7_commits_157 : decode cX7_commits 157 = .ok (.aload_n 0, 1) := by decide +kernel
theorem dX7_commits_158 : decode cX7_commits 158 = .ok (.getfield 7, 3) := by decide +kernel
theorem dX7_commits_161 : decode cX7_commits 161 = .ok (.iload 4, 2) := by decide +kernel
theorem dX7_commits_163 : decode cX7_commits 163 = .ok (.iconst 2, 1) := by decide +kernel
theorem dX7_commits_164 : decode cX7_commits 164 = .ok (.iadd, 1) := by decide +kernel
theorem dX7_commits_165 : decode cX7_commits 165 = .ok (.aload_n 0, 1) := by decide +kernel
theorem dX7_commits_166 : decode cX7_commits 166 = .ok (.iload_n 1, 1) := by decide +kernel
theorem dX7_commits_167 : decode cX7_commits 167 = .ok (.bipush 8, 2) := by decide +kernel
theorem dX7_commits_169 : decode cX7_commits 169 = .ok (.iload_n 3, 1) := by decide +kernel
theorem dX7_commits_170 : decode cX7_commits 170 = .ok (.iadd, 1) := by decide +kernel
theorem dX7_commits_171 : decode cX7_commits 171 = .ok (.invokevirtual 32, 3) := by decide +kernel
theorem dX7_commits_174 : decode cX7_commits 174 = .ok (.iastore, 1) := by decide +kernel
theorem dX7_commits_175 : decode cX7_commits 175 = .ok (.aload_n 0, 1) := by decide +kernel
theorem dX7_commits_176 : decode cX7_commits 176 = .ok (.getfield 7, 3) := by decide +kernel
theorem dX7_commits_179 : decode cX7_commits 179 = .ok (.bipush 8, 2) := by decide +kernel
theorem dX7_commits_181 : decode cX7_commits 181 = .ok (.dup2, 1) := by decide +kernel
theorem dX7_commits_182 : decode cX7_commits 182 = .ok (.iaload, 1) := by decide +kernel
theorem dX7_commits_183 : decode cX7_commits 183 = .ok (.iconst 1, 1) := by decide +kernel
theorem dX7_commits_184 : decode cX7_commits 184 = .ok (.iadd, 1) := by decide +kernel
theorem dX7_commits_185 : decode cX7_commits 185 = .ok (.iastore, 1) := by decide +kernel
theorem dX7_commits_186 : decode cX7_commits 186 = .ok (.iinc 3 1, 3) := by decide +kernel
theorem dX7_commits_189 : decode cX7_commits 189 = .ok (.goto (-89), 3) := by decide +kernel
theorem dX7_commits_192 : decode cX7_commits 192 = .ok (.return_, 1) := by decide +kernel
theorem dX7_commit_0 : decode cX7_commit 0 = .ok (.aload_n 0, 1) := by decide +kernel
theorem dX7_commit_1 : decode cX7_commit 1 = .ok (.iload_n 1, 1) := by decide +kernel
theorem dX7_commit_2 : decode cX7_commit 2 = .ok (.invokevirtual 92, 3) := by decide +kernel
theorem dX7_commit_5 : decode cX7_commit 5 = .ok (.ifCond .ne 5, 3) := by decide +kernel
theorem dX7_commit_8 : decode cX7_commit 8 = .ok (.iconst (-1), 1) := by decide +kernel
theorem dX7_commit_9 : decode cX7_commit 9 = .ok (.ireturn, 1) := by decide +kernel
theorem dX7_commit_10 : decode cX7_commit 10 = .ok (.aload_n 0, 1) := by decide +kernel
theorem dX7_commit_11 : decode cX7_commit 11 = .ok (.iload_n 1, 1) := by decide +kernel
theorem dX7_commit_12 : decode cX7_commit 12 = .ok (.invokevirtual 64, 3) := by decide +kernel
theorem dX7_commit_15 : decode cX7_commit 15 = .ok (.ifCond .ne 6, 3) := by decide +kernel
theorem dX7_commit_18 : decode cX7_commit 18 = .ok (.bipush (-4), 2) := by decide +kernel
theorem dX7_commit_20 : decode cX7_commit 20 = .ok (.ireturn, 1) := by decide +kernel
theorem dX7_commit_21 : decode cX7_commit 21 = .ok (.aload_n 0, 1) := by decide +kernel
theorem dX7_commit_22 : decode cX7_commit 22 = .ok (.iload_n 1, 1) := by decide +kernel
theorem dX7_commit_23 : decode cX7_commit 23 = .ok (.invokevirtual 130, 3) := by decide +kernel
theorem dX7_commit_26 : decode cX7_commit 26 = .ok (.ifCond .eq 6, 3) := by decide +kernel
theorem dX7_commit_29 : decode cX7_commit 29 = .ok (.bipush (-6), 2) := by decide +kernel
theorem dX7_commit_31 : decode cX7_commit 31 = .ok (.ireturn, 1) := by decide +kernel
theorem dX7_commit_32 : decode cX7_commit 32 = .ok (.aload_n 0, 1) := by decide +kernel
theorem dX7_commit_33 : decode cX7_commit 33 = .ok (.getfield 7, 3) := by decide +kernel
theorem dX7_commit_36 : decode cX7_commit 36 = .ok (.bipush 7, 2) := by decide +kernel
theorem dX7_commit_38 : decode cX7_commit 38 = .ok (.iaload, 1) := by decide +kernel
theorem dX7_commit_39 : decode cX7_commit 39 = .ok (.iconst 1, 1) := by decide +kernel
theorem dX7_commit_40 : decode cX7_commit 40 = .ok (.if_icmp .ne 14, 3) := by decide +kernel
theorem dX7_commit_43 : decode cX7_commit 43 = .ok (.aload_n 0, 1) := by decide +kernel
theorem dX7_commit_44 : decode cX7_commit 44 = .ok (.iload_n 1, 1) := by decide +kernel
theorem dX7_commit_45 : decode cX7_commit 45 = .ok (.invokevirtual 133, 3) := by decide +kernel
theorem dX7_commit_48 : decode cX7_commit 48 = .ok (.ifCond .le 6, 3) := by decide +kernel
theorem dX7_commit_51 : decode cX7_commit 51 = .ok (.bipush (-4), 2) := by decide +kernel
theorem dX7_commit_53 : decode cX7_commit 53 = .ok (.ireturn, 1) := by decide +kernel
theorem dX7_commit_54 : decode cX7_commit 54 = .ok (.aload_n 0, 1) := by decide +kernel
theorem dX7_commit_55 : decode cX7_commit 55 = .ok (.iconst 5, 1) := by decide +kernel
theorem dX7_commit_56 : decode cX7_commit 56 = .ok (.invokevirtual 40, 3) := by decide +kernel
theorem dX7_commit_59 : decode cX7_commit 59 = .ok (.aload_n 0, 1) := by decide +kernel
theorem dX7_commit_60 : decode cX7_commit 60 = .ok (.iload_n 1, 1) := by decide +kernel
theorem dX7_commit_61 : decode cX7_commit 61 = .ok (.iconst 2, 1) := by decide +kernel
theorem dX7_commit_62 : decode cX7_commit 62 = .ok (.iconst 1, 1) := by decide +kernel
theorem dX7_commit_63 : decode cX7_commit 63 = .ok (.invokevirtual 88, 3) := by decide +kernel
theorem dX7_commit_66 : decode cX7_commit 66 = .ok (.aload_n 0, 1) := by decide +kernel
theorem dX7_commit_67 : decode cX7_commit 67 = .ok (.iload_n 1, 1) := by decide +kernel
theorem dX7_commit_68 : decode cX7_commit 68 = .ok (.iconst 4, 1) := by decide +kernel
theorem dX7_commit_69 : decode cX7_commit 69 = .ok (.invokevirtual 32, 3) := by decide +kernel
theorem dX7_commit_72 : decode cX7_commit 72 = .ok (.ifCond .eq 8, 3) := by decide +kernel
theorem dX7_commit_75 : decode cX7_commit 75 = .ok (.aload_n 0, 1) := by decide +kernel
theorem dX7_commit_76 : decode cX7_commit 76 = .ok (.iload_n 1, 1) := by decide +kernel
theorem dX7_commit_77 : decode cX7_commit 77 = .ok (.invokevirtual 136, 3) := by decide +kernel
theorem dX7_commit_80 : decode cX7_commit 80 = .ok (.aload_n 0, 1) := by decide +kernel
theorem dX7_commit_81 : decode cX7_commit 81 = .ok (.invokevirtual 98, 3) := by decide +kernel
theorem dX7_commit_84 : decode cX7_commit 84 = .ok (.pop, 1) := by decide +kernel
theorem dX7_commit_85 : decode cX7_commit 85 = .ok (.aload_n 0, 1) := by decide +kernel
theorem dX7_commit_86 : decode cX7_commit 86 = .ok (.invokevirtual 139, 3) := by decide +kernel
theorem dX7_commit_89 : decode cX7_commit 89 = .ok (.bipush 40, 2) := by decide +kernel
theorem dX7_commit_91 : decode cX7_commit 91 = .ok (.if_icmp .le 11, 3) := by decide +kernel
theorem dX7_commit_94 : decode cX7_commit 94 = .ok (.aload_n 0, 1) := by decide +kernel
theorem dX7_commit_95 : decode cX7_commit 95 = .ok (.iconst 5, 1) := by decide +kernel
theorem dX7_commit_96 : decode cX7_commit 96 = .ok (.invokevirtual 44, 3) := by decide +kernel
theorem dX7_commit_99 : decode cX7_commit 99 = .ok (.bipush (-3), 2) := by decide +kernel
theorem dX7_commit_101 : decode cX7_commit 101 = .ok (.ireturn, 1) := by decide +kernel
theorem dX7_commit_102 : decode cX7_commit 102 = .ok (.aload_n 0, 1) := by decide +kernel
theorem dX7_commit_103 : decode cX7_commit 103 = .ok (.iload_n 1, 1) := by decide +kernel
theorem dX7_commit_104 : decode cX7_commit 104 = .ok (.invokevirtual 142, 3) := by decide +kernel
theorem dX7_commit_107 : decode cX7_commit 107 = .ok (.ireturn, 1) := by decide +kernel
theorem dX7_commitsFor_0 : decode cX7_commitsFor 0 = .ok (.aload_n 0, 1) := by decide +kernel
theorem dX7_commitsFor_1 : decode cX7_commitsFor 1 = .ok (.iconst 5, 1) := by decide +kernel
theorem dX7_commitsFor_2 : decode cX7_commitsFor 2 = .ok (.invokevirtual 44, 3) := by decide +kernel
theorem dX7_commitsFor_5 : decode cX7_commitsFor 5 = .ok (.aload_n 0, 1) := by decide +kernel
theorem dX7_commitsFor_6 : decode cX7_commitsFor 6 = .ok (.invokevirtual 51, 3) := by decide +kernel
theorem dX7_commitsFor_9 : decode cX7_commitsFor 9 = .ok (.aload_n 0, 1) := by decide +kernel
theorem dX7_commitsFor_10 : decode cX7_commitsFor 10 = .ok (.iload_n 1, 1) := by decide +kernel
theorem dX7_commitsFor_11 : decode cX7_commitsFor 11 = .ok (.iconst 2, 1) := by decide +kernel
theorem dX7_commitsFor_12 : decode cX7_commitsFor 12 = .ok (.iconst 1, 1) := by decide +kernel
theorem dX7_commitsFor_13 : decode cX7_commitsFor 13 = .ok (.invokevirtual 88, 3) := by decide +kernel
theorem dX7_commitsFor_16 : decode cX7_commitsFor 16 = .ok (.aload_n 0, 1) := by decide +kernel
theorem dX7_commitsFor_17 : decode cX7_commitsFor 17 = .ok (.iload_n 1, 1) := by decide +kernel
theorem dX7_commitsFor_18 : decode cX7_commitsFor 18 = .ok (.iconst 4, 1) := by decide +kernel
theorem dX7_commitsFor_19 : decode cX7_commitsFor 19 = .ok (.invokevirtual 32, 3) := by decide +kernel
theorem dX7_commitsFor_22 : decode cX7_commitsFor 22 = .ok (.ifCond .eq 8, 3) := by decide +kernel
theorem dX7_commitsFor_25 : decode cX7_commitsFor 25 = .ok (.aload_n 0, 1) := by decide +kernel
theorem dX7_commitsFor_26 : decode cX7_commitsFor 26 = .ok (.iload_n 1, 1) := by decide +kernel
theorem dX7_commitsFor_27 : decode cX7_commitsFor 27 = .ok (.invokevirtual 136, 3) := by decide +kernel
theorem dX7_commitsFor_30 : decode cX7_commitsFor 30 = .ok (.aload_n 0, 1) := by decide +kernel
theorem dX7_commitsFor_31 : decode cX7_commitsFor 31 = .ok (.invokevirtual 98, 3) := by decide +kernel
theorem dX7_commitsFor_34 : decode cX7_commitsFor 34 = .ok (.pop, 1) := by decide +kernel
theorem dX7_commitsFor_35 : decode cX7_commitsFor 35 = .ok (.aload_n 0, 1) := by decide +kernel
theorem dX7_commitsFor_36 : decode cX7_commitsFor 36 = .ok (.getfield 7, 3) := by decide +kernel
theorem dX7_commitsFor_39 : decode cX7_commitsFor 39 = .ok (.iconst 0, 1) := by decide +kernel
theorem dX7_commitsFor_40 : decode cX7_commitsFor 40 = .ok (.iaload, 1) := by decide +kernel
theorem dX7_commitsFor_41 : decode cX7_commitsFor 41 = .ok (.ireturn, 1) := by decide +kernel
theorem dX7_type_0 : decode cX7_type 0 = .ok (.aload_n 0, 1) := by decide +kernel
theorem dX7_type_1 : decode cX7_type 1 = .ok (.getfield 145, 3) := by decide +kernel
theorem dX7_type_4 : decode cX7_type 4 = .ok (.bipush 60, 2) := by decide +kernel
theorem dX7_type_6 : decode cX7_type 6 = .ok (.if_icmp .ne 6, 3) := by decide +kernel
theorem dX7_type_9 : decode cX7_type 9 = .ok (.bipush (-3), 2) := by decide +kernel
theorem dX7_type_11 : decode cX7_type 11 = .ok (.ireturn, 1) := by decide +kernel
theorem dX7_type_12 : decode cX7_type 12 = .ok (.aload_n 0, 1) := by decide +kernel
theorem dX7_type_13 : decode cX7_type 13 = .ok (.getfield 16, 3) := by decide +kernel
theorem dX7_type_16 : decode cX7_type 16 = .ok (.aload_n 0, 1) := by decide +kernel
theorem dX7_type_17 : decode cX7_type 17 = .ok (.getfield 145, 3) := by decide +kernel
theorem dX7_type_20 : decode cX7_type 20 = .ok (.iload_n 1, 1) := by decide +kernel
theorem dX7_type_21 : decode cX7_type 21 = .ok (.iastore, 1) := by decide +kernel
theorem dX7_type_22 : decode cX7_type 22 = .ok (.aload_n 0, 1) := by decide +kernel
theorem dX7_type_23 : decode cX7_type 23 = .ok (.dup, 1) := by decide +kernel
theorem dX7_type_24 : decode cX7_type 24 = .ok (.getfield 145, 3) := by decide +kernel
end
section
theorem dX7_type_27 : decode cX7_type 27 = .ok (.iconst 1, 1) := by decide +kernel
theorem dX7_type_28 : decode cX7_type 28 = .ok (.iadd, 1) := by decide +kernel
theorem dX7_type_29 : decode cX7_type 29 = .ok (.putfield 145, 3) := by decide +kernel
theorem dX7_type_32 : decode cX7_type 32 = .ok (.aload_n 0, 1) := by decide +kernel
theorem dX7_type_33 : decode cX7_type 33 = .ok (.getfield 145, 3) := by decide +kernel
theorem dX7_type_36 : decode cX7_type 36 = .ok (.ireturn, 1) := by decide +kernel
theorem dX7_clearText_0 : decode cX7_clearText 0 = .ok (.aload_n 0, 1) := by decide +kernel
theorem dX7_clearText_1 : decode cX7_clearText 1 = .ok (.getfield 145, 3) := by decide +kernel
theorem dX7_clearText_4 : decode cX7_clearText 4 = .ok (.istore_n 1, 1) := by decide +kernel
theorem dX7_clearText_5 : decode cX7_clearText 5 = .ok (.aload_n 0, 1) := by decide +kernel
theorem dX7_clearText_6 : decode cX7_clearText 6 = .ok (.iconst 0, 1) := by decide +kernel
theorem dX7_clearText_7 : decode cX7_clearText 7 = .ok (.putfield 145, 3) := by decide +kernel
theorem dX7_clearText_10 : decode cX7_clearText 10 = .ok (.iload_n 1, 1) := by decide +kernel
theorem dX7_clearText_11 : decode cX7_clearText 11 = .ok (.ireturn, 1) := by decide +kernel
theorem dX7_isHere_0 : decode cX7_isHere 0 = .ok (.aload_n 0, 1) := by decide +kernel
theorem dX7_isHere_1 : decode cX7_isHere 1 = .ok (.getfield 148, 3) := by decide +kernel
theorem dX7_isHere_4 : decode cX7_isHere 4 = .ok (.aload_n 0, 1) := by decide +kernel
theorem dX7_isHere_5 : decode cX7_isHere 5 = .ok (.getfield 145, 3) := by decide +kernel
theorem dX7_isHere_8 : decode cX7_isHere 8 = .ok (.if_icmp .ge 24, 3) := by decide +kernel
theorem dX7_isHere_11 : decode cX7_isHere 11 = .ok (.aload_n 0, 1) := by decide +kernel
theorem dX7_isHere_12 : decode cX7_isHere 12 = .ok (.getfield 16, 3) := by decide +kernel
theorem dX7_isHere_15 : decode cX7_isHere 15 = .ok (.aload_n 0, 1) := by decide +kernel
theorem dX7_isHere_16 : decode cX7_isHere 16 = .ok (.getfield 148, 3) := by decide +kernel
theorem dX7_isHere_19 : decode cX7_isHere 19 = .ok (.iaload, 1) := by decide +kernel
theorem dX7_isHere_20 : decode cX7_isHere 20 = .ok (.iload_n 1, 1) := by decide +kernel
theorem dX7_isHere_21 : decode cX7_isHere 21 = .ok (.iload_n 2, 1) := by decide +kernel
theorem dX7_isHere_22 : decode cX7_isHere 22 = .ok (.invokestatic 28, 3) := by decide +kernel
theorem dX7_isHere_25 : decode cX7_isHere 25 = .ok (.ifCond .eq 7, 3) := by decide +kernel
theorem dX7_isHere_28 : decode cX7_isHere 28 = .ok (.iconst 1, 1) := by decide +kernel
theorem dX7_isHere_29 : decode cX7_isHere 29 = .ok (.goto 4, 3) := by decide +kernel
theorem dX7_isHere_32 : decode cX7_isHere 32 = .ok (.iconst 0, 1) := by decide +kernel
theorem dX7_isHere_33 : decode cX7_isHere 33 = .ok (.ireturn, 1) := by decide +kernel
theorem dX7_passesNumber_0 : decode cX7_passesNumber 0 = .ok (.aload_n 0, 1) := by decide +kernel
theorem dX7_passesNumber_1 : decode cX7_passesNumber 1 = .ok (.bipush 48, 2) := by decide +kernel
theorem dX7_passesNumber_3 : decode cX7_passesNumber 3 = .ok (.bipush 57, 2) := by decide +kernel
theorem dX7_passesNumber_5 : decode cX7_passesNumber 5 = .ok (.invokevirtual 151, 3) := by decide +kernel
theorem dX7_passesNumber_8 : decode cX7_passesNumber 8 = .ok (.ifCond .ne 5, 3) := by decide +kernel
theorem dX7_passesNumber_11 : decode cX7_passesNumber 11 = .ok (.iconst 0, 1) := by decide +kernel
theorem dX7_passesNumber_12 : decode cX7_passesNumber 12 = .ok (.ireturn, 1) := by decide +kernel
theorem dX7_passesNumber_13 : decode cX7_passesNumber 13 = .ok (.aload_n 0, 1) := by decide +kernel
theorem dX7_passesNumber_14 : decode cX7_passesNumber 14 = .ok (.getfield 16, 3) := by decide +kernel
theorem dX7_passesNumber_17 : decode cX7_passesNumber 17 = .ok (.aload_n 0, 1) := by decide +kernel
theorem dX7_passesNumber_18 : decode cX7_passesNumber 18 = .ok (.getfield 148, 3) := by decide +kernel
theorem dX7_passesNumber_21 : decode cX7_passesNumber 21 = .ok (.iaload, 1) := by decide +kernel
theorem dX7_passesNumber_22 : decode cX7_passesNumber 22 = .ok (.bipush 48, 2) := by decide +kernel
theorem dX7_passesNumber_24 : decode cX7_passesNumber 24 = .ok (.isub, 1) := by decide +kernel
theorem dX7_passesNumber_25 : decode cX7_passesNumber 25 = .ok (.istore_n 2, 1) := by decide +kernel
theorem dX7_passesNumber_26 : decode cX7_passesNumber 26 = .ok (.aload_n 0, 1) := by decide +kernel
theorem dX7_passesNumber_27 : decode cX7_passesNumber 27 = .ok (.dup, 1) := by decide +kernel
theorem dX7_passesNumber_28 : decode cX7_passesNumber 28 = .ok (.getfield 148, 3) := by decide +kernel
theorem dX7_passesNumber_31 : decode cX7_passesNumber 31 = .ok (.iconst 1, 1) := by decide +kernel
theorem dX7_passesNumber_32 : decode cX7_passesNumber 32 = .ok (.iadd, 1) := by decide +kernel
theorem dX7_passesNumber_33 : decode cX7_passesNumber 33 = .ok (.putfield 148, 3) := by decide +kernel
theorem dX7_passesNumber_36 : decode cX7_passesNumber 36 = .ok (.iconst 1, 1) := by decide +kernel
theorem dX7_passesNumber_37 : decode cX7_passesNumber 37 = .ok (.istore_n 3, 1) := by decide +kernel
theorem dX7_passesNumber_38 : decode cX7_passesNumber 38 = .ok (.iload_n 3, 1) := by decide +kernel
theorem dX7_passesNumber_39 : decode cX7_passesNumber 39 = .ok (.iload_n 1, 1) := by decide +kernel
theorem dX7_passesNumber_40 : decode cX7_passesNumber 40 = .ok (.if_icmp .ge 52, 3) := by decide +kernel
theorem dX7_passesNumber_43 : decode cX7_passesNumber 43 = .ok (.iload_n 2, 1) := by decide +kernel
theorem dX7_passesNumber_44 : decode cX7_passesNumber 44 = .ok (.ifCond .le 48, 3) := by decide +kernel
theorem dX7_passesNumber_47 : decode cX7_passesNumber 47 = .ok (.aload_n 0, 1) := by decide +kernel
theorem dX7_passesNumber_48 : decode cX7_passesNumber 48 = .ok (.bipush 48, 2) := by decide +kernel
theorem dX7_passesNumber_50 : decode cX7_passesNumber 50 = .ok (.bipush 57, 2) := by decide +kernel
theorem dX7_passesNumber_52 : decode cX7_passesNumber 52 = .ok (.invokevirtual 151, 3) := by decide +kernel
theorem dX7_passesNumber_55 : decode cX7_passesNumber 55 = .ok (.ifCond .eq 37, 3) := by decide +kernel
theorem dX7_passesNumber_58 : decode cX7_passesNumber 58 = .ok (.bipush 10, 2) := by decide +kernel
theorem dX7_passesNumber_60 : decode cX7_passesNumber 60 = .ok (.iload_n 2, 1) := by decide +kernel
theorem dX7_passesNumber_61 : decode cX7_passesNumber 61 = .ok (.imul, 1) := by decide +kernel
theorem dX7_passesNumber_62 : decode cX7_passesNumber 62 = .ok (.aload_n 0, 1) := by decide +kernel
theorem dX7_passesNumber_63 : decode cX7_passesNumber 63 = .ok (.getfield 16, 3) := by decide +kernel
theorem dX7_passesNumber_66 : decode cX7_passesNumber 66 = .ok (.aload_n 0, 1) := by decide +kernel
theorem dX7_passesNumber_67 : decode cX7_passesNumber 67 = .ok (.getfield 148, 3) := by decide +kernel
theorem dX7_passesNumber_70 : decode cX7_passesNumber 70 = .ok (.iaload, 1) := by decide +kernel
theorem dX7_passesNumber_71 : decode cX7_passesNumber 71 = .ok (.iadd, 1) := by decide +kernel
theorem dX7_passesNumber_72 : decode cX7_passesNumber 72 = .ok (.bipush 48, 2) := by decide +kernel
theorem dX7_passesNumber_74 : decode cX7_passesNumber 74 = .ok (.isub, 1) := by decide +kernel
theorem dX7_passesNumber_75 : decode cX7_passesNumber 75 = .ok (.istore_n 2, 1) := by decide +kernel
theorem dX7_passesNumber_76 : decode cX7_passesNumber 76 = .ok (.aload_n 0, 1) := by decide +kernel
theorem dX7_passesNumber_77 : decode cX7_passesNumber 77 = .ok (.dup, 1) := by decide +kernel
theorem dX7_passesNumber_78 : decode cX7_passesNumber 78 = .ok (.getfield 148, 3) := by decide +kernel
theorem dX7_passesNumber_81 : decode cX7_passesNumber 81 = .ok (.iconst 1, 1) := by decide +kernel
theorem dX7_passesNumber_82 : decode cX7_passesNumber 82 = .ok (.iadd, 1) := by decide +kernel
theorem dX7_passesNumber_83 : decode cX7_passesNumber 83 = .ok (.putfield 148, 3) := by decide +kernel
theorem dX7_passesNumber_86 : decode cX7_passesNumber 86 = .ok (.iinc 3 1, 3) := by decide +kernel
theorem dX7_passesNumber_89 : decode cX7_passesNumber 89 = .ok (.goto (-51), 3) := by decide +kernel
theorem dX7_passesNumber_92 : decode cX7_passesNumber 92 = .ok (.aload_n 0, 1) := by decide +kernel
theorem dX7_passesNumber_93 : decode cX7_passesNumber 93 = .ok (.iload_n 2, 1) := by decide +kernel
theorem dX7_passesNumber_94 : decode cX7_passesNumber 94 = .ok (.putfield 154, 3) := by decide +kernel
theorem dX7_passesNumber_97 : decode cX7_passesNumber 97 = .ok (.iconst 1, 1) := by decide +kernel
theorem dX7_passesNumber_98 : decode cX7_passesNumber 98 = .ok (.ireturn, 1) := by decide +kernel
theorem dX7_passesSign_0 : decode cX7_passesSign 0 = .ok (.aload_n 0, 1) := by decide +kernel
theorem dX7_passesSign_1 : decode cX7_passesSign 1 = .ok (.iload_n 1, 1) := by decide +kernel
theorem dX7_passesSign_2 : decode cX7_passesSign 2 = .ok (.iload_n 1, 1) := by decide +kernel
theorem dX7_passesSign_3 : decode cX7_passesSign 3 = .ok (.invokevirtual 151, 3) := by decide +kernel
theorem dX7_passesSign_6 : decode cX7_passesSign 6 = .ok (.istore_n 2, 1) := by decide +kernel
theorem dX7_passesSign_7 : decode cX7_passesSign 7 = .ok (.aload_n 0, 1) := by decide +kernel
theorem dX7_passesSign_8 : decode cX7_passesSign 8 = .ok (.dup, 1) := by decide +kernel
theorem dX7_passesSign_9 : decode cX7_passesSign 9 = .ok (.getfield 148, 3) := by decide +kernel
theorem dX7_passesSign_12 : decode cX7_passesSign 12 = .ok (.iload_n 2, 1) := by decide +kernel
theorem dX7_passesSign_13 : decode cX7_passesSign 13 = .ok (.ifCond .eq 7, 3) := by decide +kernel
theorem dX7_passesSign_16 : decode cX7_passesSign 16 = .ok (.iconst 1, 1) := by decide +kernel
theorem dX7_passesSign_17 : decode cX7_passesSign 17 = .ok (.goto 4, 3) := by decide +kernel
theorem dX7_passesSign_20 : decode cX7_passesSign 20 = .ok (.iconst 0, 1) := by decide +kernel
theorem dX7_passesSign_21 : decode cX7_passesSign 21 = .ok (.iadd, 1) := by decide +kernel
theorem dX7_passesSign_22 : decode cX7_passesSign 22 = .ok (.putfield 148, 3) := by decide +kernel
theorem dX7_passesSign_25 : decode cX7_passesSign 25 = .ok (.iload_n 2, 1) := by decide +kernel
theorem dX7_passesSign_26 : decode cX7_passesSign 26 = .ok (.ireturn, 1) := by decide +kernel
theorem dX7_passesWrite_0 : decode cX7_passesWrite 0 = .ok (.aload_n 0, 1) := by decide +kernel
theorem dX7_passesWrite_1 : decode cX7_passesWrite 1 = .ok (.iconst 2, 1) := by decide +kernel
theorem dX7_passesWrite_2 : decode cX7_passesWrite 2 = .ok (.invokevirtual 157, 3) := by decide +kernel
theorem dX7_passesWrite_5 : decode cX7_passesWrite 5 = .ok (.ifCond .ne 5, 3) := by decide +kernel
theorem dX7_passesWrite_8 : decode cX7_passesWrite 8 = .ok (.iconst 0, 1) := by decide +kernel
theorem dX7_passesWrite_9 : decode cX7_passesWrite 9 = .ok (.ireturn, 1) := by decide +kernel
theorem dX7_passesWrite_10 : decode cX7_passesWrite 10 = .ok (.aload_n 0, 1) := by decide +kernel
theorem dX7_passesWrite_11 : decode cX7_passesWrite 11 = .ok (.getfield 19, 3) := by decide +kernel
theorem dX7_passesWrite_14 : decode cX7_passesWrite 14 = .ok (.aload_n 0, 1) := by decide +kernel
theorem dX7_passesWrite_15 : decode cX7_passesWrite 15 = .ok (.getfield 160, 3) := by decide +kernel
theorem dX7_passesWrite_18 : decode cX7_passesWrite 18 = .ok (.aload_n 0, 1) := by decide +kernel
theorem dX7_passesWrite_19 : decode cX7_passesWrite 19 = .ok (.getfield 154, 3) := by decide +kernel
theorem dX7_passesWrite_22 : decode cX7_passesWrite 22 = .ok (.iastore, 1) := by decide +kernel
theorem dX7_passesWrite_23 : decode cX7_passesWrite 23 = .ok (.aload_n 0, 1) := by decide +kernel
theorem dX7_passesWrite_24 : decode cX7_passesWrite 24 = .ok (.bipush 61, 2) := by decide +kernel
theorem dX7_passesWrite_26 : decode cX7_passesWrite 26 = .ok (.invokevirtual 162, 3) := by decide +kernel
theorem dX7_passesWrite_29 : decode cX7_passesWrite 29 = .ok (.ifCond .eq 11, 3) := by decide +kernel
theorem dX7_passesWrite_32 : decode cX7_passesWrite 32 = .ok (.aload_n 0, 1) := by decide +kernel
theorem dX7_passesWrite_33 : decode cX7_passesWrite 33 = .ok (.iconst 4, 1) := by decide +kernel
theorem dX7_passesWrite_34 : decode cX7_passesWrite 34 = .ok (.invokevirtual 157, 3) := by decide +kernel
theorem dX7_passesWrite_37 : decode cX7_passesWrite 37 = .ok (.ifCond .ne 5, 3) := by decide +kernel
theorem dX7_passesWrite_40 : decode cX7_passesWrite 40 = .ok (.iconst 0, 1) := by decide +kernel
theorem dX7_passesWrite_41 : decode cX7_passesWrite 41 = .ok (.ireturn, 1) := by decide +kernel
theorem dX7_passesWrite_42 : decode cX7_passesWrite 42 = .ok (.aload_n 0, 1) := by decide +kernel
theorem dX7_passesWrite_43 : decode cX7_passesWrite 43 = .ok (.getfield 22, 3) := by decide +kernel
theorem dX7_passesWrite_46 : decode cX7_passesWrite 46 = .ok (.aload_n 0, 1) := by decide +kernel
theorem dX7_passesWrite_47 : decode cX7_passesWrite 47 = .ok (.getfield 160, 3) := by decide +kernel
theorem dX7_passesWrite_50 : decode cX7_passesWrite 50 = .ok (.aload_n 0, 1) := by decide +kernel
theorem dX7_passesWrite_51 : decode cX7_passesWrite 51 = .ok (.getfield 154, 3) := by decide +kernel
theorem dX7_passesWrite_54 : decode cX7_passesWrite 54 = .ok (.iastore, 1) := by decide +kernel
theorem dX7_passesWrite_55 : decode cX7_passesWrite 55 = .ok (.aload_n 0, 1) := by decide +kernel
theorem dX7_passesWrite_56 : decode cX7_passesWrite 56 = .ok (.dup, 1) := by decide +kernel
theorem dX7_passesWrite_57 : decode cX7_passesWrite 57 = .ok (.getfield 160, 3) := by decide +kernel
theorem dX7_passesWrite_60 : decode cX7_passesWrite 60 = .ok (.iconst 1, 1) := by decide +kernel
theorem dX7_passesWrite_61 : decode cX7_passesWrite 61 = .ok (.iadd, 1) := by decide +kernel
theorem dX7_passesWrite_62 : decode cX7_passesWrite 62 = .ok (.putfield 160, 3) := by decide +kernel
theorem dX7_passesWrite_65 : decode cX7_passesWrite 65 = .ok (.iconst 1, 1) := by decide +kernel
theorem dX7_passesWrite_66 : decode cX7_passesWrite 66 = .ok (.ireturn, 1) := by decide +kernel
theorem dX7_faultOf_0 : decode cX7_faultOf 0 = .ok (.aload_n 0, 1) := by decide +kernel
theorem dX7_faultOf_1 : decode cX7_faultOf 1 = .ok (.iconst 0, 1) := by decide +kernel
theorem dX7_faultOf_2 : decode cX7_faultOf 2 = .ok (.putfield 148, 3) := by decide +kernel
theorem dX7_faultOf_5 : decode cX7_faultOf 5 = .ok (.aload_n 0, 1) := by decide +kernel
theorem dX7_faultOf_6 : decode cX7_faultOf 6 = .ok (.iconst 0, 1) := by decide +kernel
theorem dX7_faultOf_7 : decode cX7_faultOf 7 = .ok (.putfield 160, 3) := by decide +kernel
theorem dX7_faultOf_10 : decode cX7_faultOf 10 = .ok (.aload_n 0, 1) := by decide +kernel
theorem dX7_faultOf_11 : decode cX7_faultOf 11 = .ok (.invokevirtual 165, 3) := by decide +kernel
theorem dX7_faultOf_14 : decode cX7_faultOf 14 = .ok (.ifCond .ne 8, 3) := by decide +kernel
theorem dX7_faultOf_17 : decode cX7_faultOf 17 = .ok (.aload_n 0, 1) := by decide +kernel
theorem dX7_faultOf_18 : decode cX7_faultOf 18 = .ok (.getfield 148, 3) := by decide +kernel
theorem dX7_faultOf_21 : decode cX7_faultOf 21 = .ok (.ireturn, 1) := by decide +kernel
theorem dX7_faultOf_22 : decode cX7_faultOf 22 = .ok (.aload_n 0, 1) := by decide +kernel
theorem dX7_faultOf_23 : decode cX7_faultOf 23 = .ok (.getfield 148, 3) := by decide +kernel
theorem dX7_faultOf_26 : decode cX7_faultOf 26 = .ok (.aload_n 0, 1) := by decide +kernel
theorem dX7_faultOf_27 : decode cX7_faultOf 27 = .ok (.getfield 145, 3) := by decide +kernel
theorem dX7_faultOf_30 : decode cX7_faultOf 30 = .ok (.if_icmp .ge 24, 3) := by decide +kernel
theorem dX7_faultOf_33 : decode cX7_faultOf 33 = .ok (.aload_n 0, 1) := by decide +kernel
theorem dX7_faultOf_34 : decode cX7_faultOf 34 = .ok (.bipush 59, 2) := by decide +kernel
theorem dX7_faultOf_36 : decode cX7_faultOf 36 = .ok (.invokevirtual 162, 3) := by decide +kernel
theorem dX7_faultOf_39 : decode cX7_faultOf 39 = .ok (.ifCond .eq 10, 3) := by decide +kernel
theorem dX7_faultOf_42 : decode cX7_faultOf 42 = .ok (.aload_n 0, 1) := by decide +kernel
theorem dX7_faultOf_43 : decode cX7_faultOf 43 = .ok (.invokevirtual 165, 3) := by decide +kernel
theorem dX7_faultOf_46 : decode cX7_faultOf 46 = .ok (.ifCond .ne (-24), 3) := by decide +kernel
theorem dX7_faultOf_49 : decode cX7_faultOf 49 = .ok (.aload_n 0, 1) := by decide +kernel
theorem dX7_faultOf_50 : decode cX7_faultOf 50 = .ok (.getfield 148, 3) := by decide +kernel
theorem dX7_faultOf_53 : decode cX7_faultOf 53 = .ok (.ireturn, 1) := by decide +kernel
theorem dX7_faultOf_54 : decode cX7_faultOf 54 = .ok (.bipush (-5), 2) := by decide +kernel
theorem dX7_faultOf_56 : decode cX7_faultOf 56 = .ok (.ireturn, 1) := by decide +kernel
theorem dX7_readWrites_0 : decode cX7_readWrites 0 = .ok (.aload_n 0, 1) := by decide +kernel
theorem dX7_readWrites_1 : decode cX7_readWrites 1 = .ok (.iload_n 1, 1) := by decide +kernel
theorem dX7_readWrites_2 : decode cX7_readWrites 2 = .ok (.invokevirtual 92, 3) := by decide +kernel
theorem dX7_readWrites_5 : decode cX7_readWrites 5 = .ok (.ifCond .ne 5, 3) := by decide +kernel
theorem dX7_readWrites_8 : decode cX7_readWrites 8 = .ok (.iconst (-1), 1) := by decide +kernel
theorem dX7_readWrites_9 : decode cX7_readWrites 9 = .ok (.ireturn, 1) := by decide +kernel
theorem dX7_readWrites_10 : decode cX7_readWrites 10 = .ok (.aload_n 0, 1) := by decide +kernel
theorem dX7_readWrites_11 : decode cX7_readWrites 11 = .ok (.invokevirtual 169, 3) := by decide +kernel
theorem dX7_readWrites_14 : decode cX7_readWrites 14 = .ok (.istore_n 2, 1) := by decide +kernel
theorem dX7_readWrites_15 : decode cX7_readWrites 15 = .ok (.iload_n 2, 1) := by decide +kernel
theorem dX7_readWrites_16 : decode cX7_readWrites 16 = .ok (.bipush (-5), 2) := by decide +kernel
theorem dX7_readWrites_18 : decode cX7_readWrites 18 = .ok (.if_icmp .eq 8, 3) := by decide +kernel
theorem dX7_readWrites_21 : decode cX7_readWrites 21 = .ok (.bipush (-100), 2) := by decide +kernel
theorem dX7_readWrites_23 : decode cX7_readWrites 23 = .ok (.iload_n 2, 1) := by decide +kernel
theorem dX7_readWrites_24 : decode cX7_readWrites 24 = .ok (.isub, 1) := by decide +kernel
theorem dX7_readWrites_25 : decode cX7_readWrites 25 = .ok (.ireturn, 1) := by decide +kernel
theorem dX7_readWrites_26 : decode cX7_readWrites 26 = .ok (.iconst 0, 1) := by decide +kernel
theorem dX7_readWrites_27 : decode cX7_readWrites 27 = .ok (.istore_n 3, 1) := by decide +kernel
theorem dX7_readWrites_28 : decode cX7_readWrites 28 = .ok (.iload_n 3, 1) := by decide +kernel
theorem dX7_readWrites_29 : decode cX7_readWrites 29 = .ok (.aload_n 0, 1) := by decide +kernel
theorem dX7_readWrites_30 : decode cX7_readWrites 30 = .ok (.getfield 160, 3) := by decide +kernel
theorem dX7_readWrites_33 : decode cX7_readWrites 33 = .ok (.if_icmp .ge 23, 3) := by decide +kernel
theorem dX7_readWrites_36 : decode cX7_readWrites 36 = .ok (.aload_n 0, 1) := by decide +kernel
theorem dX7_readWrites_37 : decode cX7_readWrites 37 = .ok (.getfield 19, 3) := by decide +kernel
theorem dX7_readWrites_40 : decode cX7_readWrites 40 = .ok (.iload_n 3, 1) := by decide +kernel
theorem dX7_readWrites_41 : decode cX7_readWrites 41 = .ok (.iaload, 1) := by decide +kernel
theorem dX7_readWrites_42 : decode cX7_readWrites 42 = .ok (.invokestatic 108, 3) := by decide +kernel
theorem dX7_readWrites_45 : decode cX7_readWrites 45 = .ok (.ifCond .ne 5, 3) := by decide +kernel
theorem dX7_readWrites_48 : decode cX7_readWrites 48 = .ok (.iconst (-1), 1) := by decide +kernel
theorem dX7_readWrites_49 : decode cX7_readWrites 49 = .ok (.ireturn, 1) := by decide +kernel
theorem dX7_readWrites_50 : decode cX7_readWrites 50 = .ok (.iinc 3 1, 3) := by decide +kernel
theorem dX7_readWrites_53 : decode cX7_readWrites 53 = .ok (.goto (-25), 3) := by decide +kernel
theorem dX7_readWrites_56 : decode cX7_readWrites 56 = .ok (.aload_n 0, 1) := by decide +kernel
theorem dX7_readWrites_57 : decode cX7_readWrites 57 = .ok (.iload_n 1, 1) := by decide +kernel
theorem dX7_readWrites_58 : decode cX7_readWrites 58 = .ok (.invokevirtual 64, 3) := by decide +kernel
theorem dX7_readWrites_61 : decode cX7_readWrites 61 = .ok (.ifCond .ne 6, 3) := by decide +kernel
theorem dX7_readWrites_64 : decode cX7_readWrites 64 = .ok (.bipush (-4), 2) := by decide +kernel
theorem dX7_readWrites_66 : decode cX7_readWrites 66 = .ok (.ireturn, 1) := by decide +kernel
theorem dX7_readWrites_67 : decode cX7_readWrites 67 = .ok (.aload_n 0, 1) := by decide +kernel
theorem dX7_readWrites_68 : decode cX7_readWrites 68 = .ok (.invokevirtual 51, 3) := by decide +kernel
theorem dX7_readWrites_71 : decode cX7_readWrites 71 = .ok (.iconst 0, 1) := by decide +kernel
theorem dX7_readWrites_72 : decode cX7_readWrites 72 = .ok (.istore_n 3, 1) := by decide +kernel
theorem dX7_readWrites_73 : decode cX7_readWrites 73 = .ok (.iload_n 3, 1) := by decide +kernel
theorem dX7_readWrites_74 : decode cX7_readWrites 74 = .ok (.aload_n 0, 1) := by decide +kernel
theorem dX7_readWrites_75 : decode cX7_readWrites 75 = .ok (.getfield 160, 3) := by decide +kernel
theorem dX7_readWrites_78 : decode cX7_readWrites 78 = .ok (.if_icmp .ge 26, 3) := by decide +kernel
theorem dX7_readWrites_81 : decode cX7_readWrites 81 = .ok (.aload_n 0, 1) := by decide +kernel
theorem dX7_readWrites_82 : decode cX7_readWrites 82 = .ok (.iload_n 1, 1) := by decide +kernel
theorem dX7_readWrites_83 : decode cX7_readWrites 83 = .ok (.aload_n 0, 1) := by decide +kernel
theorem dX7_readWrites_84 : decode cX7_readWrites 84 = .ok (.getfield 19, 3) := by decide +kernel
theorem dX7_readWrites_87 : decode cX7_readWrites 87 = .ok (.iload_n 3, 1) := by decide +kernel
theorem dX7_readWrites_88 : decode cX7_readWrites 88 = .ok (.iaload, 1) := by decide +kernel
theorem dX7_readWrites_89 : decode cX7_readWrites 89 = .ok (.aload_n 0, 1) := by decide +kernel
theorem dX7_readWrites_90 : decode cX7_readWrites 90 = .ok (.getfield 22, 3) := by decide +kernel
theorem dX7_readWrites_93 : decode cX7_readWrites 93 = .ok (.iload_n 3, 1) := by decide +kernel
theorem dX7_readWrites_94 : decode cX7_readWrites 94 = .ok (.iaload, 1) := by decide +kernel
theorem dX7_readWrites_95 : decode cX7_readWrites 95 = .ok (.invokevirtual 114, 3) := by decide +kernel
theorem dX7_readWrites_98 : decode cX7_readWrites 98 = .ok (.iinc 3 1, 3) := by decide +kernel
theorem dX7_readWrites_101 : decode cX7_readWrites 101 = .ok (.goto (-28), 3) := by decide +kernel
theorem dX7_readWrites_104 : decode cX7_readWrites 104 = .ok (.aload_n 0, 1) := by decide +kernel
theorem dX7_readWrites_105 : decode cX7_readWrites 105 = .ok (.iload_n 1, 1) := by decide +kernel
theorem dX7_readWrites_106 : decode cX7_readWrites 106 = .ok (.iconst 4, 1) := by decide +kernel
theorem dX7_readWrites_107 : decode cX7_readWrites 107 = .ok (.invokevirtual 32, 3) := by decide +kernel
theorem dX7_readWrites_110 : decode cX7_readWrites 110 = .ok (.invokestatic 117, 3) := by decide +kernel
theorem dX7_readWrites_113 : decode cX7_readWrites 113 = .ok (.ireturn, 1) := by decide +kernel
theorem dX7_versionsOf_0 : decode cX7_versionsOf 0 = .ok (.iconst 0, 1) := by decide +kernel
theorem dX7_versionsOf_1 : decode cX7_versionsOf 1 = .ok (.istore_n 2, 1) := by decide +kernel
theorem dX7_versionsOf_2 : decode cX7_versionsOf 2 = .ok (.iconst 0, 1) := by decide +kernel
theorem dX7_versionsOf_3 : decode cX7_versionsOf 3 = .ok (.istore_n 3, 1) := by decide +kernel
theorem dX7_versionsOf_4 : decode cX7_versionsOf 4 = .ok (.iload_n 3, 1) := by decide +kernel
theorem dX7_versionsOf_5 : decode cX7_versionsOf 5 = .ok (.aload_n 0, 1) := by decide +kernel
theorem dX7_versionsOf_6 : decode cX7_versionsOf 6 = .ok (.getfield 7, 3) := by decide +kernel
theorem dX7_versionsOf_9 : decode cX7_versionsOf 9 = .ok (.bipush 8, 2) := by decide +kernel
theorem dX7_versionsOf_11 : decode cX7_versionsOf 11 = .ok (.iaload, 1) := by decide +kernel
theorem dX7_versionsOf_12 : decode cX7_versionsOf 12 = .ok (.if_icmp .ge 27, 3) := by decide +kernel
theorem dX7_versionsOf_15 : decode cX7_versionsOf 15 = .ok (.iload_n 2, 1) := by decide +kernel
theorem dX7_versionsOf_16 : decode cX7_versionsOf 16 = .ok (.aload_n 0, 1) := by decide +kernel
theorem dX7_versionsOf_17 : decode cX7_versionsOf 17 = .ok (.iload_n 3, 1) := by decide +kernel
theorem dX7_versionsOf_18 : decode cX7_versionsOf 18 = .ok (.iconst 0, 1) := by decide +kernel
theorem dX7_versionsOf_19 : decode cX7_versionsOf 19 = .ok (.invokevirtual 54, 3) := by decide +kernel
theorem dX7_versionsOf_22 : decode cX7_versionsOf 22 = .ok (.iload_n 1, 1) := by decide +kernel
theorem dX7_versionsOf_23 : decode cX7_versionsOf 23 = .ok (.if_icmp .ne 7, 3) := by decide +kernel
theorem dX7_versionsOf_26 : decode cX7_versionsOf 26 = .ok (.iconst 1, 1) := by decide +kernel
theorem dX7_versionsOf_27 : decode cX7_versionsOf 27 = .ok (.goto 4, 3) := by decide +kernel
theorem dX7_versionsOf_30 : decode cX7_versionsOf 30 = .ok (.iconst 0, 1) := by decide +kernel
theorem dX7_versionsOf_31 : decode cX7_versionsOf 31 = .ok (.iadd, 1) := by decide +kernel
theorem dX7_versionsOf_32 : decode cX7_versionsOf 32 = .ok (.istore_n 2, 1) := by decide +kernel
theorem dX7_versionsOf_33 : decode cX7_versionsOf 33 = .ok (.iinc 3 1, 3) := by decide +kernel
theorem dX7_versionsOf_36 : decode cX7_versionsOf 36 = .ok (.goto (-32), 3) := by decide +kernel
theorem dX7_versionsOf_39 : decode cX7_versionsOf 39 = .ok (.iload_n 2, 1) := by decide +kernel
theorem dX7_versionsOf_40 : decode cX7_versionsOf 40 = .ok (.ireturn, 1) := by decide +kernel
theorem dX7_writers_0 : decode cX7_writers 0 = .ok (.iconst 0, 1) := by decide +kernel
theorem dX7_writers_1 : decode cX7_writers 1 = .ok (.istore_n 2, 1) := by decide +kernel
theorem dX7_writers_2 : decode cX7_writers 2 = .ok (.iconst 0, 1) := by decide +kernel
theorem dX7_writers_3 : decode cX7_writers 3 = .ok (.istore_n 3, 1) := by decide +kernel
theorem dX7_writers_4 : decode cX7_writers 4 = .ok (.iload_n 3, 1) := by decide +kernel
theorem dX7_writers_5 : decode cX7_writers 5 = .ok (.aload_n 0, 1) := by decide +kernel
theorem dX7_writers_6 : decode cX7_writers 6 = .ok (.getfield 7, 3) := by decide +kernel
theorem dX7_writers_9 : decode cX7_writers 9 = .ok (.iconst 2, 1) := by decide +kernel
theorem dX7_writers_10 : decode cX7_writers 10 = .ok (.iaload, 1) := by decide +kernel
theorem dX7_writers_11 : decode cX7_writers 11 = .ok (.if_icmp .ge 38, 3) := by decide +kernel
theorem dX7_writers_14 : decode cX7_writers 14 = .ok (.iload_n 2, 1) := by decide +kernel
theorem dX7_writers_15 : decode cX7_writers 15 = .ok (.aload_n 0, 1) := by decide +kernel
theorem dX7_writers_16 : decode cX7_writers 16 = .ok (.iload_n 3, 1) := by decide +kernel
theorem dX7_writers_17 : decode cX7_writers 17 = .ok (.invokevirtual 64, 3) := by decide +kernel
theorem dX7_writers_20 : decode cX7_writers 20 = .ok (.ifCond .eq 20, 3) := by decide +kernel
theorem dX7_writers_23 : decode cX7_writers 23 = .ok (.aload_n 0, 1) := by decide +kernel
theorem dX7_writers_24 : decode cX7_writers 24 = .ok (.iload_n 3, 1) := by decide +kernel
theorem dX7_writers_25 : decode cX7_writers 25 = .ok (.iconst 4, 1) := by decide +kernel
theorem dX7_writers_26 : decode cX7_writers 26 = .ok (.invokevirtual 32, 3) := by decide +kernel
theorem dX7_writers_29 : decode cX7_writers 29 = .ok (.iload_n 1, 1) := by decide +kernel
theorem dX7_writers_30 : decode cX7_writers 30 = .ok (.invokestatic 111, 3) := by decide +kernel
theorem dX7_writers_33 : decode cX7_writers 33 = .ok (.ifCond .eq 7, 3) := by decide +kernel
theorem dX7_writers_36 : decode cX7_writers 36 = .ok (.iconst 1, 1) := by decide +kernel
theorem dX7_writers_37 : decode cX7_writers 37 = .ok (.goto 4, 3) := by decide +kernel
theorem dX7_writers_40 : decode cX7_writers 40 = .ok (.iconst 0, 1) := by decide +kernel
theorem dX7_writers_41 : decode cX7_writers 41 = .ok (.iadd, 1) := by decide +kernel
theorem dX7_writers_42 : decode cX7_writers 42 = .ok (.istore_n 2, 1) := by decide +kernel
theorem dX7_writers_43 : decode cX7_writers 43 = .ok (.iinc 3 1, 3) := by decide +kernel
theorem dX7_writers_46 : decode cX7_writers 46 = .ok (.goto (-42), 3) := by decide +kernel
theorem dX7_writers_49 : decode cX7_writers 49 = .ok (.iload_n 2, 1) := by decide +kernel
theorem dX7_writers_50 : decode cX7_writers 50 = .ok (.ireturn, 1) := by decide +kernel
theorem dX7_cell_0 : decode cX7_cell 0 = .ok (.iload_n 1, 1) := by decide +kernel
theorem dX7_cell_1 : decode cX7_cell 1 = .ok (.invokestatic 108, 3) := by decide +kernel
theorem dX7_cell_4 : decode cX7_cell 4 = .ok (.ifCond .ne 5, 3) := by decide +kernel
theorem dX7_cell_7 : decode cX7_cell 7 = .ok (.iconst (-1), 1) := by decide +kernel
theorem dX7_cell_8 : decode cX7_cell 8 = .ok (.ireturn, 1) := by decide +kernel
theorem dX7_cell_9 : decode cX7_cell 9 = .ok (.iload_n 2, 1) := by decide +kernel
theorem dX7_cell_10 : decode cX7_cell 10 = .ok (.tableswitch 79 0 4 #[34, 45, 56, 62, 73], 34) := by decide +kernel
theorem dX7_cell_44 : decode cX7_cell 44 = .ok (.aload_n 0, 1) := by decide +kernel
theorem dX7_cell_45 : decode cX7_cell 45 = .ok (.aload_n 0, 1) := by decide +kernel
theorem dX7_cell_46 : decode cX7_cell 46 = .ok (.iload_n 1, 1) := by decide +kernel
theorem dX7_cell_47 : decode cX7_cell 47 = .ok (.invokevirtual 60, 3) := by decide +kernel
theorem dX7_cell_50 : decode cX7_cell 50 = .ok (.iconst 2, 1) := by decide +kernel
theorem dX7_cell_51 : decode cX7_cell 51 = .ok (.invokevirtual 54, 3) := by decide +kernel
theorem dX7_cell_54 : decode cX7_cell 54 = .ok (.ireturn, 1) := by decide +kernel
theorem dX7_cell_55 : decode cX7_cell 55 = .ok (.aload_n 0, 1) := by decide +kernel
theorem dX7_cell_56 : decode cX7_cell 56 = .ok (.aload_n 0, 1) := by decide +kernel
theorem dX7_cell_57 : decode cX7_cell 57 = .ok (.iload_n 1, 1) := by decide +kernel
theorem dX7_cell_58 : decode cX7_cell 58 = .ok (.invokevirtual 60, 3) := by decide +kernel
theorem dX7_cell_61 : decode cX7_cell 61 = .ok (.iconst 1, 1) := by decide +kernel
theorem dX7_cell_62 : decode cX7_cell 62 = .ok (.invokevirtual 54, 3) := by decide +kernel
theorem dX7_cell_65 : decode cX7_cell 65 = .ok (.ireturn, 1) := by decide +kernel
theorem dX7_cell_66 : decode cX7_cell 66 = .ok (.aload_n 0, 1) := by decide +kernel
theorem dX7_cell_67 : decode cX7_cell 67 = .ok (.iload_n 1, 1) := by decide +kernel
theorem dX7_cell_68 : decode cX7_cell 68 = .ok (.invokevirtual 172, 3) := by decide +kernel
theorem dX7_cell_71 : decode cX7_cell 71 = .ok (.ireturn, 1) := by decide +kernel
theorem dX7_cell_72 : decode cX7_cell 72 = .ok (.aload_n 0, 1) := by decide +kernel
theorem dX7_cell_73 : decode cX7_cell 73 = .ok (.aload_n 0, 1) := by decide +kernel
theorem dX7_cell_74 : decode cX7_cell 74 = .ok (.iload_n 1, 1) := by decide +kernel
theorem dX7_cell_75 : decode cX7_cell 75 = .ok (.invokevirtual 60, 3) := by decide +kernel
theorem dX7_cell_78 : decode cX7_cell 78 = .ok (.iconst 1, 1) := by decide +kernel
theorem dX7_cell_79 : decode cX7_cell 79 = .ok (.invokevirtual 75, 3) := by decide +kernel
theorem dX7_cell_82 : decode cX7_cell 82 = .ok (.ireturn, 1) := by decide +kernel
theorem dX7_cell_83 : decode cX7_cell 83 = .ok (.aload_n 0, 1) := by decide +kernel
theorem dX7_cell_84 : decode cX7_cell 84 = .ok (.iload_n 1, 1) := by decide +kernel
theorem dX7_cell_85 : decode cX7_cell 85 = .ok (.invokevirtual 175, 3) := by decide +kernel
theorem dX7_cell_88 : decode cX7_cell 88 = .ok (.ireturn, 1) := by decide +kernel
theorem dX7_cell_89 : decode cX7_cell 89 = .ok (.bipush (-2), 2) := by decide +kernel
theorem dX7_cell_91 : decode cX7_cell 91 = .ok (.ireturn, 1) := by decide +kernel
theorem dX7_version_0 : decode cX7_version 0 = .ok (.iload_n 1, 1) := by decide +kernel
theorem dX7_version_1 : decode cX7_version 1 = .ok (.invokestatic 108, 3) := by decide +kernel
theorem dX7_version_4 : decode cX7_version 4 = .ok (.ifCond .ne 5, 3) := by decide +kernel
theorem dX7_version_7 : decode cX7_version 7 = .ok (.iconst (-1), 1) := by decide +kernel
theorem dX7_version_8 : decode cX7_version 8 = .ok (.ireturn, 1) := by decide +kernel
theorem dX7_version_9 : decode cX7_version 9 = .ok (.iload_n 2, 1) := by decide +kernel
theorem dX7_version_10 : decode cX7_version 10 = .ok (.ifCond .lt 12, 3) := by decide +kernel
theorem dX7_version_13 : decode cX7_version 13 = .ok (.iload_n 3, 1) := by decide +kernel
theorem dX7_version_14 : decode cX7_version 14 = .ok (.iconst 0, 1) := by decide +kernel
theorem dX7_version_15 : decode cX7_version 15 = .ok (.iconst 4, 1) := by decide +kernel
theorem dX7_version_16 : decode cX7_version 16 = .ok (.invokestatic 28, 3) := by decide +kernel
theorem dX7_version_19 : decode cX7_version 19 = .ok (.ifCond .ne 6, 3) := by decide +kernel
theorem dX7_version_22 : decode cX7_version 22 = .ok (.bipush (-2), 2) := by decide +kernel
theorem dX7_version_24 : decode cX7_version 24 = .ok (.ireturn, 1) := by decide +kernel
theorem dX7_version_25 : decode cX7_version 25 = .ok (.iload_n 2, 1) := by decide +kernel
theorem dX7_version_26 : decode cX7_version 26 = .ok (.aload_n 0, 1) := by decide +kernel
theorem dX7_version_27 : decode cX7_version 27 = .ok (.iload_n 1, 1) := by decide +kernel
theorem dX7_version_28 : decode cX7_version 28 = .ok (.invokevirtual 172, 3) := by decide +kernel
theorem dX7_version_31 : decode cX7_version 31 = .ok (.if_icmp .lt 6, 3) := by decide +kernel
theorem dX7_version_34 : decode cX7_version 34 = .ok (.bipush (-5), 2) := by decide +kernel
theorem dX7_version_36 : decode cX7_version 36 = .ok (.ireturn, 1) := by decide +kernel
theorem dX7_version_37 : decode cX7_version 37 = .ok (.aload_n 0, 1) := by decide +kernel
theorem dX7_version_38 : decode cX7_version 38 = .ok (.iload_n 1, 1) := by decide +kernel
theorem dX7_version_39 : decode cX7_version 39 = .ok (.invokevirtual 60, 3) := by decide +kernel
theorem dX7_version_42 : decode cX7_version 42 = .ok (.istore 4, 2) := by decide +kernel
theorem dX7_version_44 : decode cX7_version 44 = .ok (.iconst 0, 1) := by decide +kernel
theorem dX7_version_45 : decode cX7_version 45 = .ok (.istore 5, 2) := by decide +kernel
theorem dX7_version_47 : decode cX7_version 47 = .ok (.iload 5, 2) := by decide +kernel
theorem dX7_version_49 : decode cX7_version 49 = .ok (.iload_n 2, 1) := by decide +kernel
theorem dX7_version_50 : decode cX7_version 50 = .ok (.if_icmp .ge 25, 3) := by decide +kernel
theorem dX7_version_53 : decode cX7_version 53 = .ok (.aload_n 0, 1) := by decide +kernel
theorem dX7_version_54 : decode cX7_version 54 = .ok (.iload_n 1, 1) := by decide +kernel
theorem dX7_version_55 : decode cX7_version 55 = .ok (.aload_n 0, 1) := by decide +kernel
theorem dX7_version_56 : decode cX7_version 56 = .ok (.iload 4, 2) := by decide +kernel
theorem dX7_version_58 : decode cX7_version 58 = .ok (.iconst 1, 1) := by decide +kernel
theorem dX7_version_59 : decode cX7_version 59 = .ok (.invokevirtual 54, 3) := by decide +kernel
theorem dX7_version_62 : decode cX7_version 62 = .ok (.iconst 1, 1) := by decide +kernel
theorem dX7_version_63 : decode cX7_version 63 = .ok (.isub, 1) := by decide +kernel
theorem dX7_version_64 : decode cX7_version 64 = .ok (.invokevirtual 57, 3) := by decide +kernel
theorem dX7_version_67 : decode cX7_version 67 = .ok (.istore 4, 2) := by decide +kernel
theorem dX7_version_69 : decode cX7_version 69 = .ok (.iinc 5 1, 3) := by decide +kernel
theorem dX7_version_72 : decode cX7_version 72 = .ok (.goto (-25), 3) := by decide +kernel
theorem dX7_version_75 : decode cX7_version 75 = .ok (.iload_n 3, 1) := by decide +kernel
theorem dX7_version_76 : decode cX7_version 76 = .ok (.tableswitch 64 0 3 #[32, 40, 48, 56], 32) := by decide +kernel
theorem dX7_version_108 : decode cX7_version 108 = .ok (.aload_n 0, 1) := by decide +kernel
theorem dX7_version_109 : decode cX7_version 109 = .ok (.iload 4, 2) := by decide +kernel
theorem dX7_version_111 : decode cX7_version 111 = .ok (.iconst 2, 1) := by decide +kernel
theorem dX7_version_112 : decode cX7_version 112 = .ok (.invokevirtual 54, 3) := by decide +kernel
theorem dX7_version_115 : decode cX7_version 115 = .ok (.ireturn, 1) := by decide +kernel
theorem dX7_version_116 : decode cX7_version 116 = .ok (.aload_n 0, 1) := by decide +kernel
theorem dX7_version_117 : decode cX7_version 117 = .ok (.iload 4, 2) := by decide +kernel
theorem dX7_version_119 : decode cX7_version 119 = .ok (.iconst 1, 1) := by decide +kernel
theorem dX7_version_120 : decode cX7_version 120 = .ok (.invokevirtual 54, 3) := by decide +kernel
theorem dX7_version_123 : decode cX7_version 123 = .ok (.ireturn, 1) := by decide +kernel
theorem dX7_version_124 : decode cX7_version 124 = .ok (.aload_n 0, 1) := by decide +kernel
theorem dX7_version_125 : decode cX7_version 125 = .ok (.iload 4, 2) := by decide +kernel
theorem dX7_version_127 : decode cX7_version 127 = .ok (.iconst 1, 1) := by decide +kernel
theorem dX7_version_128 : decode cX7_version 128 = .ok (.invokevirtual 75, 3) := by decide +kernel
theorem dX7_version_131 : decode cX7_version 131 = .ok (.ireturn, 1) := by decide +kernel
theorem dX7_version_132 : decode cX7_version 132 = .ok (.aload_n 0, 1) := by decide +kernel
theorem dX7_version_133 : decode cX7_version 133 = .ok (.iload 4, 2) := by decide +kernel
theorem dX7_version_135 : decode cX7_version 135 = .ok (.iconst 0, 1) := by decide +kernel
theorem dX7_version_136 : decode cX7_version 136 = .ok (.invokevirtual 75, 3) := by decide +kernel
theorem dX7_version_139 : decode cX7_version 139 = .ok (.ireturn, 1) := by decide +kernel
theorem dX7_version_140 : decode cX7_version 140 = .ok (.iload_n 2, 1) := by decide +kernel
theorem dX7_version_141 : decode cX7_version 141 = .ok (.ifCond .ne 7, 3) := by decide +kernel
theorem dX7_version_144 : decode cX7_version 144 = .ok (.iconst 0, 1) := by decide +kernel
theorem dX7_version_145 : decode cX7_version 145 = .ok (.goto 9, 3) := by decide +kernel
theorem dX7_version_148 : decode cX7_version 148 = .ok (.aload_n 0, 1) := by decide +kernel
theorem dX7_version_149 : decode cX7_version 149 = .ok (.iload 4, 2) := by decide +kernel
theorem dX7_version_151 : decode cX7_version 151 = .ok (.invokevirtual 82, 3) := by decide +kernel
theorem dX7_version_154 : decode cX7_version 154 = .ok (.ireturn, 1) := by decide +kernel
theorem dX7_seen_0 : decode cX7_seen 0 = .ok (.iconst 0, 1) := by decide +kernel
theorem dX7_seen_1 : decode cX7_seen 1 = .ok (.istore_n 3, 1) := by decide +kernel
theorem dX7_seen_2 : decode cX7_seen 2 = .ok (.iconst 0, 1) := by decide +kernel
theorem dX7_seen_3 : decode cX7_seen 3 = .ok (.istore 4, 2) := by decide +kernel
theorem dX7_seen_5 : decode cX7_seen 5 = .ok (.iload 4, 2) := by decide +kernel
theorem dX7_seen_7 : decode cX7_seen 7 = .ok (.bipush 12, 2) := by decide +kernel
theorem dX7_seen_9 : decode cX7_seen 9 = .ok (.if_icmp .ge 62, 3) := by decide +kernel
theorem dX7_seen_12 : decode cX7_seen 12 = .ok (.aload_n 0, 1) := by decide +kernel
theorem dX7_seen_13 : decode cX7_seen 13 = .ok (.iload_n 1, 1) := by decide +kernel
theorem dX7_seen_14 : decode cX7_seen 14 = .ok (.invokevirtual 64, 3) := by decide +kernel
theorem dX7_seen_17 : decode cX7_seen 17 = .ok (.ifCond .eq 54, 3) := by decide +kernel
theorem dX7_seen_20 : decode cX7_seen 20 = .ok (.aload_n 0, 1) := by decide +kernel
theorem dX7_seen_21 : decode cX7_seen 21 = .ok (.iload 4, 2) := by decide +kernel
theorem dX7_seen_23 : decode cX7_seen 23 = .ok (.aload_n 0, 1) := by decide +kernel
theorem dX7_seen_24 : decode cX7_seen 24 = .ok (.iload_n 1, 1) := by decide +kernel
theorem dX7_seen_25 : decode cX7_seen 25 = .ok (.iconst 0, 1) := by decide +kernel
theorem dX7_seen_26 : decode cX7_seen 26 = .ok (.invokevirtual 32, 3) := by decide +kernel
theorem dX7_seen_29 : decode cX7_seen 29 = .ok (.invokevirtual 57, 3) := by decide +kernel
theorem dX7_seen_32 : decode cX7_seen 32 = .ok (.istore 5, 2) := by decide +kernel
theorem dX7_seen_34 : decode cX7_seen 34 = .ok (.iload_n 3, 1) := by decide +kernel
theorem dX7_seen_35 : decode cX7_seen 35 = .ok (.iload_n 2, 1) := by decide +kernel
theorem dX7_seen_36 : decode cX7_seen 36 = .ok (.ifCond .ne 13, 3) := by decide +kernel
theorem dX7_seen_39 : decode cX7_seen 39 = .ok (.aload_n 0, 1) := by decide +kernel
theorem dX7_seen_40 : decode cX7_seen 40 = .ok (.iload 5, 2) := by decide +kernel
theorem dX7_seen_42 : decode cX7_seen 42 = .ok (.iconst 2, 1) := by decide +kernel
theorem dX7_seen_43 : decode cX7_seen 43 = .ok (.invokevirtual 54, 3) := by decide +kernel
theorem dX7_seen_46 : decode cX7_seen 46 = .ok (.goto 17, 3) := by decide +kernel
theorem dX7_seen_49 : decode cX7_seen 49 = .ok (.aload_n 0, 1) := by decide +kernel
theorem dX7_seen_50 : decode cX7_seen 50 = .ok (.iload 5, 2) := by decide +kernel
theorem dX7_seen_52 : decode cX7_seen 52 = .ok (.invokevirtual 79, 3) := by decide +kernel
theorem dX7_seen_55 : decode cX7_seen 55 = .ok (.ifCond .eq 7, 3) := by decide +kernel
theorem dX7_seen_58 : decode cX7_seen 58 = .ok (.iconst 1, 1) := by decide +kernel
theorem dX7_seen_59 : decode cX7_seen 59 = .ok (.goto 4, 3) := by decide +kernel
theorem dX7_seen_62 : decode cX7_seen 62 = .ok (.iconst 0, 1) := by decide +kernel
theorem dX7_seen_63 : decode cX7_seen 63 = .ok (.iadd, 1) := by decide +kernel
theorem dX7_seen_64 : decode cX7_seen 64 = .ok (.istore_n 3, 1) := by decide +kernel
theorem dX7_seen_65 : decode cX7_seen 65 = .ok (.iinc 4 1, 3) := by decide +kernel
theorem dX7_seen_68 : decode cX7_seen 68 = .ok (.goto (-63), 3) := by decide +kernel
theorem dX7_seen_71 : decode cX7_seen 71 = .ok (.iload_n 3, 1) := by decide +kernel
theorem dX7_seen_72 : decode cX7_seen 72 = .ok (.ireturn, 1) := by decide +kernel
theorem dX7_reader_0 : decode cX7_reader 0 = .ok (.aload_n 0, 1) := by decide +kernel
theorem dX7_reader_1 : decode cX7_reader 1 = .ok (.iload_n 1, 1) := by decide +kernel
theorem dX7_reader_2 : decode cX7_reader 2 = .ok (.invokevirtual 92, 3) := by decide +kernel
theorem dX7_reader_5 : decode cX7_reader 5 = .ok (.ifCond .ne 5, 3) := by decide +kernel
theorem dX7_reader_8 : decode cX7_reader 8 = .ok (.iconst (-1), 1) := by decide +kernel
theorem dX7_reader_9 : decode cX7_reader 9 = .ok (.ireturn, 1) := by decide +kernel
theorem dX7_reader_10 : decode cX7_reader 10 = .ok (.iload_n 2, 1) := by decide +kernel
theorem dX7_reader_11 : decode cX7_reader 11 = .ok (.tableswitch 174 0 11 #[61, 68, 75, 82, 88, 95, 102, 109, 117, 117, 134, 156], 61) := by decide +kernel
theorem dX7_reader_72 : decode cX7_reader 72 = .ok (.aload_n 0, 1) := by decide +kernel
theorem dX7_reader_73 : decode cX7_reader 73 = .ok (.iload_n 1, 1) := by decide +kernel
theorem dX7_reader_74 : decode cX7_reader 74 = .ok (.iconst 2, 1) := by decide +kernel
theorem dX7_reader_75 : decode cX7_reader 75 = .ok (.invokevirtual 32, 3) := by decide +kernel
theorem dX7_reader_78 : decode cX7_reader 78 = .ok (.ireturn, 1) := by decide +kernel
theorem dX7_reader_79 : decode cX7_reader 79 = .ok (.aload_n 0, 1) := by decide +kernel
theorem dX7_reader_80 : decode cX7_reader 80 = .ok (.iload_n 1, 1) := by decide +kernel
theorem dX7_reader_81 : decode cX7_reader 81 = .ok (.iconst 0, 1) := by decide +kernel
theorem dX7_reader_82 : decode cX7_reader 82 = .ok (.invokevirtual 32, 3) := by decide +kernel
theorem dX7_reader_85 : decode cX7_reader 85 = .ok (.ireturn, 1) := by decide +kernel
theorem dX7_reader_86 : decode cX7_reader 86 = .ok (.aload_n 0, 1) := by decide +kernel
theorem dX7_reader_87 : decode cX7_reader 87 = .ok (.iload_n 1, 1) := by decide +kernel
theorem dX7_reader_88 : decode cX7_reader 88 = .ok (.iconst 1, 1) := by decide +kernel
theorem dX7_reader_89 : decode cX7_reader 89 = .ok (.invokevirtual 32, 3) := by decide +kernel
theorem dX7_reader_92 : decode cX7_reader 92 = .ok (.ireturn, 1) := by decide +kernel
theorem dX7_reader_93 : decode cX7_reader 93 = .ok (.aload_n 0, 1) := by decide +kernel
theorem dX7_reader_94 : decode cX7_reader 94 = .ok (.iload_n 1, 1) := by decide +kernel
theorem dX7_reader_95 : decode cX7_reader 95 = .ok (.invokevirtual 95, 3) := by decide +kernel
theorem dX7_reader_98 : decode cX7_reader 98 = .ok (.ireturn, 1) := by decide +kernel
theorem dX7_reader_99 : decode cX7_reader 99 = .ok (.aload_n 0, 1) := by decide +kernel
theorem dX7_reader_100 : decode cX7_reader 100 = .ok (.iload_n 1, 1) := by decide +kernel
theorem dX7_reader_101 : decode cX7_reader 101 = .ok (.iconst 3, 1) := by decide +kernel
theorem dX7_reader_102 : decode cX7_reader 102 = .ok (.invokevirtual 32, 3) := by decide +kernel
theorem dX7_reader_105 : decode cX7_reader 105 = .ok (.ireturn, 1) := by decide +kernel
theorem dX7_reader_106 : decode cX7_reader 106 = .ok (.aload_n 0, 1) := by decide +kernel
theorem dX7_reader_107 : decode cX7_reader 107 = .ok (.iload_n 1, 1) := by decide +kernel
theorem dX7_reader_108 : decode cX7_reader 108 = .ok (.iconst 4, 1) := by decide +kernel
theorem dX7_reader_109 : decode cX7_reader 109 = .ok (.invokevirtual 32, 3) := by decide +kernel
theorem dX7_reader_112 : decode cX7_reader 112 = .ok (.ireturn, 1) := by decide +kernel
theorem dX7_reader_113 : decode cX7_reader 113 = .ok (.aload_n 0, 1) := by decide +kernel
theorem dX7_reader_114 : decode cX7_reader 114 = .ok (.iload_n 1, 1) := by decide +kernel
theorem dX7_reader_115 : decode cX7_reader 115 = .ok (.iconst 5, 1) := by decide +kernel
theorem dX7_reader_116 : decode cX7_reader 116 = .ok (.invokevirtual 32, 3) := by decide +kernel
theorem dX7_reader_119 : decode cX7_reader 119 = .ok (.ireturn, 1) := by decide +kernel
theorem dX7_reader_120 : decode cX7_reader 120 = .ok (.aload_n 0, 1) := by decide +kernel
theorem dX7_reader_121 : decode cX7_reader 121 = .ok (.iload_n 1, 1) := by decide +kernel
theorem dX7_reader_122 : decode cX7_reader 122 = .ok (.bipush 7, 2) := by decide +kernel
theorem dX7_reader_124 : decode cX7_reader 124 = .ok (.invokevirtual 32, 3) := by decide +kernel
theorem dX7_reader_127 : decode cX7_reader 127 = .ok (.ireturn, 1) := by decide +kernel
theorem dX7_reader_128 : decode cX7_reader 128 = .ok (.aload_n 0, 1) := by decide +kernel
theorem dX7_reader_129 : decode cX7_reader 129 = .ok (.iload_n 1, 1) := by decide +kernel
theorem dX7_reader_130 : decode cX7_reader 130 = .ok (.iload_n 2, 1) := by decide +kernel
theorem dX7_reader_131 : decode cX7_reader 131 = .ok (.bipush 8, 2) := by decide +kernel
theorem dX7_reader_133 : decode cX7_reader 133 = .ok (.if_icmp .ne 7, 3) := by decide +kernel
theorem dX7_reader_136 : decode cX7_reader 136 = .ok (.iconst 1, 1) := by decide +kernel
theorem dX7_reader_137 : decode cX7_reader 137 = .ok (.goto 4, 3) := by decide +kernel
theorem dX7_reader_140 : decode cX7_reader 140 = .ok (.iconst 0, 1) := by decide +kernel
theorem dX7_reader_141 : decode cX7_reader 141 = .ok (.invokevirtual 178, 3) := by decide +kernel
theorem dX7_reader_144 : decode cX7_reader 144 = .ok (.ireturn, 1) := by decide +kernel
theorem dX7_reader_145 : decode cX7_reader 145 = .ok (.aload_n 0, 1) := by decide +kernel
theorem dX7_reader_146 : decode cX7_reader 146 = .ok (.iload_n 1, 1) := by decide +kernel
theorem dX7_reader_147 : decode cX7_reader 147 = .ok (.invokevirtual 64, 3) := by decide +kernel
theorem dX7_reader_150 : decode cX7_reader 150 = .ok (.ifCond .eq 15, 3) := by decide +kernel
theorem dX7_reader_153 : decode cX7_reader 153 = .ok (.aload_n 0, 1) := by decide +kernel
theorem dX7_reader_154 : decode cX7_reader 154 = .ok (.iload_n 1, 1) := by decide +kernel
theorem dX7_reader_155 : decode cX7_reader 155 = .ok (.invokevirtual 130, 3) := by decide +kernel
theorem dX7_reader_158 : decode cX7_reader 158 = .ok (.ifCond .eq 7, 3) := by decide +kernel
theorem dX7_reader_161 : decode cX7_reader 161 = .ok (.iconst 1, 1) := by decide +kernel
theorem dX7_reader_162 : decode cX7_reader 162 = .ok (.goto 4, 3) := by decide +kernel
theorem dX7_reader_165 : decode cX7_reader 165 = .ok (.iconst 0, 1) := by decide +kernel
theorem dX7_reader_166 : decode cX7_reader 166 = .ok (.ireturn, 1) := by decide +kernel
theorem dX7_reader_167 : decode cX7_reader 167 = .ok (.aload_n 0, 1) := by decide +kernel
theorem dX7_reader_168 : decode cX7_reader 168 = .ok (.iload_n 1, 1) := by decide +kernel
theorem dX7_reader_169 : decode cX7_reader 169 = .ok (.invokevirtual 64, 3) := by decide +kernel
theorem dX7_reader_172 : decode cX7_reader 172 = .ok (.ifCond .eq 11, 3) := by decide +kernel
theorem dX7_reader_175 : decode cX7_reader 175 = .ok (.aload_n 0, 1) := by decide +kernel
theorem dX7_reader_176 : decode cX7_reader 176 = .ok (.iload_n 1, 1) := by decide +kernel
theorem dX7_reader_177 : decode cX7_reader 177 = .ok (.invokevirtual 133, 3) := by decide +kernel
theorem dX7_reader_180 : decode cX7_reader 180 = .ok (.goto 4, 3) := by decide +kernel
theorem dX7_reader_183 : decode cX7_reader 183 = .ok (.iconst 0, 1) := by decide +kernel
theorem dX7_reader_184 : decode cX7_reader 184 = .ok (.ireturn, 1) := by decide +kernel
theorem dX7_reader_185 : decode cX7_reader 185 = .ok (.bipush (-2), 2) := by decide +kernel
theorem dX7_reader_187 : decode cX7_reader 187 = .ok (.ireturn, 1) := by decide +kernel
theorem dX7_committed_0 : decode cX7_committed 0 = .ok (.iload_n 1, 1) := by decide +kernel
theorem dX7_committed_1 : decode cX7_committed 1 = .ok (.iconst 0, 1) := by decide +kernel
theorem dX7_committed_2 : decode cX7_committed 2 = .ok (.aload_n 0, 1) := by decide +kernel
theorem dX7_committed_3 : decode cX7_committed 3 = .ok (.getfield 7, 3) := by decide +kernel
theorem dX7_committed_6 : decode cX7_committed 6 = .ok (.bipush 6, 2) := by decide +kernel
theorem dX7_committed_8 : decode cX7_committed 8 = .ok (.iaload, 1) := by decide +kernel
theorem dX7_committed_9 : decode cX7_committed 9 = .ok (.iconst 1, 1) := by decide +kernel
theorem dX7_committed_10 : decode cX7_committed 10 = .ok (.isub, 1) := by decide +kernel
theorem dX7_committed_11 : decode cX7_committed 11 = .ok (.invokestatic 28, 3) := by decide +kernel
theorem dX7_committed_14 : decode cX7_committed 14 = .ok (.ifCond .ne 5, 3) := by decide +kernel
theorem dX7_committed_17 : decode cX7_committed 17 = .ok (.iconst (-1), 1) := by decide +kernel
theorem dX7_committed_18 : decode cX7_committed 18 = .ok (.ireturn, 1) := by decide +kernel
theorem dX7_committed_19 : decode cX7_committed 19 = .ok (.iload_n 2, 1) := by decide +kernel
theorem dX7_committed_20 : decode cX7_committed 20 = .ok (.iconst 0, 1) := by decide +kernel
theorem dX7_committed_21 : decode cX7_committed 21 = .ok (.iconst 5, 1) := by decide +kernel
theorem dX7_committed_22 : decode cX7_committed 22 = .ok (.invokestatic 28, 3) := by decide +kernel
theorem dX7_committed_25 : decode cX7_committed 25 = .ok (.ifCond .ne 6, 3) := by decide +kernel
theorem dX7_committed_28 : decode cX7_committed 28 = .ok (.bipush (-2), 2) := by decide +kernel
theorem dX7_committed_30 : decode cX7_committed 30 = .ok (.ireturn, 1) := by decide +kernel
theorem dX7_committed_31 : decode cX7_committed 31 = .ok (.iload_n 2, 1) := by decide +kernel
theorem dX7_committed_32 : decode cX7_committed 32 = .ok (.iconst 5, 1) := by decide +kernel
theorem dX7_committed_33 : decode cX7_committed 33 = .ok (.if_icmp .ne 11, 3) := by decide +kernel
theorem dX7_committed_36 : decode cX7_committed 36 = .ok (.aload_n 0, 1) := by decide +kernel
theorem dX7_committed_37 : decode cX7_committed 37 = .ok (.iload_n 1, 1) := by decide +kernel
theorem dX7_committed_38 : decode cX7_committed 38 = .ok (.invokevirtual 127, 3) := by decide +kernel
theorem dX7_committed_41 : decode cX7_committed 41 = .ok (.goto 9, 3) := by decide +kernel
theorem dX7_committed_44 : decode cX7_committed 44 = .ok (.aload_n 0, 1) := by decide +kernel
theorem dX7_committed_45 : decode cX7_committed 45 = .ok (.iload_n 1, 1) := by decide +kernel
theorem dX7_committed_46 : decode cX7_committed 46 = .ok (.iload_n 2, 1) := by decide +kernel
theorem dX7_committed_47 : decode cX7_committed 47 = .ok (.invokevirtual 120, 3) := by decide +kernel
theorem dX7_committed_50 : decode cX7_committed 50 = .ok (.ireturn, 1) := by decide +kernel
theorem dX7_widows_0 : decode cX7_widows 0 = .ok (.iconst 0, 1) := by decide +kernel
theorem dX7_widows_1 : decode cX7_widows 1 = .ok (.istore_n 1, 1) := by decide +kernel
theorem dX7_widows_2 : decode cX7_widows 2 = .ok (.iconst 0, 1) := by decide +kernel
theorem dX7_widows_3 : decode cX7_widows 3 = .ok (.istore_n 2, 1) := by decide +kernel
theorem dX7_widows_4 : decode cX7_widows 4 = .ok (.iload_n 2, 1) := by decide +kernel
theorem dX7_widows_5 : decode cX7_widows 5 = .ok (.aload_n 0, 1) := by decide +kernel
theorem dX7_widows_6 : decode cX7_widows 6 = .ok (.getfield 7, 3) := by decide +kernel
theorem dX7_widows_9 : decode cX7_widows 9 = .ok (.iconst 2, 1) := by decide +kernel
theorem dX7_widows_10 : decode cX7_widows 10 = .ok (.iaload, 1) := by decide +kernel
theorem dX7_widows_11 : decode cX7_widows 11 = .ok (.if_icmp .ge 33, 3) := by decide +kernel
theorem dX7_widows_14 : decode cX7_widows 14 = .ok (.iload_n 1, 1) := by decide +kernel
theorem dX7_widows_15 : decode cX7_widows 15 = .ok (.aload_n 0, 1) := by decide +kernel
theorem dX7_widows_16 : decode cX7_widows 16 = .ok (.iload_n 2, 1) := by decide +kernel
theorem dX7_widows_17 : decode cX7_widows 17 = .ok (.invokevirtual 64, 3) := by decide +kernel
theorem dX7_widows_20 : decode cX7_widows 20 = .ok (.ifCond .eq 15, 3) := by decide +kernel
theorem dX7_widows_23 : decode cX7_widows 23 = .ok (.aload_n 0, 1) := by decide +kernel
theorem dX7_widows_24 : decode cX7_widows 24 = .ok (.iload_n 2, 1) := by decide +kernel
theorem dX7_widows_25 : decode cX7_widows 25 = .ok (.invokevirtual 72, 3) := by decide +kernel
theorem dX7_widows_28 : decode cX7_widows 28 = .ok (.ifCond .eq 7, 3) := by decide +kernel
theorem dX7_widows_31 : decode cX7_widows 31 = .ok (.iconst 1, 1) := by decide +kernel
theorem dX7_widows_32 : decode cX7_widows 32 = .ok (.goto 4, 3) := by decide +kernel
theorem dX7_widows_35 : decode cX7_widows 35 = .ok (.iconst 0, 1) := by decide +kernel
theorem dX7_widows_36 : decode cX7_widows 36 = .ok (.iadd, 1) := by decide +kernel
theorem dX7_widows_37 : decode cX7_widows 37 = .ok (.istore_n 1, 1) := by decide +kernel
theorem dX7_widows_38 : decode cX7_widows 38 = .ok (.iinc 2 1, 3) := by decide +kernel
theorem dX7_widows_41 : decode cX7_widows 41 = .ok (.goto (-37), 3) := by decide +kernel
theorem dX7_widows_44 : decode cX7_widows 44 = .ok (.iload_n 1, 1) := by decide +kernel
theorem dX7_widows_45 : decode cX7_widows 45 = .ok (.ireturn, 1) := by decide +kernel
theorem dX7_count_0 : decode cX7_count 0 = .ok (.iload_n 1, 1) := by decide +kernel
theorem dX7_count_1 : decode cX7_count 1 = .ok (.tableswitch 160 0 16 #[83, 83, 83, 90, 90, 90, 90, 98, 103, 110, 117, 124, 132, 137, 145, 150, 155], 83) := by decide +kernel
theorem dX7_count_84 : decode cX7_count 84 = .ok (.aload_n 0, 1) := by decide +kernel
theorem dX7_count_85 : decode cX7_count 85 = .ok (.getfield 7, 3) := by decide +kernel
theorem dX7_count_88 : decode cX7_count 88 = .ok (.iload_n 1, 1) := by decide +kernel
theorem dX7_count_89 : decode cX7_count 89 = .ok (.iaload, 1) := by decide +kernel
theorem dX7_count_90 : decode cX7_count 90 = .ok (.ireturn, 1) := by decide +kernel
theorem dX7_count_91 : decode cX7_count 91 = .ok (.aload_n 0, 1) := by decide +kernel
theorem dX7_count_92 : decode cX7_count 92 = .ok (.iload_n 1, 1) := by decide +kernel
theorem dX7_count_93 : decode cX7_count 93 = .ok (.iconst 3, 1) := by decide +kernel
theorem dX7_count_94 : decode cX7_count 94 = .ok (.isub, 1) := by decide +kernel
theorem dX7_count_95 : decode cX7_count 95 = .ok (.invokevirtual 85, 3) := by decide +kernel
theorem dX7_count_98 : decode cX7_count 98 = .ok (.ireturn, 1) := by decide +kernel
theorem dX7_count_99 : decode cX7_count 99 = .ok (.aload_n 0, 1) := by decide +kernel
theorem dX7_count_100 : decode cX7_count 100 = .ok (.invokevirtual 139, 3) := by decide +kernel
theorem dX7_count_103 : decode cX7_count 103 = .ok (.ireturn, 1) := by decide +kernel
theorem dX7_count_104 : decode cX7_count 104 = .ok (.aload_n 0, 1) := by decide +kernel
theorem dX7_count_105 : decode cX7_count 105 = .ok (.getfield 7, 3) := by decide +kernel
theorem dX7_count_108 : decode cX7_count 108 = .ok (.iconst 3, 1) := by decide +kernel
theorem dX7_count_109 : decode cX7_count 109 = .ok (.iaload, 1) := by decide +kernel
theorem dX7_count_110 : decode cX7_count 110 = .ok (.ireturn, 1) := by decide +kernel
theorem dX7_count_111 : decode cX7_count 111 = .ok (.aload_n 0, 1) := by decide +kernel
theorem dX7_count_112 : decode cX7_count 112 = .ok (.getfield 7, 3) := by decide +kernel
theorem dX7_count_115 : decode cX7_count 115 = .ok (.iconst 4, 1) := by decide +kernel
theorem dX7_count_116 : decode cX7_count 116 = .ok (.iaload, 1) := by decide +kernel
theorem dX7_count_117 : decode cX7_count 117 = .ok (.ireturn, 1) := by decide +kernel
theorem dX7_count_118 : decode cX7_count 118 = .ok (.aload_n 0, 1) := by decide +kernel
theorem dX7_count_119 : decode cX7_count 119 = .ok (.getfield 7, 3) := by decide +kernel
theorem dX7_count_122 : decode cX7_count 122 = .ok (.iconst 5, 1) := by decide +kernel
theorem dX7_count_123 : decode cX7_count 123 = .ok (.iaload, 1) := by decide +kernel
theorem dX7_count_124 : decode cX7_count 124 = .ok (.ireturn, 1) := by decide +kernel
theorem dX7_count_125 : decode cX7_count 125 = .ok (.aload_n 0, 1) := by decide +kernel
theorem dX7_count_126 : decode cX7_count 126 = .ok (.getfield 7, 3) := by decide +kernel
theorem dX7_count_129 : decode cX7_count 129 = .ok (.bipush 6, 2) := by decide +kernel
theorem dX7_count_131 : decode cX7_count 131 = .ok (.iaload, 1) := by decide +kernel
theorem dX7_count_132 : decode cX7_count 132 = .ok (.ireturn, 1) := by decide +kernel
theorem dX7_count_133 : decode cX7_count 133 = .ok (.aload_n 0, 1) := by decide +kernel
theorem dX7_count_134 : decode cX7_count 134 = .ok (.invokevirtual 102, 3) := by decide +kernel
theorem dX7_count_137 : decode cX7_count 137 = .ok (.ireturn, 1) := by decide +kernel
theorem dX7_count_138 : decode cX7_count 138 = .ok (.aload_n 0, 1) := by decide +kernel
theorem dX7_count_139 : decode cX7_count 139 = .ok (.getfield 7, 3) := by decide +kernel
theorem dX7_count_142 : decode cX7_count 142 = .ok (.bipush 7, 2) := by decide +kernel
theorem dX7_count_144 : decode cX7_count 144 = .ok (.iaload, 1) := by decide +kernel
theorem dX7_count_145 : decode cX7_count 145 = .ok (.ireturn, 1) := by decide +kernel
theorem dX7_count_146 : decode cX7_count 146 = .ok (.aload_n 0, 1) := by decide +kernel
theorem dX7_count_147 : decode cX7_count 147 = .ok (.invokevirtual 181, 3) := by decide +kernel
theorem dX7_count_150 : decode cX7_count 150 = .ok (.ireturn, 1) := by decide +kernel
theorem dX7_count_151 : decode cX7_count 151 = .ok (.aload_n 0, 1) := by decide +kernel
theorem dX7_count_152 : decode cX7_count 152 = .ok (.getfield 36, 3) := by decide +kernel
theorem dX7_count_155 : decode cX7_count 155 = .ok (.ireturn, 1) := by decide +kernel
theorem dX7_count_156 : decode cX7_count 156 = .ok (.aload_n 0, 1) := by decide +kernel
theorem dX7_count_157 : decode cX7_count 157 = .ok (.getfield 145, 3) := by decide +kernel
theorem dX7_count_160 : decode cX7_count 160 = .ok (.ireturn, 1) := by decide +kernel
theorem dX7_count_161 : decode cX7_count 161 = .ok (.bipush (-2), 2) := by decide +kernel
theorem dX7_count_163 : decode cX7_count 163 = .ok (.ireturn, 1) := by decide +kernel
theorem dJ6_bitCount_0f7a4_0 : decode cJ6_bitCount_0f7a4 0 = .ok (.iload_n 0, 1) := by decide +kernel
theorem dJ6_bitCount_0f7a4_1 : decode cJ6_bitCount_0f7a4 1 = .ok (.iload_n 0, 1) := by decide +kernel
theorem dJ6_bitCount_0f7a4_2 : decode cJ6_bitCount_0f7a4 2 = .ok (.iconst 1, 1) := by decide +kernel
theorem dJ6_bitCount_0f7a4_3 : decode cJ6_bitCount_0f7a4 3 = .ok (.iushr, 1) := by decide +kernel
theorem dJ6_bitCount_0f7a4_4 : decode cJ6_bitCount_0f7a4 4 = .ok (.ldc_w 265, 3) := by decide +kernel
theorem dJ6_bitCount_0f7a4_7 : decode cJ6_bitCount_0f7a4 7 = .ok (.iand, 1) := by decide +kernel
theorem dJ6_bitCount_0f7a4_8 : decode cJ6_bitCount_0f7a4 8 = .ok (.isub, 1) := by decide +kernel
theorem dJ6_bitCount_0f7a4_9 : decode cJ6_bitCount_0f7a4 9 = .ok (.istore_n 0, 1) := by decide +kernel
theorem dJ6_bitCount_0f7a4_10 : decode cJ6_bitCount_0f7a4 10 = .ok (.iload_n 0, 1) := by decide +kernel
theorem dJ6_bitCount_0f7a4_11 : decode cJ6_bitCount_0f7a4 11 = .ok (.ldc_w 266, 3) := by decide +kernel
theorem dJ6_bitCount_0f7a4_14 : decode cJ6_bitCount_0f7a4 14 = .ok (.iand, 1) := by decide +kernel
theorem dJ6_bitCount_0f7a4_15 : decode cJ6_bitCount_0f7a4 15 = .ok (.iload_n 0, 1) := by decide +kernel
theorem dJ6_bitCount_0f7a4_16 : decode cJ6_bitCount_0f7a4 16 = .ok (.iconst 2, 1) := by decide +kernel
theorem dJ6_bitCount_0f7a4_17 : decode cJ6_bitCount_0f7a4 17 = .ok (.iushr, 1) := by decide +kernel
theorem dJ6_bitCount_0f7a4_18 : decode cJ6_bitCount_0f7a4 18 = .ok (.ldc_w 266, 3) := by decide +kernel
theorem dJ6_bitCount_0f7a4_21 : decode cJ6_bitCount_0f7a4 21 = .ok (.iand, 1) := by decide +kernel
theorem dJ6_bitCount_0f7a4_22 : decode cJ6_bitCount_0f7a4 22 = .ok (.iadd, 1) := by decide +kernel
theorem dJ6_bitCount_0f7a4_23 : decode cJ6_bitCount_0f7a4 23 = .ok (.istore_n 0, 1) := by decide +kernel
theorem dJ6_bitCount_0f7a4_24 : decode cJ6_bitCount_0f7a4 24 = .ok (.iload_n 0, 1) := by decide +kernel
theorem dJ6_bitCount_0f7a4_25 : decode cJ6_bitCount_0f7a4 25 = .ok (.iload_n 0, 1) := by decide +kernel
theorem dJ6_bitCount_0f7a4_26 : decode cJ6_bitCount_0f7a4 26 = .ok (.iconst 4, 1) := by decide +kernel
theorem dJ6_bitCount_0f7a4_27 : decode cJ6_bitCount_0f7a4 27 = .ok (.iushr, 1) := by decide +kernel
theorem dJ6_bitCount_0f7a4_28 : decode cJ6_bitCount_0f7a4 28 = .ok (.iadd, 1) := by decide +kernel
theorem dJ6_bitCount_0f7a4_29 : decode cJ6_bitCount_0f7a4 29 = .ok (.ldc_w 267, 3) := by decide +kernel
theorem dJ6_bitCount_0f7a4_32 : decode cJ6_bitCount_0f7a4 32 = .ok (.iand, 1) := by decide +kernel
theorem dJ6_bitCount_0f7a4_33 : decode cJ6_bitCount_0f7a4 33 = .ok (.istore_n 0, 1) := by decide +kernel
theorem dJ6_bitCount_0f7a4_34 : decode cJ6_bitCount_0f7a4 34 = .ok (.iload_n 0, 1) := by decide +kernel
theorem dJ6_bitCount_0f7a4_35 : decode cJ6_bitCount_0f7a4 35 = .ok (.iload_n 0, 1) := by decide +kernel
theorem dJ6_bitCount_0f7a4_36 : decode cJ6_bitCount_0f7a4 36 = .ok (.bipush 8, 2) := by decide +kernel
theorem dJ6_bitCount_0f7a4_38 : decode cJ6_bitCount_0f7a4 38 = .ok (.iushr, 1) := by decide +kernel
theorem dJ6_bitCount_0f7a4_39 : decode cJ6_bitCount_0f7a4 39 = .ok (.iadd, 1) := by decide +kernel
theorem dJ6_bitCount_0f7a4_40 : decode cJ6_bitCount_0f7a4 40 = .ok (.istore_n 0, 1) := by decide +kernel
theorem dJ6_bitCount_0f7a4_41 : decode cJ6_bitCount_0f7a4 41 = .ok (.iload_n 0, 1) := by decide +kernel
theorem dJ6_bitCount_0f7a4_42 : decode cJ6_bitCount_0f7a4 42 = .ok (.iload_n 0, 1) := by decide +kernel
theorem dJ6_bitCount_0f7a4_43 : decode cJ6_bitCount_0f7a4 43 = .ok (.bipush 16, 2) := by decide +kernel
theorem dJ6_bitCount_0f7a4_45 : decode cJ6_bitCount_0f7a4 45 = .ok (.iushr, 1) := by decide +kernel
theorem dJ6_bitCount_0f7a4_46 : decode cJ6_bitCount_0f7a4 46 = .ok (.iadd, 1) := by decide +kernel
theorem dJ6_bitCount_0f7a4_47 : decode cJ6_bitCount_0f7a4 47 = .ok (.istore_n 0, 1) := by decide +kernel
theorem dJ6_bitCount_0f7a4_48 : decode cJ6_bitCount_0f7a4 48 = .ok (.iload_n 0, 1) := by decide +kernel
theorem dJ6_bitCount_0f7a4_49 : decode cJ6_bitCount_0f7a4 49 = .ok (.bipush 63, 2) := by decide +kernel
theorem dJ6_bitCount_0f7a4_51 : decode cJ6_bitCount_0f7a4 51 = .ok (.iand, 1) := by decide +kernel
theorem dJ6_bitCount_0f7a4_52 : decode cJ6_bitCount_0f7a4 52 = .ok (.ireturn, 1) := by decide +kernel
theorem dJ9_max_7cf53_0 : decode cJ9_max_7cf53 0 = .ok (.iload_n 0, 1) := by decide +kernel
theorem dJ9_max_7cf53_1 : decode cJ9_max_7cf53 1 = .ok (.iload_n 1, 1) := by decide +kernel
theorem dJ9_max_7cf53_2 : decode cJ9_max_7cf53 2 = .ok (.if_icmp .lt 7, 3) := by decide +kernel
theorem dJ9_max_7cf53_5 : decode cJ9_max_7cf53 5 = .ok (.iload_n 0, 1) := by decide +kernel
theorem dJ9_max_7cf53_6 : decode cJ9_max_7cf53 6 = .ok (.goto 4, 3) := by decide +kernel
theorem dJ9_max_7cf53_9 : decode cJ9_max_7cf53 9 = .ok (.iload_n 1, 1) := by decide +kernel
theorem dJ9_max_7cf53_10 : decode cJ9_max_7cf53 10 = .ok (.ireturn, 1) := by decide +kernel
theorem dL_law_0 : decode cL_law 0 = .ok (.new 7, 3) := by decide +kernel
theorem dL_law_3 : decode cL_law 3 = .ok (.dup, 1) := by decide +kernel
theorem dL_law_4 : decode cL_law 4 = .ok (.invokespecial 9, 3) := by decide +kernel
theorem dL_law_7 : decode cL_law 7 = .ok (.astore_n 1, 1) := by decide +kernel
theorem dL_law_8 : decode cL_law 8 = .ok (.new 10, 3) := by decide +kernel
theorem dL_law_11 : decode cL_law 11 = .ok (.dup, 1) := by decide +kernel
theorem dL_law_12 : decode cL_law 12 = .ok (.invokespecial 12, 3) := by decide +kernel
theorem dL_law_15 : decode cL_law 15 = .ok (.astore_n 2, 1) := by decide +kernel
theorem dL_law_16 : decode cL_law 16 = .ok (.iconst 0, 1) := by decide +kernel
theorem dL_law_17 : decode cL_law 17 = .ok (.istore_n 3, 1) := by decide +kernel
theorem dL_law_18 : decode cL_law 18 = .ok (.iload_n 3, 1) := by decide +kernel
theorem dL_law_19 : decode cL_law 19 = .ok (.aload_n 0, 1) := by decide +kernel
theorem dL_law_20 : decode cL_law 20 = .ok (.arraylength, 1) := by decide +kernel
theorem dL_law_21 : decode cL_law 21 = .ok (.iconst 4, 1) := by decide +kernel
theorem dL_law_22 : decode cL_law 22 = .ok (.isub, 1) := by decide +kernel
theorem dL_law_23 : decode cL_law 23 = .ok (.if_icmp .gt 703, 3) := by decide +kernel
theorem dL_law_26 : decode cL_law 26 = .ok (.aload_n 0, 1) := by decide +kernel
theorem dL_law_27 : decode cL_law 27 = .ok (.iload_n 3, 1) := by decide +kernel
theorem dL_law_28 : decode cL_law 28 = .ok (.iaload, 1) := by decide +kernel
theorem dL_law_29 : decode cL_law 29 = .ok (.bipush 31, 2) := by decide +kernel
theorem dL_law_31 : decode cL_law 31 = .ok (.iand, 1) := by decide +kernel
theorem dL_law_32 : decode cL_law 32 = .ok (.tableswitch 688 0 21 #[104, 127, 160, 193, 216, 239, 278, 301, 334, 377, 400, 425, 438, 461, 474, 487, 500, 533, 576, 609, 632, 665], 104) := by decide +kernel
theorem dL_law_136 : decode cL_law 136 = .ok (.aload_n 1, 1) := by decide +kernel
theorem dL_law_137 : decode cL_law 137 = .ok (.aload_n 0, 1) := by decide +kernel
theorem dL_law_138 : decode cL_law 138 = .ok (.iload_n 3, 1) := by decide +kernel
theorem dL_law_139 : decode cL_law 139 = .ok (.iconst 1, 1) := by decide +kernel
theorem dL_law_140 : decode cL_law 140 = .ok (.iadd, 1) := by decide +kernel
theorem dL_law_141 : decode cL_law 141 = .ok (.iaload, 1) := by decide +kernel
theorem dL_law_142 : decode cL_law 142 = .ok (.invokevirtual 13, 3) := by decide +kernel
theorem dL_law_145 : decode cL_law 145 = .ok (.aload_n 2, 1) := by decide +kernel
theorem dL_law_146 : decode cL_law 146 = .ok (.aload_n 0, 1) := by decide +kernel
theorem dL_law_147 : decode cL_law 147 = .ok (.iload_n 3, 1) := by decide +kernel
theorem dL_law_148 : decode cL_law 148 = .ok (.iconst 1, 1) := by decide +kernel
theorem dL_law_149 : decode cL_law 149 = .ok (.iadd, 1) := by decide +kernel
theorem dL_law_150 : decode cL_law 150 = .ok (.iaload, 1) := by decide +kernel
theorem dL_law_151 : decode cL_law 151 = .ok (.invokevirtual 17, 3) := by decide +kernel
theorem dL_law_154 : decode cL_law 154 = .ok (.if_icmp .eq 566, 3) := by decide +kernel
theorem dL_law_157 : decode cL_law 157 = .ok (.iconst 0, 1) := by decide +kernel
theorem dL_law_158 : decode cL_law 158 = .ok (.ireturn, 1) := by decide +kernel
theorem dL_law_159 : decode cL_law 159 = .ok (.aload_n 1, 1) := by decide +kernel
theorem dL_law_160 : decode cL_law 160 = .ok (.aload_n 0, 1) := by decide +kernel
theorem dL_law_161 : decode cL_law 161 = .ok (.iload_n 3, 1) := by decide +kernel
theorem dL_law_162 : decode cL_law 162 = .ok (.iconst 1, 1) := by decide +kernel
theorem dL_law_163 : decode cL_law 163 = .ok (.iadd, 1) := by decide +kernel
theorem dL_law_164 : decode cL_law 164 = .ok (.iaload, 1) := by decide +kernel
theorem dL_law_165 : decode cL_law 165 = .ok (.aload_n 0, 1) := by decide +kernel
theorem dL_law_166 : decode cL_law 166 = .ok (.iload_n 3, 1) := by decide +kernel
theorem dL_law_167 : decode cL_law 167 = .ok (.iconst 2, 1) := by decide +kernel
theorem dL_law_168 : decode cL_law 168 = .ok (.iadd, 1) := by decide +kernel
theorem dL_law_169 : decode cL_law 169 = .ok (.iaload, 1) := by decide +kernel
theorem dL_law_170 : decode cL_law 170 = .ok (.invokevirtual 18, 3) := by decide +kernel
theorem dL_law_173 : decode cL_law 173 = .ok (.aload_n 2, 1) := by decide +kernel
theorem dL_law_174 : decode cL_law 174 = .ok (.aload_n 0, 1) := by decide +kernel
theorem dL_law_175 : decode cL_law 175 = .ok (.iload_n 3, 1) := by decide +kernel
theorem dL_law_176 : decode cL_law 176 = .ok (.iconst 1, 1) := by decide +kernel
theorem dL_law_177 : decode cL_law 177 = .ok (.iadd, 1) := by decide +kernel
theorem dL_law_178 : decode cL_law 178 = .ok (.iaload, 1) := by decide +kernel
theorem dL_law_179 : decode cL_law 179 = .ok (.aload_n 0, 1) := by decide +kernel
theorem dL_law_180 : decode cL_law 180 = .ok (.iload_n 3, 1) := by decide +kernel
theorem dL_law_181 : decode cL_law 181 = .ok (.iconst 2, 1) := by decide +kernel
theorem dL_law_182 : decode cL_law 182 = .ok (.iadd, 1) := by decide +kernel
theorem dL_law_183 : decode cL_law 183 = .ok (.iaload, 1) := by decide +kernel
theorem dL_law_184 : decode cL_law 184 = .ok (.invokevirtual 22, 3) := by decide +kernel
theorem dL_law_187 : decode cL_law 187 = .ok (.if_icmp .eq 533, 3) := by decide +kernel
theorem dL_law_190 : decode cL_law 190 = .ok (.iconst 0, 1) := by decide +kernel
theorem dL_law_191 : decode cL_law 191 = .ok (.ireturn, 1) := by decide +kernel
theorem dL_law_192 : decode cL_law 192 = .ok (.aload_n 1, 1) := by decide +kernel
theorem dL_law_193 : decode cL_law 193 = .ok (.aload_n 0, 1) := by decide +kernel
theorem dL_law_194 : decode cL_law 194 = .ok (.iload_n 3, 1) := by decide +kernel
theorem dL_law_195 : decode cL_law 195 = .ok (.iconst 1, 1) := by decide +kernel
theorem dL_law_196 : decode cL_law 196 = .ok (.iadd, 1) := by decide +kernel
theorem dL_law_197 : decode cL_law 197 = .ok (.iaload, 1) := by decide +kernel
theorem dL_law_198 : decode cL_law 198 = .ok (.aload_n 0, 1) := by decide +kernel
theorem dL_law_199 : decode cL_law 199 = .ok (.iload_n 3, 1) := by decide +kernel
theorem dL_law_200 : decode cL_law 200 = .ok (.iconst 2, 1) := by decide +kernel
theorem dL_law_201 : decode cL_law 201 = .ok (.iadd, 1) := by decide +kernel
theorem dL_law_202 : decode cL_law 202 = .ok (.iaload, 1) := by decide +kernel
theorem dL_law_203 : decode cL_law 203 = .ok (.invokevirtual 23, 3) := by decide +kernel
theorem dL_law_206 : decode cL_law 206 = .ok (.aload_n 2, 1) := by decide +kernel
theorem dL_law_207 : decode cL_law 207 = .ok (.aload_n 0, 1) := by decide +kernel
theorem dL_law_208 : decode cL_law 208 = .ok (.iload_n 3, 1) := by decide +kernel
theorem dL_law_209 : decode cL_law 209 = .ok (.iconst 1, 1) := by decide +kernel
theorem dL_law_210 : decode cL_law 210 = .ok (.iadd, 1) := by decide +kernel
theorem dL_law_211 : decode cL_law 211 = .ok (.iaload, 1) := by decide +kernel
theorem dL_law_212 : decode cL_law 212 = .ok (.aload_n 0, 1) := by decide +kernel
theorem dL_law_213 : decode cL_law 213 = .ok (.iload_n 3, 1) := by decide +kernel
theorem dL_law_214 : decode cL_law 214 = .ok (.iconst 2, 1) := by decide +kernel
theorem dL_law_215 : decode cL_law 215 = .ok (.iadd, 1) := by decide +kernel
theorem dL_law_216 : decode cL_law 216 = .ok (.iaload, 1) := by decide +kernel
theorem dL_law_217 : decode cL_law 217 = .ok (.invokevirtual 26, 3) := by decide +kernel
theorem dL_law_220 : decode cL_law 220 = .ok (.if_icmp .eq 500, 3) := by decide +kernel
theorem dL_law_223 : decode cL_law 223 = .ok (.iconst 0, 1) := by decide +kernel
theorem dL_law_224 : decode cL_law 224 = .ok (.ireturn, 1) := by decide +kernel
theorem dL_law_225 : decode cL_law 225 = .ok (.aload_n 1, 1) := by decide +kernel
theorem dL_law_226 : decode cL_law 226 = .ok (.aload_n 0, 1) := by decide +kernel
theorem dL_law_227 : decode cL_law 227 = .ok (.iload_n 3, 1) := by decide +kernel
theorem dL_law_228 : decode cL_law 228 = .ok (.iconst 1, 1) := by decide +kernel
theorem dL_law_229 : decode cL_law 229 = .ok (.iadd, 1) := by decide +kernel
theorem dL_law_230 : decode cL_law 230 = .ok (.iaload, 1) := by decide +kernel
theorem dL_law_231 : decode cL_law 231 = .ok (.invokevirtual 27, 3) := by decide +kernel
theorem dL_law_234 : decode cL_law 234 = .ok (.aload_n 2, 1) := by decide +kernel
theorem dL_law_235 : decode cL_law 235 = .ok (.aload_n 0, 1) := by decide +kernel
theorem dL_law_236 : decode cL_law 236 = .ok (.iload_n 3, 1) := by decide +kernel
theorem dL_law_237 : decode cL_law 237 = .ok (.iconst 1, 1) := by decide +kernel
theorem dL_law_238 : decode cL_law 238 = .ok (.iadd, 1) := by decide +kernel
theorem dL_law_239 : decode cL_law 239 = .ok (.iaload, 1) := by decide +kernel
theorem dL_law_240 : decode cL_law 240 = .ok (.invokevirtual 30, 3) := by decide +kernel
theorem dL_law_243 : decode cL_law 243 = .ok (.if_icmp .eq 477, 3) := by decide +kernel
theorem dL_law_246 : decode cL_law 246 = .ok (.iconst 0, 1) := by decide +kernel
theorem dL_law_247 : decode cL_law 247 = .ok (.ireturn, 1) := by decide +kernel
theorem dL_law_248 : decode cL_law 248 = .ok (.aload_n 1, 1) := by decide +kernel
theorem dL_law_249 : decode cL_law 249 = .ok (.aload_n 0, 1) := by decide +kernel
theorem dL_law_250 : decode cL_law 250 = .ok (.iload_n 3, 1) := by decide +kernel
theorem dL_law_251 : decode cL_law 251 = .ok (.iconst 1, 1) := by decide +kernel
theorem dL_law_252 : decode cL_law 252 = .ok (.iadd, 1) := by decide +kernel
theorem dL_law_253 : decode cL_law 253 = .ok (.iaload, 1) := by decide +kernel
theorem dL_law_254 : decode cL_law 254 = .ok (.invokevirtual 31, 3) := by decide +kernel
theorem dL_law_257 : decode cL_law 257 = .ok (.aload_n 2, 1) := by decide +kernel
theorem dL_law_258 : decode cL_law 258 = .ok (.aload_n 0, 1) := by decide +kernel
theorem dL_law_259 : decode cL_law 259 = .ok (.iload_n 3, 1) := by decide +kernel
theorem dL_law_260 : decode cL_law 260 = .ok (.iconst 1, 1) := by decide +kernel
theorem dL_law_261 : decode cL_law 261 = .ok (.iadd, 1) := by decide +kernel
theorem dL_law_262 : decode cL_law 262 = .ok (.iaload, 1) := by decide +kernel
theorem dL_law_263 : decode cL_law 263 = .ok (.invokevirtual 34, 3) := by decide +kernel
theorem dL_law_266 : decode cL_law 266 = .ok (.if_icmp .eq 454, 3) := by decide +kernel
theorem dL_law_269 : decode cL_law 269 = .ok (.iconst 0, 1) := by decide +kernel
theorem dL_law_270 : decode cL_law 270 = .ok (.ireturn, 1) := by decide +kernel
theorem dL_law_271 : decode cL_law 271 = .ok (.aload_n 1, 1) := by decide +kernel
theorem dL_law_272 : decode cL_law 272 = .ok (.aload_n 0, 1) := by decide +kernel
theorem dL_law_273 : decode cL_law 273 = .ok (.iload_n 3, 1) := by decide +kernel
theorem dL_law_274 : decode cL_law 274 = .ok (.iconst 1, 1) := by decide +kernel
theorem dL_law_275 : decode cL_law 275 = .ok (.iadd, 1) := by decide +kernel
theorem dL_law_276 : decode cL_law 276 = .ok (.iaload, 1) := by decide +kernel
theorem dL_law_277 : decode cL_law 277 = .ok (.ifCond .eq 7, 3) := by decide +kernel
theorem dL_law_280 : decode cL_law 280 = .ok (.iconst 1, 1) := by decide +kernel
theorem dL_law_281 : decode cL_law 281 = .ok (.goto 4, 3) := by decide +kernel
theorem dL_law_284 : decode cL_law 284 = .ok (.iconst 0, 1) := by decide +kernel
theorem dL_law_285 : decode cL_law 285 = .ok (.invokevirtual 35, 3) := by decide +kernel
theorem dL_law_288 : decode cL_law 288 = .ok (.aload_n 2, 1) := by decide +kernel
theorem dL_law_289 : decode cL_law 289 = .ok (.aload_n 0, 1) := by decide +kernel
theorem dL_law_290 : decode cL_law 290 = .ok (.iload_n 3, 1) := by decide +kernel
theorem dL_law_291 : decode cL_law 291 = .ok (.iconst 1, 1) := by decide +kernel
theorem dL_law_292 : decode cL_law 292 = .ok (.iadd, 1) := by decide +kernel
theorem dL_law_293 : decode cL_law 293 = .ok (.iaload, 1) := by decide +kernel
theorem dL_law_294 : decode cL_law 294 = .ok (.ifCond .eq 7, 3) := by decide +kernel
theorem dL_law_297 : decode cL_law 297 = .ok (.iconst 1, 1) := by decide +kernel
theorem dL_law_298 : decode cL_law 298 = .ok (.goto 4, 3) := by decide +kernel
theorem dL_law_301 : decode cL_law 301 = .ok (.iconst 0, 1) := by decide +kernel
theorem dL_law_302 : decode cL_law 302 = .ok (.invokevirtual 39, 3) := by decide +kernel
theorem dL_law_305 : decode cL_law 305 = .ok (.if_icmp .eq 415, 3) := by decide +kernel
theorem dL_law_308 : decode cL_law 308 = .ok (.iconst 0, 1) := by decide +kernel
theorem dL_law_309 : decode cL_law 309 = .ok (.ireturn, 1) := by decide +kernel
theorem dL_law_310 : decode cL_law 310 = .ok (.aload_n 1, 1) := by decide +kernel
theorem dL_law_311 : decode cL_law 311 = .ok (.aload_n 0, 1) := by decide +kernel
theorem dL_law_312 : decode cL_law 312 = .ok (.iload_n 3, 1) := by decide +kernel
theorem dL_law_313 : decode cL_law 313 = .ok (.iconst 1, 1) := by decide +kernel
theorem dL_law_314 : decode cL_law 314 = .ok (.iadd, 1) := by decide +kernel
theorem dL_law_315 : decode cL_law 315 = .ok (.iaload, 1) := by decide +kernel
theorem dL_law_316 : decode cL_law 316 = .ok (.invokevirtual 40, 3) := by decide +kernel
theorem dL_law_319 : decode cL_law 319 = .ok (.aload_n 2, 1) := by decide +kernel
theorem dL_law_320 : decode cL_law 320 = .ok (.aload_n 0, 1) := by decide +kernel
theorem dL_law_321 : decode cL_law 321 = .ok (.iload_n 3, 1) := by decide +kernel
theorem dL_law_322 : decode cL_law 322 = .ok (.iconst 1, 1) := by decide +kernel
theorem dL_law_323 : decode cL_law 323 = .ok (.iadd, 1) := by decide +kernel
theorem dL_law_324 : decode cL_law 324 = .ok (.iaload, 1) := by decide +kernel
theorem dL_law_325 : decode cL_law 325 = .ok (.invokevirtual 43, 3) := by decide +kernel
theorem dL_law_328 : decode cL_law 328 = .ok (.if_icmp .eq 392, 3) := by decide +kernel
theorem dL_law_331 : decode cL_law 331 = .ok (.iconst 0, 1) := by decide +kernel
theorem dL_law_332 : decode cL_law 332 = .ok (.ireturn, 1) := by decide +kernel
theorem dL_law_333 : decode cL_law 333 = .ok (.aload_n 1, 1) := by decide +kernel
theorem dL_law_334 : decode cL_law 334 = .ok (.aload_n 0, 1) := by decide +kernel
theorem dL_law_335 : decode cL_law 335 = .ok (.iload_n 3, 1) := by decide +kernel
theorem dL_law_336 : decode cL_law 336 = .ok (.iconst 1, 1) := by decide +kernel
theorem dL_law_337 : decode cL_law 337 = .ok (.iadd, 1) := by decide +kernel
theorem dL_law_338 : decode cL_law 338 = .ok (.iaload, 1) := by decide +kernel
theorem dL_law_339 : decode cL_law 339 = .ok (.aload_n 0, 1) := by decide +kernel
theorem dL_law_340 : decode cL_law 340 = .ok (.iload_n 3, 1) := by decide +kernel
theorem dL_law_341 : decode cL_law 341 = .ok (.iconst 2, 1) := by decide +kernel
theorem dL_law_342 : decode cL_law 342 = .ok (.iadd, 1) := by decide +kernel
theorem dL_law_343 : decode cL_law 343 = .ok (.iaload, 1) := by decide +kernel
theorem dL_law_344 : decode cL_law 344 = .ok (.invokevirtual 44, 3) := by decide +kernel
theorem dL_law_347 : decode cL_law 347 = .ok (.aload_n 2, 1) := by decide +kernel
theorem dL_law_348 : decode cL_law 348 = .ok (.aload_n 0, 1) := by decide +kernel
theorem dL_law_349 : decode cL_law 349 = .ok (.iload_n 3, 1) := by decide +kernel
theorem dL_law_350 : decode cL_law 350 = .ok (.iconst 1, 1) := by decide +kernel
theorem dL_law_351 : decode cL_law 351 = .ok (.iadd, 1) := by decide +kernel
theorem dL_law_352 : decode cL_law 352 = .ok (.iaload, 1) := by decide +kernel
theorem dL_law_353 : decode cL_law 353 = .ok (.aload_n 0, 1) := by decide +kernel
theorem dL_law_354 : decode cL_law 354 = .ok (.iload_n 3, 1) := by decide +kernel
theorem dL_law_355 : decode cL_law 355 = .ok (.iconst 2, 1) := by decide +kernel
theorem dL_law_356 : decode cL_law 356 = .ok (.iadd, 1) := by decide +kernel
theorem dL_law_357 : decode cL_law 357 = .ok (.iaload, 1) := by decide +kernel
theorem dL_law_358 : decode cL_law 358 = .ok (.invokevirtual 47, 3) := by decide +kernel
theorem dL_law_361 : decode cL_law 361 = .ok (.if_icmp .eq 359, 3) := by decide +kernel
theorem dL_law_364 : decode cL_law 364 = .ok (.iconst 0, 1) := by decide +kernel
theorem dL_law_365 : decode cL_law 365 = .ok (.ireturn, 1) := by decide +kernel
theorem dL_law_366 : decode cL_law 366 = .ok (.aload_n 1, 1) := by decide +kernel
theorem dL_law_367 : decode cL_law 367 = .ok (.aload_n 0, 1) := by decide +kernel
theorem dL_law_368 : decode cL_law 368 = .ok (.iload_n 3, 1) := by decide +kernel
theorem dL_law_369 : decode cL_law 369 = .ok (.iconst 1, 1) := by decide +kernel
theorem dL_law_370 : decode cL_law 370 = .ok (.iadd, 1) := by decide +kernel
theorem dL_law_371 : decode cL_law 371 = .ok (.iaload, 1) := by decide +kernel
theorem dL_law_372 : decode cL_law 372 = .ok (.aload_n 0, 1) := by decide +kernel
theorem dL_law_373 : decode cL_law 373 = .ok (.iload_n 3, 1) := by decide +kernel
theorem dL_law_374 : decode cL_law 374 = .ok (.iconst 2, 1) := by decide +kernel
theorem dL_law_375 : decode cL_law 375 = .ok (.iadd, 1) := by decide +kernel
theorem dL_law_376 : decode cL_law 376 = .ok (.iaload, 1) := by decide +kernel
theorem dL_law_377 : decode cL_law 377 = .ok (.aload_n 0, 1) := by decide +kernel
theorem dL_law_378 : decode cL_law 378 = .ok (.iload_n 3, 1) := by decide +kernel
theorem dL_law_379 : decode cL_law 379 = .ok (.iconst 3, 1) := by decide +kernel
theorem dL_law_380 : decode cL_law 380 = .ok (.iadd, 1) := by decide +kernel
theorem dL_law_381 : decode cL_law 381 = .ok (.iaload, 1) := by decide +kernel
theorem dL_law_382 : decode cL_law 382 = .ok (.invokevirtual 48, 3) := by decide +kernel
theorem dL_law_385 : decode cL_law 385 = .ok (.aload_n 2, 1) := by decide +kernel
theorem dL_law_386 : decode cL_law 386 = .ok (.aload_n 0, 1) := by decide +kernel
theorem dL_law_387 : decode cL_law 387 = .ok (.iload_n 3, 1) := by decide +kernel
theorem dL_law_388 : decode cL_law 388 = .ok (.iconst 1, 1) := by decide +kernel
theorem dL_law_389 : decode cL_law 389 = .ok (.iadd, 1) := by decide +kernel
theorem dL_law_390 : decode cL_law 390 = .ok (.iaload, 1) := by decide +kernel
theorem dL_law_391 : decode cL_law 391 = .ok (.aload_n 0, 1) := by decide +kernel
theorem dL_law_392 : decode cL_law 392 = .ok (.iload_n 3, 1) := by decide +kernel
theorem dL_law_393 : decode cL_law 393 = .ok (.iconst 2, 1) := by decide +kernel
theorem dL_law_394 : decode cL_law 394 = .ok (.iadd, 1) := by decide +kernel
theorem dL_law_395 : decode cL_law 395 = .ok (.iaload, 1) := by decide +kernel
theorem dL_law_396 : decode cL_law 396 = .ok (.aload_n 0, 1) := by decide +kernel
theorem dL_law_397 : decode cL_law 397 = .ok (.iload_n 3, 1) := by decide +kernel
theorem dL_law_398 : decode cL_law 398 = .ok (.iconst 3, 1) := by decide +kernel
theorem dL_law_399 : decode cL_law 399 = .ok (.iadd, 1) := by decide +kernel
theorem dL_law_400 : decode cL_law 400 = .ok (.iaload, 1) := by decide +kernel
theorem dL_law_401 : decode cL_law 401 = .ok (.invokevirtual 52, 3) := by decide +kernel
theorem dL_law_404 : decode cL_law 404 = .ok (.if_icmp .eq 316, 3) := by decide +kernel
theorem dL_law_407 : decode cL_law 407 = .ok (.iconst 0, 1) := by decide +kernel
theorem dL_law_408 : decode cL_law 408 = .ok (.ireturn, 1) := by decide +kernel
theorem dL_law_409 : decode cL_law 409 = .ok (.aload_n 1, 1) := by decide +kernel
theorem dL_law_410 : decode cL_law 410 = .ok (.aload_n 0, 1) := by decide +kernel
theorem dL_law_411 : decode cL_law 411 = .ok (.iload_n 3, 1) := by decide +kernel
theorem dL_law_412 : decode cL_law 412 = .ok (.iconst 1, 1) := by decide +kernel
theorem dL_law_413 : decode cL_law 413 = .ok (.iadd, 1) := by decide +kernel
theorem dL_law_414 : decode cL_law 414 = .ok (.iaload, 1) := by decide +kernel
theorem dL_law_415 : decode cL_law 415 = .ok (.invokevirtual 53, 3) := by decide +kernel
theorem dL_law_418 : decode cL_law 418 = .ok (.aload_n 2, 1) := by decide +kernel
theorem dL_law_419 : decode cL_law 419 = .ok (.aload_n 0, 1) := by decide +kernel
theorem dL_law_420 : decode cL_law 420 = .ok (.iload_n 3, 1) := by decide +kernel
theorem dL_law_421 : decode cL_law 421 = .ok (.iconst 1, 1) := by decide +kernel
theorem dL_law_422 : decode cL_law 422 = .ok (.iadd, 1) := by decide +kernel
theorem dL_law_423 : decode cL_law 423 = .ok (.iaload, 1) := by decide +kernel
theorem dL_law_424 : decode cL_law 424 = .ok (.invokevirtual 56, 3) := by decide +kernel
theorem dL_law_427 : decode cL_law 427 = .ok (.if_icmp .eq 293, 3) := by decide +kernel
theorem dL_law_430 : decode cL_law 430 = .ok (.iconst 0, 1) := by decide +kernel
theorem dL_law_431 : decode cL_law 431 = .ok (.ireturn, 1) := by decide +kernel
theorem dL_law_432 : decode cL_law 432 = .ok (.aload_n 1, 1) := by decide +kernel
theorem dL_law_433 : decode cL_law 433 = .ok (.aload_n 0, 1) := by decide +kernel
theorem dL_law_434 : decode cL_law 434 = .ok (.iload_n 3, 1) := by decide +kernel
theorem dL_law_435 : decode cL_law 435 = .ok (.iconst 1, 1) := by decide +kernel
theorem dL_law_436 : decode cL_law 436 = .ok (.iadd, 1) := by decide +kernel
theorem dL_law_437 : decode cL_law 437 = .ok (.iaload, 1) := by decide +kernel
theorem dL_law_438 : decode cL_law 438 = .ok (.i2c, 1) := by decide +kernel
theorem dL_law_439 : decode cL_law 439 = .ok (.invokevirtual 57, 3) := by decide +kernel
theorem dL_law_442 : decode cL_law 442 = .ok (.aload_n 2, 1) := by decide +kernel
theorem dL_law_443 : decode cL_law 443 = .ok (.aload_n 0, 1) := by decide +kernel
theorem dL_law_444 : decode cL_law 444 = .ok (.iload_n 3, 1) := by decide +kernel
theorem dL_law_445 : decode cL_law 445 = .ok (.iconst 1, 1) := by decide +kernel
theorem dL_law_446 : decode cL_law 446 = .ok (.iadd, 1) := by decide +kernel
theorem dL_law_447 : decode cL_law 447 = .ok (.iaload, 1) := by decide +kernel
theorem dL_law_448 : decode cL_law 448 = .ok (.i2c, 1) := by decide +kernel
theorem dL_law_449 : decode cL_law 449 = .ok (.invokevirtual 61, 3) := by decide +kernel
theorem dL_law_452 : decode cL_law 452 = .ok (.if_icmp .eq 268, 3) := by decide +kernel
theorem dL_law_455 : decode cL_law 455 = .ok (.iconst 0, 1) := by decide +kernel
theorem dL_law_456 : decode cL_law 456 = .ok (.ireturn, 1) := by decide +kernel
theorem dL_law_457 : decode cL_law 457 = .ok (.aload_n 1, 1) := by decide +kernel
theorem dL_law_458 : decode cL_law 458 = .ok (.invokevirtual 62, 3) := by decide +kernel
theorem dL_law_461 : decode cL_law 461 = .ok (.aload_n 2, 1) := by decide +kernel
theorem dL_law_462 : decode cL_law 462 = .ok (.invokevirtual 66, 3) := by decide +kernel
theorem dL_law_465 : decode cL_law 465 = .ok (.if_icmp .eq 255, 3) := by decide +kernel
theorem dL_law_468 : decode cL_law 468 = .ok (.iconst 0, 1) := by decide +kernel
theorem dL_law_469 : decode cL_law 469 = .ok (.ireturn, 1) := by decide +kernel
theorem dL_law_470 : decode cL_law 470 = .ok (.aload_n 1, 1) := by decide +kernel
theorem dL_law_471 : decode cL_law 471 = .ok (.aload_n 0, 1) := by decide +kernel
theorem dL_law_472 : decode cL_law 472 = .ok (.iload_n 3, 1) := by decide +kernel
theorem dL_law_473 : decode cL_law 473 = .ok (.iconst 1, 1) := by decide +kernel
theorem dL_law_474 : decode cL_law 474 = .ok (.iadd, 1) := by decide +kernel
theorem dL_law_475 : decode cL_law 475 = .ok (.iaload, 1) := by decide +kernel
theorem dL_law_476 : decode cL_law 476 = .ok (.invokevirtual 67, 3) := by decide +kernel
theorem dL_law_479 : decode cL_law 479 = .ok (.aload_n 2, 1) := by decide +kernel
theorem dL_law_480 : decode cL_law 480 = .ok (.aload_n 0, 1) := by decide +kernel
theorem dL_law_481 : decode cL_law 481 = .ok (.iload_n 3, 1) := by decide +kernel
theorem dL_law_482 : decode cL_law 482 = .ok (.iconst 1, 1) := by decide +kernel
theorem dL_law_483 : decode cL_law 483 = .ok (.iadd, 1) := by decide +kernel
theorem dL_law_484 : decode cL_law 484 = .ok (.iaload, 1) := by decide +kernel
theorem dL_law_485 : decode cL_law 485 = .ok (.invokevirtual 70, 3) := by decide +kernel
theorem dL_law_488 : decode cL_law 488 = .ok (.if_icmp .eq 232, 3) := by decide +kernel
theorem dL_law_491 : decode cL_law 491 = .ok (.iconst 0, 1) := by decide +kernel
theorem dL_law_492 : decode cL_law 492 = .ok (.ireturn, 1) := by decide +kernel
theorem dL_law_493 : decode cL_law 493 = .ok (.aload_n 1, 1) := by decide +kernel
theorem dL_law_494 : decode cL_law 494 = .ok (.invokevirtual 71, 3) := by decide +kernel
theorem dL_law_497 : decode cL_law 497 = .ok (.aload_n 2, 1) := by decide +kernel
theorem dL_law_498 : decode cL_law 498 = .ok (.invokevirtual 74, 3) := by decide +kernel
theorem dL_law_501 : decode cL_law 501 = .ok (.if_icmp .eq 219, 3) := by decide +kernel
theorem dL_law_504 : decode cL_law 504 = .ok (.iconst 0, 1) := by decide +kernel
theorem dL_law_505 : decode cL_law 505 = .ok (.ireturn, 1) := by decide +kernel
theorem dL_law_506 : decode cL_law 506 = .ok (.aload_n 1, 1) := by decide +kernel
theorem dL_law_507 : decode cL_law 507 = .ok (.invokevirtual 75, 3) := by decide +kernel
theorem dL_law_510 : decode cL_law 510 = .ok (.aload_n 2, 1) := by decide +kernel
theorem dL_law_511 : decode cL_law 511 = .ok (.invokevirtual 78, 3) := by decide +kernel
theorem dL_law_514 : decode cL_law 514 = .ok (.if_icmp .eq 206, 3) := by decide +kernel
theorem dL_law_517 : decode cL_law 517 = .ok (.iconst 0, 1) := by decide +kernel
theorem dL_law_518 : decode cL_law 518 = .ok (.ireturn, 1) := by decide +kernel
theorem dL_law_519 : decode cL_law 519 = .ok (.aload_n 1, 1) := by decide +kernel
theorem dL_law_520 : decode cL_law 520 = .ok (.invokevirtual 79, 3) := by decide +kernel
theorem dL_law_523 : decode cL_law 523 = .ok (.aload_n 2, 1) := by decide +kernel
theorem dL_law_524 : decode cL_law 524 = .ok (.invokevirtual 82, 3) := by decide +kernel
theorem dL_law_527 : decode cL_law 527 = .ok (.if_icmp .eq 193, 3) := by decide +kernel
theorem dL_law_530 : decode cL_law 530 = .ok (.iconst 0, 1) := by decide +kernel
theorem dL_law_531 : decode cL_law 531 = .ok (.ireturn, 1) := by decide +kernel
theorem dL_law_532 : decode cL_law 532 = .ok (.aload_n 1, 1) := by decide +kernel
theorem dL_law_533 : decode cL_law 533 = .ok (.aload_n 0, 1) := by decide +kernel
theorem dL_law_534 : decode cL_law 534 = .ok (.iload_n 3, 1) := by decide +kernel
theorem dL_law_535 : decode cL_law 535 = .ok (.iconst 1, 1) := by decide +kernel
theorem dL_law_536 : decode cL_law 536 = .ok (.iadd, 1) := by decide +kernel
theorem dL_law_537 : decode cL_law 537 = .ok (.iaload, 1) := by decide +kernel
theorem dL_law_538 : decode cL_law 538 = .ok (.aload_n 0, 1) := by decide +kernel
theorem dL_law_539 : decode cL_law 539 = .ok (.iload_n 3, 1) := by decide +kernel
theorem dL_law_540 : decode cL_law 540 = .ok (.iconst 2, 1) := by decide +kernel
theorem dL_law_541 : decode cL_law 541 = .ok (.iadd, 1) := by decide +kernel
theorem dL_law_542 : decode cL_law 542 = .ok (.iaload, 1) := by decide +kernel
theorem dL_law_543 : decode cL_law 543 = .ok (.invokevirtual 83, 3) := by decide +kernel
theorem dL_law_546 : decode cL_law 546 = .ok (.aload_n 2, 1) := by decide +kernel
theorem dL_law_547 : decode cL_law 547 = .ok (.aload_n 0, 1) := by decide +kernel
theorem dL_law_548 : decode cL_law 548 = .ok (.iload_n 3, 1) := by decide +kernel
theorem dL_law_549 : decode cL_law 549 = .ok (.iconst 1, 1) := by decide +kernel
theorem dL_law_550 : decode cL_law 550 = .ok (.iadd, 1) := by decide +kernel
theorem dL_law_551 : decode cL_law 551 = .ok (.iaload, 1) := by decide +kernel
theorem dL_law_552 : decode cL_law 552 = .ok (.aload_n 0, 1) := by decide +kernel
theorem dL_law_553 : decode cL_law 553 = .ok (.iload_n 3, 1) := by decide +kernel
theorem dL_law_554 : decode cL_law 554 = .ok (.iconst 2, 1) := by decide +kernel
theorem dL_law_555 : decode cL_law 555 = .ok (.iadd, 1) := by decide +kernel
theorem dL_law_556 : decode cL_law 556 = .ok (.iaload, 1) := by decide +kernel
theorem dL_law_557 : decode cL_law 557 = .ok (.invokevirtual 86, 3) := by decide +kernel
theorem dL_law_560 : decode cL_law 560 = .ok (.if_icmp .eq 160, 3) := by decide +kernel
theorem dL_law_563 : decode cL_law 563 = .ok (.iconst 0, 1) := by decide +kernel
theorem dL_law_564 : decode cL_law 564 = .ok (.ireturn, 1) := by decide +kernel
theorem dL_law_565 : decode cL_law 565 = .ok (.aload_n 1, 1) := by decide +kernel
theorem dL_law_566 : decode cL_law 566 = .ok (.aload_n 0, 1) := by decide +kernel
theorem dL_law_567 : decode cL_law 567 = .ok (.iload_n 3, 1) := by decide +kernel
theorem dL_law_568 : decode cL_law 568 = .ok (.iconst 1, 1) := by decide +kernel
theorem dL_law_569 : decode cL_law 569 = .ok (.iadd, 1) := by decide +kernel
theorem dL_law_570 : decode cL_law 570 = .ok (.iaload, 1) := by decide +kernel
theorem dL_law_571 : decode cL_law 571 = .ok (.aload_n 0, 1) := by decide +kernel
theorem dL_law_572 : decode cL_law 572 = .ok (.iload_n 3, 1) := by decide +kernel
theorem dL_law_573 : decode cL_law 573 = .ok (.iconst 2, 1) := by decide +kernel
theorem dL_law_574 : decode cL_law 574 = .ok (.iadd, 1) := by decide +kernel
theorem dL_law_575 : decode cL_law 575 = .ok (.iaload, 1) := by decide +kernel
theorem dL_law_576 : decode cL_law 576 = .ok (.aload_n 0, 1) := by decide +kernel
theorem dL_law_577 : decode cL_law 577 = .ok (.iload_n 3, 1) := by decide +kernel
theorem dL_law_578 : decode cL_law 578 = .ok (.iconst 3, 1) := by decide +kernel
theorem dL_law_579 : decode cL_law 579 = .ok (.iadd, 1) := by decide +kernel
theorem dL_law_580 : decode cL_law 580 = .ok (.iaload, 1) := by decide +kernel
theorem dL_law_581 : decode cL_law 581 = .ok (.invokevirtual 87, 3) := by decide +kernel
theorem dL_law_584 : decode cL_law 584 = .ok (.aload_n 2, 1) := by decide +kernel
theorem dL_law_585 : decode cL_law 585 = .ok (.aload_n 0, 1) := by decide +kernel
theorem dL_law_586 : decode cL_law 586 = .ok (.iload_n 3, 1) := by decide +kernel
theorem dL_law_587 : decode cL_law 587 = .ok (.iconst 1, 1) := by decide +kernel
theorem dL_law_588 : decode cL_law 588 = .ok (.iadd, 1) := by decide +kernel
theorem dL_law_589 : decode cL_law 589 = .ok (.iaload, 1) := by decide +kernel
theorem dL_law_590 : decode cL_law 590 = .ok (.aload_n 0, 1) := by decide +kernel
theorem dL_law_591 : decode cL_law 591 = .ok (.iload_n 3, 1) := by decide +kernel
theorem dL_law_592 : decode cL_law 592 = .ok (.iconst 2, 1) := by decide +kernel
theorem dL_law_593 : decode cL_law 593 = .ok (.iadd, 1) := by decide +kernel
theorem dL_law_594 : decode cL_law 594 = .ok (.iaload, 1) := by decide +kernel
theorem dL_law_595 : decode cL_law 595 = .ok (.aload_n 0, 1) := by decide +kernel
theorem dL_law_596 : decode cL_law 596 = .ok (.iload_n 3, 1) := by decide +kernel
theorem dL_law_597 : decode cL_law 597 = .ok (.iconst 3, 1) := by decide +kernel
theorem dL_law_598 : decode cL_law 598 = .ok (.iadd, 1) := by decide +kernel
theorem dL_law_599 : decode cL_law 599 = .ok (.iaload, 1) := by decide +kernel
theorem dL_law_600 : decode cL_law 600 = .ok (.invokevirtual 90, 3) := by decide +kernel
theorem dL_law_603 : decode cL_law 603 = .ok (.if_icmp .eq 117, 3) := by decide +kernel
theorem dL_law_606 : decode cL_law 606 = .ok (.iconst 0, 1) := by decide +kernel
theorem dL_law_607 : decode cL_law 607 = .ok (.ireturn, 1) := by decide +kernel
theorem dL_law_608 : decode cL_law 608 = .ok (.aload_n 1, 1) := by decide +kernel
theorem dL_law_609 : decode cL_law 609 = .ok (.aload_n 0, 1) := by decide +kernel
theorem dL_law_610 : decode cL_law 610 = .ok (.iload_n 3, 1) := by decide +kernel
theorem dL_law_611 : decode cL_law 611 = .ok (.iconst 1, 1) := by decide +kernel
theorem dL_law_612 : decode cL_law 612 = .ok (.iadd, 1) := by decide +kernel
theorem dL_law_613 : decode cL_law 613 = .ok (.iaload, 1) := by decide +kernel
theorem dL_law_614 : decode cL_law 614 = .ok (.aload_n 0, 1) := by decide +kernel
theorem dL_law_615 : decode cL_law 615 = .ok (.iload_n 3, 1) := by decide +kernel
theorem dL_law_616 : decode cL_law 616 = .ok (.iconst 2, 1) := by decide +kernel
theorem dL_law_617 : decode cL_law 617 = .ok (.iadd, 1) := by decide +kernel
theorem dL_law_618 : decode cL_law 618 = .ok (.iaload, 1) := by decide +kernel
theorem dL_law_619 : decode cL_law 619 = .ok (.invokevirtual 91, 3) := by decide +kernel
theorem dL_law_622 : decode cL_law 622 = .ok (.aload_n 2, 1) := by decide +kernel
theorem dL_law_623 : decode cL_law 623 = .ok (.aload_n 0, 1) := by decide +kernel
theorem dL_law_624 : decode cL_law 624 = .ok (.iload_n 3, 1) := by decide +kernel
theorem dL_law_625 : decode cL_law 625 = .ok (.iconst 1, 1) := by decide +kernel
theorem dL_law_626 : decode cL_law 626 = .ok (.iadd, 1) := by decide +kernel
theorem dL_law_627 : decode cL_law 627 = .ok (.iaload, 1) := by decide +kernel
theorem dL_law_628 : decode cL_law 628 = .ok (.aload_n 0, 1) := by decide +kernel
theorem dL_law_629 : decode cL_law 629 = .ok (.iload_n 3, 1) := by decide +kernel
theorem dL_law_630 : decode cL_law 630 = .ok (.iconst 2, 1) := by decide +kernel
theorem dL_law_631 : decode cL_law 631 = .ok (.iadd, 1) := by decide +kernel
theorem dL_law_632 : decode cL_law 632 = .ok (.iaload, 1) := by decide +kernel
theorem dL_law_633 : decode cL_law 633 = .ok (.invokevirtual 94, 3) := by decide +kernel
theorem dL_law_636 : decode cL_law 636 = .ok (.if_icmp .eq 84, 3) := by decide +kernel
theorem dL_law_639 : decode cL_law 639 = .ok (.iconst 0, 1) := by decide +kernel
theorem dL_law_640 : decode cL_law 640 = .ok (.ireturn, 1) := by decide +kernel
theorem dL_law_641 : decode cL_law 641 = .ok (.aload_n 1, 1) := by decide +kernel
theorem dL_law_642 : decode cL_law 642 = .ok (.aload_n 0, 1) := by decide +kernel
theorem dL_law_643 : decode cL_law 643 = .ok (.iload_n 3, 1) := by decide +kernel
theorem dL_law_644 : decode cL_law 644 = .ok (.iconst 1, 1) := by decide +kernel
theorem dL_law_645 : decode cL_law 645 = .ok (.iadd, 1) := by decide +kernel
theorem dL_law_646 : decode cL_law 646 = .ok (.iaload, 1) := by decide +kernel
theorem dL_law_647 : decode cL_law 647 = .ok (.invokevirtual 95, 3) := by decide +kernel
theorem dL_law_650 : decode cL_law 650 = .ok (.aload_n 2, 1) := by decide +kernel
theorem dL_law_651 : decode cL_law 651 = .ok (.aload_n 0, 1) := by decide +kernel
theorem dL_law_652 : decode cL_law 652 = .ok (.iload_n 3, 1) := by decide +kernel
theorem dL_law_653 : decode cL_law 653 = .ok (.iconst 1, 1) := by decide +kernel
theorem dL_law_654 : decode cL_law 654 = .ok (.iadd, 1) := by decide +kernel
theorem dL_law_655 : decode cL_law 655 = .ok (.iaload, 1) := by decide +kernel
theorem dL_law_656 : decode cL_law 656 = .ok (.invokevirtual 98, 3) := by decide +kernel
theorem dL_law_659 : decode cL_law 659 = .ok (.if_icmp .eq 61, 3) := by decide +kernel
theorem dL_law_662 : decode cL_law 662 = .ok (.iconst 0, 1) := by decide +kernel
theorem dL_law_663 : decode cL_law 663 = .ok (.ireturn, 1) := by decide +kernel
theorem dL_law_664 : decode cL_law 664 = .ok (.aload_n 1, 1) := by decide +kernel
theorem dL_law_665 : decode cL_law 665 = .ok (.aload_n 0, 1) := by decide +kernel
theorem dL_law_666 : decode cL_law 666 = .ok (.iload_n 3, 1) := by decide +kernel
theorem dL_law_667 : decode cL_law 667 = .ok (.iconst 1, 1) := by decide +kernel
theorem dL_law_668 : decode cL_law 668 = .ok (.iadd, 1) := by decide +kernel
theorem dL_law_669 : decode cL_law 669 = .ok (.iaload, 1) := by decide +kernel
theorem dL_law_670 : decode cL_law 670 = .ok (.aload_n 0, 1) := by decide +kernel
theorem dL_law_671 : decode cL_law 671 = .ok (.iload_n 3, 1) := by decide +kernel
theorem dL_law_672 : decode cL_law 672 = .ok (.iconst 2, 1) := by decide +kernel
theorem dL_law_673 : decode cL_law 673 = .ok (.iadd, 1) := by decide +kernel
theorem dL_law_674 : decode cL_law 674 = .ok (.iaload, 1) := by decide +kernel
theorem dL_law_675 : decode cL_law 675 = .ok (.invokevirtual 99, 3) := by decide +kernel
theorem dL_law_678 : decode cL_law 678 = .ok (.aload_n 2, 1) := by decide +kernel
theorem dL_law_679 : decode cL_law 679 = .ok (.aload_n 0, 1) := by decide +kernel
theorem dL_law_680 : decode cL_law 680 = .ok (.iload_n 3, 1) := by decide +kernel
theorem dL_law_681 : decode cL_law 681 = .ok (.iconst 1, 1) := by decide +kernel
theorem dL_law_682 : decode cL_law 682 = .ok (.iadd, 1) := by decide +kernel
theorem dL_law_683 : decode cL_law 683 = .ok (.iaload, 1) := by decide +kernel
theorem dL_law_684 : decode cL_law 684 = .ok (.aload_n 0, 1) := by decide +kernel
theorem dL_law_685 : decode cL_law 685 = .ok (.iload_n 3, 1) := by decide +kernel
theorem dL_law_686 : decode cL_law 686 = .ok (.iconst 2, 1) := by decide +kernel
theorem dL_law_687 : decode cL_law 687 = .ok (.iadd, 1) := by decide +kernel
theorem dL_law_688 : decode cL_law 688 = .ok (.iaload, 1) := by decide +kernel
theorem dL_law_689 : decode cL_law 689 = .ok (.invokevirtual 102, 3) := by decide +kernel
theorem dL_law_692 : decode cL_law 692 = .ok (.if_icmp .eq 28, 3) := by decide +kernel
theorem dL_law_695 : decode cL_law 695 = .ok (.iconst 0, 1) := by decide +kernel
theorem dL_law_696 : decode cL_law 696 = .ok (.ireturn, 1) := by decide +kernel
theorem dL_law_697 : decode cL_law 697 = .ok (.aload_n 1, 1) := by decide +kernel
theorem dL_law_698 : decode cL_law 698 = .ok (.aload_n 0, 1) := by decide +kernel
theorem dL_law_699 : decode cL_law 699 = .ok (.iload_n 3, 1) := by decide +kernel
theorem dL_law_700 : decode cL_law 700 = .ok (.iconst 1, 1) := by decide +kernel
theorem dL_law_701 : decode cL_law 701 = .ok (.iadd, 1) := by decide +kernel
theorem dL_law_702 : decode cL_law 702 = .ok (.iaload, 1) := by decide +kernel
theorem dL_law_703 : decode cL_law 703 = .ok (.invokevirtual 103, 3) := by decide +kernel
theorem dL_law_706 : decode cL_law 706 = .ok (.aload_n 2, 1) := by decide +kernel
theorem dL_law_707 : decode cL_law 707 = .ok (.aload_n 0, 1) := by decide +kernel
theorem dL_law_708 : decode cL_law 708 = .ok (.iload_n 3, 1) := by decide +kernel
theorem dL_law_709 : decode cL_law 709 = .ok (.iconst 1, 1) := by decide +kernel
theorem dL_law_710 : decode cL_law 710 = .ok (.iadd, 1) := by decide +kernel
theorem dL_law_711 : decode cL_law 711 = .ok (.iaload, 1) := by decide +kernel
theorem dL_law_712 : decode cL_law 712 = .ok (.invokevirtual 106, 3) := by decide +kernel
theorem dL_law_715 : decode cL_law 715 = .ok (.if_icmp .eq 5, 3) := by decide +kernel
theorem dL_law_718 : decode cL_law 718 = .ok (.iconst 0, 1) := by decide +kernel
theorem dL_law_719 : decode cL_law 719 = .ok (.ireturn, 1) := by decide +kernel
theorem dL_law_720 : decode cL_law 720 = .ok (.iinc 3 4, 3) := by decide +kernel
theorem dL_law_723 : decode cL_law 723 = .ok (.goto (-705), 3) := by decide +kernel
theorem dL_law_726 : decode cL_law 726 = .ok (.iconst 1, 1) := by decide +kernel
theorem dL_law_727 : decode cL_law 727 = .ok (.ireturn, 1) := by decide +kernel
end
section
/-! the words of the tables that a call may carry, and the nest mates' links -/
def kWs : List Cond := k2_sels lw_privs ++ tables_1.filter goodWord
theorem kWs_in : ∀ w ∈ kWs, w ∈ lw_tbl := fun w h => (List.mem_append.mp h).elim (fun h => List.mem_append_left _ h) (fun h => List.mem_append_right _ (List.mem_filter.mp h).1)
theorem kWs_good : ∀ w ∈ kWs, goodWord w = true := by
  intro w h
  rcases List.mem_append.mp h with h | h
  · obtain ⟨q, -, rfl⟩ := List.mem_map.mp h
    rfl
  · exact (List.mem_filter.mp h).2
theorem kWs_of {w : Cond} (i : Nat) (h : tables_1[i]? = some w) (hg : goodWord w = true) : w ∈ kWs := List.mem_append_right _ (List.mem_filter.mpr ⟨List.mem_of_getElem? h, hg⟩)
theorem kWs_pr {w : Cond} (i : Nat) (h : (k2_sels lw_privs)[i]? = some w) : w ∈ kWs := List.mem_append_left _ (List.mem_of_getElem? h)
def kNw : List Cond := [.methodLinkNest "RentedMoments$State" 37 ⟨"RentedMoments$Cell", "<init>", "()V"⟩ "RentedMoments", .fieldLinkNest "RentedMoments" 175 "RentedMoments$Cell" "values" "[I" "RentedMoments", .fieldLinkNest "RentedMoments" 176 "RentedMoments$Cell" "moments" "[I" "RentedMoments", .fieldLinkNest "RentedMoments$State" 143 "RentedMoments$Cell" "moments" "[I" "RentedMoments", .fieldLinkNest "RentedMoments$State" 98 "RentedMoments$Cell" "places" "I" "RentedMoments", .fieldLinkNest "RentedMoments" 179 "RentedMoments$Cell" "places" "I" "RentedMoments", .methodLinkNest "RentedMoments$State" 38 ⟨"RentedMoments$Reader", "<init>", "()V"⟩ "RentedMoments", .fieldLinkNest "RentedMoments" 105 "RentedMoments$Reader" "writes" "[I" "RentedMoments", .fieldLinkNest "RentedMoments$State" 185 "RentedMoments$Reader" "writes" "[I" "RentedMoments", .fieldLinkNest "RentedMoments$State" 73 "RentedMoments$Reader" "state" "I" "RentedMoments", .fieldLinkNest "RentedMoments" 79 "RentedMoments$Reader" "state" "I" "RentedMoments", .fieldLinkNest "RentedMoments$Commit" 28 "RentedMoments$Reader" "moment" "I" "RentedMoments", .fieldLinkNest "RentedMoments$State" 90 "RentedMoments$Reader" "moment" "I" "RentedMoments", .fieldLinkNest "RentedMoments" 116 "RentedMoments$Reader" "moment" "I" "RentedMoments", .fieldLinkNest "RentedMoments" 65 "RentedMoments$Reader" "purse" "I" "RentedMoments", .fieldLinkNest "RentedMoments$State" 137 "RentedMoments$Reader" "purse" "I" "RentedMoments", .fieldLinkNest "RentedMoments$Commit" 33 "RentedMoments$Reader" "readCells" "I" "RentedMoments", .fieldLinkNest "RentedMoments" 109 "RentedMoments$Reader" "readCells" "I" "RentedMoments", .fieldLinkNest "RentedMoments$State" 178 "RentedMoments$Reader" "readCells" "I" "RentedMoments", .fieldLinkNest "RentedMoments$Commit" 34 "RentedMoments$Reader" "writtenCells" "I" "RentedMoments", .fieldLinkNest "RentedMoments" 195 "RentedMoments$Reader" "writtenCells" "I" "RentedMoments", .fieldLinkNest "RentedMoments$State" 158 "RentedMoments$Reader" "writtenCells" "I" "RentedMoments", .fieldLinkNest "RentedMoments" 76 "RentedMoments$Reader" "term" "I" "RentedMoments", .fieldLinkNest "RentedMoments$State" 140 "RentedMoments$Reader" "term" "I" "RentedMoments", .fieldLinkNest "RentedMoments$State" 80 "RentedMoments$Reader" "paid" "I" "RentedMoments", .fieldLinkNest "RentedMoments" 198 "RentedMoments$Reader" "paid" "I" "RentedMoments", .fieldLinkNest "RentedMoments" 68 "RentedMoments$Reader" "wasWidow" "Z" "RentedMoments", .methodLinkNest "RentedMoments$State" 39 ⟨"RentedMoments$Commit", "<init>", "()V"⟩ "RentedMoments", .fieldLinkNest "RentedMoments" 217 "RentedMoments$Commit" "reader" "I" "RentedMoments", .fieldLinkNest "RentedMoments$State" 168 "RentedMoments$Commit" "reader" "I" "RentedMoments", .fieldLinkNest "RentedMoments" 222 "RentedMoments$Commit" "readerMoment" "I" "RentedMoments", .fieldLinkNest "RentedMoments$State" 171 "RentedMoments$Commit" "readerMoment" "I" "RentedMoments", .fieldLinkNest "RentedMoments" 225 "RentedMoments$Commit" "madeMoment" "I" "RentedMoments", .fieldLinkNest "RentedMoments$State" 174 "RentedMoments$Commit" "madeMoment" "I" "RentedMoments", .fieldLinkNest "RentedMoments" 228 "RentedMoments$Commit" "writtenCells" "I" "RentedMoments", .fieldLinkNest "RentedMoments$State" 177 "RentedMoments$Commit" "writtenCells" "I" "RentedMoments", .fieldLinkNest "RentedMoments" 229 "RentedMoments$Commit" "readCells" "I" "RentedMoments", .fieldLinkNest "RentedMoments$State" 181 "RentedMoments$Commit" "readCells" "I" "RentedMoments", .fieldLinkNest "RentedMoments" 230 "RentedMoments$Commit" "skews" "I" "RentedMoments", .fieldLinkNest "RentedMoments$State" 150 "RentedMoments$Commit" "skews" "I" "RentedMoments", .fieldLinkNest "RentedMoments" 112 "RentedMoments$State" "cells" "[LRentedMoments$Cell;" "RentedMoments", .fieldLinkNest "RentedMoments" 55 "RentedMoments$State" "readers" "[LRentedMoments$Reader;" "RentedMoments", .fieldLinkNest "RentedMoments" 213 "RentedMoments$State" "commits" "[LRentedMoments$Commit;" "RentedMoments", .fieldLinkNest "RentedMoments" 144 "RentedMoments$State" "moment" "I" "RentedMoments", .fieldLinkNest "RentedMoments" 207 "RentedMoments$State" "tickNumber" "I" "RentedMoments", .fieldLinkNest "RentedMoments" 86 "RentedMoments$State" "rent" "I" "RentedMoments", .fieldLinkNest "RentedMoments" 36 "RentedMoments$State" "readersBeen" "I" "RentedMoments", .fieldLinkNest "RentedMoments" 210 "RentedMoments$State" "commitsMade" "I" "RentedMoments", .fieldLinkNest "RentedMoments" 236 "RentedMoments$State" "removedVersions" "I" "RentedMoments", .fieldLinkNest "RentedMoments" 89 "RentedMoments$State" "skewForbidden" "Z" "RentedMoments", .fieldLinkNest "RentedMoments" 165 "RentedMoments$History" "length" "I" "RentedMoments", .methodLinkNest "RentedMoments" 31 ⟨"RentedMoments$WriteText", "<init>", "()V"⟩ "RentedMoments", .fieldLinkNest "RentedMoments" 145 "RentedMoments$WriteText" "length" "I" "RentedMoments", .fieldLinkNest "RentedMoments" 160 "RentedMoments$WriteText" "cells" "[I" "RentedMoments", .fieldLinkNest "RentedMoments" 162 "RentedMoments$WriteText" "values" "[I" "RentedMoments", .fieldLinkNest "RentedMoments" 158 "RentedMoments$WriteText" "writes" "I" "RentedMoments"]
theorem kNw_in : ∀ w ∈ kNw, w ∈ tables_1 := by
  intro w h
  rw [show kNw = [33, 38, 40, 41, 43, 44, 54, 59, 60, 62, 63, 65, 66, 67, 69, 70, 72, 73, 74, 76, 77, 78, 80, 81, 83, 84, 86, 107, 112, 113, 115, 116, 118, 119, 121, 122, 124, 125, 127, 128, 143, 145, 147, 149, 151, 153, 154, 157, 159, 161, 197, 205, 211, 213, 215, 217].filterMap (fun i => tables_1[i]?) from by decide +kernel] at h
  obtain ⟨i, -, hi⟩ := List.mem_filterMap.mp h
  exact List.mem_of_getElem? hi
theorem inK0 : ∀ w ∈ u_ws RX0 TX0 3, w ∈ kWs := by
  intro w h
  rw [show u_ws RX0 TX0 3 = [45, 47, 49].filterMap (fun i => tables_1[i]?) from by decide +kernel] at h
  obtain ⟨i, -, hi⟩ := List.mem_filterMap.mp h
  exact kWs_of i hi (List.all_eq_true.mp (show ([45, 47, 49].filterMap (fun i => tables_1[i]?)).all goodWord = true from by decide +kernel) w h)
theorem inK1 : ∀ w ∈ u_ws RX1 TX1 6, w ∈ kWs := by
  intro w h
  rw [show u_ws RX1 TX1 6 = [129, 131, 133, 135, 137, 139].filterMap (fun i => tables_1[i]?) from by decide +kernel] at h
  obtain ⟨i, -, hi⟩ := List.mem_filterMap.mp h
  exact kWs_of i hi (List.all_eq_true.mp (show ([129, 131, 133, 135, 137, 139].filterMap (fun i => tables_1[i]?)).all goodWord = true from by decide +kernel) w h)
theorem inK2 : ∀ w ∈ u_ws RX2 TX2 2, w ∈ kWs := by
  intro w h
  rw [show u_ws RX2 TX2 2 = [198, 200].filterMap (fun i => tables_1[i]?) from by decide +kernel] at h
  obtain ⟨i, -, hi⟩ := List.mem_filterMap.mp h
  exact kWs_of i hi (List.all_eq_true.mp (show ([198, 200].filterMap (fun i => tables_1[i]?)).all goodWord = true from by decide +kernel) w h)
theorem inK3 : ∀ w ∈ u_ws RX3 TX3 9, w ∈ kWs := by
  intro w h
  rw [show u_ws RX3 TX3 9 = [87, 89, 91, 93, 95, 97, 99, 101, 103].filterMap (fun i => tables_1[i]?) from by decide +kernel] at h
  obtain ⟨i, -, hi⟩ := List.mem_filterMap.mp h
  exact kWs_of i hi (List.all_eq_true.mp (show ([87, 89, 91, 93, 95, 97, 99, 101, 103].filterMap (fun i => tables_1[i]?)).all goodWord = true from by decide +kernel) w h)
theorem inK4 : ∀ w ∈ u_ws RX4 TX4 11, w ∈ kWs := by
  intro w h
  rw [show u_ws RX4 TX4 11 = [163, 165, 167, 169, 171, 173, 175, 177, 179, 181, 183].filterMap (fun i => tables_1[i]?) from by decide +kernel] at h
  obtain ⟨i, -, hi⟩ := List.mem_filterMap.mp h
  exact kWs_of i hi (List.all_eq_true.mp (show ([163, 165, 167, 169, 171, 173, 175, 177, 179, 181, 183].filterMap (fun i => tables_1[i]?)).all goodWord = true from by decide +kernel) w h)
theorem inK5 : ∀ w ∈ u_ws RX5 TX5 5, w ∈ kWs := by
  intro w h
  rw [show u_ws RX5 TX5 5 = [218, 220, 222, 224, 226].filterMap (fun i => tables_1[i]?) from by decide +kernel] at h
  obtain ⟨i, -, hi⟩ := List.mem_filterMap.mp h
  exact kWs_of i hi (List.all_eq_true.mp (show ([218, 220, 222, 224, 226].filterMap (fun i => tables_1[i]?)).all goodWord = true from by decide +kernel) w h)
theorem inK6 : ∀ w ∈ u_ws RX6 TX6 6, w ∈ kWs := by
  intro w h
  rw [show u_ws RX6 TX6 6 = [236, 238, 240, 242, 244, 246].filterMap (fun i => tables_1[i]?) from by decide +kernel] at h
  obtain ⟨i, -, hi⟩ := List.mem_filterMap.mp h
  exact kWs_of i hi (List.all_eq_true.mp (show ([236, 238, 240, 242, 244, 246].filterMap (fun i => tables_1[i]?)).all goodWord = true from by decide +kernel) w h)
theorem inK7 : ∀ w ∈ u_ws RX7 TX7 12, w ∈ kWs := by
  intro w h
  rw [show u_ws RX7 TX7 12 = [591, 593, 595, 597, 599, 601, 603, 605, 607, 609, 611, 613].filterMap (fun i => tables_1[i]?) from by decide +kernel] at h
  obtain ⟨i, -, hi⟩ := List.mem_filterMap.mp h
  exact kWs_of i hi (List.all_eq_true.mp (show ([591, 593, 595, 597, 599, 601, 603, 605, 607, 609, 611, 613].filterMap (fun i => tables_1[i]?)).all goodWord = true from by decide +kernel) w h)
set_option maxRecDepth 100000 in
theorem mw_X6_init : Cond.code yX6_init cX6_init 1 none ∈ kWs ∧ Cond.instanceMethod yX6_init ∈ kWs ∧ Cond.initialized RX6 ∈ kWs := ⟨kWs_of 16 rfl rfl, kWs_of 15 (by decide +kernel) rfl, kWs_of 1 (by decide +kernel) rfl⟩
set_option maxRecDepth 100000 in
theorem mw_X4_init : Cond.code yX4_init cX4_init 2 none ∈ kWs ∧ Cond.instanceMethod yX4_init ∈ kWs ∧ Cond.initialized RX4 ∈ kWs := ⟨kWs_of 24 rfl rfl, kWs_of 23 (by decide +kernel) rfl, kWs_of 2 (by decide +kernel) rfl⟩
set_option maxRecDepth 100000 in
theorem mw_X0_init : Cond.code yX0_init cX0_init 1 none ∈ kWs ∧ Cond.instanceMethod yX0_init ∈ kWs ∧ Cond.initialized RX0 ∈ kWs := ⟨kWs_of 35 rfl rfl, kWs_of 34 (by decide +kernel) rfl, kWs_of 3 (by decide +kernel) rfl⟩
set_option maxRecDepth 100000 in
theorem mw_X3_init : Cond.code yX3_init cX3_init 1 none ∈ kWs ∧ Cond.instanceMethod yX3_init ∈ kWs ∧ Cond.initialized RX3 ∈ kWs := ⟨kWs_of 56 rfl rfl, kWs_of 55 (by decide +kernel) rfl, kWs_of 4 (by decide +kernel) rfl⟩
set_option maxRecDepth 100000 in
theorem mw_X1_init : Cond.code yX1_init cX1_init 1 none ∈ kWs ∧ Cond.instanceMethod yX1_init ∈ kWs ∧ Cond.initialized RX1 ∈ kWs := ⟨kWs_of 109 rfl rfl, kWs_of 108 (by decide +kernel) rfl, kWs_of 5 (by decide +kernel) rfl⟩
set_option maxRecDepth 100000 in
theorem mw_X2_init : Cond.code yX2_init cX2_init 2 none ∈ kWs ∧ Cond.instanceMethod yX2_init ∈ kWs ∧ Cond.initialized RX2 ∈ kWs := ⟨kWs_of 190 rfl rfl, kWs_of 189 (by decide +kernel) rfl, kWs_of 6 (by decide +kernel) rfl⟩
set_option maxRecDepth 100000 in
theorem mw_X5_init : Cond.code yX5_init cX5_init 1 none ∈ kWs ∧ Cond.instanceMethod yX5_init ∈ kWs ∧ Cond.initialized RX5 ∈ kWs := ⟨kWs_of 207 rfl rfl, kWs_of 206 (by decide +kernel) rfl, kWs_of 7 (by decide +kernel) rfl⟩
set_option maxRecDepth 100000 in
theorem mw_X7_init : Cond.code yX7_init cX7_init 2 none ∈ kWs ∧ Cond.instanceMethod yX7_init ∈ kWs ∧ Cond.initialized RX7 ∈ kWs := ⟨kWs_of 577 rfl rfl, kWs_of 576 (by decide +kernel) rfl, kWs_of 8 (by decide +kernel) rfl⟩
set_option maxRecDepth 100000 in
theorem mw_X6_open : Cond.code yX6_open cX6_open 2 (some .int) ∈ kWs ∧ Cond.instanceMethod yX6_open ∈ kWs ∧ Cond.selects RX6 yX6_open yX6_open ∈ kWs ∧ Cond.initialized RX6 ∈ kWs := ⟨kWs_of 252 rfl rfl, kWs_of 250 (by decide +kernel) rfl, kWs_of 251 (by decide +kernel) rfl, kWs_of 1 (by decide +kernel) rfl⟩
set_option maxRecDepth 100000 in
theorem mw_X4_readersIn : Cond.code yX4_readersIn cX4_readersIn 4 (some .int) ∈ kWs ∧ Cond.instanceMethod yX4_readersIn ∈ kWs ∧ Cond.selects RX4 yX4_readersIn yX4_readersIn ∈ kWs ∧ Cond.initialized RX4 ∈ kWs := ⟨kWs_of 256 rfl rfl, kWs_of 254 (by decide +kernel) rfl, kWs_of 255 (by decide +kernel) rfl, kWs_of 2 (by decide +kernel) rfl⟩
set_option maxRecDepth 100000 in
theorem mw_X2_record : Cond.code yX2_record cX2_record 2 none ∈ kWs ∧ Cond.instanceMethod yX2_record ∈ kWs ∧ Cond.selects RX2 yX2_record yX2_record ∈ kWs ∧ Cond.initialized RX2 ∈ kWs := ⟨kWs_of 260 rfl rfl, kWs_of 258 (by decide +kernel) rfl, kWs_of 259 (by decide +kernel) rfl, kWs_of 6 (by decide +kernel) rfl⟩
set_option maxRecDepth 100000 in
theorem mw_X2_dropOldest : Cond.code yX2_dropOldest cX2_dropOldest 3 none ∈ kWs ∧ Cond.instanceMethod yX2_dropOldest ∈ kWs ∧ Cond.selects RX2 yX2_dropOldest yX2_dropOldest ∈ kWs ∧ Cond.initialized RX2 ∈ kWs := ⟨kWs_of 264 rfl rfl, kWs_of 263 (by decide +kernel) rfl, kWs_pr 0 (by decide +kernel), kWs_of 6 (by decide +kernel) rfl⟩
set_option maxRecDepth 100000 in
theorem mw_X4_copyFrom : Cond.code yX4_copyFrom cX4_copyFrom 3 none ∈ kWs ∧ Cond.instanceMethod yX4_copyFrom ∈ kWs ∧ Cond.selects RX4 yX4_copyFrom yX4_copyFrom ∈ kWs ∧ Cond.initialized RX4 ∈ kWs := ⟨kWs_of 268 rfl rfl, kWs_of 266 (by decide +kernel) rfl, kWs_of 267 (by decide +kernel) rfl, kWs_of 2 (by decide +kernel) rfl⟩
set_option maxRecDepth 100000 in
theorem mw_X0_copyFrom : Cond.code yX0_copyFrom cX0_copyFrom 2 none ∈ kWs ∧ Cond.instanceMethod yX0_copyFrom ∈ kWs ∧ Cond.selects RX0 yX0_copyFrom yX0_copyFrom ∈ kWs ∧ Cond.initialized RX0 ∈ kWs := ⟨kWs_of 272 rfl rfl, kWs_of 270 (by decide +kernel) rfl, kWs_of 271 (by decide +kernel) rfl, kWs_of 3 (by decide +kernel) rfl⟩
set_option maxRecDepth 100000 in
theorem mw_X3_copyFrom : Cond.code yX3_copyFrom cX3_copyFrom 2 none ∈ kWs ∧ Cond.instanceMethod yX3_copyFrom ∈ kWs ∧ Cond.selects RX3 yX3_copyFrom yX3_copyFrom ∈ kWs ∧ Cond.initialized RX3 ∈ kWs := ⟨kWs_of 279 rfl rfl, kWs_of 277 (by decide +kernel) rfl, kWs_of 278 (by decide +kernel) rfl, kWs_of 4 (by decide +kernel) rfl⟩
set_option maxRecDepth 100000 in
theorem mw_X1_copyFrom : Cond.code yX1_copyFrom cX1_copyFrom 2 none ∈ kWs ∧ Cond.instanceMethod yX1_copyFrom ∈ kWs ∧ Cond.selects RX1 yX1_copyFrom yX1_copyFrom ∈ kWs ∧ Cond.initialized RX1 ∈ kWs := ⟨kWs_of 284 rfl rfl, kWs_of 282 (by decide +kernel) rfl, kWs_of 283 (by decide +kernel) rfl, kWs_of 5 (by decide +kernel) rfl⟩
set_option maxRecDepth 100000 in
theorem mw_X4_addReader : Cond.code yX4_addReader cX4_addReader 3 (some .int) ∈ kWs ∧ Cond.instanceMethod yX4_addReader ∈ kWs ∧ Cond.selects RX4 yX4_addReader yX4_addReader ∈ kWs ∧ Cond.initialized RX4 ∈ kWs := ⟨kWs_of 288 rfl rfl, kWs_of 286 (by decide +kernel) rfl, kWs_of 287 (by decide +kernel) rfl, kWs_of 2 (by decide +kernel) rfl⟩
set_option maxRecDepth 100000 in
theorem mw_X3_begin : Cond.code yX3_begin cX3_begin 3 none ∈ kWs ∧ Cond.instanceMethod yX3_begin ∈ kWs ∧ Cond.selects RX3 yX3_begin yX3_begin ∈ kWs ∧ Cond.initialized RX3 ∈ kWs := ⟨kWs_of 292 rfl rfl, kWs_of 290 (by decide +kernel) rfl, kWs_of 291 (by decide +kernel) rfl, kWs_of 4 (by decide +kernel) rfl⟩
set_option maxRecDepth 100000 in
theorem mw_X7_open : Cond.code yX7_open cX7_open 4 (some .int) ∈ kWs ∧ Cond.instanceMethod yX7_open ∈ kWs ∧ Cond.selects RX7 yX7_open yX7_open ∈ kWs ∧ Cond.initialized RX7 ∈ kWs := ⟨kWs_of 643 rfl rfl, kWs_of 641 (by decide +kernel) rfl, kWs_of 642 (by decide +kernel) rfl, kWs_of 8 (by decide +kernel) rfl⟩
set_option maxRecDepth 100000 in
theorem mw_X7_isIn : Cond.code yX7_isIn cX7_isIn 3 (some .boolean) ∈ kWs ∧ Cond.static yX7_isIn ∈ kWs ∧ Cond.initialized RX7 ∈ kWs := ⟨kWs_of 646 rfl rfl, kWs_of 645 (by decide +kernel) rfl, kWs_of 8 (by decide +kernel) rfl⟩
set_option maxRecDepth 100000 in
theorem mw_X7_ofState : Cond.code yX7_ofState cX7_ofState 4 (some .int) ∈ kWs ∧ Cond.instanceMethod yX7_ofState ∈ kWs ∧ Cond.selects RX7 yX7_ofState yX7_ofState ∈ kWs ∧ Cond.initialized RX7 ∈ kWs := ⟨kWs_of 650 rfl rfl, kWs_of 649 (by decide +kernel) rfl, kWs_pr 10 (by decide +kernel), kWs_of 8 (by decide +kernel) rfl⟩
set_option maxRecDepth 100000 in
theorem mw_X7_ofR : Cond.code yX7_ofR cX7_ofR 3 (some .int) ∈ kWs ∧ Cond.instanceMethod yX7_ofR ∈ kWs ∧ Cond.selects RX7 yX7_ofR yX7_ofR ∈ kWs ∧ Cond.initialized RX7 ∈ kWs := ⟨kWs_of 654 rfl rfl, kWs_of 653 (by decide +kernel) rfl, kWs_pr 11 (by decide +kernel), kWs_of 8 (by decide +kernel) rfl⟩
set_option maxRecDepth 100000 in
theorem mw_X7_records : Cond.code yX7_records cX7_records 2 none ∈ kWs ∧ Cond.instanceMethod yX7_records ∈ kWs ∧ Cond.selects RX7 yX7_records yX7_records ∈ kWs ∧ Cond.initialized RX7 ∈ kWs := ⟨kWs_of 639 rfl rfl, kWs_of 638 (by decide +kernel) rfl, kWs_pr 9 (by decide +kernel), kWs_of 8 (by decide +kernel) rfl⟩
set_option maxRecDepth 100000 in
theorem mw_X7_keeps : Cond.code yX7_keeps cX7_keeps 3 none ∈ kWs ∧ Cond.instanceMethod yX7_keeps ∈ kWs ∧ Cond.selects RX7 yX7_keeps yX7_keeps ∈ kWs ∧ Cond.initialized RX7 ∈ kWs := ⟨kWs_of 631 rfl rfl, kWs_of 630 (by decide +kernel) rfl, kWs_pr 8 (by decide +kernel), kWs_of 8 (by decide +kernel) rfl⟩
set_option maxRecDepth 100000 in
theorem mw_X7_setsR : Cond.code yX7_setsR cX7_setsR 4 none ∈ kWs ∧ Cond.instanceMethod yX7_setsR ∈ kWs ∧ Cond.selects RX7 yX7_setsR yX7_setsR ∈ kWs ∧ Cond.initialized RX7 ∈ kWs := ⟨kWs_of 658 rfl rfl, kWs_of 657 (by decide +kernel) rfl, kWs_pr 12 (by decide +kernel), kWs_of 8 (by decide +kernel) rfl⟩
set_option maxRecDepth 100000 in
theorem mw_X6_pay : Cond.code yX6_pay cX6_pay 4 (some .int) ∈ kWs ∧ Cond.instanceMethod yX6_pay ∈ kWs ∧ Cond.selects RX6 yX6_pay yX6_pay ∈ kWs ∧ Cond.initialized RX6 ∈ kWs := ⟨kWs_of 296 rfl rfl, kWs_of 294 (by decide +kernel) rfl, kWs_of 295 (by decide +kernel) rfl, kWs_of 1 (by decide +kernel) rfl⟩
set_option maxRecDepth 100000 in
theorem mw_X4_hasReader : Cond.code yX4_hasReader cX4_hasReader 2 (some .boolean) ∈ kWs ∧ Cond.instanceMethod yX4_hasReader ∈ kWs ∧ Cond.selects RX4 yX4_hasReader yX4_hasReader ∈ kWs ∧ Cond.initialized RX4 ∈ kWs := ⟨kWs_of 300 rfl rfl, kWs_of 298 (by decide +kernel) rfl, kWs_of 299 (by decide +kernel) rfl, kWs_of 2 (by decide +kernel) rfl⟩
set_option maxRecDepth 100000 in
theorem mw_X3_isOpen : Cond.code yX3_isOpen cX3_isOpen 1 (some .boolean) ∈ kWs ∧ Cond.instanceMethod yX3_isOpen ∈ kWs ∧ Cond.selects RX3 yX3_isOpen yX3_isOpen ∈ kWs ∧ Cond.initialized RX3 ∈ kWs := ⟨kWs_of 304 rfl rfl, kWs_of 302 (by decide +kernel) rfl, kWs_of 303 (by decide +kernel) rfl, kWs_of 4 (by decide +kernel) rfl⟩
set_option maxRecDepth 100000 in
theorem mw_X7_pay : Cond.code yX7_pay cX7_pay 4 (some .int) ∈ kWs ∧ Cond.instanceMethod yX7_pay ∈ kWs ∧ Cond.selects RX7 yX7_pay yX7_pay ∈ kWs ∧ Cond.initialized RX7 ∈ kWs := ⟨kWs_of 662 rfl rfl, kWs_of 660 (by decide +kernel) rfl, kWs_of 661 (by decide +kernel) rfl, kWs_of 8 (by decide +kernel) rfl⟩
set_option maxRecDepth 100000 in
theorem mw_X7_isReader : Cond.code yX7_isReader cX7_isReader 2 (some .boolean) ∈ kWs ∧ Cond.instanceMethod yX7_isReader ∈ kWs ∧ Cond.selects RX7 yX7_isReader yX7_isReader ∈ kWs ∧ Cond.initialized RX7 ∈ kWs := ⟨kWs_of 666 rfl rfl, kWs_of 665 (by decide +kernel) rfl, kWs_pr 13 (by decide +kernel), kWs_of 8 (by decide +kernel) rfl⟩
set_option maxRecDepth 100000 in
theorem mw_X7_isOpen : Cond.code yX7_isOpen cX7_isOpen 2 (some .boolean) ∈ kWs ∧ Cond.instanceMethod yX7_isOpen ∈ kWs ∧ Cond.selects RX7 yX7_isOpen yX7_isOpen ∈ kWs ∧ Cond.initialized RX7 ∈ kWs := ⟨kWs_of 670 rfl rfl, kWs_of 669 (by decide +kernel) rfl, kWs_pr 14 (by decide +kernel), kWs_of 8 (by decide +kernel) rfl⟩
set_option maxRecDepth 100000 in
theorem mw_X6_widow : Cond.code yX6_widow cX6_widow 5 (some .int) ∈ kWs ∧ Cond.instanceMethod yX6_widow ∈ kWs ∧ Cond.selects RX6 yX6_widow yX6_widow ∈ kWs ∧ Cond.initialized RX6 ∈ kWs := ⟨kWs_of 308 rfl rfl, kWs_of 306 (by decide +kernel) rfl, kWs_of 307 (by decide +kernel) rfl, kWs_of 1 (by decide +kernel) rfl⟩
set_option maxRecDepth 100000 in
theorem mw_X4_dueOf : Cond.code yX4_dueOf cX4_dueOf 4 (some .int) ∈ kWs ∧ Cond.instanceMethod yX4_dueOf ∈ kWs ∧ Cond.selects RX4 yX4_dueOf yX4_dueOf ∈ kWs ∧ Cond.initialized RX4 ∈ kWs := ⟨kWs_of 312 rfl rfl, kWs_of 310 (by decide +kernel) rfl, kWs_of 311 (by decide +kernel) rfl, kWs_of 2 (by decide +kernel) rfl⟩
set_option maxRecDepth 100000 in
theorem mw_X3_paysRent : Cond.code yX3_paysRent cX3_paysRent 1 (some .boolean) ∈ kWs ∧ Cond.instanceMethod yX3_paysRent ∈ kWs ∧ Cond.selects RX3 yX3_paysRent yX3_paysRent ∈ kWs ∧ Cond.initialized RX3 ∈ kWs := ⟨kWs_of 316 rfl rfl, kWs_of 314 (by decide +kernel) rfl, kWs_of 315 (by decide +kernel) rfl, kWs_of 4 (by decide +kernel) rfl⟩
set_option maxRecDepth 100000 in
theorem mw_X0_placeSeenAt : Cond.code yX0_placeSeenAt cX0_placeSeenAt 3 (some .int) ∈ kWs ∧ Cond.instanceMethod yX0_placeSeenAt ∈ kWs ∧ Cond.selects RX0 yX0_placeSeenAt yX0_placeSeenAt ∈ kWs ∧ Cond.initialized RX0 ∈ kWs := ⟨kWs_of 320 rfl rfl, kWs_of 318 (by decide +kernel) rfl, kWs_of 319 (by decide +kernel) rfl, kWs_of 3 (by decide +kernel) rfl⟩
set_option maxRecDepth 100000 in
theorem mw_X4_shareOf : Cond.code yX4_shareOf cX4_shareOf 4 (some .int) ∈ kWs ∧ Cond.instanceMethod yX4_shareOf ∈ kWs ∧ Cond.selects RX4 yX4_shareOf yX4_shareOf ∈ kWs ∧ Cond.initialized RX4 ∈ kWs := ⟨kWs_of 324 rfl rfl, kWs_of 322 (by decide +kernel) rfl, kWs_of 323 (by decide +kernel) rfl, kWs_of 2 (by decide +kernel) rfl⟩
set_option maxRecDepth 100000 in
theorem mw_X4_payersOf : Cond.code yX4_payersOf cX4_payersOf 6 (some .int) ∈ kWs ∧ Cond.instanceMethod yX4_payersOf ∈ kWs ∧ Cond.selects RX4 yX4_payersOf yX4_payersOf ∈ kWs ∧ Cond.initialized RX4 ∈ kWs := ⟨kWs_of 328 rfl rfl, kWs_of 326 (by decide +kernel) rfl, kWs_of 327 (by decide +kernel) rfl, kWs_of 2 (by decide +kernel) rfl⟩
set_option maxRecDepth 100000 in
theorem mw_X7_widow : Cond.code yX7_widow cX7_widow 4 (some .int) ∈ kWs ∧ Cond.instanceMethod yX7_widow ∈ kWs ∧ Cond.selects RX7 yX7_widow yX7_widow ∈ kWs ∧ Cond.initialized RX7 ∈ kWs := ⟨kWs_of 674 rfl rfl, kWs_of 672 (by decide +kernel) rfl, kWs_of 673 (by decide +kernel) rfl, kWs_of 8 (by decide +kernel) rfl⟩
set_option maxRecDepth 100000 in
theorem mw_X7_dueOf : Cond.code yX7_dueOf cX7_dueOf 4 (some .int) ∈ kWs ∧ Cond.instanceMethod yX7_dueOf ∈ kWs ∧ Cond.selects RX7 yX7_dueOf yX7_dueOf ∈ kWs ∧ Cond.initialized RX7 ∈ kWs := ⟨kWs_of 678 rfl rfl, kWs_of 677 (by decide +kernel) rfl, kWs_pr 15 (by decide +kernel), kWs_of 8 (by decide +kernel) rfl⟩
set_option maxRecDepth 100000 in
theorem mw_X7_isWidow : Cond.code yX7_isWidow cX7_isWidow 2 (some .boolean) ∈ kWs ∧ Cond.instanceMethod yX7_isWidow ∈ kWs ∧ Cond.selects RX7 yX7_isWidow yX7_isWidow ∈ kWs ∧ Cond.initialized RX7 ∈ kWs := ⟨kWs_of 682 rfl rfl, kWs_of 681 (by decide +kernel) rfl, kWs_pr 16 (by decide +kernel), kWs_of 8 (by decide +kernel) rfl⟩
set_option maxRecDepth 100000 in
theorem mw_X7_isOld : Cond.code yX7_isOld cX7_isOld 2 (some .boolean) ∈ kWs ∧ Cond.instanceMethod yX7_isOld ∈ kWs ∧ Cond.selects RX7 yX7_isOld yX7_isOld ∈ kWs ∧ Cond.initialized RX7 ∈ kWs := ⟨kWs_of 686 rfl rfl, kWs_of 685 (by decide +kernel) rfl, kWs_pr 17 (by decide +kernel), kWs_of 8 (by decide +kernel) rfl⟩
set_option maxRecDepth 100000 in
theorem mw_X7_ofV : Cond.code yX7_ofV cX7_ofV 3 (some .int) ∈ kWs ∧ Cond.instanceMethod yX7_ofV ∈ kWs ∧ Cond.selects RX7 yX7_ofV yX7_ofV ∈ kWs ∧ Cond.initialized RX7 ∈ kWs := ⟨kWs_of 690 rfl rfl, kWs_of 689 (by decide +kernel) rfl, kWs_pr 18 (by decide +kernel), kWs_of 8 (by decide +kernel) rfl⟩
set_option maxRecDepth 100000 in
theorem mw_X7_newest : Cond.code yX7_newest cX7_newest 2 (some .int) ∈ kWs ∧ Cond.instanceMethod yX7_newest ∈ kWs ∧ Cond.selects RX7 yX7_newest yX7_newest ∈ kWs ∧ Cond.initialized RX7 ∈ kWs := ⟨kWs_of 694 rfl rfl, kWs_of 693 (by decide +kernel) rfl, kWs_pr 19 (by decide +kernel), kWs_of 8 (by decide +kernel) rfl⟩
set_option maxRecDepth 100000 in
theorem mw_X7_versionAt : Cond.code yX7_versionAt cX7_versionAt 7 (some .int) ∈ kWs ∧ Cond.instanceMethod yX7_versionAt ∈ kWs ∧ Cond.selects RX7 yX7_versionAt yX7_versionAt ∈ kWs ∧ Cond.initialized RX7 ∈ kWs := ⟨kWs_of 698 rfl rfl, kWs_of 697 (by decide +kernel) rfl, kWs_pr 20 (by decide +kernel), kWs_of 8 (by decide +kernel) rfl⟩
set_option maxRecDepth 100000 in
theorem mw_X7_sees : Cond.code yX7_sees cX7_sees 3 (some .boolean) ∈ kWs ∧ Cond.instanceMethod yX7_sees ∈ kWs ∧ Cond.selects RX7 yX7_sees yX7_sees ∈ kWs ∧ Cond.initialized RX7 ∈ kWs := ⟨kWs_of 702 rfl rfl, kWs_of 701 (by decide +kernel) rfl, kWs_pr 21 (by decide +kernel), kWs_of 8 (by decide +kernel) rfl⟩
set_option maxRecDepth 100000 in
theorem mw_X7_rentOf : Cond.code yX7_rentOf cX7_rentOf 3 (some .int) ∈ kWs ∧ Cond.instanceMethod yX7_rentOf ∈ kWs ∧ Cond.selects RX7 yX7_rentOf yX7_rentOf ∈ kWs ∧ Cond.initialized RX7 ∈ kWs := ⟨kWs_of 706 rfl rfl, kWs_of 705 (by decide +kernel) rfl, kWs_pr 22 (by decide +kernel), kWs_of 8 (by decide +kernel) rfl⟩
set_option maxRecDepth 100000 in
theorem mw_X7_seenBy : Cond.code yX7_seenBy cX7_seenBy 5 (some .int) ∈ kWs ∧ Cond.instanceMethod yX7_seenBy ∈ kWs ∧ Cond.selects RX7 yX7_seenBy yX7_seenBy ∈ kWs ∧ Cond.initialized RX7 ∈ kWs := ⟨kWs_of 710 rfl rfl, kWs_of 709 (by decide +kernel) rfl, kWs_pr 23 (by decide +kernel), kWs_of 8 (by decide +kernel) rfl⟩
set_option maxRecDepth 100000 in
theorem mw_X6_close : Cond.code yX6_close cX6_close 3 (some .int) ∈ kWs ∧ Cond.instanceMethod yX6_close ∈ kWs ∧ Cond.selects RX6 yX6_close yX6_close ∈ kWs ∧ Cond.initialized RX6 ∈ kWs := ⟨kWs_of 332 rfl rfl, kWs_of 330 (by decide +kernel) rfl, kWs_of 331 (by decide +kernel) rfl, kWs_of 1 (by decide +kernel) rfl⟩
set_option maxRecDepth 100000 in
theorem mw_X4_removeUnseen : Cond.code yX4_removeUnseen cX4_removeUnseen 3 (some .int) ∈ kWs ∧ Cond.instanceMethod yX4_removeUnseen ∈ kWs ∧ Cond.selects RX4 yX4_removeUnseen yX4_removeUnseen ∈ kWs ∧ Cond.initialized RX4 ∈ kWs := ⟨kWs_of 336 rfl rfl, kWs_of 334 (by decide +kernel) rfl, kWs_of 335 (by decide +kernel) rfl, kWs_of 2 (by decide +kernel) rfl⟩
set_option maxRecDepth 100000 in
theorem mw_X4_placesSeen : Cond.code yX4_placesSeen cX4_placesSeen 6 (some .int) ∈ kWs ∧ Cond.instanceMethod yX4_placesSeen ∈ kWs ∧ Cond.selects RX4 yX4_placesSeen yX4_placesSeen ∈ kWs ∧ Cond.initialized RX4 ∈ kWs := ⟨kWs_of 340 rfl rfl, kWs_of 338 (by decide +kernel) rfl, kWs_of 339 (by decide +kernel) rfl, kWs_of 2 (by decide +kernel) rfl⟩
set_option maxRecDepth 100000 in
theorem mw_X0_retainOld : Cond.code yX0_retainOld cX0_retainOld 4 (some .int) ∈ kWs ∧ Cond.instanceMethod yX0_retainOld ∈ kWs ∧ Cond.selects RX0 yX0_retainOld yX0_retainOld ∈ kWs ∧ Cond.initialized RX0 ∈ kWs := ⟨kWs_of 345 rfl rfl, kWs_of 343 (by decide +kernel) rfl, kWs_of 344 (by decide +kernel) rfl, kWs_of 3 (by decide +kernel) rfl⟩
set_option maxRecDepth 100000 in
theorem mw_X7_close : Cond.code yX7_close cX7_close 2 (some .int) ∈ kWs ∧ Cond.instanceMethod yX7_close ∈ kWs ∧ Cond.selects RX7 yX7_close yX7_close ∈ kWs ∧ Cond.initialized RX7 ∈ kWs := ⟨kWs_of 714 rfl rfl, kWs_of 712 (by decide +kernel) rfl, kWs_of 713 (by decide +kernel) rfl, kWs_of 8 (by decide +kernel) rfl⟩
set_option maxRecDepth 100000 in
theorem mw_X7_removes : Cond.code yX7_removes cX7_removes 4 (some .int) ∈ kWs ∧ Cond.instanceMethod yX7_removes ∈ kWs ∧ Cond.selects RX7 yX7_removes yX7_removes ∈ kWs ∧ Cond.initialized RX7 ∈ kWs := ⟨kWs_of 718 rfl rfl, kWs_of 717 (by decide +kernel) rfl, kWs_pr 24 (by decide +kernel), kWs_of 8 (by decide +kernel) rfl⟩
set_option maxRecDepth 100000 in
theorem mw_X6_setRent : Cond.code yX6_setRent cX6_setRent 3 (some .int) ∈ kWs ∧ Cond.instanceMethod yX6_setRent ∈ kWs ∧ Cond.selects RX6 yX6_setRent yX6_setRent ∈ kWs ∧ Cond.initialized RX6 ∈ kWs := ⟨kWs_of 349 rfl rfl, kWs_of 347 (by decide +kernel) rfl, kWs_of 348 (by decide +kernel) rfl, kWs_of 1 (by decide +kernel) rfl⟩
set_option maxRecDepth 100000 in
theorem mw_X7_setRent : Cond.code yX7_setRent cX7_setRent 3 (some .int) ∈ kWs ∧ Cond.instanceMethod yX7_setRent ∈ kWs ∧ Cond.selects RX7 yX7_setRent yX7_setRent ∈ kWs ∧ Cond.initialized RX7 ∈ kWs := ⟨kWs_of 722 rfl rfl, kWs_of 720 (by decide +kernel) rfl, kWs_of 721 (by decide +kernel) rfl, kWs_of 8 (by decide +kernel) rfl⟩
set_option maxRecDepth 100000 in
theorem mw_X6_forbidSkew : Cond.code yX6_forbidSkew cX6_forbidSkew 2 (some .int) ∈ kWs ∧ Cond.instanceMethod yX6_forbidSkew ∈ kWs ∧ Cond.selects RX6 yX6_forbidSkew yX6_forbidSkew ∈ kWs ∧ Cond.initialized RX6 ∈ kWs := ⟨kWs_of 353 rfl rfl, kWs_of 351 (by decide +kernel) rfl, kWs_of 352 (by decide +kernel) rfl, kWs_of 1 (by decide +kernel) rfl⟩
set_option maxRecDepth 100000 in
theorem mw_X4_pairsInSkew : Cond.code yX4_pairsInSkew cX4_pairsInSkew 3 (some .int) ∈ kWs ∧ Cond.instanceMethod yX4_pairsInSkew ∈ kWs ∧ Cond.selects RX4 yX4_pairsInSkew yX4_pairsInSkew ∈ kWs ∧ Cond.initialized RX4 ∈ kWs := ⟨kWs_of 357 rfl rfl, kWs_of 355 (by decide +kernel) rfl, kWs_of 356 (by decide +kernel) rfl, kWs_of 2 (by decide +kernel) rfl⟩
set_option maxRecDepth 100000 in
theorem mw_X7_forbidSkew : Cond.code yX7_forbidSkew cX7_forbidSkew 3 (some .int) ∈ kWs ∧ Cond.instanceMethod yX7_forbidSkew ∈ kWs ∧ Cond.selects RX7 yX7_forbidSkew yX7_forbidSkew ∈ kWs ∧ Cond.initialized RX7 ∈ kWs := ⟨kWs_of 726 rfl rfl, kWs_of 724 (by decide +kernel) rfl, kWs_of 725 (by decide +kernel) rfl, kWs_of 8 (by decide +kernel) rfl⟩
set_option maxRecDepth 100000 in
theorem mw_X7_pairs : Cond.code yX7_pairs cX7_pairs 3 (some .int) ∈ kWs ∧ Cond.instanceMethod yX7_pairs ∈ kWs ∧ Cond.selects RX7 yX7_pairs yX7_pairs ∈ kWs ∧ Cond.initialized RX7 ∈ kWs := ⟨kWs_of 730 rfl rfl, kWs_of 729 (by decide +kernel) rfl, kWs_pr 25 (by decide +kernel), kWs_of 8 (by decide +kernel) rfl⟩
set_option maxRecDepth 100000 in
theorem mw_X7_skews : Cond.code yX7_skews cX7_skews 5 (some .int) ∈ kWs ∧ Cond.instanceMethod yX7_skews ∈ kWs ∧ Cond.selects RX7 yX7_skews yX7_skews ∈ kWs ∧ Cond.initialized RX7 ∈ kWs := ⟨kWs_of 734 rfl rfl, kWs_of 733 (by decide +kernel) rfl, kWs_pr 26 (by decide +kernel), kWs_of 8 (by decide +kernel) rfl⟩
set_option maxRecDepth 100000 in
theorem mw_X7_ofC : Cond.code yX7_ofC cX7_ofC 3 (some .int) ∈ kWs ∧ Cond.instanceMethod yX7_ofC ∈ kWs ∧ Cond.selects RX7 yX7_ofC yX7_ofC ∈ kWs ∧ Cond.initialized RX7 ∈ kWs := ⟨kWs_of 738 rfl rfl, kWs_of 737 (by decide +kernel) rfl, kWs_pr 27 (by decide +kernel), kWs_of 8 (by decide +kernel) rfl⟩
set_option maxRecDepth 100000 in
theorem mw_X7_areSkew : Cond.code yX7_areSkew cX7_areSkew 4 (some .boolean) ∈ kWs ∧ Cond.static yX7_areSkew ∈ kWs ∧ Cond.initialized RX7 ∈ kWs := ⟨kWs_of 741 rfl rfl, kWs_of 740 (by decide +kernel) rfl, kWs_of 8 (by decide +kernel) rfl⟩
set_option maxRecDepth 100000 in
theorem mw_X6_tick : Cond.code yX6_tick cX6_tick 3 (some .int) ∈ kWs ∧ Cond.instanceMethod yX6_tick ∈ kWs ∧ Cond.selects RX6 yX6_tick yX6_tick ∈ kWs ∧ Cond.initialized RX6 ∈ kWs := ⟨kWs_of 361 rfl rfl, kWs_of 359 (by decide +kernel) rfl, kWs_of 360 (by decide +kernel) rfl, kWs_of 1 (by decide +kernel) rfl⟩
set_option maxRecDepth 100000 in
theorem mw_X4_letTicksPass : Cond.code yX4_letTicksPass cX4_letTicksPass 7 none ∈ kWs ∧ Cond.instanceMethod yX4_letTicksPass ∈ kWs ∧ Cond.selects RX4 yX4_letTicksPass yX4_letTicksPass ∈ kWs ∧ Cond.initialized RX4 ∈ kWs := ⟨kWs_of 365 rfl rfl, kWs_of 363 (by decide +kernel) rfl, kWs_of 364 (by decide +kernel) rfl, kWs_of 2 (by decide +kernel) rfl⟩
set_option maxRecDepth 100000 in
theorem mw_X4_tellDues : Cond.code yX4_tellDues cX4_tellDues 2 none ∈ kWs ∧ Cond.instanceMethod yX4_tellDues ∈ kWs ∧ Cond.selects RX4 yX4_tellDues yX4_tellDues ∈ kWs ∧ Cond.initialized RX4 ∈ kWs := ⟨kWs_of 369 rfl rfl, kWs_of 367 (by decide +kernel) rfl, kWs_of 368 (by decide +kernel) rfl, kWs_of 2 (by decide +kernel) rfl⟩
set_option maxRecDepth 100000 in
theorem mw_X4_takeDues : Cond.code yX4_takeDues cX4_takeDues 4 (some .boolean) ∈ kWs ∧ Cond.instanceMethod yX4_takeDues ∈ kWs ∧ Cond.selects RX4 yX4_takeDues yX4_takeDues ∈ kWs ∧ Cond.initialized RX4 ∈ kWs := ⟨kWs_of 374 rfl rfl, kWs_of 372 (by decide +kernel) rfl, kWs_of 373 (by decide +kernel) rfl, kWs_of 2 (by decide +kernel) rfl⟩
set_option maxRecDepth 100000 in
theorem mw_X4_shortenTerms : Cond.code yX4_shortenTerms cX4_shortenTerms 4 (some .boolean) ∈ kWs ∧ Cond.instanceMethod yX4_shortenTerms ∈ kWs ∧ Cond.selects RX4 yX4_shortenTerms yX4_shortenTerms ∈ kWs ∧ Cond.initialized RX4 ∈ kWs := ⟨kWs_of 378 rfl rfl, kWs_of 376 (by decide +kernel) rfl, kWs_of 377 (by decide +kernel) rfl, kWs_of 2 (by decide +kernel) rfl⟩
set_option maxRecDepth 100000 in
theorem mw_X3_isOpenWidow : Cond.code yX3_isOpenWidow cX3_isOpenWidow 1 (some .boolean) ∈ kWs ∧ Cond.instanceMethod yX3_isOpenWidow ∈ kWs ∧ Cond.selects RX3 yX3_isOpenWidow yX3_isOpenWidow ∈ kWs ∧ Cond.initialized RX3 ∈ kWs := ⟨kWs_of 382 rfl rfl, kWs_of 380 (by decide +kernel) rfl, kWs_of 381 (by decide +kernel) rfl, kWs_of 4 (by decide +kernel) rfl⟩
set_option maxRecDepth 100000 in
theorem mw_X7_tick : Cond.code yX7_tick cX7_tick 4 (some .int) ∈ kWs ∧ Cond.instanceMethod yX7_tick ∈ kWs ∧ Cond.selects RX7 yX7_tick yX7_tick ∈ kWs ∧ Cond.initialized RX7 ∈ kWs := ⟨kWs_of 745 rfl rfl, kWs_of 743 (by decide +kernel) rfl, kWs_of 744 (by decide +kernel) rfl, kWs_of 8 (by decide +kernel) rfl⟩
set_option maxRecDepth 100000 in
theorem mw_X7_passes : Cond.code yX7_passes cX7_passes 3 (some .int) ∈ kWs ∧ Cond.instanceMethod yX7_passes ∈ kWs ∧ Cond.selects RX7 yX7_passes yX7_passes ∈ kWs ∧ Cond.initialized RX7 ∈ kWs := ⟨kWs_of 749 rfl rfl, kWs_of 748 (by decide +kernel) rfl, kWs_pr 28 (by decide +kernel), kWs_of 8 (by decide +kernel) rfl⟩
set_option maxRecDepth 100000 in
theorem mw_X6_read : Cond.code yX6_read cX6_read 4 (some .int) ∈ kWs ∧ Cond.instanceMethod yX6_read ∈ kWs ∧ Cond.selects RX6 yX6_read yX6_read ∈ kWs ∧ Cond.initialized RX6 ∈ kWs := ⟨kWs_of 388 rfl rfl, kWs_of 386 (by decide +kernel) rfl, kWs_of 387 (by decide +kernel) rfl, kWs_of 1 (by decide +kernel) rfl⟩
set_option maxRecDepth 100000 in
theorem mw_X6_isCell : Cond.code yX6_isCell cX6_isCell 1 (some .boolean) ∈ kWs ∧ Cond.static yX6_isCell ∈ kWs ∧ Cond.initialized RX6 ∈ kWs := ⟨kWs_of 391 rfl rfl, kWs_of 390 (by decide +kernel) rfl, kWs_of 1 (by decide +kernel) rfl⟩
set_option maxRecDepth 100000 in
theorem mw_X3_hasWrite : Cond.code yX3_hasWrite cX3_hasWrite 2 (some .boolean) ∈ kWs ∧ Cond.instanceMethod yX3_hasWrite ∈ kWs ∧ Cond.selects RX3 yX3_hasWrite yX3_hasWrite ∈ kWs ∧ Cond.initialized RX3 ∈ kWs := ⟨kWs_of 395 rfl rfl, kWs_of 393 (by decide +kernel) rfl, kWs_of 394 (by decide +kernel) rfl, kWs_of 4 (by decide +kernel) rfl⟩
set_option maxRecDepth 100000 in
theorem mw_X0_valueSeenAt : Cond.code yX0_valueSeenAt cX0_valueSeenAt 3 (some .int) ∈ kWs ∧ Cond.instanceMethod yX0_valueSeenAt ∈ kWs ∧ Cond.selects RX0 yX0_valueSeenAt yX0_valueSeenAt ∈ kWs ∧ Cond.initialized RX0 ∈ kWs := ⟨kWs_of 399 rfl rfl, kWs_of 397 (by decide +kernel) rfl, kWs_of 398 (by decide +kernel) rfl, kWs_of 3 (by decide +kernel) rfl⟩
set_option maxRecDepth 100000 in
theorem mw_X7_read : Cond.code yX7_read cX7_read 3 (some .int) ∈ kWs ∧ Cond.instanceMethod yX7_read ∈ kWs ∧ Cond.selects RX7 yX7_read yX7_read ∈ kWs ∧ Cond.initialized RX7 ∈ kWs := ⟨kWs_of 757 rfl rfl, kWs_of 755 (by decide +kernel) rfl, kWs_of 756 (by decide +kernel) rfl, kWs_of 8 (by decide +kernel) rfl⟩
set_option maxRecDepth 100000 in
theorem mw_X7_isCell : Cond.code yX7_isCell cX7_isCell 1 (some .boolean) ∈ kWs ∧ Cond.static yX7_isCell ∈ kWs ∧ Cond.initialized RX7 ∈ kWs := ⟨kWs_of 760 rfl rfl, kWs_of 759 (by decide +kernel) rfl, kWs_of 8 (by decide +kernel) rfl⟩
set_option maxRecDepth 100000 in
theorem mw_X7_has : Cond.code yX7_has cX7_has 2 (some .boolean) ∈ kWs ∧ Cond.static yX7_has ∈ kWs ∧ Cond.initialized RX7 ∈ kWs := ⟨kWs_of 763 rfl rfl, kWs_of 762 (by decide +kernel) rfl, kWs_of 8 (by decide +kernel) rfl⟩
set_option maxRecDepth 100000 in
theorem mw_X6_write : Cond.code yX6_write cX6_write 5 (some .int) ∈ kWs ∧ Cond.instanceMethod yX6_write ∈ kWs ∧ Cond.selects RX6 yX6_write yX6_write ∈ kWs ∧ Cond.initialized RX6 ∈ kWs := ⟨kWs_of 404 rfl rfl, kWs_of 402 (by decide +kernel) rfl, kWs_of 403 (by decide +kernel) rfl, kWs_of 1 (by decide +kernel) rfl⟩
set_option maxRecDepth 100000 in
theorem mw_X3_putWrite : Cond.code yX3_putWrite cX3_putWrite 3 none ∈ kWs ∧ Cond.instanceMethod yX3_putWrite ∈ kWs ∧ Cond.selects RX3 yX3_putWrite yX3_putWrite ∈ kWs ∧ Cond.initialized RX3 ∈ kWs := ⟨kWs_of 408 rfl rfl, kWs_of 406 (by decide +kernel) rfl, kWs_of 407 (by decide +kernel) rfl, kWs_of 4 (by decide +kernel) rfl⟩
set_option maxRecDepth 100000 in
theorem mw_X3_numberOfWrites : Cond.code yX3_numberOfWrites cX3_numberOfWrites 1 (some .int) ∈ kWs ∧ Cond.instanceMethod yX3_numberOfWrites ∈ kWs ∧ Cond.selects RX3 yX3_numberOfWrites yX3_numberOfWrites ∈ kWs ∧ Cond.initialized RX3 ∈ kWs := ⟨kWs_of 412 rfl rfl, kWs_of 410 (by decide +kernel) rfl, kWs_of 411 (by decide +kernel) rfl, kWs_of 4 (by decide +kernel) rfl⟩
set_option maxRecDepth 100000 in
theorem mw_J6_bitCount_0f7a4 : Cond.code yJ6_bitCount_0f7a4 cJ6_bitCount_0f7a4 1 (some .int) ∈ kWs ∧ Cond.static yJ6_bitCount_0f7a4 ∈ kWs ∧ Cond.initialized RJ6 ∈ kWs := ⟨kWs_of 415 rfl rfl, kWs_of 414 (by decide +kernel) rfl, kWs_of 10 (by decide +kernel) rfl⟩
set_option maxRecDepth 100000 in
theorem mw_X7_write : Cond.code yX7_write cX7_write 4 (some .int) ∈ kWs ∧ Cond.instanceMethod yX7_write ∈ kWs ∧ Cond.selects RX7 yX7_write yX7_write ∈ kWs ∧ Cond.initialized RX7 ∈ kWs := ⟨kWs_of 767 rfl rfl, kWs_of 765 (by decide +kernel) rfl, kWs_of 766 (by decide +kernel) rfl, kWs_of 8 (by decide +kernel) rfl⟩
set_option maxRecDepth 100000 in
theorem mw_X7_writes : Cond.code yX7_writes cX7_writes 4 none ∈ kWs ∧ Cond.instanceMethod yX7_writes ∈ kWs ∧ Cond.selects RX7 yX7_writes yX7_writes ∈ kWs ∧ Cond.initialized RX7 ∈ kWs := ⟨kWs_of 771 rfl rfl, kWs_of 770 (by decide +kernel) rfl, kWs_pr 29 (by decide +kernel), kWs_of 8 (by decide +kernel) rfl⟩
set_option maxRecDepth 100000 in
theorem mw_X7_ones : Cond.code yX7_ones cX7_ones 3 (some .int) ∈ kWs ∧ Cond.static yX7_ones ∈ kWs ∧ Cond.initialized RX7 ∈ kWs := ⟨kWs_of 774 rfl rfl, kWs_of 773 (by decide +kernel) rfl, kWs_of 8 (by decide +kernel) rfl⟩
set_option maxRecDepth 100000 in
theorem mw_X6_commit : Cond.code yX6_commit cX6_commit 3 (some .int) ∈ kWs ∧ Cond.instanceMethod yX6_commit ∈ kWs ∧ Cond.selects RX6 yX6_commit yX6_commit ∈ kWs ∧ Cond.initialized RX6 ∈ kWs := ⟨kWs_of 422 rfl rfl, kWs_of 420 (by decide +kernel) rfl, kWs_of 421 (by decide +kernel) rfl, kWs_of 1 (by decide +kernel) rfl⟩
set_option maxRecDepth 100000 in
theorem mw_X4_hasConflict : Cond.code yX4_hasConflict cX4_hasConflict 3 (some .boolean) ∈ kWs ∧ Cond.instanceMethod yX4_hasConflict ∈ kWs ∧ Cond.selects RX4 yX4_hasConflict yX4_hasConflict ∈ kWs ∧ Cond.initialized RX4 ∈ kWs := ⟨kWs_of 426 rfl rfl, kWs_of 424 (by decide +kernel) rfl, kWs_of 425 (by decide +kernel) rfl, kWs_of 2 (by decide +kernel) rfl⟩
set_option maxRecDepth 100000 in
theorem mw_X4_skewsOf : Cond.code yX4_skewsOf cX4_skewsOf 4 (some .int) ∈ kWs ∧ Cond.instanceMethod yX4_skewsOf ∈ kWs ∧ Cond.selects RX4 yX4_skewsOf yX4_skewsOf ∈ kWs ∧ Cond.initialized RX4 ∈ kWs := ⟨kWs_of 431 rfl rfl, kWs_of 429 (by decide +kernel) rfl, kWs_of 430 (by decide +kernel) rfl, kWs_of 2 (by decide +kernel) rfl⟩
set_option maxRecDepth 100000 in
theorem mw_X1_isInSkewWithLater : Cond.code yX1_isInSkewWithLater cX1_isInSkewWithLater 2 (some .boolean) ∈ kWs ∧ Cond.instanceMethod yX1_isInSkewWithLater ∈ kWs ∧ Cond.selects RX1 yX1_isInSkewWithLater yX1_isInSkewWithLater ∈ kWs ∧ Cond.initialized RX1 ∈ kWs := ⟨kWs_of 435 rfl rfl, kWs_of 433 (by decide +kernel) rfl, kWs_of 434 (by decide +kernel) rfl, kWs_of 5 (by decide +kernel) rfl⟩
set_option maxRecDepth 100000 in
theorem mw_X4_oldVersionsWithout : Cond.code yX4_oldVersionsWithout cX4_oldVersionsWithout 6 (some .int) ∈ kWs ∧ Cond.instanceMethod yX4_oldVersionsWithout ∈ kWs ∧ Cond.selects RX4 yX4_oldVersionsWithout yX4_oldVersionsWithout ∈ kWs ∧ Cond.initialized RX4 ∈ kWs := ⟨kWs_of 439 rfl rfl, kWs_of 437 (by decide +kernel) rfl, kWs_of 438 (by decide +kernel) rfl, kWs_of 2 (by decide +kernel) rfl⟩
set_option maxRecDepth 100000 in
theorem mw_X4_land : Cond.code yX4_land cX4_land 3 none ∈ kWs ∧ Cond.instanceMethod yX4_land ∈ kWs ∧ Cond.selects RX4 yX4_land yX4_land ∈ kWs ∧ Cond.initialized RX4 ∈ kWs := ⟨kWs_of 444 rfl rfl, kWs_of 442 (by decide +kernel) rfl, kWs_of 443 (by decide +kernel) rfl, kWs_of 2 (by decide +kernel) rfl⟩
set_option maxRecDepth 100000 in
theorem mw_X4_noteCommit : Cond.code yX4_noteCommit cX4_noteCommit 4 none ∈ kWs ∧ Cond.instanceMethod yX4_noteCommit ∈ kWs ∧ Cond.selects RX4 yX4_noteCommit yX4_noteCommit ∈ kWs ∧ Cond.initialized RX4 ∈ kWs := ⟨kWs_of 448 rfl rfl, kWs_of 447 (by decide +kernel) rfl, kWs_pr 1 (by decide +kernel), kWs_of 2 (by decide +kernel) rfl⟩
set_option maxRecDepth 100000 in
theorem mw_X4_pushWrites : Cond.code yX4_pushWrites cX4_pushWrites 3 none ∈ kWs ∧ Cond.instanceMethod yX4_pushWrites ∈ kWs ∧ Cond.selects RX4 yX4_pushWrites yX4_pushWrites ∈ kWs ∧ Cond.initialized RX4 ∈ kWs := ⟨kWs_of 453 rfl rfl, kWs_of 452 (by decide +kernel) rfl, kWs_pr 2 (by decide +kernel), kWs_of 2 (by decide +kernel) rfl⟩
set_option maxRecDepth 100000 in
theorem mw_X0_push : Cond.code yX0_push cX0_push 3 none ∈ kWs ∧ Cond.instanceMethod yX0_push ∈ kWs ∧ Cond.selects RX0 yX0_push yX0_push ∈ kWs ∧ Cond.initialized RX0 ∈ kWs := ⟨kWs_of 457 rfl rfl, kWs_of 455 (by decide +kernel) rfl, kWs_of 456 (by decide +kernel) rfl, kWs_of 3 (by decide +kernel) rfl⟩
set_option maxRecDepth 100000 in
theorem mw_X7_commit : Cond.code yX7_commit cX7_commit 2 (some .int) ∈ kWs ∧ Cond.instanceMethod yX7_commit ∈ kWs ∧ Cond.selects RX7 yX7_commit yX7_commit ∈ kWs ∧ Cond.initialized RX7 ∈ kWs := ⟨kWs_of 778 rfl rfl, kWs_of 776 (by decide +kernel) rfl, kWs_of 777 (by decide +kernel) rfl, kWs_of 8 (by decide +kernel) rfl⟩
set_option maxRecDepth 100000 in
theorem mw_X7_hasConflict : Cond.code yX7_hasConflict cX7_hasConflict 4 (some .boolean) ∈ kWs ∧ Cond.instanceMethod yX7_hasConflict ∈ kWs ∧ Cond.selects RX7 yX7_hasConflict yX7_hasConflict ∈ kWs ∧ Cond.initialized RX7 ∈ kWs := ⟨kWs_of 782 rfl rfl, kWs_of 781 (by decide +kernel) rfl, kWs_pr 30 (by decide +kernel), kWs_of 8 (by decide +kernel) rfl⟩
set_option maxRecDepth 100000 in
theorem mw_X7_skewsOf : Cond.code yX7_skewsOf cX7_skewsOf 5 (some .int) ∈ kWs ∧ Cond.instanceMethod yX7_skewsOf ∈ kWs ∧ Cond.selects RX7 yX7_skewsOf yX7_skewsOf ∈ kWs ∧ Cond.initialized RX7 ∈ kWs := ⟨kWs_of 786 rfl rfl, kWs_of 785 (by decide +kernel) rfl, kWs_pr 31 (by decide +kernel), kWs_of 8 (by decide +kernel) rfl⟩
set_option maxRecDepth 100000 in
theorem mw_X7_commits : Cond.code yX7_commits cX7_commits 5 none ∈ kWs ∧ Cond.instanceMethod yX7_commits ∈ kWs ∧ Cond.selects RX7 yX7_commits yX7_commits ∈ kWs ∧ Cond.initialized RX7 ∈ kWs := ⟨kWs_of 790 rfl rfl, kWs_of 789 (by decide +kernel) rfl, kWs_pr 32 (by decide +kernel), kWs_of 8 (by decide +kernel) rfl⟩
set_option maxRecDepth 100000 in
theorem mw_X7_oldMany : Cond.code yX7_oldMany cX7_oldMany 1 (some .int) ∈ kWs ∧ Cond.instanceMethod yX7_oldMany ∈ kWs ∧ Cond.selects RX7 yX7_oldMany yX7_oldMany ∈ kWs ∧ Cond.initialized RX7 ∈ kWs := ⟨kWs_of 794 rfl rfl, kWs_of 793 (by decide +kernel) rfl, kWs_pr 33 (by decide +kernel), kWs_of 8 (by decide +kernel) rfl⟩
set_option maxRecDepth 100000 in
theorem mw_X7_brings : Cond.code yX7_brings cX7_brings 3 none ∈ kWs ∧ Cond.instanceMethod yX7_brings ∈ kWs ∧ Cond.selects RX7 yX7_brings yX7_brings ∈ kWs ∧ Cond.initialized RX7 ∈ kWs := ⟨kWs_of 623 rfl rfl, kWs_of 622 (by decide +kernel) rfl, kWs_pr 7 (by decide +kernel), kWs_of 8 (by decide +kernel) rfl⟩
set_option maxRecDepth 100000 in
theorem mw_X7_commitsFor : Cond.code yX7_commitsFor cX7_commitsFor 2 (some .int) ∈ kWs ∧ Cond.instanceMethod yX7_commitsFor ∈ kWs ∧ Cond.selects RX7 yX7_commitsFor yX7_commitsFor ∈ kWs ∧ Cond.initialized RX7 ∈ kWs := ⟨kWs_of 798 rfl rfl, kWs_of 797 (by decide +kernel) rfl, kWs_pr 34 (by decide +kernel), kWs_of 8 (by decide +kernel) rfl⟩
set_option maxRecDepth 100000 in
theorem mw_X6_type : Cond.code yX6_type cX6_type 2 (some .int) ∈ kWs ∧ Cond.instanceMethod yX6_type ∈ kWs ∧ Cond.selects RX6 yX6_type yX6_type ∈ kWs ∧ Cond.initialized RX6 ∈ kWs := ⟨kWs_of 461 rfl rfl, kWs_of 459 (by decide +kernel) rfl, kWs_of 460 (by decide +kernel) rfl, kWs_of 1 (by decide +kernel) rfl⟩
set_option maxRecDepth 100000 in
theorem mw_X5_add : Cond.code yX5_add cX5_add 2 none ∈ kWs ∧ Cond.instanceMethod yX5_add ∈ kWs ∧ Cond.selects RX5 yX5_add yX5_add ∈ kWs ∧ Cond.initialized RX5 ∈ kWs := ⟨kWs_of 465 rfl rfl, kWs_of 463 (by decide +kernel) rfl, kWs_of 464 (by decide +kernel) rfl, kWs_of 7 (by decide +kernel) rfl⟩
set_option maxRecDepth 100000 in
theorem mw_X7_type : Cond.code yX7_type cX7_type 2 (some .int) ∈ kWs ∧ Cond.instanceMethod yX7_type ∈ kWs ∧ Cond.selects RX7 yX7_type yX7_type ∈ kWs ∧ Cond.initialized RX7 ∈ kWs := ⟨kWs_of 802 rfl rfl, kWs_of 800 (by decide +kernel) rfl, kWs_of 801 (by decide +kernel) rfl, kWs_of 8 (by decide +kernel) rfl⟩
set_option maxRecDepth 100000 in
theorem mw_X6_clearText : Cond.code yX6_clearText cX6_clearText 2 (some .int) ∈ kWs ∧ Cond.instanceMethod yX6_clearText ∈ kWs ∧ Cond.selects RX6 yX6_clearText yX6_clearText ∈ kWs ∧ Cond.initialized RX6 ∈ kWs := ⟨kWs_of 469 rfl rfl, kWs_of 467 (by decide +kernel) rfl, kWs_of 468 (by decide +kernel) rfl, kWs_of 1 (by decide +kernel) rfl⟩
set_option maxRecDepth 100000 in
theorem mw_X7_clearText : Cond.code yX7_clearText cX7_clearText 2 (some .int) ∈ kWs ∧ Cond.instanceMethod yX7_clearText ∈ kWs ∧ Cond.selects RX7 yX7_clearText yX7_clearText ∈ kWs ∧ Cond.initialized RX7 ∈ kWs := ⟨kWs_of 806 rfl rfl, kWs_of 804 (by decide +kernel) rfl, kWs_of 805 (by decide +kernel) rfl, kWs_of 8 (by decide +kernel) rfl⟩
set_option maxRecDepth 100000 in
theorem mw_X6_readWrites : Cond.code yX6_readWrites cX6_readWrites 5 (some .int) ∈ kWs ∧ Cond.instanceMethod yX6_readWrites ∈ kWs ∧ Cond.selects RX6 yX6_readWrites yX6_readWrites ∈ kWs ∧ Cond.initialized RX6 ∈ kWs := ⟨kWs_of 473 rfl rfl, kWs_of 471 (by decide +kernel) rfl, kWs_of 472 (by decide +kernel) rfl, kWs_of 1 (by decide +kernel) rfl⟩
set_option maxRecDepth 100000 in
theorem mw_X5_parse : Cond.code yX5_parse cX5_parse 6 (some .int) ∈ kWs ∧ Cond.instanceMethod yX5_parse ∈ kWs ∧ Cond.selects RX5 yX5_parse yX5_parse ∈ kWs ∧ Cond.initialized RX5 ∈ kWs := ⟨kWs_of 477 rfl rfl, kWs_of 475 (by decide +kernel) rfl, kWs_of 476 (by decide +kernel) rfl, kWs_of 7 (by decide +kernel) rfl⟩
set_option maxRecDepth 100000 in
theorem mw_X5_endOfNumber : Cond.code yX5_endOfNumber cX5_endOfNumber 5 (some .int) ∈ kWs ∧ Cond.instanceMethod yX5_endOfNumber ∈ kWs ∧ Cond.selects RX5 yX5_endOfNumber yX5_endOfNumber ∈ kWs ∧ Cond.initialized RX5 ∈ kWs := ⟨kWs_of 481 rfl rfl, kWs_of 480 (by decide +kernel) rfl, kWs_pr 3 (by decide +kernel), kWs_of 7 (by decide +kernel) rfl⟩
set_option maxRecDepth 100000 in
theorem mw_X5_isSign : Cond.code yX5_isSign cX5_isSign 3 (some .boolean) ∈ kWs ∧ Cond.instanceMethod yX5_isSign ∈ kWs ∧ Cond.selects RX5 yX5_isSign yX5_isSign ∈ kWs ∧ Cond.initialized RX5 ∈ kWs := ⟨kWs_of 485 rfl rfl, kWs_of 484 (by decide +kernel) rfl, kWs_pr 4 (by decide +kernel), kWs_of 7 (by decide +kernel) rfl⟩
set_option maxRecDepth 100000 in
theorem mw_X5_isDigit : Cond.code yX5_isDigit cX5_isDigit 2 (some .boolean) ∈ kWs ∧ Cond.instanceMethod yX5_isDigit ∈ kWs ∧ Cond.selects RX5 yX5_isDigit yX5_isDigit ∈ kWs ∧ Cond.initialized RX5 ∈ kWs := ⟨kWs_of 489 rfl rfl, kWs_of 488 (by decide +kernel) rfl, kWs_pr 5 (by decide +kernel), kWs_of 7 (by decide +kernel) rfl⟩
set_option maxRecDepth 100000 in
theorem mw_X5_number : Cond.code yX5_number cX5_number 5 (some .int) ∈ kWs ∧ Cond.instanceMethod yX5_number ∈ kWs ∧ Cond.selects RX5 yX5_number yX5_number ∈ kWs ∧ Cond.initialized RX5 ∈ kWs := ⟨kWs_of 493 rfl rfl, kWs_of 492 (by decide +kernel) rfl, kWs_pr 6 (by decide +kernel), kWs_of 7 (by decide +kernel) rfl⟩
set_option maxRecDepth 100000 in
theorem mw_X5_greatestCell : Cond.code yX5_greatestCell cX5_greatestCell 3 (some .int) ∈ kWs ∧ Cond.instanceMethod yX5_greatestCell ∈ kWs ∧ Cond.selects RX5 yX5_greatestCell yX5_greatestCell ∈ kWs ∧ Cond.initialized RX5 ∈ kWs := ⟨kWs_of 497 rfl rfl, kWs_of 495 (by decide +kernel) rfl, kWs_of 496 (by decide +kernel) rfl, kWs_of 7 (by decide +kernel) rfl⟩
set_option maxRecDepth 100000 in
theorem mw_X7_readWrites : Cond.code yX7_readWrites cX7_readWrites 4 (some .int) ∈ kWs ∧ Cond.instanceMethod yX7_readWrites ∈ kWs ∧ Cond.selects RX7 yX7_readWrites yX7_readWrites ∈ kWs ∧ Cond.initialized RX7 ∈ kWs := ⟨kWs_of 810 rfl rfl, kWs_of 808 (by decide +kernel) rfl, kWs_of 809 (by decide +kernel) rfl, kWs_of 8 (by decide +kernel) rfl⟩
set_option maxRecDepth 100000 in
theorem mw_X7_faultOf : Cond.code yX7_faultOf cX7_faultOf 1 (some .int) ∈ kWs ∧ Cond.instanceMethod yX7_faultOf ∈ kWs ∧ Cond.selects RX7 yX7_faultOf yX7_faultOf ∈ kWs ∧ Cond.initialized RX7 ∈ kWs := ⟨kWs_of 814 rfl rfl, kWs_of 813 (by decide +kernel) rfl, kWs_pr 35 (by decide +kernel), kWs_of 8 (by decide +kernel) rfl⟩
set_option maxRecDepth 100000 in
theorem mw_X7_passesWrite : Cond.code yX7_passesWrite cX7_passesWrite 1 (some .boolean) ∈ kWs ∧ Cond.instanceMethod yX7_passesWrite ∈ kWs ∧ Cond.selects RX7 yX7_passesWrite yX7_passesWrite ∈ kWs ∧ Cond.initialized RX7 ∈ kWs := ⟨kWs_of 818 rfl rfl, kWs_of 817 (by decide +kernel) rfl, kWs_pr 36 (by decide +kernel), kWs_of 8 (by decide +kernel) rfl⟩
set_option maxRecDepth 100000 in
theorem mw_X7_passesNumber : Cond.code yX7_passesNumber cX7_passesNumber 4 (some .boolean) ∈ kWs ∧ Cond.instanceMethod yX7_passesNumber ∈ kWs ∧ Cond.selects RX7 yX7_passesNumber yX7_passesNumber ∈ kWs ∧ Cond.initialized RX7 ∈ kWs := ⟨kWs_of 822 rfl rfl, kWs_of 821 (by decide +kernel) rfl, kWs_pr 37 (by decide +kernel), kWs_of 8 (by decide +kernel) rfl⟩
set_option maxRecDepth 100000 in
theorem mw_X7_isHere : Cond.code yX7_isHere cX7_isHere 3 (some .boolean) ∈ kWs ∧ Cond.instanceMethod yX7_isHere ∈ kWs ∧ Cond.selects RX7 yX7_isHere yX7_isHere ∈ kWs ∧ Cond.initialized RX7 ∈ kWs := ⟨kWs_of 826 rfl rfl, kWs_of 825 (by decide +kernel) rfl, kWs_pr 38 (by decide +kernel), kWs_of 8 (by decide +kernel) rfl⟩
set_option maxRecDepth 100000 in
theorem mw_X7_passesSign : Cond.code yX7_passesSign cX7_passesSign 3 (some .boolean) ∈ kWs ∧ Cond.instanceMethod yX7_passesSign ∈ kWs ∧ Cond.selects RX7 yX7_passesSign yX7_passesSign ∈ kWs ∧ Cond.initialized RX7 ∈ kWs := ⟨kWs_of 830 rfl rfl, kWs_of 829 (by decide +kernel) rfl, kWs_pr 39 (by decide +kernel), kWs_of 8 (by decide +kernel) rfl⟩
set_option maxRecDepth 100000 in
theorem mw_X6_undo : Cond.code yX6_undo cX6_undo 1 (some .int) ∈ kWs ∧ Cond.instanceMethod yX6_undo ∈ kWs ∧ Cond.selects RX6 yX6_undo yX6_undo ∈ kWs ∧ Cond.initialized RX6 ∈ kWs := ⟨kWs_of 504 rfl rfl, kWs_of 502 (by decide +kernel) rfl, kWs_of 503 (by decide +kernel) rfl, kWs_of 1 (by decide +kernel) rfl⟩
set_option maxRecDepth 100000 in
theorem mw_X2_bringBack : Cond.code yX2_bringBack cX2_bringBack 2 none ∈ kWs ∧ Cond.instanceMethod yX2_bringBack ∈ kWs ∧ Cond.selects RX2 yX2_bringBack yX2_bringBack ∈ kWs ∧ Cond.initialized RX2 ∈ kWs := ⟨kWs_of 508 rfl rfl, kWs_of 506 (by decide +kernel) rfl, kWs_of 507 (by decide +kernel) rfl, kWs_of 6 (by decide +kernel) rfl⟩
set_option maxRecDepth 100000 in
theorem mw_X7_undo : Cond.code yX7_undo cX7_undo 1 (some .int) ∈ kWs ∧ Cond.instanceMethod yX7_undo ∈ kWs ∧ Cond.selects RX7 yX7_undo yX7_undo ∈ kWs ∧ Cond.initialized RX7 ∈ kWs := ⟨kWs_of 619 rfl rfl, kWs_of 617 (by decide +kernel) rfl, kWs_of 618 (by decide +kernel) rfl, kWs_of 8 (by decide +kernel) rfl⟩
set_option maxRecDepth 100000 in
theorem mw_X6_keep : Cond.code yX6_keep cX6_keep 1 (some .int) ∈ kWs ∧ Cond.instanceMethod yX6_keep ∈ kWs ∧ Cond.selects RX6 yX6_keep yX6_keep ∈ kWs ∧ Cond.initialized RX6 ∈ kWs := ⟨kWs_of 512 rfl rfl, kWs_of 510 (by decide +kernel) rfl, kWs_of 511 (by decide +kernel) rfl, kWs_of 1 (by decide +kernel) rfl⟩
set_option maxRecDepth 100000 in
theorem mw_X7_keep : Cond.code yX7_keep cX7_keep 1 (some .int) ∈ kWs ∧ Cond.instanceMethod yX7_keep ∈ kWs ∧ Cond.selects RX7 yX7_keep yX7_keep ∈ kWs ∧ Cond.initialized RX7 ∈ kWs := ⟨kWs_of 627 rfl rfl, kWs_of 625 (by decide +kernel) rfl, kWs_of 626 (by decide +kernel) rfl, kWs_of 8 (by decide +kernel) rfl⟩
set_option maxRecDepth 100000 in
theorem mw_X6_restore : Cond.code yX6_restore cX6_restore 1 (some .int) ∈ kWs ∧ Cond.instanceMethod yX6_restore ∈ kWs ∧ Cond.selects RX6 yX6_restore yX6_restore ∈ kWs ∧ Cond.initialized RX6 ∈ kWs := ⟨kWs_of 517 rfl rfl, kWs_of 515 (by decide +kernel) rfl, kWs_of 516 (by decide +kernel) rfl, kWs_of 1 (by decide +kernel) rfl⟩
set_option maxRecDepth 100000 in
theorem mw_X7_restore : Cond.code yX7_restore cX7_restore 1 (some .int) ∈ kWs ∧ Cond.instanceMethod yX7_restore ∈ kWs ∧ Cond.selects RX7 yX7_restore yX7_restore ∈ kWs ∧ Cond.initialized RX7 ∈ kWs := ⟨kWs_of 635 rfl rfl, kWs_of 633 (by decide +kernel) rfl, kWs_of 634 (by decide +kernel) rfl, kWs_of 8 (by decide +kernel) rfl⟩
set_option maxRecDepth 100000 in
theorem mw_X6_cell : Cond.code yX6_cell cX6_cell 4 (some .int) ∈ kWs ∧ Cond.instanceMethod yX6_cell ∈ kWs ∧ Cond.selects RX6 yX6_cell yX6_cell ∈ kWs ∧ Cond.initialized RX6 ∈ kWs := ⟨kWs_of 521 rfl rfl, kWs_of 519 (by decide +kernel) rfl, kWs_of 520 (by decide +kernel) rfl, kWs_of 1 (by decide +kernel) rfl⟩
set_option maxRecDepth 100000 in
theorem mw_X4_seersOf : Cond.code yX4_seersOf cX4_seersOf 6 (some .int) ∈ kWs ∧ Cond.instanceMethod yX4_seersOf ∈ kWs ∧ Cond.selects RX4 yX4_seersOf yX4_seersOf ∈ kWs ∧ Cond.initialized RX4 ∈ kWs := ⟨kWs_of 525 rfl rfl, kWs_of 523 (by decide +kernel) rfl, kWs_of 524 (by decide +kernel) rfl, kWs_of 2 (by decide +kernel) rfl⟩
set_option maxRecDepth 100000 in
theorem mw_X4_writersOf : Cond.code yX4_writersOf cX4_writersOf 4 (some .int) ∈ kWs ∧ Cond.instanceMethod yX4_writersOf ∈ kWs ∧ Cond.selects RX4 yX4_writersOf yX4_writersOf ∈ kWs ∧ Cond.initialized RX4 ∈ kWs := ⟨kWs_of 529 rfl rfl, kWs_of 527 (by decide +kernel) rfl, kWs_of 528 (by decide +kernel) rfl, kWs_of 2 (by decide +kernel) rfl⟩
set_option maxRecDepth 100000 in
theorem mw_X7_cell : Cond.code yX7_cell cX7_cell 3 (some .int) ∈ kWs ∧ Cond.instanceMethod yX7_cell ∈ kWs ∧ Cond.selects RX7 yX7_cell yX7_cell ∈ kWs ∧ Cond.initialized RX7 ∈ kWs := ⟨kWs_of 834 rfl rfl, kWs_of 832 (by decide +kernel) rfl, kWs_of 833 (by decide +kernel) rfl, kWs_of 8 (by decide +kernel) rfl⟩
set_option maxRecDepth 100000 in
theorem mw_X7_versionsOf : Cond.code yX7_versionsOf cX7_versionsOf 4 (some .int) ∈ kWs ∧ Cond.instanceMethod yX7_versionsOf ∈ kWs ∧ Cond.selects RX7 yX7_versionsOf yX7_versionsOf ∈ kWs ∧ Cond.initialized RX7 ∈ kWs := ⟨kWs_of 838 rfl rfl, kWs_of 837 (by decide +kernel) rfl, kWs_pr 40 (by decide +kernel), kWs_of 8 (by decide +kernel) rfl⟩
set_option maxRecDepth 100000 in
theorem mw_X7_writers : Cond.code yX7_writers cX7_writers 4 (some .int) ∈ kWs ∧ Cond.instanceMethod yX7_writers ∈ kWs ∧ Cond.selects RX7 yX7_writers yX7_writers ∈ kWs ∧ Cond.initialized RX7 ∈ kWs := ⟨kWs_of 842 rfl rfl, kWs_of 841 (by decide +kernel) rfl, kWs_pr 41 (by decide +kernel), kWs_of 8 (by decide +kernel) rfl⟩
set_option maxRecDepth 100000 in
theorem mw_X6_version : Cond.code yX6_version cX6_version 5 (some .int) ∈ kWs ∧ Cond.instanceMethod yX6_version ∈ kWs ∧ Cond.selects RX6 yX6_version yX6_version ∈ kWs ∧ Cond.initialized RX6 ∈ kWs := ⟨kWs_of 533 rfl rfl, kWs_of 531 (by decide +kernel) rfl, kWs_of 532 (by decide +kernel) rfl, kWs_of 1 (by decide +kernel) rfl⟩
set_option maxRecDepth 100000 in
theorem mw_X7_version : Cond.code yX7_version cX7_version 6 (some .int) ∈ kWs ∧ Cond.instanceMethod yX7_version ∈ kWs ∧ Cond.selects RX7 yX7_version yX7_version ∈ kWs ∧ Cond.initialized RX7 ∈ kWs := ⟨kWs_of 846 rfl rfl, kWs_of 844 (by decide +kernel) rfl, kWs_of 845 (by decide +kernel) rfl, kWs_of 8 (by decide +kernel) rfl⟩
set_option maxRecDepth 100000 in
theorem mw_X6_reader : Cond.code yX6_reader cX6_reader 4 (some .int) ∈ kWs ∧ Cond.instanceMethod yX6_reader ∈ kWs ∧ Cond.selects RX6 yX6_reader yX6_reader ∈ kWs ∧ Cond.initialized RX6 ∈ kWs := ⟨kWs_of 539 rfl rfl, kWs_of 537 (by decide +kernel) rfl, kWs_of 538 (by decide +kernel) rfl, kWs_of 1 (by decide +kernel) rfl⟩
set_option maxRecDepth 100000 in
theorem mw_X4_oldVersionsSeenBy : Cond.code yX4_oldVersionsSeenBy cX4_oldVersionsSeenBy 4 (some .int) ∈ kWs ∧ Cond.instanceMethod yX4_oldVersionsSeenBy ∈ kWs ∧ Cond.selects RX4 yX4_oldVersionsSeenBy yX4_oldVersionsSeenBy ∈ kWs ∧ Cond.initialized RX4 ∈ kWs := ⟨kWs_of 543 rfl rfl, kWs_of 541 (by decide +kernel) rfl, kWs_of 542 (by decide +kernel) rfl, kWs_of 2 (by decide +kernel) rfl⟩
set_option maxRecDepth 100000 in
theorem mw_X4_sumSeenBy : Cond.code yX4_sumSeenBy cX4_sumSeenBy 4 (some .int) ∈ kWs ∧ Cond.instanceMethod yX4_sumSeenBy ∈ kWs ∧ Cond.selects RX4 yX4_sumSeenBy yX4_sumSeenBy ∈ kWs ∧ Cond.initialized RX4 ∈ kWs := ⟨kWs_of 547 rfl rfl, kWs_of 545 (by decide +kernel) rfl, kWs_of 546 (by decide +kernel) rfl, kWs_of 2 (by decide +kernel) rfl⟩
set_option maxRecDepth 100000 in
theorem mw_X7_reader : Cond.code yX7_reader cX7_reader 3 (some .int) ∈ kWs ∧ Cond.instanceMethod yX7_reader ∈ kWs ∧ Cond.selects RX7 yX7_reader yX7_reader ∈ kWs ∧ Cond.initialized RX7 ∈ kWs := ⟨kWs_of 850 rfl rfl, kWs_of 848 (by decide +kernel) rfl, kWs_of 849 (by decide +kernel) rfl, kWs_of 8 (by decide +kernel) rfl⟩
set_option maxRecDepth 100000 in
theorem mw_X7_seen : Cond.code yX7_seen cX7_seen 6 (some .int) ∈ kWs ∧ Cond.instanceMethod yX7_seen ∈ kWs ∧ Cond.selects RX7 yX7_seen yX7_seen ∈ kWs ∧ Cond.initialized RX7 ∈ kWs := ⟨kWs_of 854 rfl rfl, kWs_of 853 (by decide +kernel) rfl, kWs_pr 42 (by decide +kernel), kWs_of 8 (by decide +kernel) rfl⟩
set_option maxRecDepth 100000 in
theorem mw_X6_lasts : Cond.code yX6_lasts cX6_lasts 2 (some .int) ∈ kWs ∧ Cond.instanceMethod yX6_lasts ∈ kWs ∧ Cond.selects RX6 yX6_lasts yX6_lasts ∈ kWs ∧ Cond.initialized RX6 ∈ kWs := ⟨kWs_of 552 rfl rfl, kWs_of 550 (by decide +kernel) rfl, kWs_of 551 (by decide +kernel) rfl, kWs_of 1 (by decide +kernel) rfl⟩
set_option maxRecDepth 100000 in
theorem mw_X7_lasts : Cond.code yX7_lasts cX7_lasts 3 (some .int) ∈ kWs ∧ Cond.instanceMethod yX7_lasts ∈ kWs ∧ Cond.selects RX7 yX7_lasts yX7_lasts ∈ kWs ∧ Cond.initialized RX7 ∈ kWs := ⟨kWs_of 753 rfl rfl, kWs_of 751 (by decide +kernel) rfl, kWs_of 752 (by decide +kernel) rfl, kWs_of 8 (by decide +kernel) rfl⟩
set_option maxRecDepth 100000 in
theorem mw_X6_committed : Cond.code yX6_committed cX6_committed 4 (some .int) ∈ kWs ∧ Cond.instanceMethod yX6_committed ∈ kWs ∧ Cond.selects RX6 yX6_committed yX6_committed ∈ kWs ∧ Cond.initialized RX6 ∈ kWs := ⟨kWs_of 556 rfl rfl, kWs_of 554 (by decide +kernel) rfl, kWs_of 555 (by decide +kernel) rfl, kWs_of 1 (by decide +kernel) rfl⟩
set_option maxRecDepth 100000 in
theorem mw_X7_committed : Cond.code yX7_committed cX7_committed 3 (some .int) ∈ kWs ∧ Cond.instanceMethod yX7_committed ∈ kWs ∧ Cond.selects RX7 yX7_committed yX7_committed ∈ kWs ∧ Cond.initialized RX7 ∈ kWs := ⟨kWs_of 858 rfl rfl, kWs_of 856 (by decide +kernel) rfl, kWs_of 857 (by decide +kernel) rfl, kWs_of 8 (by decide +kernel) rfl⟩
set_option maxRecDepth 100000 in
theorem mw_X6_count : Cond.code yX6_count cX6_count 2 (some .int) ∈ kWs ∧ Cond.instanceMethod yX6_count ∈ kWs ∧ Cond.selects RX6 yX6_count yX6_count ∈ kWs ∧ Cond.initialized RX6 ∈ kWs := ⟨kWs_of 560 rfl rfl, kWs_of 558 (by decide +kernel) rfl, kWs_of 559 (by decide +kernel) rfl, kWs_of 1 (by decide +kernel) rfl⟩
set_option maxRecDepth 100000 in
theorem mw_X4_oldVersions : Cond.code yX4_oldVersions cX4_oldVersions 3 (some .int) ∈ kWs ∧ Cond.instanceMethod yX4_oldVersions ∈ kWs ∧ Cond.selects RX4 yX4_oldVersions yX4_oldVersions ∈ kWs ∧ Cond.initialized RX4 ∈ kWs := ⟨kWs_of 564 rfl rfl, kWs_of 562 (by decide +kernel) rfl, kWs_of 563 (by decide +kernel) rfl, kWs_of 2 (by decide +kernel) rfl⟩
set_option maxRecDepth 100000 in
theorem mw_X4_coinsPaid : Cond.code yX4_coinsPaid cX4_coinsPaid 3 (some .int) ∈ kWs ∧ Cond.instanceMethod yX4_coinsPaid ∈ kWs ∧ Cond.selects RX4 yX4_coinsPaid yX4_coinsPaid ∈ kWs ∧ Cond.initialized RX4 ∈ kWs := ⟨kWs_of 568 rfl rfl, kWs_of 566 (by decide +kernel) rfl, kWs_of 567 (by decide +kernel) rfl, kWs_of 2 (by decide +kernel) rfl⟩
set_option maxRecDepth 100000 in
theorem mw_X4_openWidows : Cond.code yX4_openWidows cX4_openWidows 3 (some .int) ∈ kWs ∧ Cond.instanceMethod yX4_openWidows ∈ kWs ∧ Cond.selects RX4 yX4_openWidows yX4_openWidows ∈ kWs ∧ Cond.initialized RX4 ∈ kWs := ⟨kWs_of 572 rfl rfl, kWs_of 570 (by decide +kernel) rfl, kWs_of 571 (by decide +kernel) rfl, kWs_of 2 (by decide +kernel) rfl⟩
set_option maxRecDepth 100000 in
theorem mw_X7_count : Cond.code yX7_count cX7_count 2 (some .int) ∈ kWs ∧ Cond.instanceMethod yX7_count ∈ kWs ∧ Cond.selects RX7 yX7_count yX7_count ∈ kWs ∧ Cond.initialized RX7 ∈ kWs := ⟨kWs_of 862 rfl rfl, kWs_of 860 (by decide +kernel) rfl, kWs_of 861 (by decide +kernel) rfl, kWs_of 8 (by decide +kernel) rfl⟩
set_option maxRecDepth 100000 in
theorem mw_X7_widows : Cond.code yX7_widows cX7_widows 3 (some .int) ∈ kWs ∧ Cond.instanceMethod yX7_widows ∈ kWs ∧ Cond.selects RX7 yX7_widows yX7_widows ∈ kWs ∧ Cond.initialized RX7 ∈ kWs := ⟨kWs_of 866 rfl rfl, kWs_of 865 (by decide +kernel) rfl, kWs_pr 43 (by decide +kernel), kWs_of 8 (by decide +kernel) rfl⟩
end
section
/-! The one world of the class and of the reference: objects have numbers, a cell's ints are a row; rows over it. -/
def kN : Nat := 1141
def sB (j : Nat) : Nat := 14 + 161 * j
def sC (j : Nat) : Nat := 14 + 161 * j + 1
def sR (j : Nat) : Nat := 14 + 161 * j + 2
def sM (j : Nat) : Nat := 14 + 161 * j + 3
def sD (j : Nat) : Nat := 14 + 161 * j + 4
def cB (j c : Nat) : Nat := 14 + 161 * j + 5 + 3 * c
def cV (j c : Nat) : Nat := 14 + 161 * j + 6 + 3 * c
def cM (j c : Nat) : Nat := 14 + 161 * j + 7 + 3 * c
def rN (j r : Nat) : Nat := 14 + 161 * j + 41 + 2 * r
def rW (j r : Nat) : Nat := 14 + 161 * j + 42 + 2 * r
def mC (j q : Nat) : Nat := 14 + 161 * j + 121 + q
/-- the first fourteen objects: the reference's (0 to 6), and the class's own single ones -/
def kE0 (τ : Nat → ClassId) (ad : Nat → Nat) (r : Nat → Int32) (k : Nat) : va_E :=
  match k with
  | 0 => .inr (7, [.ref (ad 1), .ref (ad 2), .int (r 2), .int (r 3), .ref (ad 3), .int (r 5), .int (r 6), .int (r 7), .int (r 8), .ref (ad 4), .ref (ad 5), .ref (ad 6)])
  | 1 => .inl (τ 0, 1201, .inl r)
  | 2 => .inl (τ 0, 7206, .inl r)
  | 3 => .inl (τ 0, 60, .inl r)
  | 4 => .inl (τ 0, 30, .inl r)
  | 5 => .inl (τ 0, 30, .inl r)
  | 6 => .inl (τ 0, 40, .inl r)
  | 7 => .inr (6, [.ref (ad (sB 0)), .ref (ad (sB 1)), .ref (ad (sB 2)), .ref (ad 8), .ref (ad 10), .int (r 5)])
  | 8 => .inr (2, [.ref (ad 9), .int (r 1)])
  | 9 => .inl (τ 5, 4, .inr (.inr (.inr (.inr (fun i => some (ad (sB (r i).toNatClampNeg)))))))
  | 10 => .inr (5, [.ref (ad 11), .int (r 1), .ref (ad 12), .ref (ad 13), .int (r 4)])
  | 11 => .inl (τ 1, 60, .inl r)
  | 12 => .inl (τ 0, 16, .inl r)
  | _ => .inl (τ 0, 16, .inl r)
/-- the object o of the state j -/
def kE1 (τ : Nat → ClassId) (ad : Nat → Nat) (r : Nat → Int32) (j o : Nat) : va_E :=
  if o = 0 then .inr (4, [.ref (ad (sC j)), .ref (ad (sR j)), .ref (ad (sM j)), .int (r 3), .int (r 4), .int (r 5), .int (r 6), .int (r 7), .int (r 8), .int (r 9), .ref (ad (sD j))])
  else if o = 1 then .inl (τ 2, 12, .inr (.inr (.inr (.inr (fun i => some (ad (cB j i)))))))
  else if o = 2 then .inl (τ 3, 40, .inr (.inr (.inr (.inr (fun i => some (ad (rN j i)))))))
  else if o = 3 then .inl (τ 4, 40, .inr (.inr (.inr (.inr (fun i => some (ad (mC j i)))))))
  else if o = 4 then .inl (τ 0, 40, .inl r)
  else if o < 41 then (if (o - 5) % 3 = 0 then .inr (0, [.ref (ad (cV j ((o - 5) / 3))), .ref (ad (cM j ((o - 5) / 3))), .int (r 2)]) else .inl (τ 0, 10, .inl r))
  else if o < 121 then (if (o - 41) % 2 = 0 then .inr (3, [.ref (ad (rW j ((o - 41) / 2))), .int (r 1), .int (r 2), .int (r 3), .int (r 4), .int (r 5), .int (r 6), .int (r 7), .int (r 8)]) else .inl (τ 0, 12, .inl r))
  else .inr (1, [.int (r 0), .int (r 1), .int (r 2), .int (r 3), .int (r 4), .int (r 5)])
def kE (τ : Nat → ClassId) (ad : Nat → Nat) (r : Nat → Int32) (k : Nat) : va_E := if k < 14 then kE0 τ ad r k else kE1 τ ad r ((k - 14) / 161) ((k - 14) % 161)
def kW (τ : Nat → ClassId) (ad : Nat → Nat) (G : Nat → Nat → Int32) : va_W := (List.range kN).map (fun k => (ad k, kE τ ad (G k) k))
abbrev kT (τ : Nat → ClassId) : List (ClassId × FieldType) := [(τ 0, .int), (τ 1, .char), (τ 2, .object "RentedMoments$Cell"), (τ 3, .object "RentedMoments$Reader"), (τ 4, .object "RentedMoments$Commit"), (τ 5, .object "RentedMoments$State")]
def kInj (ad : Nat → Nat) : Prop := ∀ i j : Nat, i < kN → j < kN → ad i = ad j → i = j
def kAd (ad : Nat → Nat) : Nat → Prop := fun q => ∃ k : Nat, k < kN ∧ q = ad k
/-- one int of one row -/
def gs (G : Nat → Nat → Int32) (k f : Nat) (x : Int32) : Nat → Nat → Int32 := fun k' f' => if k' = k ∧ f' = f then x else G k' f'
theorem gs_up (G : Nat → Nat → Int32) (k f : Nat) (x : Int32) : gs G k f x k = upd (G k) f x := by
  funext f'
  by_cases h : f' = f <;> simp [gs, upd, h]
theorem gs_other {G : Nat → Nat → Int32} {k f : Nat} {x : Int32} {k' : Nat} (h : k' ≠ k) : gs G k f x k' = G k' := by
  funext f'
  simp [gs, h]
theorem kW_get {τ : Nat → ClassId} {ad : Nat → Nat} {G : Nat → Nat → Int32} {k : Nat} (h : k < kN) : (kW τ ad G)[k]? = some (ad k, kE τ ad (G k) k) := by
  unfold kW
  rw [List.getElem?_map, List.getElem?_range h]
  rfl
theorem kW_set {τ : Nat → ClassId} {ad : Nat → Nat} {G G' : Nat → Nat → Int32} {k : Nat} {e : va_E} (h : k < kN) (he : e = kE τ ad (G' k) k) (ho : ∀ i, i ≠ k → G' i = G i) : (kW τ ad G).set k (ad k, e) = kW τ ad G' := by
  apply List.ext_getElem?
  intro i
  by_cases hik : i = k
  · subst hik
    rw [kW_get h, List.getElem?_set_self (by unfold kW; simpa using h), he]
  · rw [List.getElem?_set_ne (Ne.symm hik)]
    by_cases hi : i < kN
    · rw [kW_get hi, kW_get hi, ho i hik]
    · have e1 : (kW τ ad G)[i]? = none := List.getElem?_eq_none (by unfold kW; simp; omega)
      have e2 : (kW τ ad G')[i]? = none := List.getElem?_eq_none (by unfold kW; simp; omega)
      rw [e1, e2]
theorem kW_D {τ : Nat → ClassId} {ad : Nat → Nat} {G : Nat → Nat → Int32} (hI : kInj ad) : va_D (kAd ad) (kW τ ad G) := by
  have key : ∀ (i : Nat) (p : Nat × va_E), (kW τ ad G)[i]? = some p → i < kN ∧ p.1 = ad i := by
    intro i p hp
    by_cases hi : i < kN
    · rw [kW_get hi] at hp
      cases hp
      exact ⟨hi, rfl⟩
    · rw [List.getElem?_eq_none (by unfold kW; simp; omega)] at hp
      cases hp
  refine ⟨fun i j p q hp hq hpq => ?_, fun k q hk => ?_⟩
  · obtain ⟨h1, h2⟩ := key i p hp
    obtain ⟨h3, h4⟩ := key j q hq
    exact hI i j h1 h3 (by rw [← h2, ← h4]; exact hpq)
  · obtain ⟨h1, h2⟩ := key k q hk
    exact ⟨k, h1, h2⟩
/-- the object k is of a class: its fields, of its row -/
def kO (τ : Nat → ClassId) (ad : Nat → Nat) (k ci : Nat) (C : String) (T : u_T) (N : Nat) (F : (Nat → Int32) → List Value) : Prop := k < kN ∧ vwCl[ci]? = some (C, T, N) ∧ ∀ r, kE τ ad r k = .inr (ci, F r)
/-- the object k is an array of numbers -/
def kAr (τ : Nat → ClassId) (ad : Nat → Nat) (k t : Nat) (ty : FieldType) (n : Nat) : Prop := k < kN ∧ n < 65536 ∧ ∃ cA, (kT τ)[t]? = some (cA, ty) ∧ ∀ r, kE τ ad r k = .inl (cA, n, .inl r)
/-- the object k is an array of references -/
def kQr (τ : Nat → ClassId) (ad : Nat → Nat) (k t : Nat) (C : String) (n : Nat) (f : (Nat → Int32) → Nat → Nat) : Prop := k < kN ∧ n < 65536 ∧ ∃ cA, (kT τ)[t]? = some (cA, .object C) ∧ ∀ r, kE τ ad r k = .inl (cA, n, .inr (.inr (.inr (.inr (fun i => some (ad (f r i)))))))
theorem kE_j {τ : Nat → ClassId} {ad : Nat → Nat} {r : Nat → Int32} {j o : Nat} (ho : o < 161) : kE τ ad r (14 + 161 * j + o) = kE1 τ ad r j o := by
  unfold kE
  rw [if_neg (by omega), show (14 + 161 * j + o - 14) / 161 = j by omega, show (14 + 161 * j + o - 14) % 161 = o by omega]
theorem kN_j {j o : Nat} (hj : j < 7) (ho : o < 161) : 14 + 161 * j + o < kN := by unfold kN; omega
section KOBJ
variable {τ : Nat → ClassId} {ad : Nat → Nat} {j c r q : Nat}
theorem oS (hj : j < 7) : kO τ ad (sB j) 4 RX4 TX4 11 (fun r => [.ref (ad (sC j)), .ref (ad (sR j)), .ref (ad (sM j)), .int (r 3), .int (r 4), .int (r 5), .int (r 6), .int (r 7), .int (r 8), .int (r 9), .ref (ad (sD j))]) :=
  ⟨kN_j (o := 0) hj (by omega), rfl, fun r => (kE_j (o := 0) (by omega)).trans (by unfold kE1; rw [if_pos rfl])⟩
theorem qC (hj : j < 7) : kQr τ ad (sC j) 2 "RentedMoments$Cell" 12 (fun _ i => cB j i) :=
  ⟨kN_j (o := 1) hj (by omega), by omega, τ 2, rfl, fun r => (kE_j (o := 1) (by omega)).trans (by unfold kE1; rw [if_neg (by omega), if_pos rfl])⟩
theorem qR (hj : j < 7) : kQr τ ad (sR j) 3 "RentedMoments$Reader" 40 (fun _ i => rN j i) :=
  ⟨kN_j (o := 2) hj (by omega), by omega, τ 3, rfl, fun r => (kE_j (o := 2) (by omega)).trans (by unfold kE1; rw [if_neg (by omega), if_neg (by omega), if_pos rfl])⟩
theorem qM (hj : j < 7) : kQr τ ad (sM j) 4 "RentedMoments$Commit" 40 (fun _ i => mC j i) :=
  ⟨kN_j (o := 3) hj (by omega), by omega, τ 4, rfl, fun r => (kE_j (o := 3) (by omega)).trans (by unfold kE1; rw [if_neg (by omega), if_neg (by omega), if_neg (by omega), if_pos rfl])⟩
theorem aD (hj : j < 7) : kAr τ ad (sD j) 0 .int 40 :=
  ⟨kN_j (o := 4) hj (by omega), by omega, τ 0, rfl, fun r => (kE_j (o := 4) (by omega)).trans (by unfold kE1; rw [if_neg (by omega), if_neg (by omega), if_neg (by omega), if_neg (by omega), if_pos rfl])⟩
theorem kE_c {r : Nat → Int32} {o : Nat} (h1 : 4 < o) (h2 : o < 41) : kE τ ad r (14 + 161 * j + o) = (if (o - 5) % 3 = 0 then .inr (0, [.ref (ad (cV j ((o - 5) / 3))), .ref (ad (cM j ((o - 5) / 3))), .int (r 2)]) else .inl (τ 0, 10, .inl r)) :=
  (kE_j (by omega)).trans (by unfold kE1; rw [if_neg (by omega), if_neg (by omega), if_neg (by omega), if_neg (by omega), if_neg (by omega), if_pos h2])
theorem kE_r {r : Nat → Int32} {o : Nat} (h1 : 40 < o) (h2 : o < 121) : kE τ ad r (14 + 161 * j + o) = (if (o - 41) % 2 = 0 then .inr (3, [.ref (ad (rW j ((o - 41) / 2))), .int (r 1), .int (r 2), .int (r 3), .int (r 4), .int (r 5), .int (r 6), .int (r 7), .int (r 8)]) else .inl (τ 0, 12, .inl r)) :=
  (kE_j (by omega)).trans (by unfold kE1; rw [if_neg (by omega), if_neg (by omega), if_neg (by omega), if_neg (by omega), if_neg (by omega), if_neg (by omega), if_pos h2])
theorem oC (hj : j < 7) (hc : c < 12) : kO τ ad (cB j c) 0 RX0 TX0 3 (fun r => [.ref (ad (cV j c)), .ref (ad (cM j c)), .int (r 2)]) := by
  have h := kN_j (o := 5 + 3 * c) hj (by omega)
  refine ⟨by unfold cB; omega, rfl, fun r => ?_⟩
  rw [show cB j c = 14 + 161 * j + (5 + 3 * c) by unfold cB; omega, kE_c (by omega) (by omega), if_pos (by omega), show (5 + 3 * c - 5) / 3 = c by omega]
theorem aV (hj : j < 7) (hc : c < 12) : kAr τ ad (cV j c) 0 .int 10 := by
  have h := kN_j (o := 6 + 3 * c) hj (by omega)
  refine ⟨by unfold cV; omega, by omega, τ 0, rfl, fun r => ?_⟩
  rw [show cV j c = 14 + 161 * j + (6 + 3 * c) by unfold cV; omega, kE_c (by omega) (by omega), if_neg (by omega)]
theorem aM (hj : j < 7) (hc : c < 12) : kAr τ ad (cM j c) 0 .int 10 := by
  have h := kN_j (o := 7 + 3 * c) hj (by omega)
  refine ⟨by unfold cM; omega, by omega, τ 0, rfl, fun r => ?_⟩
  rw [show cM j c = 14 + 161 * j + (7 + 3 * c) by unfold cM; omega, kE_c (by omega) (by omega), if_neg (by omega)]
theorem oR (hj : j < 7) (hr : r < 40) : kO τ ad (rN j r) 3 RX3 TX3 9 (fun q => [.ref (ad (rW j r)), .int (q 1), .int (q 2), .int (q 3), .int (q 4), .int (q 5), .int (q 6), .int (q 7), .int (q 8)]) := by
  have h := kN_j (o := 41 + 2 * r) hj (by omega)
  refine ⟨by unfold rN; omega, rfl, fun q => ?_⟩
  rw [show rN j r = 14 + 161 * j + (41 + 2 * r) by unfold rN; omega, kE_r (by omega) (by omega), if_pos (by omega), show (41 + 2 * r - 41) / 2 = r by omega]
theorem aW (hj : j < 7) (hr : r < 40) : kAr τ ad (rW j r) 0 .int 12 := by
  have h := kN_j (o := 42 + 2 * r) hj (by omega)
  refine ⟨by unfold rW; omega, by omega, τ 0, rfl, fun q => ?_⟩
  rw [show rW j r = 14 + 161 * j + (42 + 2 * r) by unfold rW; omega, kE_r (by omega) (by omega), if_neg (by omega)]
theorem oM (hj : j < 7) (hq : q < 40) : kO τ ad (mC j q) 1 RX1 TX1 6 (fun r => [.int (r 0), .int (r 1), .int (r 2), .int (r 3), .int (r 4), .int (r 5)]) := by
  have h := kN_j (o := 121 + q) hj (by omega)
  refine ⟨by unfold mC; omega, rfl, fun r => ?_⟩
  rw [show mC j q = 14 + 161 * j + (121 + q) by unfold mC; omega, kE_j (by omega)]
  unfold kE1
  rw [if_neg (by omega), if_neg (by omega), if_neg (by omega), if_neg (by omega), if_neg (by omega), if_neg (by omega), if_neg (by omega)]
theorem oX : kO τ ad 7 6 RX6 TX6 6 (fun r => [.ref (ad (sB 0)), .ref (ad (sB 1)), .ref (ad (sB 2)), .ref (ad 8), .ref (ad 10), .int (r 5)]) := ⟨by unfold kN; omega, rfl, fun _ => rfl⟩
theorem oH : kO τ ad 8 2 RX2 TX2 2 (fun r => [.ref (ad 9), .int (r 1)]) := ⟨by unfold kN; omega, rfl, fun _ => rfl⟩
theorem qH : kQr τ ad 9 5 "RentedMoments$State" 4 (fun r i => sB (r i).toNatClampNeg) := ⟨by unfold kN; omega, by omega, τ 5, rfl, fun _ => rfl⟩
theorem oT : kO τ ad 10 5 RX5 TX5 5 (fun r => [.ref (ad 11), .int (r 1), .ref (ad 12), .ref (ad 13), .int (r 4)]) := ⟨by unfold kN; omega, rfl, fun _ => rfl⟩
theorem aT : kAr τ ad 11 1 .char 60 := ⟨by unfold kN; omega, by omega, τ 1, rfl, fun _ => rfl⟩
theorem aTc : kAr τ ad 12 0 .int 16 := ⟨by unfold kN; omega, by omega, τ 0, rfl, fun _ => rfl⟩
theorem aTv : kAr τ ad 13 0 .int 16 := ⟨by unfold kN; omega, by omega, τ 0, rfl, fun _ => rfl⟩
theorem oJ : kO τ ad 0 7 RX7 TX7 12 (fun r => [.ref (ad 1), .ref (ad 2), .int (r 2), .int (r 3), .ref (ad 3), .int (r 5), .int (r 6), .int (r 7), .int (r 8), .ref (ad 4), .ref (ad 5), .ref (ad 6)]) := ⟨by unfold kN; omega, rfl, fun _ => rfl⟩
theorem aJ1 : kAr τ ad 1 0 .int 1201 := ⟨by unfold kN; omega, by omega, τ 0, rfl, fun _ => rfl⟩
theorem aJ2 : kAr τ ad 2 0 .int 7206 := ⟨by unfold kN; omega, by omega, τ 0, rfl, fun _ => rfl⟩
theorem aJ3 : kAr τ ad 3 0 .int 60 := ⟨by unfold kN; omega, by omega, τ 0, rfl, fun _ => rfl⟩
theorem aJ4 : kAr τ ad 4 0 .int 30 := ⟨by unfold kN; omega, by omega, τ 0, rfl, fun _ => rfl⟩
theorem aJ5 : kAr τ ad 5 0 .int 30 := ⟨by unfold kN; omega, by omega, τ 0, rfl, fun _ => rfl⟩
theorem aJ6 : kAr τ ad 6 0 .int 40 := ⟨by unfold kN; omega, by omega, τ 0, rfl, fun _ => rfl⟩
end KOBJ
end
section
/-! Rows over the one world. -/
theorem goodIn_app {big a b : List Cond} (ha : GoodIn big a) (hb : GoodIn big b) : GoodIn big (a ++ b) := fun w h => (List.mem_append.mp h).elim (ha w) (hb w)
/-- where a field's constant stands: the field f of the class C; linked plainly, or as a nest mate's -/
def kL (own : String) (index : Nat) (C : String) (T : u_T) (N : Nat) (ty : Nat → FieldType) (f : Nat) : Prop :=
  f < N ∧ (∀ w ∈ u_ws C T N, w ∈ kWs) ∧ (∀ k, k < N → parseFieldDescriptor (T k).2.2.1 = some (ty k)) ∧ (∀ a, a < N → ∀ b, b < N → a ≠ b → (T a).2.1 ≠ (T b).2.1) ∧ (T f).1 = C ∧
  ((Cond.fieldLink own index C (T f).2.1 (T f).2.2.1) ∈ kWs ∨ ∃ host, (Cond.fieldLinkNest own index C (T f).2.1 (T f).2.2.1 host) ∈ kNw)
/-- what stays the same in a method's walk -/
def kC (p : Program) (s : State) (m : MethodId) (c : Code) (cc : ByteArray) (nL : Nat) (args : Array Value) (own : String) (D : va_G) (τ : Nat → ClassId) : Prop :=
  p.tables.exec = Jvm.exec ∧ c.code = cc ∧ c.maxLocals = nL ∧ s.vm.findClass own = some m.cls ∧ (∀ w ∈ kWs, w.before args s = true) ∧ va_K D vwCl (kT τ) s ∧ ∀ w ∈ kNw, va_Nw w s
/-- the world at a state -/
def kI (D : va_G) (τ : Nat → ClassId) (ad : Nat → Nat) (G : Nat → Nat → Int32) (U : State) : Prop := va_P D vwCl (kW τ ad G) U.heap ∧ va_K D vwCl (kT τ) U ∧ ∀ w ∈ kNw, va_Nw w U
def kNest : Cond → Bool
  | .fieldLinkNest _ _ _ _ _ _ => true
  | .methodLinkNest _ _ _ _ => true
  | _ => false
theorem kNw_nest : kNw.all kNest = true := by decide +kernel
theorem kNw_warm {s U : State} (hW : s.WarmedH U.vm) (h : ∀ w ∈ kNw, va_Nw w s) : ∀ w ∈ kNw, va_Nw w U := by
  intro w hw
  have h1 := List.all_eq_true.mp kNw_nest w hw
  have h2 := h w hw
  cases w <;> first | (exact va_Nw.warmF hW h2) | (exact va_Nw.warmM hW h2) | (cases h1)
theorem kNw_vm {s U : State} (hv : s.vm = U.vm) (h : ∀ w ∈ kNw, va_Nw w s) : ∀ w ∈ kNw, va_Nw w U := by
  intro w hw
  have h1 := List.all_eq_true.mp kNw_nest w hw
  have h2 := h w hw
  cases w <;> first | (exact va_Nw.same rfl hv h2) | (cases h1)
/-- contracts: an answer that is an int; none -/
def kM (l : Launch) (y : MethodName) (bytes : ByteArray) (maxL : Nat) (ret : Option FieldType) (rm : Room) (D : va_G) (τ : Nat → ClassId) (ad : Nat → Nat) (As : List Value) (G : Nat → Nat → Int32) (R : Int32 → (Nat → Nat → Int32) → Prop) : Prop :=
  Met l y (Cond.code y bytes maxL ret :: kWs) rm (va_Pc As (kI D τ ad G)) (va_Qi R (fun G' t => kI D τ ad G' t) (kAd ad)) 0 0 (kAd ad)
def kMv (l : Launch) (y : MethodName) (bytes : ByteArray) (maxL : Nat) (rm : Room) (D : va_G) (τ : Nat → ClassId) (ad : Nat → Nat) (As : List Value) (G : Nat → Nat → Int32) (R : (Nat → Nat → Int32) → Prop) : Prop :=
  Met l y (Cond.code y bytes maxL none :: kWs) rm (va_Pc As (kI D τ ad G)) (va_Qv R (fun G' t => kI D τ ad G' t) (kAd ad)) 0 0 (kAd ad)
/-- what a call's constant says -/
def kV (own : String) (index : Nat) (C : String) (y : MethodName) (bytes : ByteArray) (maxL : Nat) (ret : Option FieldType) (n : Nat) : Prop :=
  (Cond.methodLink own index y) ∈ kWs ∧ (Cond.instanceMethod y) ∈ kWs ∧ (Cond.selects C y y) ∈ kWs ∧ (Cond.initialized C) ∈ kWs ∧ (Cond.code y bytes maxL ret) ∈ kWs ∧ (y.cls = C ∧ y.cls ≠ "java/lang/invoke/MethodHandle" ∧ y.cls ≠ "java/lang/invoke/VarHandle" ∧ (parseMethodDescriptor y.desc).map (fun d => d.parameters.length) = some n)
def kVs (own : String) (index : Nat) (y : MethodName) (bytes : ByteArray) (maxL : Nat) (ret : Option FieldType) (n : Nat) : Prop :=
  (Cond.methodLink own index y) ∈ kWs ∧ (Cond.static y) ∈ kWs ∧ (Cond.initialized own) ∈ kWs ∧ (Cond.code y bytes maxL ret) ∈ kWs ∧ (y.cls = own ∧ y.cls ≠ "java/lang/invoke/MethodHandle" ∧ y.cls ≠ "java/lang/invoke/VarHandle" ∧ (parseMethodDescriptor y.desc).map (fun d => d.parameters.length) = some n)
def kF (rm R : Room) (maxL : Nat) : Prop := rm.frames + 1 ≤ R.frames ∧ 8 + (maxL + 11) + rm.locals ≤ R.locals ∧ rm.cells = 0 ∧ rm.slots = 0
theorem ws_ok {w : Cond} (h : w ∈ kWs) : w ∈ kWs ∧ ((w.onTables && w.keeps) = true ∨ ∃ ty, w = .arrayClass ty) := ⟨h, good_of_word (kWs_good w h)⟩
theorem ws_G {y : MethodName} {bytes : ByteArray} {maxL : Nat} {ret : Option FieldType} (h : Cond.code y bytes maxL ret ∈ kWs) : GoodIn kWs (Cond.code y bytes maxL ret :: kWs) := by
  intro w hw
  rcases List.mem_cons.mp hw with rfl | hw
  · exact ws_ok h
  · exact ws_ok hw
theorem kI_blind {D : va_G} {τ : Nat → ClassId} {ad : Nat → Nat} {G : Nat → Nat → Int32} {As : List Value} : FrameBlind (va_Pc As (kI D τ ad G)) := by
  intro a U g mk h
  obtain ⟨h0, h1, h2, h3⟩ := h
  exact ⟨h0, h1, va_K.moved (u := U) (U := U.calling g mk a) (Vm.Alike.refl U.vm) h2, kNw_vm (s := U) (U := U.calling g mk a) rfl h3⟩
theorem kI_at {D : va_G} {τ : Nat → ClassId} {ad : Nat → Nat} {G : Nat → Nat → Int32} {H : Heap} {s U : State} (hP : va_P D vwCl (kW τ ad G) H) (hK : va_K D vwCl (kT τ) s) (hn : ∀ w ∈ kNw, va_Nw w s) (hU : U.heap = H) (hW : s.WarmedH U.vm) : kI D τ ad G U := by
  subst hU
  exact ⟨hP, va_K.moved hW.alike hK, kNw_warm hW hn⟩
section KR
variable {p : Program} {l : Launch} {e : Env} {R : Room} {s : State} {m : MethodId} {args : Array Value} {below : List Frame} {meth : Method} {c : Code} {H : Heap} {locs : List Loc} {cells slots : Nat} {Q : State → Prop}
variable {cc : ByteArray} {pc : Nat} {ls : Array Slot} {rest : List Value} {D : va_G} {τ : Nat → ClassId} {ad : Nat → Nat} {G : Nat → Nat → Int32} {own : String} {nL : Nat}
/-- getfield -/
theorem kget (X : kC p s m c cc nL args own D τ) (hP : va_P D vwCl (kW τ ad G) H) {k ci : Nat} {C : String} {T : u_T} {N : Nat} {F : (Nat → Int32) → List Value} (ho : kO τ ad k ci C T N F) {index f : Nat} {ty : Nat → FieldType} (hl : kL own index C T N ty f) {v : Value} (hv : (F (G k))[f]? = some v) (hdg : decode cc pc = .ok (.getfield index, 3))
    (kk : W p l e R s m args below meth c H locs cells slots Q (F0 m (pc + 3) ls (v :: rest))) : W p l e R s m args below meth c H locs cells slots Q (F0 m pc ls (.ref (ad k) :: rest)) := by
  obtain ⟨hx, hb, -, hown, hts, hK, hnw⟩ := X
  obtain ⟨hk, hc, hE⟩ := ho
  obtain ⟨hf, hin, -, -, href, hw⟩ := hl
  have he : (kW τ ad G)[k]? = some (ad k, .inr (ci, F (G k))) := (kW_get hk).trans (by rw [hE])
  rcases hw with hw | ⟨host, hw⟩
  · exact va_get hx hb hts hin hown hK hP k he hc f hf (hts _ hw) (fun x h => by rw [href] at h; exact h) hv hdg kk
  · exact va_getN hx hb hts hin hown hK hP k he hc f hf (va_Nw.use rfl (hnw _ hw)) (fun x h => by rw [href] at h; exact h) hv hdg kk
/-- putfield of an int -/
theorem kput (X : kC p s m c cc nL args own D τ) (hI : kInj ad) (hP : va_P D vwCl (kW τ ad G) H) (hS : va_S (kAd ad) s.heap H locs) {k ci : Nat} {C : String} {T : u_T} {N : Nat} {F : (Nat → Int32) → List Value} (ho : kO τ ad k ci C T N F) {index f : Nat} {ty : Nat → FieldType} (hl : kL own index C T N ty f) {x : Int32} (hF : ∀ r, F (upd r f x) = (F r).set f (.int x)) (hfin : (T f).2.2.2 = false) (hlen : ∀ r, f < (F r).length) (hn : narrow (ty f) (.int x) = .int x) (hfit : fits (ty f) (.int x) = true) (hdg : decode cc pc = .ok (.putfield index, 3))
    (kk : ∀ (H1 : Heap) (locs1 : List Loc), va_P D vwCl (kW τ ad (gs G k f x)) H1 → va_S (kAd ad) s.heap H1 locs1 → W p l e R s m args below meth c H1 locs1 cells slots Q (F0 m (pc + 3) ls rest)) : W p l e R s m args below meth c H locs cells slots Q (F0 m pc ls (.int x :: .ref (ad k) :: rest)) := by
  obtain ⟨hx, hb, -, hown, hts, hK, hnw⟩ := X
  obtain ⟨hk, hc, hE⟩ := ho
  obtain ⟨hf, hin, hty, hnm, href, hw⟩ := hl
  have he : (kW τ ad G)[k]? = some (ad k, .inr (ci, F (G k))) := (kW_get hk).trans (by rw [hE])
  have hset : (kW τ ad G).set k (ad k, .inr (ci, (F (G k)).set f (.int x))) = kW τ ad (gs G k f x) := kW_set hk (by rw [hE, gs_up, hF]) (fun i hi => gs_other hi)
  rcases hw with hw | ⟨host, hw⟩
  · refine va_put hx hb hts hin ty hty hnm hown hK hP (kW_D hI) hS k he hc f hf (hts _ hw) (fun x h => by rw [href] at h; exact h) hfin (hty f hf) hn hfit (hlen _) hdg (fun H1 locs1 h1 _ h3 => ?_)
    rw [hset] at h1
    exact kk H1 locs1 h1 h3
  · refine va_putN hx hb hts hin ty hty hnm hown hK hP (kW_D hI) hS k he hc f hf (va_Nw.use rfl (hnw _ hw)) (fun x h => by rw [href] at h; exact h) hfin (hty f hf) hn hfit (hlen _) hdg (fun H1 locs1 h1 _ h3 => ?_)
    rw [hset] at h1
    exact kk H1 locs1 h1 h3
theorem nI_in32 {i n : Nat} (h : i < n) (hn : n < 65536) : vp_in (nI i) n ∧ (nI i).toNatClampNeg = i := ⟨vp_in_nI h (by omega), nI_clamp (by omega)⟩
/-- iaload -/
theorem kiald (X : kC p s m c cc nL args own D τ) (hP : va_P D vwCl (kW τ ad G) H) {k n i : Nat} (ha : kAr τ ad k 0 .int n) (hi : i < n) (hdg : decode cc pc = .ok (.iaload, 1))
    (kk : W p l e R s m args below meth c H locs cells slots Q (F0 m (pc + 1) ls (.int (G k i) :: rest))) : W p l e R s m args below meth c H locs cells slots Q (F0 m pc ls (.int (nI i) :: .ref (ad k) :: rest)) := by
  obtain ⟨hx, hb, -, hown, hts, hK, hnw⟩ := X
  obtain ⟨hk, hn, cA, ht, hE⟩ := ha
  obtain ⟨h1, h2⟩ := nI_in32 hi hn
  refine va_iald hx hb hK hP k 0 ((kW_get hk).trans (by rw [hE])) ht h1 hdg ?_
  rw [h2]
  exact kk
theorem kcald (X : kC p s m c cc nL args own D τ) (hP : va_P D vwCl (kW τ ad G) H) {k n i : Nat} (ha : kAr τ ad k 1 .char n) (hi : i < n) (hdg : decode cc pc = .ok (.caload, 1))
    (kk : W p l e R s m args below meth c H locs cells slots Q (F0 m (pc + 1) ls (.int (G k i) :: rest))) : W p l e R s m args below meth c H locs cells slots Q (F0 m pc ls (.int (nI i) :: .ref (ad k) :: rest)) := by
  obtain ⟨hx, hb, -, hown, hts, hK, hnw⟩ := X
  obtain ⟨hk, hn, cA, ht, hE⟩ := ha
  obtain ⟨h1, h2⟩ := nI_in32 hi hn
  refine va_cald hx hb hK hP k 1 ((kW_get hk).trans (by rw [hE])) ht h1 hdg ?_
  rw [h2]
  exact kk
/-- iastore -/
theorem kiast (X : kC p s m c cc nL args own D τ) (hI : kInj ad) (hP : va_P D vwCl (kW τ ad G) H) (hS : va_S (kAd ad) s.heap H locs) {k n i : Nat} {x : Int32} (ha : kAr τ ad k 0 .int n) (hi : i < n) (hdg : decode cc pc = .ok (.iastore, 1))
    (kk : ∀ (H1 : Heap) (locs1 : List Loc), va_P D vwCl (kW τ ad (gs G k i x)) H1 → va_S (kAd ad) s.heap H1 locs1 → W p l e R s m args below meth c H1 locs1 cells slots Q (F0 m (pc + 1) ls rest)) : W p l e R s m args below meth c H locs cells slots Q (F0 m pc ls (.int x :: .int (nI i) :: .ref (ad k) :: rest)) := by
  obtain ⟨hx, hb, -, hown, hts, hK, hnw⟩ := X
  obtain ⟨hk, hn, cA, ht, hE⟩ := ha
  obtain ⟨h1, h2⟩ := nI_in32 hi hn
  refine va_iast hx hb hK hP (kW_D hI) hS k 0 ((kW_get hk).trans (by rw [hE])) ht h1 hdg (fun H1 locs1 h3 _ h5 => ?_)
  rw [h2, kW_set (G' := gs G k i x) hk (by rw [hE, gs_up]) (fun i hi => gs_other hi)] at h3
  exact kk H1 locs1 h3 h5
theorem kcast (X : kC p s m c cc nL args own D τ) (hI : kInj ad) (hP : va_P D vwCl (kW τ ad G) H) (hS : va_S (kAd ad) s.heap H locs) {k n i : Nat} {x : Int32} (ha : kAr τ ad k 1 .char n) (hi : i < n) (hx : vp_nar .char x = x) (hdg : decode cc pc = .ok (.castore, 1))
    (kk : ∀ (H1 : Heap) (locs1 : List Loc), va_P D vwCl (kW τ ad (gs G k i x)) H1 → va_S (kAd ad) s.heap H1 locs1 → W p l e R s m args below meth c H1 locs1 cells slots Q (F0 m (pc + 1) ls rest)) : W p l e R s m args below meth c H locs cells slots Q (F0 m pc ls (.int x :: .int (nI i) :: .ref (ad k) :: rest)) := by
  obtain ⟨hx', hb, -, hown, hts, hK, hnw⟩ := X
  obtain ⟨hk, hn, cA, ht, hE⟩ := ha
  obtain ⟨h1, h2⟩ := nI_in32 hi hn
  refine va_cast hx' hb hK hP (kW_D hI) hS k 1 ((kW_get hk).trans (by rw [hE])) ht h1 hdg (fun H1 locs1 h3 _ h5 => ?_)
  rw [h2, hx, kW_set (G' := gs G k i x) hk (by rw [hE, gs_up]) (fun i hi => gs_other hi)] at h3
  exact kk H1 locs1 h3 h5
/-- aaload -/
theorem kaald (X : kC p s m c cc nL args own D τ) (hP : va_P D vwCl (kW τ ad G) H) {k t n i : Nat} {C : String} {f : (Nat → Int32) → Nat → Nat} (ha : kQr τ ad k t C n f) (hi : i < n) {a : Nat} (hf : f (G k) i = a) (hdg : decode cc pc = .ok (.aaload, 1))
    (kk : W p l e R s m args below meth c H locs cells slots Q (F0 m (pc + 1) ls (.ref (ad a) :: rest))) : W p l e R s m args below meth c H locs cells slots Q (F0 m pc ls (.int (nI i) :: .ref (ad k) :: rest)) := by
  obtain ⟨hx, hb, -, hown, hts, hK, hnw⟩ := X
  obtain ⟨hk, hn, cA, ht, hE⟩ := ha
  obtain ⟨h1, h2⟩ := nI_in32 hi hn
  refine va_aldq hx hb hK hP k t ((kW_get hk).trans (by rw [hE])) ht h1 hdg ?_
  rw [h2, hf]
  exact kk
/-- aastore of a state in the history's array -/
theorem kaast (X : kC p s m c cc nL args own D τ) (hI : kInj ad) (hP : va_P D vwCl (kW τ ad G) H) (hS : va_S (kAd ad) s.heap H locs) {i j : Nat} (hi : i < 4) (hj : j < 7) (hdg : decode cc pc = .ok (.aastore, 1))
    (kk : ∀ (H1 : Heap) (locs1 : List Loc), va_P D vwCl (kW τ ad (gs G 9 i (nI j))) H1 → va_S (kAd ad) s.heap H1 locs1 → W p l e R s m args below meth c H1 locs1 cells slots Q (F0 m (pc + 1) ls rest)) : W p l e R s m args below meth c H locs cells slots Q (F0 m pc ls (.ref (ad (sB j)) :: .int (nI i) :: .ref (ad 9) :: rest)) := by
  obtain ⟨hx', hb, -, hown, hts, hK, hnw⟩ := X
  obtain ⟨h1, h2⟩ := nI_in32 hi (show 4 < 65536 by omega)
  obtain ⟨hk4, hc4, hE4⟩ := oS (τ := τ) (ad := ad) hj
  have hk9 : 9 < kN := by unfold kN; omega
  refine va_astq hx' hb hK hP (kW_D hI) hS 9 5 (sB j) 4 (kW_get hk9) rfl ((kW_get hk4).trans (by rw [hE4])) hc4 h1 hdg (fun H1 locs1 h3 _ h5 => ?_)
  rw [h2, kW_set (G' := gs G 9 i (nI j)) hk9 (by
    rw [gs_up]
    show _ = (Sum.inl (τ 5, 4, _) : va_E)
    congr 4
    congr 3
    funext q
    by_cases hq : q = i
    · subst hq
      simp [va_up, upd, nI_clamp (show j < 2 ^ 31 by omega)]
    · simp [va_up, upd, hq]) (fun i hi => gs_other hi)] at h3
  exact kk H1 locs1 h3 h5
/-- a call of an instance method that answers an int -/
theorem kcV (X : kC p s m c cc nL args own D τ) (hP : va_P D vwCl (kW τ ad G) H) (hS : va_S (kAd ad) s.heap H locs) {y : MethodName} {bytes : ByteArray} {maxL n index : Nat} {ret : Option FieldType} {rm : Room} {As st : List Value} {R1 : Int32 → (Nat → Nat → Int32) → Prop} {k ci : Nat} {C : String} {T : u_T} {N : Nat} {F : (Nat → Int32) → List Value}
    (hM : kM l y bytes maxL ret rm D τ ad (.ref (ad k) :: As) G R1) (ho : kO τ ad k ci C T N F) (hw : kV own index C y bytes maxL ret n) (hR : kF rm R maxL) (hn : As.length = n) (hst : st = As.reverse ++ .ref (ad k) :: rest) (hcat : (rest.map fun v => v.category).sum ≤ 8) (hls : ls.size = nL) (hf : cells ≤ R.cells ∧ slots ≤ R.slots) (hdg : decode cc pc = .ok (.invokevirtual index, 3))
    (kk : ∀ (r : Int32) (G1 : Nat → Nat → Int32) (H1 : Heap) (locs1 : List Loc), R1 r G1 → va_P D vwCl (kW τ ad G1) H1 → va_S (kAd ad) s.heap H1 locs1 → W p l e R s m args below meth c H1 locs1 cells slots Q (F0 m (pc + 3) ls (.int r :: rest))) : W p l e R s m args below meth c H locs cells slots Q (F0 m pc ls st) := by
  obtain ⟨hx, hb, hml, hown, hts, hK, hnw⟩ := X
  obtain ⟨hk, hc, hE⟩ := ho
  obtain ⟨w1, w2, w3, w4, w5, wy⟩ := hw
  obtain ⟨r1, r2, r3, r4⟩ := hR
  subst hst
  have he : (kW τ ad G)[k]? = some (ad k, .inr (ci, F (G k))) := (kW_get hk).trans (by rw [hE])
  have hGI : GoodIn kWs (wsV own index C y (Cond.code y bytes maxL ret :: kWs)) := goodIn_app (fun w hw => by
    simp only [List.mem_cons, List.not_mem_nil, or_false] at hw
    rcases hw with rfl | rfl | rfl | rfl
    · exact ws_ok w1
    · exact ws_ok w2
    · exact ws_ok w3
    · exact ws_ok w4) (ws_G w5)
  refine va_calli (va_runV (As := As) (rest := rest) ⟨hx, hb, hml, hown, hts⟩ hM (cwV n hts hGI rfl r3 r4 wy ⟨r1, r2⟩) ⟨kI_blind, va_recv hK hP hc he, fun U hU hW => ⟨rfl, kI_at hP hK hnw hU hW⟩⟩ rfl hn hls rfl (lv_room hcat) hdg hf) hS (fun q _ h => h) (fun q h => h) (fun r u t H1 locs1 ht hvm hp hB hz hk1 hS1 => ?_)
  obtain ⟨b1, b2, b3⟩ := hB
  rw [ht] at b1
  exact kk r u H1 locs1 hp b1 hS1
theorem kcVv (X : kC p s m c cc nL args own D τ) (hP : va_P D vwCl (kW τ ad G) H) (hS : va_S (kAd ad) s.heap H locs) {y : MethodName} {bytes : ByteArray} {maxL n index : Nat} {rm : Room} {As st : List Value} {R1 : (Nat → Nat → Int32) → Prop} {k ci : Nat} {C : String} {T : u_T} {N : Nat} {F : (Nat → Int32) → List Value}
    (hM : kMv l y bytes maxL rm D τ ad (.ref (ad k) :: As) G R1) (ho : kO τ ad k ci C T N F) (hw : kV own index C y bytes maxL none n) (hR : kF rm R maxL) (hn : As.length = n) (hst : st = As.reverse ++ .ref (ad k) :: rest) (hcat : (rest.map fun v => v.category).sum ≤ 8) (hls : ls.size = nL) (hf : cells ≤ R.cells ∧ slots ≤ R.slots) (hdg : decode cc pc = .ok (.invokevirtual index, 3))
    (kk : ∀ (G1 : Nat → Nat → Int32) (H1 : Heap) (locs1 : List Loc), R1 G1 → va_P D vwCl (kW τ ad G1) H1 → va_S (kAd ad) s.heap H1 locs1 → W p l e R s m args below meth c H1 locs1 cells slots Q (F0 m (pc + 3) ls rest)) : W p l e R s m args below meth c H locs cells slots Q (F0 m pc ls st) := by
  obtain ⟨hx, hb, hml, hown, hts, hK, hnw⟩ := X
  obtain ⟨hk, hc, hE⟩ := ho
  obtain ⟨w1, w2, w3, w4, w5, wy⟩ := hw
  obtain ⟨r1, r2, r3, r4⟩ := hR
  subst hst
  have he : (kW τ ad G)[k]? = some (ad k, .inr (ci, F (G k))) := (kW_get hk).trans (by rw [hE])
  have hGI : GoodIn kWs (wsV own index C y (Cond.code y bytes maxL none :: kWs)) := goodIn_app (fun w hw => by
    simp only [List.mem_cons, List.not_mem_nil, or_false] at hw
    rcases hw with rfl | rfl | rfl | rfl
    · exact ws_ok w1
    · exact ws_ok w2
    · exact ws_ok w3
    · exact ws_ok w4) (ws_G w5)
  refine va_callv (va_runV (As := As) (rest := rest) ⟨hx, hb, hml, hown, hts⟩ hM (cwV n hts hGI rfl r3 r4 wy ⟨r1, r2⟩) ⟨kI_blind, va_recv hK hP hc he, fun U hU hW => ⟨rfl, kI_at hP hK hnw hU hW⟩⟩ rfl hn hls rfl (lv_room hcat) hdg hf) hS (fun q _ h => h) (fun q h => h) (fun u t H1 locs1 ht hvm hp hB hz hk1 hS1 => ?_)
  obtain ⟨b1, b2, b3⟩ := hB
  rw [ht] at b1
  exact kk u H1 locs1 hp b1 hS1
/-- a call of a static method of the own class that answers an int -/
theorem kcS (X : kC p s m c cc nL args own D τ) (hP : va_P D vwCl (kW τ ad G) H) (hS : va_S (kAd ad) s.heap H locs) {y : MethodName} {bytes : ByteArray} {maxL n index : Nat} {ret : Option FieldType} {rm : Room} {As st : List Value} {R1 : Int32 → (Nat → Nat → Int32) → Prop}
    (hM : kM l y bytes maxL ret rm D τ ad As G R1) (hw : kVs own index y bytes maxL ret n) (hR : kF rm R maxL) (hn : As.length = n) (hst : st = As.reverse ++ rest) (hcat : (rest.map fun v => v.category).sum ≤ 8) (hls : ls.size = nL) (hf : cells ≤ R.cells ∧ slots ≤ R.slots) (hdg : decode cc pc = .ok (.invokestatic index, 3))
    (kk : ∀ (r : Int32) (G1 : Nat → Nat → Int32) (H1 : Heap) (locs1 : List Loc), R1 r G1 → va_P D vwCl (kW τ ad G1) H1 → va_S (kAd ad) s.heap H1 locs1 → W p l e R s m args below meth c H1 locs1 cells slots Q (F0 m (pc + 3) ls (.int r :: rest))) : W p l e R s m args below meth c H locs cells slots Q (F0 m pc ls st) := by
  obtain ⟨hx, hb, hml, hown, hts, hK, hnw⟩ := X
  obtain ⟨w1, w2, w4, w5, wy⟩ := hw
  obtain ⟨r1, r2, r3, r4⟩ := hR
  subst hst
  have hGI : GoodIn kWs (wsS own index y (Cond.code y bytes maxL ret :: kWs)) := goodIn_app (fun w hw => by
    simp only [List.mem_cons, List.not_mem_nil, or_false] at hw
    rcases hw with rfl | rfl | rfl
    · exact ws_ok w1
    · exact ws_ok w2
    · exact ws_ok w4) (ws_G w5)
  refine va_calli (va_runS (As := As) (rest := rest) ⟨hx, hb, hml, hown, hts⟩ hM (cwS n hts hGI rfl r3 r4 wy ⟨r1, r2⟩) ⟨kI_blind, fun U hU hW => ⟨rfl, kI_at hP hK hnw hU hW⟩⟩ rfl hn hls rfl (lv_room hcat) hdg hf) hS (fun q _ h => h) (fun q h => h) (fun r u t H1 locs1 ht hvm hp hB hz hk1 hS1 => ?_)
  obtain ⟨b1, b2, b3⟩ := hB
  rw [ht] at b1
  exact kk r u H1 locs1 hp b1 hS1
/-- a method's contract, out of the walk of its body -/
theorem kMet {y : MethodName} {maxL : Nat} {rm : Room} {As : List Value} {R1 : Int32 → (Nat → Nat → Int32) → Prop} {own : String} (hy : plainName y.cls = true) (hown0 : y.cls = own) (hA : (lg_sl As).length ≤ maxL)
    (body : ∀ (p : Program) (e : Env) (s : State) (m : MethodId) (args : Array Value) (below : List Frame) (meth : Method) (c : Code) (Q : State → Prop), kC p s m c cc maxL args own D τ → p.tables.exec = Jvm.exec → c.code = cc → va_P D vwCl (kW τ ad G) s.heap → va_S (kAd ad) s.heap s.heap [] →
      (∀ (v : Int32) (G1 : Nat → Nat → Int32) (H : Heap) (locs : List Loc) (pc : Nat) (ls : Array Slot), R1 v G1 → va_P D vwCl (kW τ ad G1) H → va_S (kAd ad) s.heap H locs → decode cc pc = .ok (.ireturn, 1) → W p l e rm s m args below meth c H locs 0 0 Q (F0 m pc ls [.int v])) →
      ∀ ls : Array Slot, lv_has ls maxL (lv_args 0 As) → W p l e rm s m args below meth c s.heap [] 0 0 Q (F0 m 0 ls [])) : kM l y cc maxL (some .int) rm D τ ad As G R1 := by
  refine Met.ofW (cc := cc) (maxL := maxL) (ret := some .int) hy rfl ?_
  intro p e s m args below meth c s₁ B hml hv
  obtain ⟨rfl, hP, hK, hN⟩ := hv
  have hts := atoms_spec (ws := Cond.code y cc maxL (some .int) :: kWs) B.pre
  have hown : s.vm.findClass y.cls = some m.cls := findClass_of_methodNamed B.named
  rw [hown0] at hown
  have hl := lv_entry As (n := maxL) hA
  rw [lg_entry_eq]
  refine body p e s m _ below meth c _ ⟨B.exec, B.bytes, hml, hown, fun w hw => hts w (List.mem_cons_of_mem _ hw), hK, hN⟩ B.exec B.bytes hP va_S.rf ?_ _ hl
  intro v G1 H locs pc ls hR1 hP1 hS1 hdg
  exact W.iret B.exec B.bytes B.returns (fun t ht hW => ⟨⟨v, G1, rfl, hR1, kI_at hP1 hK hN ht hW⟩, hS1.F ht⟩) hS1.2.2 hdg (hlocks := B.notSynchronized)
theorem kMetZ {y : MethodName} {maxL : Nat} {rm : Room} {As : List Value} {R1 : Int32 → (Nat → Nat → Int32) → Prop} {own : String} (hy : plainName y.cls = true) (hown0 : y.cls = own) (hA : (lg_sl As).length ≤ maxL)
    (body : ∀ (p : Program) (e : Env) (s : State) (m : MethodId) (args : Array Value) (below : List Frame) (meth : Method) (c : Code) (Q : State → Prop), kC p s m c cc maxL args own D τ → p.tables.exec = Jvm.exec → c.code = cc → va_P D vwCl (kW τ ad G) s.heap → va_S (kAd ad) s.heap s.heap [] →
      (∀ (v : Int32) (G1 : Nat → Nat → Int32) (H : Heap) (locs : List Loc) (pc : Nat) (ls : Array Slot), (v = 0 ∨ v = 1) → R1 v G1 → va_P D vwCl (kW τ ad G1) H → va_S (kAd ad) s.heap H locs → decode cc pc = .ok (.ireturn, 1) → W p l e rm s m args below meth c H locs 0 0 Q (F0 m pc ls [.int v])) →
      ∀ ls : Array Slot, lv_has ls maxL (lv_args 0 As) → W p l e rm s m args below meth c s.heap [] 0 0 Q (F0 m 0 ls [])) : kM l y cc maxL (some .boolean) rm D τ ad As G R1 := by
  refine Met.ofW (cc := cc) (maxL := maxL) (ret := some .boolean) hy rfl ?_
  intro p e s m args below meth c s₁ B hml hv
  obtain ⟨rfl, hP, hK, hN⟩ := hv
  have hts := atoms_spec (ws := Cond.code y cc maxL (some .boolean) :: kWs) B.pre
  have hown : s.vm.findClass y.cls = some m.cls := findClass_of_methodNamed B.named
  rw [hown0] at hown
  have hl := lv_entry As (n := maxL) hA
  rw [lg_entry_eq]
  refine body p e s m _ below meth c _ ⟨B.exec, B.bytes, hml, hown, fun w hw => hts w (List.mem_cons_of_mem _ hw), hK, hN⟩ B.exec B.bytes hP va_S.rf ?_ _ hl
  intro v G1 H locs pc ls hv01 hR1 hP1 hS1 hdg
  exact W.zret B.exec B.bytes B.returns (by rcases hv01 with rfl | rfl <;> rfl) (fun t ht hW => ⟨⟨v, G1, rfl, hR1, kI_at hP1 hK hN ht hW⟩, hS1.F ht⟩) hS1.2.2 hdg (hlocks := B.notSynchronized)
theorem kMetV {y : MethodName} {maxL : Nat} {rm : Room} {As : List Value} {R1 : (Nat → Nat → Int32) → Prop} {own : String} (hy : plainName y.cls = true) (hown0 : y.cls = own) (hA : (lg_sl As).length ≤ maxL)
    (body : ∀ (p : Program) (e : Env) (s : State) (m : MethodId) (args : Array Value) (below : List Frame) (meth : Method) (c : Code) (Q : State → Prop), kC p s m c cc maxL args own D τ → p.tables.exec = Jvm.exec → c.code = cc → va_P D vwCl (kW τ ad G) s.heap → va_S (kAd ad) s.heap s.heap [] →
      (∀ (G1 : Nat → Nat → Int32) (H : Heap) (locs : List Loc) (pc : Nat) (ls : Array Slot), R1 G1 → va_P D vwCl (kW τ ad G1) H → va_S (kAd ad) s.heap H locs → decode cc pc = .ok (.return_, 1) → W p l e rm s m args below meth c H locs 0 0 Q (F0 m pc ls [])) →
      ∀ ls : Array Slot, lv_has ls maxL (lv_args 0 As) → W p l e rm s m args below meth c s.heap [] 0 0 Q (F0 m 0 ls [])) : kMv l y cc maxL rm D τ ad As G R1 := by
  refine Met.ofW (cc := cc) (maxL := maxL) (ret := none) hy rfl ?_
  intro p e s m args below meth c s₁ B hml hv
  obtain ⟨rfl, hP, hK, hN⟩ := hv
  have hts := atoms_spec (ws := Cond.code y cc maxL none :: kWs) B.pre
  have hown : s.vm.findClass y.cls = some m.cls := findClass_of_methodNamed B.named
  rw [hown0] at hown
  have hl := lv_entry As (n := maxL) hA
  rw [lg_entry_eq]
  refine body p e s m _ below meth c _ ⟨B.exec, B.bytes, hml, hown, fun w hw => hts w (List.mem_cons_of_mem _ hw), hK, hN⟩ B.exec B.bytes hP va_S.rf ?_ _ hl
  intro G1 H locs pc ls hR1 hP1 hS1 hdg
  exact W.vret B.exec B.bytes B.returns (fun t ht hW => ⟨⟨G1, rfl, hR1, kI_at hP1 hK hN ht hW⟩, hS1.F ht⟩) hS1.2.2 hdg (hlocks := B.notSynchronized)
/-- locals, in order -/
theorem kist {i n : Nat} {k : Fin 4} {x : Int32} {lv lv' : List (Nat × Value)} (hx : p.tables.exec = Jvm.exec) (hb : c.code = cc) (hdg : decode cc pc = .ok (.istore_n k, 1)) (hi : (k : Nat) = i) (h : lv_has ls n lv) (hn : i < n) (hs : ∀ ls' : Array Slot, lv_has ls' n ((i, Value.int x) :: lv.filter (fun q => !(q.1 == i) && !(q.1 + 1 == i && q.2.category == 2))) → lv_has ls' n lv')
    (kk : ∀ ls' : Array Slot, lv_has ls' n lv' → W p l e R s m args below meth c H locs cells slots Q (F0 m (pc + 1) ls' rest)) : W p l e R s m args below meth c H locs cells slots Q (F0 m pc ls (.int x :: rest)) := lv_istore_n hx hb hdg hi h hn rfl (fun ls' h' => kk ls' (hs ls' h'))
theorem kistW {i n : Nat} {x : Int32} {lv lv' : List (Nat × Value)} (hx : p.tables.exec = Jvm.exec) (hb : c.code = cc) (hdg : decode cc pc = .ok (.istore i, 2)) (h : lv_has ls n lv) (hn : i < n) (hs : ∀ ls' : Array Slot, lv_has ls' n ((i, Value.int x) :: lv.filter (fun q => !(q.1 == i) && !(q.1 + 1 == i && q.2.category == 2))) → lv_has ls' n lv')
    (kk : ∀ ls' : Array Slot, lv_has ls' n lv' → W p l e R s m args below meth c H locs cells slots Q (F0 m (pc + 2) ls' rest)) : W p l e R s m args below meth c H locs cells slots Q (F0 m pc ls (.int x :: rest)) := lv_istore hx hb hdg h hn rfl (fun ls' h' => kk ls' (hs ls' h'))
theorem kast {i n : Nat} {k : Fin 4} {x : Nat} {lv lv' : List (Nat × Value)} (hx : p.tables.exec = Jvm.exec) (hb : c.code = cc) (hdg : decode cc pc = .ok (.astore_n k, 1)) (hi : (k : Nat) = i) (h : lv_has ls n lv) (hn : i < n) (hs : ∀ ls' : Array Slot, lv_has ls' n ((i, Value.ref x) :: lv.filter (fun q => !(q.1 == i) && !(q.1 + 1 == i && q.2.category == 2))) → lv_has ls' n lv')
    (kk : ∀ ls' : Array Slot, lv_has ls' n lv' → W p l e R s m args below meth c H locs cells slots Q (F0 m (pc + 1) ls' rest)) : W p l e R s m args below meth c H locs cells slots Q (F0 m pc ls (.ref x :: rest)) := lv_astore_n hx hb hdg hi h hn rfl (fun ls' h' => kk ls' (hs ls' h'))
theorem kastW {i n : Nat} {x : Nat} {lv lv' : List (Nat × Value)} (hx : p.tables.exec = Jvm.exec) (hb : c.code = cc) (hdg : decode cc pc = .ok (.astore i, 2)) (h : lv_has ls n lv) (hn : i < n) (hs : ∀ ls' : Array Slot, lv_has ls' n ((i, Value.ref x) :: lv.filter (fun q => !(q.1 == i) && !(q.1 + 1 == i && q.2.category == 2))) → lv_has ls' n lv')
    (kk : ∀ ls' : Array Slot, lv_has ls' n lv' → W p l e R s m args below meth c H locs cells slots Q (F0 m (pc + 2) ls' rest)) : W p l e R s m args below meth c H locs cells slots Q (F0 m pc ls (.ref x :: rest)) := lv_astore hx hb hdg h hn rfl (fun ls' h' => kk ls' (hs ls' h'))
/-- iinc of a counter -/
theorem kinc {i n q a : Nat} {lv lv' : List (Nat × Value)} (hx : p.tables.exec = Jvm.exec) (hb : c.code = cc) (hdg : decode cc pc = .ok (.iinc i 1, 3)) (h : lv_has ls n lv) (hk : lv[q]? = some (i, .int (nI a))) (hn : i < n) (hs : ∀ ls' : Array Slot, lv_has ls' n ((i, Value.int (nI (a + 1))) :: lv.filter (fun q => !(q.1 == i) && !(q.1 + 1 == i && q.2.category == 2))) → lv_has ls' n lv')
    (kk : ∀ ls' : Array Slot, lv_has ls' n lv' → W p l e R s m args below meth c H locs cells slots Q (F0 m (pc + 3) ls' rest)) : W p l e R s m args below meth c H locs cells slots Q (F0 m pc ls rest) := lv_iinc (v := nI (a + 1)) hx hb hdg h hk (nI_1 a) hn rfl (fun ls' h' => kk ls' (hs ls' h'))
theorem kincG {i n q : Nat} {x : Int32} {lv lv' : List (Nat × Value)} (hx : p.tables.exec = Jvm.exec) (hb : c.code = cc) (hdg : decode cc pc = .ok (.iinc i 1, 3)) (h : lv_has ls n lv) (hk : lv[q]? = some (i, .int x)) (hn : i < n) (hs : ∀ ls' : Array Slot, lv_has ls' n ((i, Value.int (x + 1)) :: lv.filter (fun q => !(q.1 == i) && !(q.1 + 1 == i && q.2.category == 2))) → lv_has ls' n lv')
    (kk : ∀ ls' : Array Slot, lv_has ls' n lv' → W p l e R s m args below meth c H locs cells slots Q (F0 m (pc + 3) ls' rest)) : W p l e R s m args below meth c H locs cells slots Q (F0 m pc ls rest) := lv_iinc (v := x + 1) hx hb hdg h hk rfl hn rfl (fun ls' h' => kk ls' (hs ls' h'))
/-- numbers that are counters -/
theorem kadd {a b : Nat} {x y : Int32} (hx : p.tables.exec = Jvm.exec) (hb : c.code = cc) (hdg : decode cc pc = .ok (.iadd, 1)) (h1 : x = nI a) (h2 : y = nI b) (kk : W p l e R s m args below meth c H locs cells slots Q (F0 m (pc + 1) ls (.int (nI (a + b)) :: rest))) : W p l e R s m args below meth c H locs cells slots Q (F0 m pc ls (.int y :: .int x :: rest)) := by
  subst h1; subst h2
  refine lv_iadd hx hb hdg ?_
  rw [nI_add]
  exact kk
theorem kmul {a b : Nat} {x y : Int32} (hx : p.tables.exec = Jvm.exec) (hb : c.code = cc) (hdg : decode cc pc = .ok (.imul, 1)) (h1 : x = nI a) (h2 : y = nI b) (kk : W p l e R s m args below meth c H locs cells slots Q (F0 m (pc + 1) ls (.int (nI (a * b)) :: rest))) : W p l e R s m args below meth c H locs cells slots Q (F0 m pc ls (.int y :: .int x :: rest)) := by
  subst h1; subst h2
  refine lv_imul hx hb hdg ?_
  rw [pk_mul]
  exact kk
/-- a condition's 0 or 1 -/
theorem kif_eq {P : Prop} {hd : Decidable P} {off : Int} {tgt : Nat} (hx : p.tables.exec = Jvm.exec) (hb : c.code = cc) (hdg : decode cc pc = .ok (.ifCond .eq off, 3)) (ht : (pc : Int) + off = (tgt : Int))
    (k1 : ¬ P → W p l e R s m args below meth c H locs cells slots Q (F0 m tgt ls rest)) (k2 : P → W p l e R s m args below meth c H locs cells slots Q (F0 m (pc + 3) ls rest)) : W p l e R s m args below meth c H locs cells slots Q (F0 m pc ls (.int (if P then 1 else 0) :: rest)) := by
  refine lv_if_eq (tgt := tgt) hx hb hdg ht (fun h => ?_) (fun h => ?_)
  · exact k1 (fun q => by rw [if_pos q] at h; exact absurd h (by decide))
  · exact k2 (by
      by_cases q : P
      · exact q
      · rw [if_neg q] at h; exact absurd rfl h)
theorem kif_ne {P : Prop} {hd : Decidable P} {off : Int} {tgt : Nat} (hx : p.tables.exec = Jvm.exec) (hb : c.code = cc) (hdg : decode cc pc = .ok (.ifCond .ne off, 3)) (ht : (pc : Int) + off = (tgt : Int))
    (k1 : P → W p l e R s m args below meth c H locs cells slots Q (F0 m tgt ls rest)) (k2 : ¬ P → W p l e R s m args below meth c H locs cells slots Q (F0 m (pc + 3) ls rest)) : W p l e R s m args below meth c H locs cells slots Q (F0 m pc ls (.int (if P then 1 else 0) :: rest)) := by
  refine lv_if_ne (tgt := tgt) hx hb hdg ht (fun h => ?_) (fun h => ?_)
  · exact k1 (by
      by_cases q : P
      · exact q
      · rw [if_neg q] at h; exact absurd rfl h)
  · exact k2 (fun q => by rw [if_pos q] at h; exact absurd h (by decide))
end KR
end
section
theorem g_X6_12 : kL RX6 12 RX6 TX6 6 tyX6 0 := ⟨by decide, inK6, tyX6_ok, nmX6, rfl, Or.inl (kWs_of 230 (by decide +kernel) rfl)⟩
theorem g_X6_16 : kL RX6 16 RX6 TX6 6 tyX6 1 := ⟨by decide, inK6, tyX6_ok, nmX6, rfl, Or.inl (kWs_of 231 (by decide +kernel) rfl)⟩
theorem g_X6_19 : kL RX6 19 RX6 TX6 6 tyX6 2 := ⟨by decide, inK6, tyX6_ok, nmX6, rfl, Or.inl (kWs_of 232 (by decide +kernel) rfl)⟩
theorem g_X6_25 : kL RX6 25 RX6 TX6 6 tyX6 3 := ⟨by decide, inK6, tyX6_ok, nmX6, rfl, Or.inl (kWs_of 233 (by decide +kernel) rfl)⟩
theorem g_X6_32 : kL RX6 32 RX6 TX6 6 tyX6 4 := ⟨by decide, inK6, tyX6_ok, nmX6, rfl, Or.inl (kWs_of 234 (by decide +kernel) rfl)⟩
theorem g_X6_36 : kL RX6 36 RX4 TX4 11 tyX4 6 := ⟨by decide, inK4, tyX4_ok, nmX4, rfl, Or.inr ⟨"RentedMoments", List.mem_of_getElem? (i := 46) (by decide +kernel)⟩⟩
theorem v_X6_40 : kV RX6 40 RX4 yX4_readersIn cX4_readersIn 4 (some .int) 1 := ⟨kWs_of 253 (by decide +kernel) rfl, mw_X4_readersIn.2.1, mw_X4_readersIn.2.2.1, mw_X4_readersIn.2.2.2, mw_X4_readersIn.1, rfl, by decide, by decide, by decide +kernel⟩
theorem v_X6_44 : kV RX6 44 RX2 yX2_record cX2_record 2 none 1 := ⟨kWs_of 257 (by decide +kernel) rfl, mw_X2_record.2.1, mw_X2_record.2.2.1, mw_X2_record.2.2.2, mw_X2_record.1, rfl, by decide, by decide, by decide +kernel⟩
theorem v_X6_48 : kV RX6 48 RX4 yX4_addReader cX4_addReader 3 (some .int) 1 := ⟨kWs_of 285 (by decide +kernel) rfl, mw_X4_addReader.2.1, mw_X4_addReader.2.2.1, mw_X4_addReader.2.2.2, mw_X4_addReader.1, rfl, by decide, by decide, by decide +kernel⟩
theorem v_X6_51 : kV RX6 51 RX4 yX4_hasReader cX4_hasReader 2 (some .boolean) 1 := ⟨kWs_of 297 (by decide +kernel) rfl, mw_X4_hasReader.2.1, mw_X4_hasReader.2.2.1, mw_X4_hasReader.2.2.2, mw_X4_hasReader.1, rfl, by decide, by decide, by decide +kernel⟩
theorem g_X6_55 : kL RX6 55 RX4 TX4 11 tyX4 1 := ⟨by decide, inK4, tyX4_ok, nmX4, rfl, Or.inr ⟨"RentedMoments", List.mem_of_getElem? (i := 41) (by decide +kernel)⟩⟩
theorem v_X6_59 : kV RX6 59 RX3 yX3_isOpen cX3_isOpen 1 (some .boolean) 0 := ⟨kWs_of 301 (by decide +kernel) rfl, mw_X3_isOpen.2.1, mw_X3_isOpen.2.2.1, mw_X3_isOpen.2.2.2, mw_X3_isOpen.1, rfl, by decide, by decide, by decide +kernel⟩
theorem g_X6_65 : kL RX6 65 RX3 TX3 9 tyX3 3 := ⟨by decide, inK3, tyX3_ok, nmX3, rfl, Or.inr ⟨"RentedMoments", List.mem_of_getElem? (i := 14) (by decide +kernel)⟩⟩
theorem g_X6_68 : kL RX6 68 RX3 TX3 9 tyX3 8 := ⟨by decide, inK3, tyX3_ok, nmX3, rfl, Or.inr ⟨"RentedMoments", List.mem_of_getElem? (i := 26) (by decide +kernel)⟩⟩
theorem v_X6_72 : kV RX6 72 RX4 yX4_dueOf cX4_dueOf 4 (some .int) 1 := ⟨kWs_of 309 (by decide +kernel) rfl, mw_X4_dueOf.2.1, mw_X4_dueOf.2.2.1, mw_X4_dueOf.2.2.2, mw_X4_dueOf.1, rfl, by decide, by decide, by decide +kernel⟩
theorem g_X6_76 : kL RX6 76 RX3 TX3 9 tyX3 6 := ⟨by decide, inK3, tyX3_ok, nmX3, rfl, Or.inr ⟨"RentedMoments", List.mem_of_getElem? (i := 22) (by decide +kernel)⟩⟩
theorem g_X6_79 : kL RX6 79 RX3 TX3 9 tyX3 1 := ⟨by decide, inK3, tyX3_ok, nmX3, rfl, Or.inr ⟨"RentedMoments", List.mem_of_getElem? (i := 10) (by decide +kernel)⟩⟩
theorem v_X6_82 : kV RX6 82 RX4 yX4_removeUnseen cX4_removeUnseen 3 (some .int) 0 := ⟨kWs_of 333 (by decide +kernel) rfl, mw_X4_removeUnseen.2.1, mw_X4_removeUnseen.2.2.1, mw_X4_removeUnseen.2.2.2, mw_X4_removeUnseen.1, rfl, by decide, by decide, by decide +kernel⟩
theorem g_X6_86 : kL RX6 86 RX4 TX4 11 tyX4 5 := ⟨by decide, inK4, tyX4_ok, nmX4, rfl, Or.inr ⟨"RentedMoments", List.mem_of_getElem? (i := 45) (by decide +kernel)⟩⟩
theorem g_X6_89 : kL RX6 89 RX4 TX4 11 tyX4 9 := ⟨by decide, inK4, tyX4_ok, nmX4, rfl, Or.inr ⟨"RentedMoments", List.mem_of_getElem? (i := 49) (by decide +kernel)⟩⟩
theorem v_X6_92 : kV RX6 92 RX4 yX4_pairsInSkew cX4_pairsInSkew 3 (some .int) 0 := ⟨kWs_of 354 (by decide +kernel) rfl, mw_X4_pairsInSkew.2.1, mw_X4_pairsInSkew.2.2.1, mw_X4_pairsInSkew.2.2.2, mw_X4_pairsInSkew.1, rfl, by decide, by decide, by decide +kernel⟩
theorem v_X6_95 : kV RX6 95 RX4 yX4_letTicksPass cX4_letTicksPass 7 none 2 := ⟨kWs_of 362 (by decide +kernel) rfl, mw_X4_letTicksPass.2.1, mw_X4_letTicksPass.2.2.1, mw_X4_letTicksPass.2.2.2, mw_X4_letTicksPass.1, rfl, by decide, by decide, by decide +kernel⟩
theorem v_X6_99 : kVs RX6 99 yX6_isCell cX6_isCell 1 (some .boolean) 1 := ⟨kWs_of 389 (by decide +kernel) rfl, mw_X6_isCell.2.1, mw_X6_isCell.2.2, mw_X6_isCell.1, rfl, by decide, by decide, by decide +kernel⟩
theorem v_X6_102 : kV RX6 102 RX3 yX3_hasWrite cX3_hasWrite 2 (some .boolean) 1 := ⟨kWs_of 392 (by decide +kernel) rfl, mw_X3_hasWrite.2.1, mw_X3_hasWrite.2.2.1, mw_X3_hasWrite.2.2.2, mw_X3_hasWrite.1, rfl, by decide, by decide, by decide +kernel⟩
theorem g_X6_105 : kL RX6 105 RX3 TX3 9 tyX3 0 := ⟨by decide, inK3, tyX3_ok, nmX3, rfl, Or.inr ⟨"RentedMoments", List.mem_of_getElem? (i := 7) (by decide +kernel)⟩⟩
theorem g_X6_109 : kL RX6 109 RX3 TX3 9 tyX3 4 := ⟨by decide, inK3, tyX3_ok, nmX3, rfl, Or.inr ⟨"RentedMoments", List.mem_of_getElem? (i := 17) (by decide +kernel)⟩⟩
theorem g_X6_112 : kL RX6 112 RX4 TX4 11 tyX4 0 := ⟨by decide, inK4, tyX4_ok, nmX4, rfl, Or.inr ⟨"RentedMoments", List.mem_of_getElem? (i := 40) (by decide +kernel)⟩⟩
theorem g_X6_116 : kL RX6 116 RX3 TX3 9 tyX3 2 := ⟨by decide, inK3, tyX3_ok, nmX3, rfl, Or.inr ⟨"RentedMoments", List.mem_of_getElem? (i := 13) (by decide +kernel)⟩⟩
theorem v_X6_119 : kV RX6 119 RX0 yX0_valueSeenAt cX0_valueSeenAt 3 (some .int) 1 := ⟨kWs_of 396 (by decide +kernel) rfl, mw_X0_valueSeenAt.2.1, mw_X0_valueSeenAt.2.2.1, mw_X0_valueSeenAt.2.2.2, mw_X0_valueSeenAt.1, rfl, by decide, by decide, by decide +kernel⟩
theorem v_X6_124 : kV RX6 124 RX3 yX3_putWrite cX3_putWrite 3 none 2 := ⟨kWs_of 405 (by decide +kernel) rfl, mw_X3_putWrite.2.1, mw_X3_putWrite.2.2.1, mw_X3_putWrite.2.2.2, mw_X3_putWrite.1, rfl, by decide, by decide, by decide +kernel⟩
theorem v_X6_127 : kV RX6 127 RX3 yX3_numberOfWrites cX3_numberOfWrites 1 (some .int) 0 := ⟨kWs_of 409 (by decide +kernel) rfl, mw_X3_numberOfWrites.2.1, mw_X3_numberOfWrites.2.2.1, mw_X3_numberOfWrites.2.2.2, mw_X3_numberOfWrites.1, rfl, by decide, by decide, by decide +kernel⟩
theorem v_X6_130 : kV RX6 130 RX4 yX4_hasConflict cX4_hasConflict 3 (some .boolean) 1 := ⟨kWs_of 423 (by decide +kernel) rfl, mw_X4_hasConflict.2.1, mw_X4_hasConflict.2.2.1, mw_X4_hasConflict.2.2.2, mw_X4_hasConflict.1, rfl, by decide, by decide, by decide +kernel⟩
theorem v_X6_134 : kV RX6 134 RX4 yX4_skewsOf cX4_skewsOf 4 (some .int) 1 := ⟨kWs_of 428 (by decide +kernel) rfl, mw_X4_skewsOf.2.1, mw_X4_skewsOf.2.2.1, mw_X4_skewsOf.2.2.2, mw_X4_skewsOf.1, rfl, by decide, by decide, by decide +kernel⟩
theorem v_X6_137 : kV RX6 137 RX4 yX4_oldVersionsWithout cX4_oldVersionsWithout 6 (some .int) 1 := ⟨kWs_of 436 (by decide +kernel) rfl, mw_X4_oldVersionsWithout.2.1, mw_X4_oldVersionsWithout.2.2.1, mw_X4_oldVersionsWithout.2.2.2, mw_X4_oldVersionsWithout.1, rfl, by decide, by decide, by decide +kernel⟩
theorem v_X6_140 : kV RX6 140 RX4 yX4_land cX4_land 3 none 1 := ⟨kWs_of 441 (by decide +kernel) rfl, mw_X4_land.2.1, mw_X4_land.2.2.1, mw_X4_land.2.2.2, mw_X4_land.1, rfl, by decide, by decide, by decide +kernel⟩
theorem g_X6_144 : kL RX6 144 RX4 TX4 11 tyX4 3 := ⟨by decide, inK4, tyX4_ok, nmX4, rfl, Or.inr ⟨"RentedMoments", List.mem_of_getElem? (i := 43) (by decide +kernel)⟩⟩
theorem g_X6_145 : kL RX6 145 RX5 TX5 5 tyX5 1 := ⟨by decide, inK5, tyX5_ok, nmX5, rfl, Or.inr ⟨"RentedMoments", List.mem_of_getElem? (i := 52) (by decide +kernel)⟩⟩
theorem v_X6_148 : kV RX6 148 RX5 yX5_add cX5_add 2 none 1 := ⟨kWs_of 462 (by decide +kernel) rfl, mw_X5_add.2.1, mw_X5_add.2.2.1, mw_X5_add.2.2.2, mw_X5_add.1, rfl, by decide, by decide, by decide +kernel⟩
theorem v_X6_152 : kV RX6 152 RX5 yX5_parse cX5_parse 6 (some .int) 0 := ⟨kWs_of 474 (by decide +kernel) rfl, mw_X5_parse.2.1, mw_X5_parse.2.2.1, mw_X5_parse.2.2.2, mw_X5_parse.1, rfl, by decide, by decide, by decide +kernel⟩
theorem v_X6_155 : kV RX6 155 RX5 yX5_greatestCell cX5_greatestCell 3 (some .int) 0 := ⟨kWs_of 494 (by decide +kernel) rfl, mw_X5_greatestCell.2.1, mw_X5_greatestCell.2.2.1, mw_X5_greatestCell.2.2.2, mw_X5_greatestCell.1, rfl, by decide, by decide, by decide +kernel⟩
theorem g_X6_158 : kL RX6 158 RX5 TX5 5 tyX5 4 := ⟨by decide, inK5, tyX5_ok, nmX5, rfl, Or.inr ⟨"RentedMoments", List.mem_of_getElem? (i := 55) (by decide +kernel)⟩⟩
theorem g_X6_160 : kL RX6 160 RX5 TX5 5 tyX5 2 := ⟨by decide, inK5, tyX5_ok, nmX5, rfl, Or.inr ⟨"RentedMoments", List.mem_of_getElem? (i := 53) (by decide +kernel)⟩⟩
theorem g_X6_162 : kL RX6 162 RX5 TX5 5 tyX5 3 := ⟨by decide, inK5, tyX5_ok, nmX5, rfl, Or.inr ⟨"RentedMoments", List.mem_of_getElem? (i := 54) (by decide +kernel)⟩⟩
theorem g_X6_165 : kL RX6 165 RX2 TX2 2 tyX2 1 := ⟨by decide, inK2, tyX2_ok, nmX2, rfl, Or.inr ⟨"RentedMoments", List.mem_of_getElem? (i := 50) (by decide +kernel)⟩⟩
theorem v_X6_166 : kV RX6 166 RX2 yX2_bringBack cX2_bringBack 2 none 1 := ⟨kWs_of 505 (by decide +kernel) rfl, mw_X2_bringBack.2.1, mw_X2_bringBack.2.2.1, mw_X2_bringBack.2.2.2, mw_X2_bringBack.1, rfl, by decide, by decide, by decide +kernel⟩
theorem v_X6_169 : kV RX6 169 RX4 yX4_copyFrom cX4_copyFrom 3 none 1 := ⟨kWs_of 513 (by decide +kernel) rfl, mw_X4_copyFrom.2.1, mw_X4_copyFrom.2.2.1, mw_X4_copyFrom.2.2.2, mw_X4_copyFrom.1, rfl, by decide, by decide, by decide +kernel⟩
theorem g_X6_172 : kL RX6 172 RX6 TX6 6 tyX6 5 := ⟨by decide, inK6, tyX6_ok, nmX6, rfl, Or.inl (kWs_of 235 (by decide +kernel) rfl)⟩
theorem g_X6_175 : kL RX6 175 RX0 TX0 3 tyX0 0 := ⟨by decide, inK0, tyX0_ok, nmX0, rfl, Or.inr ⟨"RentedMoments", List.mem_of_getElem? (i := 1) (by decide +kernel)⟩⟩
theorem g_X6_176 : kL RX6 176 RX0 TX0 3 tyX0 1 := ⟨by decide, inK0, tyX0_ok, nmX0, rfl, Or.inr ⟨"RentedMoments", List.mem_of_getElem? (i := 2) (by decide +kernel)⟩⟩
theorem g_X6_179 : kL RX6 179 RX0 TX0 3 tyX0 2 := ⟨by decide, inK0, tyX0_ok, nmX0, rfl, Or.inr ⟨"RentedMoments", List.mem_of_getElem? (i := 5) (by decide +kernel)⟩⟩
theorem v_X6_182 : kV RX6 182 RX4 yX4_seersOf cX4_seersOf 6 (some .int) 2 := ⟨kWs_of 522 (by decide +kernel) rfl, mw_X4_seersOf.2.1, mw_X4_seersOf.2.2.1, mw_X4_seersOf.2.2.2, mw_X4_seersOf.1, rfl, by decide, by decide, by decide +kernel⟩
theorem v_X6_186 : kV RX6 186 RX4 yX4_writersOf cX4_writersOf 4 (some .int) 1 := ⟨kWs_of 526 (by decide +kernel) rfl, mw_X4_writersOf.2.1, mw_X4_writersOf.2.2.1, mw_X4_writersOf.2.2.2, mw_X4_writersOf.1, rfl, by decide, by decide, by decide +kernel⟩
theorem v_X6_189 : kV RX6 189 RX4 yX4_payersOf cX4_payersOf 6 (some .int) 2 := ⟨kWs_of 534 (by decide +kernel) rfl, mw_X4_payersOf.2.1, mw_X4_payersOf.2.2.1, mw_X4_payersOf.2.2.2, mw_X4_payersOf.1, rfl, by decide, by decide, by decide +kernel⟩
theorem v_X6_192 : kV RX6 192 RX4 yX4_shareOf cX4_shareOf 4 (some .int) 2 := ⟨kWs_of 535 (by decide +kernel) rfl, mw_X4_shareOf.2.1, mw_X4_shareOf.2.2.1, mw_X4_shareOf.2.2.2, mw_X4_shareOf.1, rfl, by decide, by decide, by decide +kernel⟩
theorem g_X6_195 : kL RX6 195 RX3 TX3 9 tyX3 5 := ⟨by decide, inK3, tyX3_ok, nmX3, rfl, Or.inr ⟨"RentedMoments", List.mem_of_getElem? (i := 20) (by decide +kernel)⟩⟩
theorem g_X6_198 : kL RX6 198 RX3 TX3 9 tyX3 7 := ⟨by decide, inK3, tyX3_ok, nmX3, rfl, Or.inr ⟨"RentedMoments", List.mem_of_getElem? (i := 25) (by decide +kernel)⟩⟩
theorem v_X6_201 : kV RX6 201 RX4 yX4_oldVersionsSeenBy cX4_oldVersionsSeenBy 4 (some .int) 1 := ⟨kWs_of 540 (by decide +kernel) rfl, mw_X4_oldVersionsSeenBy.2.1, mw_X4_oldVersionsSeenBy.2.2.1, mw_X4_oldVersionsSeenBy.2.2.2, mw_X4_oldVersionsSeenBy.1, rfl, by decide, by decide, by decide +kernel⟩
theorem v_X6_204 : kV RX6 204 RX4 yX4_sumSeenBy cX4_sumSeenBy 4 (some .int) 1 := ⟨kWs_of 544 (by decide +kernel) rfl, mw_X4_sumSeenBy.2.1, mw_X4_sumSeenBy.2.2.1, mw_X4_sumSeenBy.2.2.2, mw_X4_sumSeenBy.1, rfl, by decide, by decide, by decide +kernel⟩
theorem g_X6_207 : kL RX6 207 RX4 TX4 11 tyX4 4 := ⟨by decide, inK4, tyX4_ok, nmX4, rfl, Or.inr ⟨"RentedMoments", List.mem_of_getElem? (i := 44) (by decide +kernel)⟩⟩
theorem g_X6_210 : kL RX6 210 RX4 TX4 11 tyX4 7 := ⟨by decide, inK4, tyX4_ok, nmX4, rfl, Or.inr ⟨"RentedMoments", List.mem_of_getElem? (i := 47) (by decide +kernel)⟩⟩
theorem g_X6_213 : kL RX6 213 RX4 TX4 11 tyX4 2 := ⟨by decide, inK4, tyX4_ok, nmX4, rfl, Or.inr ⟨"RentedMoments", List.mem_of_getElem? (i := 42) (by decide +kernel)⟩⟩
theorem g_X6_217 : kL RX6 217 RX1 TX1 6 tyX1 0 := ⟨by decide, inK1, tyX1_ok, nmX1, rfl, Or.inr ⟨"RentedMoments", List.mem_of_getElem? (i := 28) (by decide +kernel)⟩⟩
theorem g_X6_222 : kL RX6 222 RX1 TX1 6 tyX1 1 := ⟨by decide, inK1, tyX1_ok, nmX1, rfl, Or.inr ⟨"RentedMoments", List.mem_of_getElem? (i := 30) (by decide +kernel)⟩⟩
theorem g_X6_225 : kL RX6 225 RX1 TX1 6 tyX1 2 := ⟨by decide, inK1, tyX1_ok, nmX1, rfl, Or.inr ⟨"RentedMoments", List.mem_of_getElem? (i := 32) (by decide +kernel)⟩⟩
theorem g_X6_228 : kL RX6 228 RX1 TX1 6 tyX1 3 := ⟨by decide, inK1, tyX1_ok, nmX1, rfl, Or.inr ⟨"RentedMoments", List.mem_of_getElem? (i := 34) (by decide +kernel)⟩⟩
theorem g_X6_229 : kL RX6 229 RX1 TX1 6 tyX1 4 := ⟨by decide, inK1, tyX1_ok, nmX1, rfl, Or.inr ⟨"RentedMoments", List.mem_of_getElem? (i := 36) (by decide +kernel)⟩⟩
theorem g_X6_230 : kL RX6 230 RX1 TX1 6 tyX1 5 := ⟨by decide, inK1, tyX1_ok, nmX1, rfl, Or.inr ⟨"RentedMoments", List.mem_of_getElem? (i := 38) (by decide +kernel)⟩⟩
theorem v_X6_233 : kV RX6 233 RX4 yX4_oldVersions cX4_oldVersions 3 (some .int) 0 := ⟨kWs_of 561 (by decide +kernel) rfl, mw_X4_oldVersions.2.1, mw_X4_oldVersions.2.2.1, mw_X4_oldVersions.2.2.2, mw_X4_oldVersions.1, rfl, by decide, by decide, by decide +kernel⟩
theorem g_X6_236 : kL RX6 236 RX4 TX4 11 tyX4 8 := ⟨by decide, inK4, tyX4_ok, nmX4, rfl, Or.inr ⟨"RentedMoments", List.mem_of_getElem? (i := 48) (by decide +kernel)⟩⟩
theorem v_X6_239 : kV RX6 239 RX4 yX4_coinsPaid cX4_coinsPaid 3 (some .int) 0 := ⟨kWs_of 565 (by decide +kernel) rfl, mw_X4_coinsPaid.2.1, mw_X4_coinsPaid.2.2.1, mw_X4_coinsPaid.2.2.2, mw_X4_coinsPaid.1, rfl, by decide, by decide, by decide +kernel⟩
theorem v_X6_242 : kV RX6 242 RX4 yX4_openWidows cX4_openWidows 3 (some .int) 0 := ⟨kWs_of 569 (by decide +kernel) rfl, mw_X4_openWidows.2.1, mw_X4_openWidows.2.2.1, mw_X4_openWidows.2.2.2, mw_X4_openWidows.1, rfl, by decide, by decide, by decide +kernel⟩
theorem g_X7_7 : kL RX7 7 RX7 TX7 12 tyX7 0 := ⟨by decide, inK7, tyX7_ok, nmX7, rfl, Or.inl (kWs_of 579 (by decide +kernel) rfl)⟩
theorem g_X7_13 : kL RX7 13 RX7 TX7 12 tyX7 1 := ⟨by decide, inK7, tyX7_ok, nmX7, rfl, Or.inl (kWs_of 580 (by decide +kernel) rfl)⟩
theorem g_X7_16 : kL RX7 16 RX7 TX7 12 tyX7 4 := ⟨by decide, inK7, tyX7_ok, nmX7, rfl, Or.inl (kWs_of 583 (by decide +kernel) rfl)⟩
theorem g_X7_19 : kL RX7 19 RX7 TX7 12 tyX7 9 := ⟨by decide, inK7, tyX7_ok, nmX7, rfl, Or.inl (kWs_of 588 (by decide +kernel) rfl)⟩
theorem g_X7_22 : kL RX7 22 RX7 TX7 12 tyX7 10 := ⟨by decide, inK7, tyX7_ok, nmX7, rfl, Or.inl (kWs_of 589 (by decide +kernel) rfl)⟩
theorem g_X7_25 : kL RX7 25 RX7 TX7 12 tyX7 11 := ⟨by decide, inK7, tyX7_ok, nmX7, rfl, Or.inl (kWs_of 590 (by decide +kernel) rfl)⟩
theorem v_X7_28 : kVs RX7 28 yX7_isIn cX7_isIn 3 (some .boolean) 3 := ⟨kWs_of 644 (by decide +kernel) rfl, mw_X7_isIn.2.1, mw_X7_isIn.2.2, mw_X7_isIn.1, rfl, by decide, by decide, by decide +kernel⟩
theorem v_X7_32 : kV RX7 32 RX7 yX7_ofR cX7_ofR 3 (some .int) 2 := ⟨kWs_of 651 (by decide +kernel) rfl, mw_X7_ofR.2.1, mw_X7_ofR.2.2.1, mw_X7_ofR.2.2.2, mw_X7_ofR.1, rfl, by decide, by decide, by decide +kernel⟩
theorem g_X7_36 : kL RX7 36 RX7 TX7 12 tyX7 2 := ⟨by decide, inK7, tyX7_ok, nmX7, rfl, Or.inl (kWs_of 581 (by decide +kernel) rfl)⟩
theorem v_X7_40 : kV RX7 40 RX7 yX7_keeps cX7_keeps 3 none 1 := ⟨kWs_of 628 (by decide +kernel) rfl, mw_X7_keeps.2.1, mw_X7_keeps.2.2.1, mw_X7_keeps.2.2.2, mw_X7_keeps.1, rfl, by decide, by decide, by decide +kernel⟩
theorem v_X7_44 : kV RX7 44 RX7 yX7_brings cX7_brings 3 none 1 := ⟨kWs_of 620 (by decide +kernel) rfl, mw_X7_brings.2.1, mw_X7_brings.2.2.1, mw_X7_brings.2.2.2, mw_X7_brings.1, rfl, by decide, by decide, by decide +kernel⟩
theorem g_X7_47 : kL RX7 47 RX7 TX7 12 tyX7 3 := ⟨by decide, inK7, tyX7_ok, nmX7, rfl, Or.inl (kWs_of 582 (by decide +kernel) rfl)⟩
theorem v_X7_51 : kV RX7 51 RX7 yX7_records cX7_records 2 none 0 := ⟨kWs_of 636 (by decide +kernel) rfl, mw_X7_records.2.1, mw_X7_records.2.2.1, mw_X7_records.2.2.2, mw_X7_records.1, rfl, by decide, by decide, by decide +kernel⟩
theorem v_X7_54 : kV RX7 54 RX7 yX7_ofV cX7_ofV 3 (some .int) 2 := ⟨kWs_of 687 (by decide +kernel) rfl, mw_X7_ofV.2.1, mw_X7_ofV.2.2.1, mw_X7_ofV.2.2.2, mw_X7_ofV.1, rfl, by decide, by decide, by decide +kernel⟩
theorem v_X7_57 : kV RX7 57 RX7 yX7_versionAt cX7_versionAt 7 (some .int) 2 := ⟨kWs_of 695 (by decide +kernel) rfl, mw_X7_versionAt.2.1, mw_X7_versionAt.2.2.1, mw_X7_versionAt.2.2.2, mw_X7_versionAt.1, rfl, by decide, by decide, by decide +kernel⟩
theorem v_X7_60 : kV RX7 60 RX7 yX7_newest cX7_newest 2 (some .int) 1 := ⟨kWs_of 691 (by decide +kernel) rfl, mw_X7_newest.2.1, mw_X7_newest.2.2.1, mw_X7_newest.2.2.2, mw_X7_newest.1, rfl, by decide, by decide, by decide +kernel⟩
theorem v_X7_64 : kV RX7 64 RX7 yX7_isOpen cX7_isOpen 2 (some .boolean) 1 := ⟨kWs_of 667 (by decide +kernel) rfl, mw_X7_isOpen.2.1, mw_X7_isOpen.2.2.1, mw_X7_isOpen.2.2.2, mw_X7_isOpen.1, rfl, by decide, by decide, by decide +kernel⟩
theorem v_X7_68 : kV RX7 68 RX7 yX7_sees cX7_sees 3 (some .boolean) 2 := ⟨kWs_of 699 (by decide +kernel) rfl, mw_X7_sees.2.1, mw_X7_sees.2.2.1, mw_X7_sees.2.2.2, mw_X7_sees.1, rfl, by decide, by decide, by decide +kernel⟩
theorem v_X7_72 : kV RX7 72 RX7 yX7_isWidow cX7_isWidow 2 (some .boolean) 1 := ⟨kWs_of 679 (by decide +kernel) rfl, mw_X7_isWidow.2.1, mw_X7_isWidow.2.2.1, mw_X7_isWidow.2.2.2, mw_X7_isWidow.1, rfl, by decide, by decide, by decide +kernel⟩
theorem v_X7_75 : kV RX7 75 RX7 yX7_seenBy cX7_seenBy 5 (some .int) 2 := ⟨kWs_of 707 (by decide +kernel) rfl, mw_X7_seenBy.2.1, mw_X7_seenBy.2.2.1, mw_X7_seenBy.2.2.2, mw_X7_seenBy.1, rfl, by decide, by decide, by decide +kernel⟩
theorem v_X7_79 : kV RX7 79 RX7 yX7_isOld cX7_isOld 2 (some .boolean) 1 := ⟨kWs_of 683 (by decide +kernel) rfl, mw_X7_isOld.2.1, mw_X7_isOld.2.2.1, mw_X7_isOld.2.2.2, mw_X7_isOld.1, rfl, by decide, by decide, by decide +kernel⟩
theorem v_X7_82 : kV RX7 82 RX7 yX7_rentOf cX7_rentOf 3 (some .int) 1 := ⟨kWs_of 703 (by decide +kernel) rfl, mw_X7_rentOf.2.1, mw_X7_rentOf.2.2.1, mw_X7_rentOf.2.2.2, mw_X7_rentOf.1, rfl, by decide, by decide, by decide +kernel⟩
theorem v_X7_85 : kV RX7 85 RX7 yX7_ofState cX7_ofState 4 (some .int) 1 := ⟨kWs_of 647 (by decide +kernel) rfl, mw_X7_ofState.2.1, mw_X7_ofState.2.2.1, mw_X7_ofState.2.2.2, mw_X7_ofState.1, rfl, by decide, by decide, by decide +kernel⟩
theorem v_X7_88 : kV RX7 88 RX7 yX7_setsR cX7_setsR 4 none 3 := ⟨kWs_of 655 (by decide +kernel) rfl, mw_X7_setsR.2.1, mw_X7_setsR.2.2.1, mw_X7_setsR.2.2.2, mw_X7_setsR.1, rfl, by decide, by decide, by decide +kernel⟩
theorem v_X7_92 : kV RX7 92 RX7 yX7_isReader cX7_isReader 2 (some .boolean) 1 := ⟨kWs_of 663 (by decide +kernel) rfl, mw_X7_isReader.2.1, mw_X7_isReader.2.2.1, mw_X7_isReader.2.2.2, mw_X7_isReader.1, rfl, by decide, by decide, by decide +kernel⟩
theorem v_X7_95 : kV RX7 95 RX7 yX7_dueOf cX7_dueOf 4 (some .int) 1 := ⟨kWs_of 675 (by decide +kernel) rfl, mw_X7_dueOf.2.1, mw_X7_dueOf.2.2.1, mw_X7_dueOf.2.2.2, mw_X7_dueOf.1, rfl, by decide, by decide, by decide +kernel⟩
theorem v_X7_98 : kV RX7 98 RX7 yX7_removes cX7_removes 4 (some .int) 0 := ⟨kWs_of 715 (by decide +kernel) rfl, mw_X7_removes.2.1, mw_X7_removes.2.2.1, mw_X7_removes.2.2.2, mw_X7_removes.1, rfl, by decide, by decide, by decide +kernel⟩
theorem v_X7_102 : kV RX7 102 RX7 yX7_pairs cX7_pairs 3 (some .int) 0 := ⟨kWs_of 727 (by decide +kernel) rfl, mw_X7_pairs.2.1, mw_X7_pairs.2.2.1, mw_X7_pairs.2.2.2, mw_X7_pairs.1, rfl, by decide, by decide, by decide +kernel⟩
theorem v_X7_105 : kV RX7 105 RX7 yX7_passes cX7_passes 3 (some .int) 0 := ⟨kWs_of 746 (by decide +kernel) rfl, mw_X7_passes.2.1, mw_X7_passes.2.2.1, mw_X7_passes.2.2.2, mw_X7_passes.1, rfl, by decide, by decide, by decide +kernel⟩
theorem v_X7_108 : kVs RX7 108 yX7_isCell cX7_isCell 1 (some .boolean) 1 := ⟨kWs_of 758 (by decide +kernel) rfl, mw_X7_isCell.2.1, mw_X7_isCell.2.2, mw_X7_isCell.1, rfl, by decide, by decide, by decide +kernel⟩
theorem v_X7_111 : kVs RX7 111 yX7_has cX7_has 2 (some .boolean) 2 := ⟨kWs_of 761 (by decide +kernel) rfl, mw_X7_has.2.1, mw_X7_has.2.2, mw_X7_has.1, rfl, by decide, by decide, by decide +kernel⟩
theorem v_X7_114 : kV RX7 114 RX7 yX7_writes cX7_writes 4 none 3 := ⟨kWs_of 768 (by decide +kernel) rfl, mw_X7_writes.2.1, mw_X7_writes.2.2.1, mw_X7_writes.2.2.2, mw_X7_writes.1, rfl, by decide, by decide, by decide +kernel⟩
theorem v_X7_117 : kVs RX7 117 yX7_ones cX7_ones 3 (some .int) 1 := ⟨kWs_of 772 (by decide +kernel) rfl, mw_X7_ones.2.1, mw_X7_ones.2.2, mw_X7_ones.1, rfl, by decide, by decide, by decide +kernel⟩
theorem v_X7_120 : kV RX7 120 RX7 yX7_ofC cX7_ofC 3 (some .int) 2 := ⟨kWs_of 735 (by decide +kernel) rfl, mw_X7_ofC.2.1, mw_X7_ofC.2.2.1, mw_X7_ofC.2.2.2, mw_X7_ofC.1, rfl, by decide, by decide, by decide +kernel⟩
theorem v_X7_123 : kVs RX7 123 yX7_areSkew cX7_areSkew 4 (some .boolean) 4 := ⟨kWs_of 739 (by decide +kernel) rfl, mw_X7_areSkew.2.1, mw_X7_areSkew.2.2, mw_X7_areSkew.1, rfl, by decide, by decide, by decide +kernel⟩
theorem v_X7_127 : kV RX7 127 RX7 yX7_skews cX7_skews 5 (some .int) 1 := ⟨kWs_of 731 (by decide +kernel) rfl, mw_X7_skews.2.1, mw_X7_skews.2.2.1, mw_X7_skews.2.2.2, mw_X7_skews.1, rfl, by decide, by decide, by decide +kernel⟩
theorem v_X7_130 : kV RX7 130 RX7 yX7_hasConflict cX7_hasConflict 4 (some .boolean) 1 := ⟨kWs_of 779 (by decide +kernel) rfl, mw_X7_hasConflict.2.1, mw_X7_hasConflict.2.2.1, mw_X7_hasConflict.2.2.2, mw_X7_hasConflict.1, rfl, by decide, by decide, by decide +kernel⟩
theorem v_X7_133 : kV RX7 133 RX7 yX7_skewsOf cX7_skewsOf 5 (some .int) 1 := ⟨kWs_of 783 (by decide +kernel) rfl, mw_X7_skewsOf.2.1, mw_X7_skewsOf.2.2.1, mw_X7_skewsOf.2.2.2, mw_X7_skewsOf.1, rfl, by decide, by decide, by decide +kernel⟩
theorem v_X7_136 : kV RX7 136 RX7 yX7_commits cX7_commits 5 none 1 := ⟨kWs_of 787 (by decide +kernel) rfl, mw_X7_commits.2.1, mw_X7_commits.2.2.1, mw_X7_commits.2.2.2, mw_X7_commits.1, rfl, by decide, by decide, by decide +kernel⟩
theorem v_X7_139 : kV RX7 139 RX7 yX7_oldMany cX7_oldMany 1 (some .int) 0 := ⟨kWs_of 791 (by decide +kernel) rfl, mw_X7_oldMany.2.1, mw_X7_oldMany.2.2.1, mw_X7_oldMany.2.2.2, mw_X7_oldMany.1, rfl, by decide, by decide, by decide +kernel⟩
theorem v_X7_142 : kV RX7 142 RX7 yX7_commitsFor cX7_commitsFor 2 (some .int) 1 := ⟨kWs_of 795 (by decide +kernel) rfl, mw_X7_commitsFor.2.1, mw_X7_commitsFor.2.2.1, mw_X7_commitsFor.2.2.2, mw_X7_commitsFor.1, rfl, by decide, by decide, by decide +kernel⟩
theorem g_X7_145 : kL RX7 145 RX7 TX7 12 tyX7 5 := ⟨by decide, inK7, tyX7_ok, nmX7, rfl, Or.inl (kWs_of 584 (by decide +kernel) rfl)⟩
theorem g_X7_148 : kL RX7 148 RX7 TX7 12 tyX7 6 := ⟨by decide, inK7, tyX7_ok, nmX7, rfl, Or.inl (kWs_of 585 (by decide +kernel) rfl)⟩
theorem v_X7_151 : kV RX7 151 RX7 yX7_isHere cX7_isHere 3 (some .boolean) 2 := ⟨kWs_of 823 (by decide +kernel) rfl, mw_X7_isHere.2.1, mw_X7_isHere.2.2.1, mw_X7_isHere.2.2.2, mw_X7_isHere.1, rfl, by decide, by decide, by decide +kernel⟩
theorem g_X7_154 : kL RX7 154 RX7 TX7 12 tyX7 7 := ⟨by decide, inK7, tyX7_ok, nmX7, rfl, Or.inl (kWs_of 586 (by decide +kernel) rfl)⟩
theorem v_X7_157 : kV RX7 157 RX7 yX7_passesNumber cX7_passesNumber 4 (some .boolean) 1 := ⟨kWs_of 819 (by decide +kernel) rfl, mw_X7_passesNumber.2.1, mw_X7_passesNumber.2.2.1, mw_X7_passesNumber.2.2.2, mw_X7_passesNumber.1, rfl, by decide, by decide, by decide +kernel⟩
theorem g_X7_160 : kL RX7 160 RX7 TX7 12 tyX7 8 := ⟨by decide, inK7, tyX7_ok, nmX7, rfl, Or.inl (kWs_of 587 (by decide +kernel) rfl)⟩
theorem v_X7_162 : kV RX7 162 RX7 yX7_passesSign cX7_passesSign 3 (some .boolean) 1 := ⟨kWs_of 827 (by decide +kernel) rfl, mw_X7_passesSign.2.1, mw_X7_passesSign.2.2.1, mw_X7_passesSign.2.2.2, mw_X7_passesSign.1, rfl, by decide, by decide, by decide +kernel⟩
theorem v_X7_165 : kV RX7 165 RX7 yX7_passesWrite cX7_passesWrite 1 (some .boolean) 0 := ⟨kWs_of 815 (by decide +kernel) rfl, mw_X7_passesWrite.2.1, mw_X7_passesWrite.2.2.1, mw_X7_passesWrite.2.2.2, mw_X7_passesWrite.1, rfl, by decide, by decide, by decide +kernel⟩
theorem v_X7_169 : kV RX7 169 RX7 yX7_faultOf cX7_faultOf 1 (some .int) 0 := ⟨kWs_of 811 (by decide +kernel) rfl, mw_X7_faultOf.2.1, mw_X7_faultOf.2.2.1, mw_X7_faultOf.2.2.2, mw_X7_faultOf.1, rfl, by decide, by decide, by decide +kernel⟩
theorem v_X7_172 : kV RX7 172 RX7 yX7_versionsOf cX7_versionsOf 4 (some .int) 1 := ⟨kWs_of 835 (by decide +kernel) rfl, mw_X7_versionsOf.2.1, mw_X7_versionsOf.2.2.1, mw_X7_versionsOf.2.2.2, mw_X7_versionsOf.1, rfl, by decide, by decide, by decide +kernel⟩
theorem v_X7_175 : kV RX7 175 RX7 yX7_writers cX7_writers 4 (some .int) 1 := ⟨kWs_of 839 (by decide +kernel) rfl, mw_X7_writers.2.1, mw_X7_writers.2.2.1, mw_X7_writers.2.2.2, mw_X7_writers.1, rfl, by decide, by decide, by decide +kernel⟩
theorem v_X7_178 : kV RX7 178 RX7 yX7_seen cX7_seen 6 (some .int) 2 := ⟨kWs_of 851 (by decide +kernel) rfl, mw_X7_seen.2.1, mw_X7_seen.2.2.1, mw_X7_seen.2.2.2, mw_X7_seen.1, rfl, by decide, by decide, by decide +kernel⟩
theorem v_X7_181 : kV RX7 181 RX7 yX7_widows cX7_widows 3 (some .int) 0 := ⟨kWs_of 863 (by decide +kernel) rfl, mw_X7_widows.2.1, mw_X7_widows.2.2.1, mw_X7_widows.2.2.2, mw_X7_widows.1, rfl, by decide, by decide, by decide +kernel⟩
theorem g_X0_9 : kL RX0 9 RX0 TX0 3 tyX0 0 := ⟨by decide, inK0, tyX0_ok, nmX0, rfl, Or.inl (kWs_of 37 (by decide +kernel) rfl)⟩
theorem g_X0_15 : kL RX0 15 RX0 TX0 3 tyX0 1 := ⟨by decide, inK0, tyX0_ok, nmX0, rfl, Or.inl (kWs_of 39 (by decide +kernel) rfl)⟩
theorem g_X0_18 : kL RX0 18 RX0 TX0 3 tyX0 2 := ⟨by decide, inK0, tyX0_ok, nmX0, rfl, Or.inl (kWs_of 42 (by decide +kernel) rfl)⟩
theorem v_X0_28 : kV RX0 28 RX0 yX0_placeSeenAt cX0_placeSeenAt 3 (some .int) 1 := ⟨kWs_of 400 (by decide +kernel) rfl, mw_X0_placeSeenAt.2.1, mw_X0_placeSeenAt.2.2.1, mw_X0_placeSeenAt.2.2.2, mw_X0_placeSeenAt.1, rfl, by decide, by decide, by decide +kernel⟩
theorem g_X1_7 : kL RX1 7 RX1 TX1 6 tyX1 0 := ⟨by decide, inK1, tyX1_ok, nmX1, rfl, Or.inl (kWs_of 111 (by decide +kernel) rfl)⟩
theorem g_X1_13 : kL RX1 13 RX1 TX1 6 tyX1 1 := ⟨by decide, inK1, tyX1_ok, nmX1, rfl, Or.inl (kWs_of 114 (by decide +kernel) rfl)⟩
theorem g_X1_16 : kL RX1 16 RX1 TX1 6 tyX1 2 := ⟨by decide, inK1, tyX1_ok, nmX1, rfl, Or.inl (kWs_of 117 (by decide +kernel) rfl)⟩
theorem g_X1_19 : kL RX1 19 RX1 TX1 6 tyX1 3 := ⟨by decide, inK1, tyX1_ok, nmX1, rfl, Or.inl (kWs_of 120 (by decide +kernel) rfl)⟩
theorem g_X1_22 : kL RX1 22 RX1 TX1 6 tyX1 4 := ⟨by decide, inK1, tyX1_ok, nmX1, rfl, Or.inl (kWs_of 123 (by decide +kernel) rfl)⟩
theorem g_X1_25 : kL RX1 25 RX1 TX1 6 tyX1 5 := ⟨by decide, inK1, tyX1_ok, nmX1, rfl, Or.inl (kWs_of 126 (by decide +kernel) rfl)⟩
theorem g_X1_28 : kL RX1 28 RX3 TX3 9 tyX3 2 := ⟨by decide, inK3, tyX3_ok, nmX3, rfl, Or.inr ⟨"RentedMoments", List.mem_of_getElem? (i := 11) (by decide +kernel)⟩⟩
theorem g_X1_33 : kL RX1 33 RX3 TX3 9 tyX3 4 := ⟨by decide, inK3, tyX3_ok, nmX3, rfl, Or.inr ⟨"RentedMoments", List.mem_of_getElem? (i := 16) (by decide +kernel)⟩⟩
theorem g_X1_34 : kL RX1 34 RX3 TX3 9 tyX3 5 := ⟨by decide, inK3, tyX3_ok, nmX3, rfl, Or.inr ⟨"RentedMoments", List.mem_of_getElem? (i := 19) (by decide +kernel)⟩⟩
theorem g_X2_11 : kL RX2 11 RX2 TX2 2 tyX2 0 := ⟨by decide, inK2, tyX2_ok, nmX2, rfl, Or.inl (kWs_of 195 (by decide +kernel) rfl)⟩
theorem g_X2_18 : kL RX2 18 RX2 TX2 2 tyX2 1 := ⟨by decide, inK2, tyX2_ok, nmX2, rfl, Or.inl (kWs_of 196 (by decide +kernel) rfl)⟩
theorem v_X2_22 : kV RX2 22 RX2 yX2_dropOldest cX2_dropOldest 3 none 0 := ⟨kWs_of 261 (by decide +kernel) rfl, mw_X2_dropOldest.2.1, mw_X2_dropOldest.2.2.1, mw_X2_dropOldest.2.2.2, mw_X2_dropOldest.1, rfl, by decide, by decide, by decide +kernel⟩
theorem v_X2_25 : kV RX2 25 RX4 yX4_copyFrom cX4_copyFrom 3 none 1 := ⟨kWs_of 265 (by decide +kernel) rfl, mw_X4_copyFrom.2.1, mw_X4_copyFrom.2.2.1, mw_X4_copyFrom.2.2.2, mw_X4_copyFrom.1, rfl, by decide, by decide, by decide +kernel⟩
theorem g_X3_9 : kL RX3 9 RX3 TX3 9 tyX3 0 := ⟨by decide, inK3, tyX3_ok, nmX3, rfl, Or.inl (kWs_of 58 (by decide +kernel) rfl)⟩
theorem g_X3_15 : kL RX3 15 RX3 TX3 9 tyX3 1 := ⟨by decide, inK3, tyX3_ok, nmX3, rfl, Or.inl (kWs_of 61 (by decide +kernel) rfl)⟩
theorem g_X3_19 : kL RX3 19 RX3 TX3 9 tyX3 2 := ⟨by decide, inK3, tyX3_ok, nmX3, rfl, Or.inl (kWs_of 64 (by decide +kernel) rfl)⟩
theorem g_X3_22 : kL RX3 22 RX3 TX3 9 tyX3 3 := ⟨by decide, inK3, tyX3_ok, nmX3, rfl, Or.inl (kWs_of 68 (by decide +kernel) rfl)⟩
theorem g_X3_25 : kL RX3 25 RX3 TX3 9 tyX3 4 := ⟨by decide, inK3, tyX3_ok, nmX3, rfl, Or.inl (kWs_of 71 (by decide +kernel) rfl)⟩
theorem g_X3_28 : kL RX3 28 RX3 TX3 9 tyX3 5 := ⟨by decide, inK3, tyX3_ok, nmX3, rfl, Or.inl (kWs_of 75 (by decide +kernel) rfl)⟩
theorem g_X3_31 : kL RX3 31 RX3 TX3 9 tyX3 6 := ⟨by decide, inK3, tyX3_ok, nmX3, rfl, Or.inl (kWs_of 79 (by decide +kernel) rfl)⟩
theorem g_X3_34 : kL RX3 34 RX3 TX3 9 tyX3 7 := ⟨by decide, inK3, tyX3_ok, nmX3, rfl, Or.inl (kWs_of 82 (by decide +kernel) rfl)⟩
theorem g_X3_37 : kL RX3 37 RX3 TX3 9 tyX3 8 := ⟨by decide, inK3, tyX3_ok, nmX3, rfl, Or.inl (kWs_of 85 (by decide +kernel) rfl)⟩
theorem g_X4_11 : kL RX4 11 RX4 TX4 11 tyX4 0 := ⟨by decide, inK4, tyX4_ok, nmX4, rfl, Or.inl (kWs_of 142 (by decide +kernel) rfl)⟩
theorem g_X4_19 : kL RX4 19 RX4 TX4 11 tyX4 1 := ⟨by decide, inK4, tyX4_ok, nmX4, rfl, Or.inl (kWs_of 144 (by decide +kernel) rfl)⟩
theorem g_X4_25 : kL RX4 25 RX4 TX4 11 tyX4 2 := ⟨by decide, inK4, tyX4_ok, nmX4, rfl, Or.inl (kWs_of 146 (by decide +kernel) rfl)⟩
theorem g_X4_29 : kL RX4 29 RX4 TX4 11 tyX4 5 := ⟨by decide, inK4, tyX4_ok, nmX4, rfl, Or.inl (kWs_of 152 (by decide +kernel) rfl)⟩
theorem g_X4_33 : kL RX4 33 RX4 TX4 11 tyX4 10 := ⟨by decide, inK4, tyX4_ok, nmX4, rfl, Or.inl (kWs_of 162 (by decide +kernel) rfl)⟩
theorem v_X4_40 : kV RX4 40 RX0 yX0_copyFrom cX0_copyFrom 2 none 1 := ⟨kWs_of 269 (by decide +kernel) rfl, mw_X0_copyFrom.2.1, mw_X0_copyFrom.2.2.1, mw_X0_copyFrom.2.2.2, mw_X0_copyFrom.1, rfl, by decide, by decide, by decide +kernel⟩
theorem g_X4_44 : kL RX4 44 RX4 TX4 11 tyX4 6 := ⟨by decide, inK4, tyX4_ok, nmX4, rfl, Or.inl (kWs_of 155 (by decide +kernel) rfl)⟩
theorem v_X4_47 : kV RX4 47 RX3 yX3_copyFrom cX3_copyFrom 2 none 1 := ⟨kWs_of 276 (by decide +kernel) rfl, mw_X3_copyFrom.2.1, mw_X3_copyFrom.2.2.1, mw_X3_copyFrom.2.2.2, mw_X3_copyFrom.1, rfl, by decide, by decide, by decide +kernel⟩
theorem g_X4_50 : kL RX4 50 RX4 TX4 11 tyX4 7 := ⟨by decide, inK4, tyX4_ok, nmX4, rfl, Or.inl (kWs_of 156 (by decide +kernel) rfl)⟩
theorem v_X4_53 : kV RX4 53 RX1 yX1_copyFrom cX1_copyFrom 2 none 1 := ⟨kWs_of 281 (by decide +kernel) rfl, mw_X1_copyFrom.2.1, mw_X1_copyFrom.2.2.1, mw_X1_copyFrom.2.2.2, mw_X1_copyFrom.1, rfl, by decide, by decide, by decide +kernel⟩
theorem g_X4_56 : kL RX4 56 RX4 TX4 11 tyX4 3 := ⟨by decide, inK4, tyX4_ok, nmX4, rfl, Or.inl (kWs_of 148 (by decide +kernel) rfl)⟩
theorem g_X4_59 : kL RX4 59 RX4 TX4 11 tyX4 4 := ⟨by decide, inK4, tyX4_ok, nmX4, rfl, Or.inl (kWs_of 150 (by decide +kernel) rfl)⟩
theorem g_X4_62 : kL RX4 62 RX4 TX4 11 tyX4 8 := ⟨by decide, inK4, tyX4_ok, nmX4, rfl, Or.inl (kWs_of 158 (by decide +kernel) rfl)⟩
theorem g_X4_65 : kL RX4 65 RX4 TX4 11 tyX4 9 := ⟨by decide, inK4, tyX4_ok, nmX4, rfl, Or.inl (kWs_of 160 (by decide +kernel) rfl)⟩
theorem v_X4_69 : kV RX4 69 RX3 yX3_begin cX3_begin 3 none 2 := ⟨kWs_of 289 (by decide +kernel) rfl, mw_X3_begin.2.1, mw_X3_begin.2.2.1, mw_X3_begin.2.2.2, mw_X3_begin.1, rfl, by decide, by decide, by decide +kernel⟩
theorem g_X4_73 : kL RX4 73 RX3 TX3 9 tyX3 1 := ⟨by decide, inK3, tyX3_ok, nmX3, rfl, Or.inr ⟨"RentedMoments", List.mem_of_getElem? (i := 9) (by decide +kernel)⟩⟩
theorem v_X4_76 : kV RX4 76 RX3 yX3_isOpenWidow cX3_isOpenWidow 1 (some .boolean) 0 := ⟨kWs_of 379 (by decide +kernel) rfl, mw_X3_isOpenWidow.2.1, mw_X3_isOpenWidow.2.2.1, mw_X3_isOpenWidow.2.2.2, mw_X3_isOpenWidow.1, rfl, by decide, by decide, by decide +kernel⟩
theorem g_X4_80 : kL RX4 80 RX3 TX3 9 tyX3 7 := ⟨by decide, inK3, tyX3_ok, nmX3, rfl, Or.inr ⟨"RentedMoments", List.mem_of_getElem? (i := 24) (by decide +kernel)⟩⟩
theorem v_X4_83 : kV RX4 83 RX3 yX3_isOpen cX3_isOpen 1 (some .boolean) 0 := ⟨kWs_of 341 (by decide +kernel) rfl, mw_X3_isOpen.2.1, mw_X3_isOpen.2.2.1, mw_X3_isOpen.2.2.2, mw_X3_isOpen.1, rfl, by decide, by decide, by decide +kernel⟩
theorem v_X4_86 : kV RX4 86 RX3 yX3_hasWrite cX3_hasWrite 2 (some .boolean) 1 := ⟨kWs_of 427 (by decide +kernel) rfl, mw_X3_hasWrite.2.1, mw_X3_hasWrite.2.2.1, mw_X3_hasWrite.2.2.2, mw_X3_hasWrite.1, rfl, by decide, by decide, by decide +kernel⟩
theorem g_X4_90 : kL RX4 90 RX3 TX3 9 tyX3 2 := ⟨by decide, inK3, tyX3_ok, nmX3, rfl, Or.inr ⟨"RentedMoments", List.mem_of_getElem? (i := 12) (by decide +kernel)⟩⟩
theorem v_X4_91 : kV RX4 91 RX0 yX0_placeSeenAt cX0_placeSeenAt 3 (some .int) 1 := ⟨kWs_of 317 (by decide +kernel) rfl, mw_X0_placeSeenAt.2.1, mw_X0_placeSeenAt.2.2.1, mw_X0_placeSeenAt.2.2.2, mw_X0_placeSeenAt.1, rfl, by decide, by decide, by decide +kernel⟩
theorem v_X4_95 : kV RX4 95 RX3 yX3_paysRent cX3_paysRent 1 (some .boolean) 0 := ⟨kWs_of 313 (by decide +kernel) rfl, mw_X3_paysRent.2.1, mw_X3_paysRent.2.2.1, mw_X3_paysRent.2.2.2, mw_X3_paysRent.1, rfl, by decide, by decide, by decide +kernel⟩
theorem g_X4_98 : kL RX4 98 RX0 TX0 3 tyX0 2 := ⟨by decide, inK0, tyX0_ok, nmX0, rfl, Or.inr ⟨"RentedMoments", List.mem_of_getElem? (i := 4) (by decide +kernel)⟩⟩
theorem v_X4_101 : kV RX4 101 RX0 yX0_valueSeenAt cX0_valueSeenAt 3 (some .int) 1 := ⟨kWs_of 548 (by decide +kernel) rfl, mw_X0_valueSeenAt.2.1, mw_X0_valueSeenAt.2.2.1, mw_X0_valueSeenAt.2.2.2, mw_X0_valueSeenAt.1, rfl, by decide, by decide, by decide +kernel⟩
theorem v_X4_104 : kV RX4 104 RX4 yX4_placesSeen cX4_placesSeen 6 (some .int) 2 := ⟨kWs_of 337 (by decide +kernel) rfl, mw_X4_placesSeen.2.1, mw_X4_placesSeen.2.2.1, mw_X4_placesSeen.2.2.2, mw_X4_placesSeen.1, rfl, by decide, by decide, by decide +kernel⟩
theorem v_X4_108 : kV RX4 108 RX0 yX0_retainOld cX0_retainOld 4 (some .int) 1 := ⟨kWs_of 342 (by decide +kernel) rfl, mw_X0_retainOld.2.1, mw_X0_retainOld.2.2.1, mw_X0_retainOld.2.2.2, mw_X0_retainOld.1, rfl, by decide, by decide, by decide +kernel⟩
theorem v_X4_111 : kV RX4 111 RX4 yX4_payersOf cX4_payersOf 6 (some .int) 2 := ⟨kWs_of 325 (by decide +kernel) rfl, mw_X4_payersOf.2.1, mw_X4_payersOf.2.2.1, mw_X4_payersOf.2.2.2, mw_X4_payersOf.1, rfl, by decide, by decide, by decide +kernel⟩
theorem v_X4_114 : kV RX4 114 RX4 yX4_shareOf cX4_shareOf 4 (some .int) 2 := ⟨kWs_of 321 (by decide +kernel) rfl, mw_X4_shareOf.2.1, mw_X4_shareOf.2.2.1, mw_X4_shareOf.2.2.2, mw_X4_shareOf.1, rfl, by decide, by decide, by decide +kernel⟩
theorem v_X4_117 : kV RX4 117 RX4 yX4_dueOf cX4_dueOf 4 (some .int) 1 := ⟨kWs_of 370 (by decide +kernel) rfl, mw_X4_dueOf.2.1, mw_X4_dueOf.2.2.1, mw_X4_dueOf.2.2.2, mw_X4_dueOf.1, rfl, by decide, by decide, by decide +kernel⟩
theorem v_X4_121 : kV RX4 121 RX4 yX4_tellDues cX4_tellDues 2 none 0 := ⟨kWs_of 366 (by decide +kernel) rfl, mw_X4_tellDues.2.1, mw_X4_tellDues.2.2.1, mw_X4_tellDues.2.2.2, mw_X4_tellDues.1, rfl, by decide, by decide, by decide +kernel⟩
theorem v_X4_124 : kV RX4 124 RX4 yX4_takeDues cX4_takeDues 4 (some .boolean) 0 := ⟨kWs_of 371 (by decide +kernel) rfl, mw_X4_takeDues.2.1, mw_X4_takeDues.2.2.1, mw_X4_takeDues.2.2.2, mw_X4_takeDues.1, rfl, by decide, by decide, by decide +kernel⟩
theorem v_X4_127 : kV RX4 127 RX4 yX4_shortenTerms cX4_shortenTerms 4 (some .boolean) 0 := ⟨kWs_of 375 (by decide +kernel) rfl, mw_X4_shortenTerms.2.1, mw_X4_shortenTerms.2.2.1, mw_X4_shortenTerms.2.2.2, mw_X4_shortenTerms.1, rfl, by decide, by decide, by decide +kernel⟩
theorem v_X4_130 : kV RX4 130 RX4 yX4_removeUnseen cX4_removeUnseen 3 (some .int) 0 := ⟨kWs_of 383 (by decide +kernel) rfl, mw_X4_removeUnseen.2.1, mw_X4_removeUnseen.2.2.1, mw_X4_removeUnseen.2.2.2, mw_X4_removeUnseen.1, rfl, by decide, by decide, by decide +kernel⟩
theorem v_X4_134 : kV RX4 134 RX4 yX4_hasReader cX4_hasReader 2 (some .boolean) 1 := ⟨kWs_of 384 (by decide +kernel) rfl, mw_X4_hasReader.2.1, mw_X4_hasReader.2.2.1, mw_X4_hasReader.2.2.2, mw_X4_hasReader.1, rfl, by decide, by decide, by decide +kernel⟩
theorem g_X4_137 : kL RX4 137 RX3 TX3 9 tyX3 3 := ⟨by decide, inK3, tyX3_ok, nmX3, rfl, Or.inr ⟨"RentedMoments", List.mem_of_getElem? (i := 15) (by decide +kernel)⟩⟩
theorem g_X4_140 : kL RX4 140 RX3 TX3 9 tyX3 6 := ⟨by decide, inK3, tyX3_ok, nmX3, rfl, Or.inr ⟨"RentedMoments", List.mem_of_getElem? (i := 23) (by decide +kernel)⟩⟩
theorem g_X4_143 : kL RX4 143 RX0 TX0 3 tyX0 1 := ⟨by decide, inK0, tyX0_ok, nmX0, rfl, Or.inr ⟨"RentedMoments", List.mem_of_getElem? (i := 3) (by decide +kernel)⟩⟩
theorem v_X4_146 : kV RX4 146 RX1 yX1_isInSkewWithLater cX1_isInSkewWithLater 2 (some .boolean) 1 := ⟨kWs_of 432 (by decide +kernel) rfl, mw_X1_isInSkewWithLater.2.1, mw_X1_isInSkewWithLater.2.2.1, mw_X1_isInSkewWithLater.2.2.2, mw_X1_isInSkewWithLater.1, rfl, by decide, by decide, by decide +kernel⟩
theorem g_X4_150 : kL RX4 150 RX1 TX1 6 tyX1 5 := ⟨by decide, inK1, tyX1_ok, nmX1, rfl, Or.inr ⟨"RentedMoments", List.mem_of_getElem? (i := 39) (by decide +kernel)⟩⟩
theorem g_X4_158 : kL RX4 158 RX3 TX3 9 tyX3 5 := ⟨by decide, inK3, tyX3_ok, nmX3, rfl, Or.inr ⟨"RentedMoments", List.mem_of_getElem? (i := 21) (by decide +kernel)⟩⟩
theorem v_X4_161 : kV RX4 161 RX4 yX4_noteCommit cX4_noteCommit 4 none 1 := ⟨kWs_of 445 (by decide +kernel) rfl, mw_X4_noteCommit.2.1, mw_X4_noteCommit.2.2.1, mw_X4_noteCommit.2.2.2, mw_X4_noteCommit.1, rfl, by decide, by decide, by decide +kernel⟩
theorem v_X4_165 : kV RX4 165 RX4 yX4_pushWrites cX4_pushWrites 3 none 1 := ⟨kWs_of 450 (by decide +kernel) rfl, mw_X4_pushWrites.2.1, mw_X4_pushWrites.2.2.1, mw_X4_pushWrites.2.2.2, mw_X4_pushWrites.1, rfl, by decide, by decide, by decide +kernel⟩
theorem g_X4_168 : kL RX4 168 RX1 TX1 6 tyX1 0 := ⟨by decide, inK1, tyX1_ok, nmX1, rfl, Or.inr ⟨"RentedMoments", List.mem_of_getElem? (i := 29) (by decide +kernel)⟩⟩
theorem g_X4_171 : kL RX4 171 RX1 TX1 6 tyX1 1 := ⟨by decide, inK1, tyX1_ok, nmX1, rfl, Or.inr ⟨"RentedMoments", List.mem_of_getElem? (i := 31) (by decide +kernel)⟩⟩
theorem g_X4_174 : kL RX4 174 RX1 TX1 6 tyX1 2 := ⟨by decide, inK1, tyX1_ok, nmX1, rfl, Or.inr ⟨"RentedMoments", List.mem_of_getElem? (i := 33) (by decide +kernel)⟩⟩
theorem g_X4_177 : kL RX4 177 RX1 TX1 6 tyX1 3 := ⟨by decide, inK1, tyX1_ok, nmX1, rfl, Or.inr ⟨"RentedMoments", List.mem_of_getElem? (i := 35) (by decide +kernel)⟩⟩
theorem g_X4_178 : kL RX4 178 RX3 TX3 9 tyX3 4 := ⟨by decide, inK3, tyX3_ok, nmX3, rfl, Or.inr ⟨"RentedMoments", List.mem_of_getElem? (i := 18) (by decide +kernel)⟩⟩
theorem g_X4_181 : kL RX4 181 RX1 TX1 6 tyX1 4 := ⟨by decide, inK1, tyX1_ok, nmX1, rfl, Or.inr ⟨"RentedMoments", List.mem_of_getElem? (i := 37) (by decide +kernel)⟩⟩
theorem v_X4_182 : kV RX4 182 RX4 yX4_skewsOf cX4_skewsOf 4 (some .int) 1 := ⟨kWs_of 449 (by decide +kernel) rfl, mw_X4_skewsOf.2.1, mw_X4_skewsOf.2.2.1, mw_X4_skewsOf.2.2.2, mw_X4_skewsOf.1, rfl, by decide, by decide, by decide +kernel⟩
theorem g_X4_185 : kL RX4 185 RX3 TX3 9 tyX3 0 := ⟨by decide, inK3, tyX3_ok, nmX3, rfl, Or.inr ⟨"RentedMoments", List.mem_of_getElem? (i := 8) (by decide +kernel)⟩⟩
theorem v_X4_188 : kV RX4 188 RX0 yX0_push cX0_push 3 none 2 := ⟨kWs_of 454 (by decide +kernel) rfl, mw_X0_push.2.1, mw_X0_push.2.2.1, mw_X0_push.2.2.2, mw_X0_push.1, rfl, by decide, by decide, by decide +kernel⟩
theorem g_X5_9 : kL RX5 9 RX5 TX5 5 tyX5 0 := ⟨by decide, inK5, tyX5_ok, nmX5, rfl, Or.inl (kWs_of 209 (by decide +kernel) rfl)⟩
theorem g_X5_15 : kL RX5 15 RX5 TX5 5 tyX5 2 := ⟨by decide, inK5, tyX5_ok, nmX5, rfl, Or.inl (kWs_of 212 (by decide +kernel) rfl)⟩
theorem g_X5_19 : kL RX5 19 RX5 TX5 5 tyX5 3 := ⟨by decide, inK5, tyX5_ok, nmX5, rfl, Or.inl (kWs_of 214 (by decide +kernel) rfl)⟩
theorem g_X5_22 : kL RX5 22 RX5 TX5 5 tyX5 1 := ⟨by decide, inK5, tyX5_ok, nmX5, rfl, Or.inl (kWs_of 210 (by decide +kernel) rfl)⟩
theorem g_X5_26 : kL RX5 26 RX5 TX5 5 tyX5 4 := ⟨by decide, inK5, tyX5_ok, nmX5, rfl, Or.inl (kWs_of 216 (by decide +kernel) rfl)⟩
theorem v_X5_29 : kV RX5 29 RX5 yX5_endOfNumber cX5_endOfNumber 5 (some .int) 2 := ⟨kWs_of 478 (by decide +kernel) rfl, mw_X5_endOfNumber.2.1, mw_X5_endOfNumber.2.2.1, mw_X5_endOfNumber.2.2.2, mw_X5_endOfNumber.1, rfl, by decide, by decide, by decide +kernel⟩
theorem v_X5_33 : kV RX5 33 RX5 yX5_isSign cX5_isSign 3 (some .boolean) 2 := ⟨kWs_of 482 (by decide +kernel) rfl, mw_X5_isSign.2.1, mw_X5_isSign.2.2.1, mw_X5_isSign.2.2.2, mw_X5_isSign.1, rfl, by decide, by decide, by decide +kernel⟩
theorem v_X5_37 : kV RX5 37 RX5 yX5_number cX5_number 5 (some .int) 2 := ⟨kWs_of 490 (by decide +kernel) rfl, mw_X5_number.2.1, mw_X5_number.2.2.1, mw_X5_number.2.2.2, mw_X5_number.1, rfl, by decide, by decide, by decide +kernel⟩
theorem v_X5_45 : kV RX5 45 RX5 yX5_isDigit cX5_isDigit 2 (some .boolean) 1 := ⟨kWs_of 486 (by decide +kernel) rfl, mw_X5_isDigit.2.1, mw_X5_isDigit.2.2.1, mw_X5_isDigit.2.2.2, mw_X5_isDigit.1, rfl, by decide, by decide, by decide +kernel⟩
theorem v_L_13 : kV RL 13 RX6 yX6_open cX6_open 2 (some .int) 1 := ⟨kWs_of 249 (by decide +kernel) rfl, mw_X6_open.2.1, mw_X6_open.2.2.1, mw_X6_open.2.2.2, mw_X6_open.1, rfl, by decide, by decide, by decide +kernel⟩
theorem v_L_17 : kV RL 17 RX7 yX7_open cX7_open 4 (some .int) 1 := ⟨kWs_of 640 (by decide +kernel) rfl, mw_X7_open.2.1, mw_X7_open.2.2.1, mw_X7_open.2.2.2, mw_X7_open.1, rfl, by decide, by decide, by decide +kernel⟩
theorem v_L_18 : kV RL 18 RX6 yX6_pay cX6_pay 4 (some .int) 2 := ⟨kWs_of 293 (by decide +kernel) rfl, mw_X6_pay.2.1, mw_X6_pay.2.2.1, mw_X6_pay.2.2.2, mw_X6_pay.1, rfl, by decide, by decide, by decide +kernel⟩
theorem v_L_22 : kV RL 22 RX7 yX7_pay cX7_pay 4 (some .int) 2 := ⟨kWs_of 659 (by decide +kernel) rfl, mw_X7_pay.2.1, mw_X7_pay.2.2.1, mw_X7_pay.2.2.2, mw_X7_pay.1, rfl, by decide, by decide, by decide +kernel⟩
theorem v_L_23 : kV RL 23 RX6 yX6_widow cX6_widow 5 (some .int) 2 := ⟨kWs_of 305 (by decide +kernel) rfl, mw_X6_widow.2.1, mw_X6_widow.2.2.1, mw_X6_widow.2.2.2, mw_X6_widow.1, rfl, by decide, by decide, by decide +kernel⟩
theorem v_L_26 : kV RL 26 RX7 yX7_widow cX7_widow 4 (some .int) 2 := ⟨kWs_of 671 (by decide +kernel) rfl, mw_X7_widow.2.1, mw_X7_widow.2.2.1, mw_X7_widow.2.2.2, mw_X7_widow.1, rfl, by decide, by decide, by decide +kernel⟩
theorem v_L_27 : kV RL 27 RX6 yX6_close cX6_close 3 (some .int) 1 := ⟨kWs_of 329 (by decide +kernel) rfl, mw_X6_close.2.1, mw_X6_close.2.2.1, mw_X6_close.2.2.2, mw_X6_close.1, rfl, by decide, by decide, by decide +kernel⟩
theorem v_L_30 : kV RL 30 RX7 yX7_close cX7_close 2 (some .int) 1 := ⟨kWs_of 711 (by decide +kernel) rfl, mw_X7_close.2.1, mw_X7_close.2.2.1, mw_X7_close.2.2.2, mw_X7_close.1, rfl, by decide, by decide, by decide +kernel⟩
theorem v_L_31 : kV RL 31 RX6 yX6_setRent cX6_setRent 3 (some .int) 1 := ⟨kWs_of 346 (by decide +kernel) rfl, mw_X6_setRent.2.1, mw_X6_setRent.2.2.1, mw_X6_setRent.2.2.2, mw_X6_setRent.1, rfl, by decide, by decide, by decide +kernel⟩
theorem v_L_34 : kV RL 34 RX7 yX7_setRent cX7_setRent 3 (some .int) 1 := ⟨kWs_of 719 (by decide +kernel) rfl, mw_X7_setRent.2.1, mw_X7_setRent.2.2.1, mw_X7_setRent.2.2.2, mw_X7_setRent.1, rfl, by decide, by decide, by decide +kernel⟩
theorem v_L_35 : kV RL 35 RX6 yX6_forbidSkew cX6_forbidSkew 2 (some .int) 1 := ⟨kWs_of 350 (by decide +kernel) rfl, mw_X6_forbidSkew.2.1, mw_X6_forbidSkew.2.2.1, mw_X6_forbidSkew.2.2.2, mw_X6_forbidSkew.1, rfl, by decide, by decide, by decide +kernel⟩
theorem v_L_39 : kV RL 39 RX7 yX7_forbidSkew cX7_forbidSkew 3 (some .int) 1 := ⟨kWs_of 723 (by decide +kernel) rfl, mw_X7_forbidSkew.2.1, mw_X7_forbidSkew.2.2.1, mw_X7_forbidSkew.2.2.2, mw_X7_forbidSkew.1, rfl, by decide, by decide, by decide +kernel⟩
theorem v_L_40 : kV RL 40 RX6 yX6_tick cX6_tick 3 (some .int) 1 := ⟨kWs_of 358 (by decide +kernel) rfl, mw_X6_tick.2.1, mw_X6_tick.2.2.1, mw_X6_tick.2.2.2, mw_X6_tick.1, rfl, by decide, by decide, by decide +kernel⟩
theorem v_L_43 : kV RL 43 RX7 yX7_tick cX7_tick 4 (some .int) 1 := ⟨kWs_of 742 (by decide +kernel) rfl, mw_X7_tick.2.1, mw_X7_tick.2.2.1, mw_X7_tick.2.2.2, mw_X7_tick.1, rfl, by decide, by decide, by decide +kernel⟩
theorem v_L_44 : kV RL 44 RX6 yX6_read cX6_read 4 (some .int) 2 := ⟨kWs_of 385 (by decide +kernel) rfl, mw_X6_read.2.1, mw_X6_read.2.2.1, mw_X6_read.2.2.2, mw_X6_read.1, rfl, by decide, by decide, by decide +kernel⟩
theorem v_L_47 : kV RL 47 RX7 yX7_read cX7_read 3 (some .int) 2 := ⟨kWs_of 754 (by decide +kernel) rfl, mw_X7_read.2.1, mw_X7_read.2.2.1, mw_X7_read.2.2.2, mw_X7_read.1, rfl, by decide, by decide, by decide +kernel⟩
theorem v_L_48 : kV RL 48 RX6 yX6_write cX6_write 5 (some .int) 3 := ⟨kWs_of 401 (by decide +kernel) rfl, mw_X6_write.2.1, mw_X6_write.2.2.1, mw_X6_write.2.2.2, mw_X6_write.1, rfl, by decide, by decide, by decide +kernel⟩
theorem v_L_52 : kV RL 52 RX7 yX7_write cX7_write 4 (some .int) 3 := ⟨kWs_of 764 (by decide +kernel) rfl, mw_X7_write.2.1, mw_X7_write.2.2.1, mw_X7_write.2.2.2, mw_X7_write.1, rfl, by decide, by decide, by decide +kernel⟩
theorem v_L_53 : kV RL 53 RX6 yX6_commit cX6_commit 3 (some .int) 1 := ⟨kWs_of 419 (by decide +kernel) rfl, mw_X6_commit.2.1, mw_X6_commit.2.2.1, mw_X6_commit.2.2.2, mw_X6_commit.1, rfl, by decide, by decide, by decide +kernel⟩
theorem v_L_56 : kV RL 56 RX7 yX7_commit cX7_commit 2 (some .int) 1 := ⟨kWs_of 775 (by decide +kernel) rfl, mw_X7_commit.2.1, mw_X7_commit.2.2.1, mw_X7_commit.2.2.2, mw_X7_commit.1, rfl, by decide, by decide, by decide +kernel⟩
theorem v_L_57 : kV RL 57 RX6 yX6_type cX6_type 2 (some .int) 1 := ⟨kWs_of 458 (by decide +kernel) rfl, mw_X6_type.2.1, mw_X6_type.2.2.1, mw_X6_type.2.2.2, mw_X6_type.1, rfl, by decide, by decide, by decide +kernel⟩
theorem v_L_61 : kV RL 61 RX7 yX7_type cX7_type 2 (some .int) 1 := ⟨kWs_of 799 (by decide +kernel) rfl, mw_X7_type.2.1, mw_X7_type.2.2.1, mw_X7_type.2.2.2, mw_X7_type.1, rfl, by decide, by decide, by decide +kernel⟩
theorem v_L_62 : kV RL 62 RX6 yX6_clearText cX6_clearText 2 (some .int) 0 := ⟨kWs_of 466 (by decide +kernel) rfl, mw_X6_clearText.2.1, mw_X6_clearText.2.2.1, mw_X6_clearText.2.2.2, mw_X6_clearText.1, rfl, by decide, by decide, by decide +kernel⟩
theorem v_L_66 : kV RL 66 RX7 yX7_clearText cX7_clearText 2 (some .int) 0 := ⟨kWs_of 803 (by decide +kernel) rfl, mw_X7_clearText.2.1, mw_X7_clearText.2.2.1, mw_X7_clearText.2.2.2, mw_X7_clearText.1, rfl, by decide, by decide, by decide +kernel⟩
theorem v_L_67 : kV RL 67 RX6 yX6_readWrites cX6_readWrites 5 (some .int) 1 := ⟨kWs_of 470 (by decide +kernel) rfl, mw_X6_readWrites.2.1, mw_X6_readWrites.2.2.1, mw_X6_readWrites.2.2.2, mw_X6_readWrites.1, rfl, by decide, by decide, by decide +kernel⟩
theorem v_L_70 : kV RL 70 RX7 yX7_readWrites cX7_readWrites 4 (some .int) 1 := ⟨kWs_of 807 (by decide +kernel) rfl, mw_X7_readWrites.2.1, mw_X7_readWrites.2.2.1, mw_X7_readWrites.2.2.2, mw_X7_readWrites.1, rfl, by decide, by decide, by decide +kernel⟩
theorem v_L_71 : kV RL 71 RX6 yX6_undo cX6_undo 1 (some .int) 0 := ⟨kWs_of 501 (by decide +kernel) rfl, mw_X6_undo.2.1, mw_X6_undo.2.2.1, mw_X6_undo.2.2.2, mw_X6_undo.1, rfl, by decide, by decide, by decide +kernel⟩
theorem v_L_74 : kV RL 74 RX7 yX7_undo cX7_undo 1 (some .int) 0 := ⟨kWs_of 616 (by decide +kernel) rfl, mw_X7_undo.2.1, mw_X7_undo.2.2.1, mw_X7_undo.2.2.2, mw_X7_undo.1, rfl, by decide, by decide, by decide +kernel⟩
theorem v_L_75 : kV RL 75 RX6 yX6_keep cX6_keep 1 (some .int) 0 := ⟨kWs_of 509 (by decide +kernel) rfl, mw_X6_keep.2.1, mw_X6_keep.2.2.1, mw_X6_keep.2.2.2, mw_X6_keep.1, rfl, by decide, by decide, by decide +kernel⟩
theorem v_L_78 : kV RL 78 RX7 yX7_keep cX7_keep 1 (some .int) 0 := ⟨kWs_of 624 (by decide +kernel) rfl, mw_X7_keep.2.1, mw_X7_keep.2.2.1, mw_X7_keep.2.2.2, mw_X7_keep.1, rfl, by decide, by decide, by decide +kernel⟩
theorem v_L_79 : kV RL 79 RX6 yX6_restore cX6_restore 1 (some .int) 0 := ⟨kWs_of 514 (by decide +kernel) rfl, mw_X6_restore.2.1, mw_X6_restore.2.2.1, mw_X6_restore.2.2.2, mw_X6_restore.1, rfl, by decide, by decide, by decide +kernel⟩
theorem v_L_82 : kV RL 82 RX7 yX7_restore cX7_restore 1 (some .int) 0 := ⟨kWs_of 632 (by decide +kernel) rfl, mw_X7_restore.2.1, mw_X7_restore.2.2.1, mw_X7_restore.2.2.2, mw_X7_restore.1, rfl, by decide, by decide, by decide +kernel⟩
theorem v_L_83 : kV RL 83 RX6 yX6_cell cX6_cell 4 (some .int) 2 := ⟨kWs_of 518 (by decide +kernel) rfl, mw_X6_cell.2.1, mw_X6_cell.2.2.1, mw_X6_cell.2.2.2, mw_X6_cell.1, rfl, by decide, by decide, by decide +kernel⟩
theorem v_L_86 : kV RL 86 RX7 yX7_cell cX7_cell 3 (some .int) 2 := ⟨kWs_of 831 (by decide +kernel) rfl, mw_X7_cell.2.1, mw_X7_cell.2.2.1, mw_X7_cell.2.2.2, mw_X7_cell.1, rfl, by decide, by decide, by decide +kernel⟩
theorem v_L_87 : kV RL 87 RX6 yX6_version cX6_version 5 (some .int) 3 := ⟨kWs_of 530 (by decide +kernel) rfl, mw_X6_version.2.1, mw_X6_version.2.2.1, mw_X6_version.2.2.2, mw_X6_version.1, rfl, by decide, by decide, by decide +kernel⟩
theorem v_L_90 : kV RL 90 RX7 yX7_version cX7_version 6 (some .int) 3 := ⟨kWs_of 843 (by decide +kernel) rfl, mw_X7_version.2.1, mw_X7_version.2.2.1, mw_X7_version.2.2.2, mw_X7_version.1, rfl, by decide, by decide, by decide +kernel⟩
theorem v_L_91 : kV RL 91 RX6 yX6_reader cX6_reader 4 (some .int) 2 := ⟨kWs_of 536 (by decide +kernel) rfl, mw_X6_reader.2.1, mw_X6_reader.2.2.1, mw_X6_reader.2.2.2, mw_X6_reader.1, rfl, by decide, by decide, by decide +kernel⟩
theorem v_L_94 : kV RL 94 RX7 yX7_reader cX7_reader 3 (some .int) 2 := ⟨kWs_of 847 (by decide +kernel) rfl, mw_X7_reader.2.1, mw_X7_reader.2.2.1, mw_X7_reader.2.2.2, mw_X7_reader.1, rfl, by decide, by decide, by decide +kernel⟩
theorem v_L_95 : kV RL 95 RX6 yX6_lasts cX6_lasts 2 (some .int) 1 := ⟨kWs_of 549 (by decide +kernel) rfl, mw_X6_lasts.2.1, mw_X6_lasts.2.2.1, mw_X6_lasts.2.2.2, mw_X6_lasts.1, rfl, by decide, by decide, by decide +kernel⟩
theorem v_L_98 : kV RL 98 RX7 yX7_lasts cX7_lasts 3 (some .int) 1 := ⟨kWs_of 750 (by decide +kernel) rfl, mw_X7_lasts.2.1, mw_X7_lasts.2.2.1, mw_X7_lasts.2.2.2, mw_X7_lasts.1, rfl, by decide, by decide, by decide +kernel⟩
theorem v_L_99 : kV RL 99 RX6 yX6_committed cX6_committed 4 (some .int) 2 := ⟨kWs_of 553 (by decide +kernel) rfl, mw_X6_committed.2.1, mw_X6_committed.2.2.1, mw_X6_committed.2.2.2, mw_X6_committed.1, rfl, by decide, by decide, by decide +kernel⟩
theorem v_L_102 : kV RL 102 RX7 yX7_committed cX7_committed 3 (some .int) 2 := ⟨kWs_of 855 (by decide +kernel) rfl, mw_X7_committed.2.1, mw_X7_committed.2.2.1, mw_X7_committed.2.2.2, mw_X7_committed.1, rfl, by decide, by decide, by decide +kernel⟩
theorem v_L_103 : kV RL 103 RX6 yX6_count cX6_count 2 (some .int) 1 := ⟨kWs_of 557 (by decide +kernel) rfl, mw_X6_count.2.1, mw_X6_count.2.2.1, mw_X6_count.2.2.2, mw_X6_count.1, rfl, by decide, by decide, by decide +kernel⟩
theorem v_L_106 : kV RL 106 RX7 yX7_count cX7_count 2 (some .int) 1 := ⟨kWs_of 859 (by decide +kernel) rfl, mw_X7_count.2.1, mw_X7_count.2.2.1, mw_X7_count.2.2.2, mw_X7_count.1, rfl, by decide, by decide, by decide +kernel⟩
end
section
/-! More rows: comparisons of counters, locals in order, sums. -/
section KM
variable {p : Program} {l : Launch} {e : Env} {R : Room} {s : State} {m : MethodId} {args : Array Value} {below : List Frame} {meth : Method} {c : Code} {H : Heap} {locs : List Loc} {cells slots : Nat} {Q : State → Prop}
variable {cc : ByteArray} {pc : Nat} {ls : Array Slot} {rest : List Value} {D : va_G} {τ : Nat → ClassId} {ad : Nat → Nat} {G : Nat → Nat → Int32} {own : String} {nL : Nat}
theorem kic_ge {a b : Nat} {x y : Int32} {off : Int} {tgt : Nat} (hx : p.tables.exec = Jvm.exec) (hb : c.code = cc) (hdg : decode cc pc = .ok (.if_icmp .ge off, 3)) (ht : (pc : Int) + off = (tgt : Int)) (h1 : x = nI a) (h2 : y = nI b) (ha : a < 2 ^ 31) (hb2 : b < 2 ^ 31)
    (k1 : b ≤ a → W p l e R s m args below meth c H locs cells slots Q (F0 m tgt ls rest)) (k2 : a < b → W p l e R s m args below meth c H locs cells slots Q (F0 m (pc + 3) ls rest)) : W p l e R s m args below meth c H locs cells slots Q (F0 m pc ls (.int y :: .int x :: rest)) := by
  subst h1; subst h2
  refine lv_icmp_ge (tgt := tgt) hx hb hdg ht (fun h => k1 ((nI_leI hb2 ha).mp h)) (fun h => k2 (by have q : ¬ b ≤ a := fun z => h ((nI_leI hb2 ha).mpr z); omega))
theorem kic_lt {a b : Nat} {x y : Int32} {off : Int} {tgt : Nat} (hx : p.tables.exec = Jvm.exec) (hb : c.code = cc) (hdg : decode cc pc = .ok (.if_icmp .lt off, 3)) (ht : (pc : Int) + off = (tgt : Int)) (h1 : x = nI a) (h2 : y = nI b) (ha : a < 2 ^ 31) (hb2 : b < 2 ^ 31)
    (k1 : a < b → W p l e R s m args below meth c H locs cells slots Q (F0 m tgt ls rest)) (k2 : b ≤ a → W p l e R s m args below meth c H locs cells slots Q (F0 m (pc + 3) ls rest)) : W p l e R s m args below meth c H locs cells slots Q (F0 m pc ls (.int y :: .int x :: rest)) := by
  subst h1; subst h2
  refine lv_icmp_lt (tgt := tgt) hx hb hdg ht (fun h => k1 ((nI_ltI ha hb2).mp h)) (fun h => k2 (by have q : ¬ a < b := fun z => h ((nI_ltI ha hb2).mpr z); omega))
theorem kic_gt {a b : Nat} {x y : Int32} {off : Int} {tgt : Nat} (hx : p.tables.exec = Jvm.exec) (hb : c.code = cc) (hdg : decode cc pc = .ok (.if_icmp .gt off, 3)) (ht : (pc : Int) + off = (tgt : Int)) (h1 : x = nI a) (h2 : y = nI b) (ha : a < 2 ^ 31) (hb2 : b < 2 ^ 31)
    (k1 : b < a → W p l e R s m args below meth c H locs cells slots Q (F0 m tgt ls rest)) (k2 : a ≤ b → W p l e R s m args below meth c H locs cells slots Q (F0 m (pc + 3) ls rest)) : W p l e R s m args below meth c H locs cells slots Q (F0 m pc ls (.int y :: .int x :: rest)) := by
  subst h1; subst h2
  refine lv_icmp_gt (tgt := tgt) hx hb hdg ht (fun h => k1 ((nI_ltI hb2 ha).mp h)) (fun h => k2 (by have q : ¬ b < a := fun z => h ((nI_ltI hb2 ha).mpr z); omega))
theorem kic_le {a b : Nat} {x y : Int32} {off : Int} {tgt : Nat} (hx : p.tables.exec = Jvm.exec) (hb : c.code = cc) (hdg : decode cc pc = .ok (.if_icmp .le off, 3)) (ht : (pc : Int) + off = (tgt : Int)) (h1 : x = nI a) (h2 : y = nI b) (ha : a < 2 ^ 31) (hb2 : b < 2 ^ 31)
    (k1 : a ≤ b → W p l e R s m args below meth c H locs cells slots Q (F0 m tgt ls rest)) (k2 : b < a → W p l e R s m args below meth c H locs cells slots Q (F0 m (pc + 3) ls rest)) : W p l e R s m args below meth c H locs cells slots Q (F0 m pc ls (.int y :: .int x :: rest)) := by
  subst h1; subst h2
  refine lv_icmp_le (tgt := tgt) hx hb hdg ht (fun h => k1 ((nI_leI ha hb2).mp h)) (fun h => k2 (by have q : ¬ a ≤ b := fun z => h ((nI_leI ha hb2).mpr z); omega))
theorem kic_eq {a b : Nat} {x y : Int32} {off : Int} {tgt : Nat} (hx : p.tables.exec = Jvm.exec) (hb : c.code = cc) (hdg : decode cc pc = .ok (.if_icmp .eq off, 3)) (ht : (pc : Int) + off = (tgt : Int)) (h1 : x = nI a) (h2 : y = nI b) (ha : a < 2 ^ 31) (hb2 : b < 2 ^ 31)
    (k1 : a = b → W p l e R s m args below meth c H locs cells slots Q (F0 m tgt ls rest)) (k2 : a ≠ b → W p l e R s m args below meth c H locs cells slots Q (F0 m (pc + 3) ls rest)) : W p l e R s m args below meth c H locs cells slots Q (F0 m pc ls (.int y :: .int x :: rest)) := by
  subst h1; subst h2
  refine lv_icmp_eq (tgt := tgt) hx hb hdg ht (fun h => k1 ((nI_eq ha hb2).mp h)) (fun h => k2 (fun z => h ((nI_eq ha hb2).mpr z)))
theorem kic_ne {a b : Nat} {x y : Int32} {off : Int} {tgt : Nat} (hx : p.tables.exec = Jvm.exec) (hb : c.code = cc) (hdg : decode cc pc = .ok (.if_icmp .ne off, 3)) (ht : (pc : Int) + off = (tgt : Int)) (h1 : x = nI a) (h2 : y = nI b) (ha : a < 2 ^ 31) (hb2 : b < 2 ^ 31)
    (k1 : a ≠ b → W p l e R s m args below meth c H locs cells slots Q (F0 m tgt ls rest)) (k2 : a = b → W p l e R s m args below meth c H locs cells slots Q (F0 m (pc + 3) ls rest)) : W p l e R s m args below meth c H locs cells slots Q (F0 m pc ls (.int y :: .int x :: rest)) := by
  subst h1; subst h2
  refine lv_icmp_ne (tgt := tgt) hx hb hdg ht (fun h => k1 (fun z => h ((nI_eq ha hb2).mpr z))) (fun h => k2 ((nI_eq ha hb2).mp h))
theorem ksub {a b : Nat} {x y : Int32} (hx : p.tables.exec = Jvm.exec) (hb : c.code = cc) (hdg : decode cc pc = .ok (.isub, 1)) (h1 : x = nI a) (h2 : y = nI b) (hle : b ≤ a) (kk : W p l e R s m args below meth c H locs cells slots Q (F0 m (pc + 1) ls (.int (nI (a - b)) :: rest))) : W p l e R s m args below meth c H locs cells slots Q (F0 m pc ls (.int y :: .int x :: rest)) := by
  subst h1; subst h2
  refine lv_isub hx hb hdg ?_
  rw [pk_sub hle]
  exact kk
theorem kincD {i n q : Nat} {z : Int} {x : Int32} {lv lv' : List (Nat × Value)} (hx : p.tables.exec = Jvm.exec) (hb : c.code = cc) (hdg : decode cc pc = .ok (.iinc i z, 3)) (h : lv_has ls n lv) (hk : lv[q]? = some (i, .int x)) (hn : i < n) (hs : ∀ ls' : Array Slot, lv_has ls' n ((i, Value.int (x + Int32.ofInt z)) :: lv.filter (fun q => !(q.1 == i) && !(q.1 + 1 == i && q.2.category == 2))) → lv_has ls' n lv')
    (kk : ∀ ls' : Array Slot, lv_has ls' n lv' → W p l e R s m args below meth c H locs cells slots Q (F0 m (pc + 3) ls' rest)) : W p l e R s m args below meth c H locs cells slots Q (F0 m pc ls rest) := lv_iinc (v := x + Int32.ofInt z) hx hb hdg h hk rfl hn rfl (fun ls' h' => kk ls' (hs ls' h'))
/-- a call of a static method of another class that answers an int -/
theorem kcS2 (X : kC p s m c cc nL args own D τ) (hP : va_P D vwCl (kW τ ad G) H) (hS : va_S (kAd ad) s.heap H locs) {y : MethodName} {bytes : ByteArray} {maxL n index : Nat} {ret : Option FieldType} {rm : Room} {As st : List Value} {R1 : Int32 → (Nat → Nat → Int32) → Prop}
    (hM : kM l y bytes maxL ret rm D τ ad As G R1) (hw : Cond.methodLink own index y ∈ kWs ∧ Cond.static y ∈ kWs ∧ Cond.initialized y.cls ∈ kWs ∧ Cond.code y bytes maxL ret ∈ kWs ∧ (y.cls ≠ "java/lang/invoke/MethodHandle" ∧ y.cls ≠ "java/lang/invoke/VarHandle" ∧ (parseMethodDescriptor y.desc).map (fun d => d.parameters.length) = some n)) (hR : kF rm R maxL) (hn : As.length = n) (hst : st = As.reverse ++ rest) (hcat : (rest.map fun v => v.category).sum ≤ 8) (hls : ls.size = nL) (hf : cells ≤ R.cells ∧ slots ≤ R.slots) (hdg : decode cc pc = .ok (.invokestatic index, 3))
    (kk : ∀ (r : Int32) (G1 : Nat → Nat → Int32) (H1 : Heap) (locs1 : List Loc), R1 r G1 → va_P D vwCl (kW τ ad G1) H1 → va_S (kAd ad) s.heap H1 locs1 → W p l e R s m args below meth c H1 locs1 cells slots Q (F0 m (pc + 3) ls (.int r :: rest))) : W p l e R s m args below meth c H locs cells slots Q (F0 m pc ls st) := by
  obtain ⟨hx, hb, hml, hown, hts, hK, hnw⟩ := X
  obtain ⟨w1, w2, w4, w5, wy⟩ := hw
  obtain ⟨r1, r2, r3, r4⟩ := hR
  subst hst
  refine va_calli (va_runS (As := As) (rest := rest) ⟨hx, hb, hml, hown, hts⟩ hM ⟨callB_of n hts (ws_G w5) rfl r3 r4 (hts _ w4) (hts _ w1) wy ⟨r1, r2⟩, hts _ w2⟩ ⟨kI_blind, fun U hU hW => ⟨rfl, kI_at hP hK hnw hU hW⟩⟩ rfl hn hls rfl (lv_room hcat) hdg hf) hS (fun q _ h => h) (fun q h => h) (fun r u t H1 locs1 ht hvm hp hB hz hk1 hS1 => ?_)
  obtain ⟨b1, b2, b3⟩ := hB
  rw [ht] at b1
  exact kk r u H1 locs1 hp b1 hS1
theorem kmax (X : kC p s m c cc nL args own D τ) {index : Nat} (hw : Cond.methodLink own index Lib.Math.max.name ∈ kWs ∧ Cond.static Lib.Math.max.name ∈ kWs ∧ Cond.initialized "java/lang/Math" ∈ kWs ∧ Cond.code Lib.Math.max.name Lib.Math.max.code 2 (some .int) ∈ kWs) (hR : 1 ≤ R.frames ∧ 30 ≤ R.locals) (hcat : (rest.map fun v => v.category).sum ≤ 8) (hls : ls.size = nL) (hf : cells ≤ R.cells ∧ slots ≤ R.slots) {x y : Int32} (hdg : decode cc pc = .ok (.invokestatic index, 3))
    (kk : W p l e R s m args below meth c H locs cells slots Q (F0 m (pc + 3) ls (.int (if x < y then y else x) :: rest))) : W p l e R s m args below meth c H locs cells slots Q (F0 m pc ls (.int y :: .int x :: rest)) := by
  obtain ⟨hx, hb, hml, hown, hts, hK, hnw⟩ := X
  exact va_mmax hx hb (hml.trans hls.symm) hown (hts _ hw.1) (hts _ hw.2.1) (hts _ hw.2.2.1) (hts _ hw.2.2.2) hR.1 (by omega) hf.1 hf.2 hdg kk
/-- System.arraycopy of ints, of one row into another or within one -/
def cpy (f g : Nat → Int32) (sp dp n : Nat) : Nat → Int32 := fun k => if dp ≤ k ∧ k < dp + n then f (sp + (k - dp)) else g k
def gc (G : Nat → Nat → Int32) (k0 k1 sp dp n : Nat) : Nat → Nat → Int32 := fun k => if k = k1 then cpy (G k0) (G k1) sp dp n else G k
def kCp (own : String) (index : Nat) : Prop := Cond.methodLink own index arraycopyName ∈ kWs ∧ Cond.native arraycopyName ∈ kWs ∧ Cond.static arraycopyName ∈ kWs ∧ Cond.initialized "java/lang/System" ∈ kWs
theorem kcopy (X : kC p s m c cc nL args own D τ) (hI : kInj ad) (hP : va_P D vwCl (kW τ ad G) H) (hS : va_S (kAd ad) s.heap H locs) {k0 k1 n0 n1 sp dp n index : Nat} (ha0 : kAr τ ad k0 0 .int n0) (ha1 : kAr τ ad k1 0 .int n1) (hw : kCp own index) (h1 : sp + n ≤ n0) (h2 : dp + n ≤ n1) (hR : 1 ≤ R.frames ∧ 40 ≤ R.locals) (hcat : (rest.map fun v => v.category).sum ≤ 8) (hls : ls.size = nL) (hdg : decode cc pc = .ok (.invokestatic index, 3))
    (kk : ∀ (H1 : Heap) (locs1 : List Loc), va_P D vwCl (kW τ ad (gc G k0 k1 sp dp n)) H1 → va_S (kAd ad) s.heap H1 locs1 → W p l e R s m args below meth c H1 locs1 cells slots Q (F0 m (pc + 3) ls rest)) : W p l e R s m args below meth c H locs cells slots Q (F0 m pc ls (.int (nI n) :: .int (nI dp) :: .ref (ad k1) :: .int (nI sp) :: .ref (ad k0) :: rest)) := by
  obtain ⟨hx, hb, hml, hown, hts, hK, hnw⟩ := X
  obtain ⟨hk0, hn0, c0, ht0, hE0⟩ := ha0
  obtain ⟨hk1, hn1, c1, ht1, hE1⟩ := ha1
  have e1 : (nI sp).toNatClampNeg = sp := nI_clamp (by omega)
  have e2 : (nI dp).toNatClampNeg = dp := nI_clamp (by omega)
  have e3 : (nI n).toNatClampNeg = n := nI_clamp (by omega)
  have p1 : ¬ nI sp < 0 := nI_pos (by omega)
  have p2 : ¬ nI dp < 0 := nI_pos (by omega)
  have p3 : ¬ nI n < 0 := nI_pos (by omega)
  have q1 : (nI sp).toNatClampNeg + (nI n).toNatClampNeg ≤ n0 := by rw [e1, e3]; exact h1
  have q2 : (nI dp).toNatClampNeg + (nI n).toNatClampNeg ≤ n1 := by rw [e2, e3]; exact h2
  have q4 : nativeFrameWords "java/lang/System" "arraycopy" 5 ≤ 20 := by decide
  have q3 : (rest.map fun v => v.category).sum + (nativeFrameWords "java/lang/System" "arraycopy" 5 + 11) ≤ R.locals := by omega
  refine va_copyi hx hb (hml.trans hls.symm) hown (hts _ hw.1) (hts _ hw.2.1) (hts _ hw.2.2.1) (hts _ hw.2.2.2) hK hP (kW_D hI) hS k0 k1 0 0 (ty := .int) ((kW_get hk0).trans (by rw [hE0])) ((kW_get hk1).trans (by rw [hE1])) ht0 ht1 rfl p1 p2 p3 q1 q2 (fun _ _ => rfl) hR.1 q3 hdg (fun H1 locs1 h3 _ h5 => ?_)
  rw [e1, e2, e3] at h3
  have hset := kW_set (τ := τ) (ad := ad) (G := G) (G' := gc G k0 k1 sp dp n) (k := k1) (e := .inl (c1, n1, .inl (va_cpy (G k0) (G k1) sp dp n))) hk1 (by rw [hE1, show gc G k0 k1 sp dp n k1 = va_cpy (G k0) (G k1) sp dp n from by unfold gc; rw [if_pos rfl]; rfl]) (fun i hi => by unfold gc; rw [if_neg hi])
  rw [hset] at h3
  exact kk H1 locs1 h3 h5
end KM
theorem kp_1_0 {n : Nat} {v0 x : Value} : ∀ ls : Array Slot, lv_has ls n ((0, x) :: (([(0, v0)] : List (Nat × Value)).filter (fun q => !(q.1 == 0) && !(q.1 + 1 == 0 && q.2.category == 2)))) → lv_has ls n [(0, x)] := by
  intro ls h'
  rw [show ([(0, v0)] : List (Nat × Value)).filter (fun q => !(q.1 == 0) && !(q.1 + 1 == 0 && q.2.category == 2)) = [] from by simp] at h'
  exact lv_sub h' [0] rfl
theorem kp_1_1 {n : Nat} {v0 x : Value} (h : v0.category = 1) : ∀ ls : Array Slot, lv_has ls n ((1, x) :: (([(0, v0)] : List (Nat × Value)).filter (fun q => !(q.1 == 1) && !(q.1 + 1 == 1 && q.2.category == 2)))) → lv_has ls n [(0, v0), (1, x)] := by
  intro ls h'
  rw [show ([(0, v0)] : List (Nat × Value)).filter (fun q => !(q.1 == 1) && !(q.1 + 1 == 1 && q.2.category == 2)) = [(0, v0)] from by simp [h]] at h'
  exact lv_sub h' [1, 0] rfl
theorem kp_2_0 {n : Nat} {v0 v1 x : Value} : ∀ ls : Array Slot, lv_has ls n ((0, x) :: (([(0, v0), (1, v1)] : List (Nat × Value)).filter (fun q => !(q.1 == 0) && !(q.1 + 1 == 0 && q.2.category == 2)))) → lv_has ls n [(0, x), (1, v1)] := by
  intro ls h'
  rw [show ([(0, v0), (1, v1)] : List (Nat × Value)).filter (fun q => !(q.1 == 0) && !(q.1 + 1 == 0 && q.2.category == 2)) = [(1, v1)] from by simp] at h'
  exact lv_sub h' [0, 1] rfl
theorem kp_2_1 {n : Nat} {v0 v1 x : Value} (h : v0.category = 1) : ∀ ls : Array Slot, lv_has ls n ((1, x) :: (([(0, v0), (1, v1)] : List (Nat × Value)).filter (fun q => !(q.1 == 1) && !(q.1 + 1 == 1 && q.2.category == 2)))) → lv_has ls n [(0, v0), (1, x)] := by
  intro ls h'
  rw [show ([(0, v0), (1, v1)] : List (Nat × Value)).filter (fun q => !(q.1 == 1) && !(q.1 + 1 == 1 && q.2.category == 2)) = [(0, v0)] from by simp [h]] at h'
  exact lv_sub h' [1, 0] rfl
theorem kp_2_2 {n : Nat} {v0 v1 x : Value} (h : v1.category = 1) : ∀ ls : Array Slot, lv_has ls n ((2, x) :: (([(0, v0), (1, v1)] : List (Nat × Value)).filter (fun q => !(q.1 == 2) && !(q.1 + 1 == 2 && q.2.category == 2)))) → lv_has ls n [(0, v0), (1, v1), (2, x)] := by
  intro ls h'
  rw [show ([(0, v0), (1, v1)] : List (Nat × Value)).filter (fun q => !(q.1 == 2) && !(q.1 + 1 == 2 && q.2.category == 2)) = [(0, v0), (1, v1)] from by simp [h]] at h'
  exact lv_sub h' [1, 2, 0] rfl
theorem kp_3_0 {n : Nat} {v0 v1 v2 x : Value} : ∀ ls : Array Slot, lv_has ls n ((0, x) :: (([(0, v0), (1, v1), (2, v2)] : List (Nat × Value)).filter (fun q => !(q.1 == 0) && !(q.1 + 1 == 0 && q.2.category == 2)))) → lv_has ls n [(0, x), (1, v1), (2, v2)] := by
  intro ls h'
  rw [show ([(0, v0), (1, v1), (2, v2)] : List (Nat × Value)).filter (fun q => !(q.1 == 0) && !(q.1 + 1 == 0 && q.2.category == 2)) = [(1, v1), (2, v2)] from by simp] at h'
  exact lv_sub h' [0, 1, 2] rfl
theorem kp_3_1 {n : Nat} {v0 v1 v2 x : Value} (h : v0.category = 1) : ∀ ls : Array Slot, lv_has ls n ((1, x) :: (([(0, v0), (1, v1), (2, v2)] : List (Nat × Value)).filter (fun q => !(q.1 == 1) && !(q.1 + 1 == 1 && q.2.category == 2)))) → lv_has ls n [(0, v0), (1, x), (2, v2)] := by
  intro ls h'
  rw [show ([(0, v0), (1, v1), (2, v2)] : List (Nat × Value)).filter (fun q => !(q.1 == 1) && !(q.1 + 1 == 1 && q.2.category == 2)) = [(0, v0), (2, v2)] from by simp [h]] at h'
  exact lv_sub h' [1, 0, 2] rfl
theorem kp_3_2 {n : Nat} {v0 v1 v2 x : Value} (h : v1.category = 1) : ∀ ls : Array Slot, lv_has ls n ((2, x) :: (([(0, v0), (1, v1), (2, v2)] : List (Nat × Value)).filter (fun q => !(q.1 == 2) && !(q.1 + 1 == 2 && q.2.category == 2)))) → lv_has ls n [(0, v0), (1, v1), (2, x)] := by
  intro ls h'
  rw [show ([(0, v0), (1, v1), (2, v2)] : List (Nat × Value)).filter (fun q => !(q.1 == 2) && !(q.1 + 1 == 2 && q.2.category == 2)) = [(0, v0), (1, v1)] from by simp [h]] at h'
  exact lv_sub h' [1, 2, 0] rfl
theorem kp_3_3 {n : Nat} {v0 v1 v2 x : Value} (h : v2.category = 1) : ∀ ls : Array Slot, lv_has ls n ((3, x) :: (([(0, v0), (1, v1), (2, v2)] : List (Nat × Value)).filter (fun q => !(q.1 == 3) && !(q.1 + 1 == 3 && q.2.category == 2)))) → lv_has ls n [(0, v0), (1, v1), (2, v2), (3, x)] := by
  intro ls h'
  rw [show ([(0, v0), (1, v1), (2, v2)] : List (Nat × Value)).filter (fun q => !(q.1 == 3) && !(q.1 + 1 == 3 && q.2.category == 2)) = [(0, v0), (1, v1), (2, v2)] from by simp [h]] at h'
  exact lv_sub h' [1, 2, 3, 0] rfl
theorem kp_4_0 {n : Nat} {v0 v1 v2 v3 x : Value} : ∀ ls : Array Slot, lv_has ls n ((0, x) :: (([(0, v0), (1, v1), (2, v2), (3, v3)] : List (Nat × Value)).filter (fun q => !(q.1 == 0) && !(q.1 + 1 == 0 && q.2.category == 2)))) → lv_has ls n [(0, x), (1, v1), (2, v2), (3, v3)] := by
  intro ls h'
  rw [show ([(0, v0), (1, v1), (2, v2), (3, v3)] : List (Nat × Value)).filter (fun q => !(q.1 == 0) && !(q.1 + 1 == 0 && q.2.category == 2)) = [(1, v1), (2, v2), (3, v3)] from by simp] at h'
  exact lv_sub h' [0, 1, 2, 3] rfl
theorem kp_4_1 {n : Nat} {v0 v1 v2 v3 x : Value} (h : v0.category = 1) : ∀ ls : Array Slot, lv_has ls n ((1, x) :: (([(0, v0), (1, v1), (2, v2), (3, v3)] : List (Nat × Value)).filter (fun q => !(q.1 == 1) && !(q.1 + 1 == 1 && q.2.category == 2)))) → lv_has ls n [(0, v0), (1, x), (2, v2), (3, v3)] := by
  intro ls h'
  rw [show ([(0, v0), (1, v1), (2, v2), (3, v3)] : List (Nat × Value)).filter (fun q => !(q.1 == 1) && !(q.1 + 1 == 1 && q.2.category == 2)) = [(0, v0), (2, v2), (3, v3)] from by simp [h]] at h'
  exact lv_sub h' [1, 0, 2, 3] rfl
theorem kp_4_2 {n : Nat} {v0 v1 v2 v3 x : Value} (h : v1.category = 1) : ∀ ls : Array Slot, lv_has ls n ((2, x) :: (([(0, v0), (1, v1), (2, v2), (3, v3)] : List (Nat × Value)).filter (fun q => !(q.1 == 2) && !(q.1 + 1 == 2 && q.2.category == 2)))) → lv_has ls n [(0, v0), (1, v1), (2, x), (3, v3)] := by
  intro ls h'
  rw [show ([(0, v0), (1, v1), (2, v2), (3, v3)] : List (Nat × Value)).filter (fun q => !(q.1 == 2) && !(q.1 + 1 == 2 && q.2.category == 2)) = [(0, v0), (1, v1), (3, v3)] from by simp [h]] at h'
  exact lv_sub h' [1, 2, 0, 3] rfl
theorem kp_4_3 {n : Nat} {v0 v1 v2 v3 x : Value} (h : v2.category = 1) : ∀ ls : Array Slot, lv_has ls n ((3, x) :: (([(0, v0), (1, v1), (2, v2), (3, v3)] : List (Nat × Value)).filter (fun q => !(q.1 == 3) && !(q.1 + 1 == 3 && q.2.category == 2)))) → lv_has ls n [(0, v0), (1, v1), (2, v2), (3, x)] := by
  intro ls h'
  rw [show ([(0, v0), (1, v1), (2, v2), (3, v3)] : List (Nat × Value)).filter (fun q => !(q.1 == 3) && !(q.1 + 1 == 3 && q.2.category == 2)) = [(0, v0), (1, v1), (2, v2)] from by simp [h]] at h'
  exact lv_sub h' [1, 2, 3, 0] rfl
theorem kp_4_4 {n : Nat} {v0 v1 v2 v3 x : Value} (h : v3.category = 1) : ∀ ls : Array Slot, lv_has ls n ((4, x) :: (([(0, v0), (1, v1), (2, v2), (3, v3)] : List (Nat × Value)).filter (fun q => !(q.1 == 4) && !(q.1 + 1 == 4 && q.2.category == 2)))) → lv_has ls n [(0, v0), (1, v1), (2, v2), (3, v3), (4, x)] := by
  intro ls h'
  rw [show ([(0, v0), (1, v1), (2, v2), (3, v3)] : List (Nat × Value)).filter (fun q => !(q.1 == 4) && !(q.1 + 1 == 4 && q.2.category == 2)) = [(0, v0), (1, v1), (2, v2), (3, v3)] from by simp [h]] at h'
  exact lv_sub h' [1, 2, 3, 4, 0] rfl
theorem kp_5_0 {n : Nat} {v0 v1 v2 v3 v4 x : Value} : ∀ ls : Array Slot, lv_has ls n ((0, x) :: (([(0, v0), (1, v1), (2, v2), (3, v3), (4, v4)] : List (Nat × Value)).filter (fun q => !(q.1 == 0) && !(q.1 + 1 == 0 && q.2.category == 2)))) → lv_has ls n [(0, x), (1, v1), (2, v2), (3, v3), (4, v4)] := by
  intro ls h'
  rw [show ([(0, v0), (1, v1), (2, v2), (3, v3), (4, v4)] : List (Nat × Value)).filter (fun q => !(q.1 == 0) && !(q.1 + 1 == 0 && q.2.category == 2)) = [(1, v1), (2, v2), (3, v3), (4, v4)] from by simp] at h'
  exact lv_sub h' [0, 1, 2, 3, 4] rfl
theorem kp_5_1 {n : Nat} {v0 v1 v2 v3 v4 x : Value} (h : v0.category = 1) : ∀ ls : Array Slot, lv_has ls n ((1, x) :: (([(0, v0), (1, v1), (2, v2), (3, v3), (4, v4)] : List (Nat × Value)).filter (fun q => !(q.1 == 1) && !(q.1 + 1 == 1 && q.2.category == 2)))) → lv_has ls n [(0, v0), (1, x), (2, v2), (3, v3), (4, v4)] := by
  intro ls h'
  rw [show ([(0, v0), (1, v1), (2, v2), (3, v3), (4, v4)] : List (Nat × Value)).filter (fun q => !(q.1 == 1) && !(q.1 + 1 == 1 && q.2.category == 2)) = [(0, v0), (2, v2), (3, v3), (4, v4)] from by simp [h]] at h'
  exact lv_sub h' [1, 0, 2, 3, 4] rfl
theorem kp_5_2 {n : Nat} {v0 v1 v2 v3 v4 x : Value} (h : v1.category = 1) : ∀ ls : Array Slot, lv_has ls n ((2, x) :: (([(0, v0), (1, v1), (2, v2), (3, v3), (4, v4)] : List (Nat × Value)).filter (fun q => !(q.1 == 2) && !(q.1 + 1 == 2 && q.2.category == 2)))) → lv_has ls n [(0, v0), (1, v1), (2, x), (3, v3), (4, v4)] := by
  intro ls h'
  rw [show ([(0, v0), (1, v1), (2, v2), (3, v3), (4, v4)] : List (Nat × Value)).filter (fun q => !(q.1 == 2) && !(q.1 + 1 == 2 && q.2.category == 2)) = [(0, v0), (1, v1), (3, v3), (4, v4)] from by simp [h]] at h'
  exact lv_sub h' [1, 2, 0, 3, 4] rfl
theorem kp_5_3 {n : Nat} {v0 v1 v2 v3 v4 x : Value} (h : v2.category = 1) : ∀ ls : Array Slot, lv_has ls n ((3, x) :: (([(0, v0), (1, v1), (2, v2), (3, v3), (4, v4)] : List (Nat × Value)).filter (fun q => !(q.1 == 3) && !(q.1 + 1 == 3 && q.2.category == 2)))) → lv_has ls n [(0, v0), (1, v1), (2, v2), (3, x), (4, v4)] := by
  intro ls h'
  rw [show ([(0, v0), (1, v1), (2, v2), (3, v3), (4, v4)] : List (Nat × Value)).filter (fun q => !(q.1 == 3) && !(q.1 + 1 == 3 && q.2.category == 2)) = [(0, v0), (1, v1), (2, v2), (4, v4)] from by simp [h]] at h'
  exact lv_sub h' [1, 2, 3, 0, 4] rfl
theorem kp_5_4 {n : Nat} {v0 v1 v2 v3 v4 x : Value} (h : v3.category = 1) : ∀ ls : Array Slot, lv_has ls n ((4, x) :: (([(0, v0), (1, v1), (2, v2), (3, v3), (4, v4)] : List (Nat × Value)).filter (fun q => !(q.1 == 4) && !(q.1 + 1 == 4 && q.2.category == 2)))) → lv_has ls n [(0, v0), (1, v1), (2, v2), (3, v3), (4, x)] := by
  intro ls h'
  rw [show ([(0, v0), (1, v1), (2, v2), (3, v3), (4, v4)] : List (Nat × Value)).filter (fun q => !(q.1 == 4) && !(q.1 + 1 == 4 && q.2.category == 2)) = [(0, v0), (1, v1), (2, v2), (3, v3)] from by simp [h]] at h'
  exact lv_sub h' [1, 2, 3, 4, 0] rfl
theorem kp_5_5 {n : Nat} {v0 v1 v2 v3 v4 x : Value} (h : v4.category = 1) : ∀ ls : Array Slot, lv_has ls n ((5, x) :: (([(0, v0), (1, v1), (2, v2), (3, v3), (4, v4)] : List (Nat × Value)).filter (fun q => !(q.1 == 5) && !(q.1 + 1 == 5 && q.2.category == 2)))) → lv_has ls n [(0, v0), (1, v1), (2, v2), (3, v3), (4, v4), (5, x)] := by
  intro ls h'
  rw [show ([(0, v0), (1, v1), (2, v2), (3, v3), (4, v4)] : List (Nat × Value)).filter (fun q => !(q.1 == 5) && !(q.1 + 1 == 5 && q.2.category == 2)) = [(0, v0), (1, v1), (2, v2), (3, v3), (4, v4)] from by simp [h]] at h'
  exact lv_sub h' [1, 2, 3, 4, 5, 0] rfl
theorem kp_6_0 {n : Nat} {v0 v1 v2 v3 v4 v5 x : Value} : ∀ ls : Array Slot, lv_has ls n ((0, x) :: (([(0, v0), (1, v1), (2, v2), (3, v3), (4, v4), (5, v5)] : List (Nat × Value)).filter (fun q => !(q.1 == 0) && !(q.1 + 1 == 0 && q.2.category == 2)))) → lv_has ls n [(0, x), (1, v1), (2, v2), (3, v3), (4, v4), (5, v5)] := by
  intro ls h'
  rw [show ([(0, v0), (1, v1), (2, v2), (3, v3), (4, v4), (5, v5)] : List (Nat × Value)).filter (fun q => !(q.1 == 0) && !(q.1 + 1 == 0 && q.2.category == 2)) = [(1, v1), (2, v2), (3, v3), (4, v4), (5, v5)] from by simp] at h'
  exact lv_sub h' [0, 1, 2, 3, 4, 5] rfl
theorem kp_6_1 {n : Nat} {v0 v1 v2 v3 v4 v5 x : Value} (h : v0.category = 1) : ∀ ls : Array Slot, lv_has ls n ((1, x) :: (([(0, v0), (1, v1), (2, v2), (3, v3), (4, v4), (5, v5)] : List (Nat × Value)).filter (fun q => !(q.1 == 1) && !(q.1 + 1 == 1 && q.2.category == 2)))) → lv_has ls n [(0, v0), (1, x), (2, v2), (3, v3), (4, v4), (5, v5)] := by
  intro ls h'
  rw [show ([(0, v0), (1, v1), (2, v2), (3, v3), (4, v4), (5, v5)] : List (Nat × Value)).filter (fun q => !(q.1 == 1) && !(q.1 + 1 == 1 && q.2.category == 2)) = [(0, v0), (2, v2), (3, v3), (4, v4), (5, v5)] from by simp [h]] at h'
  exact lv_sub h' [1, 0, 2, 3, 4, 5] rfl
theorem kp_6_2 {n : Nat} {v0 v1 v2 v3 v4 v5 x : Value} (h : v1.category = 1) : ∀ ls : Array Slot, lv_has ls n ((2, x) :: (([(0, v0), (1, v1), (2, v2), (3, v3), (4, v4), (5, v5)] : List (Nat × Value)).filter (fun q => !(q.1 == 2) && !(q.1 + 1 == 2 && q.2.category == 2)))) → lv_has ls n [(0, v0), (1, v1), (2, x), (3, v3), (4, v4), (5, v5)] := by
  intro ls h'
  rw [show ([(0, v0), (1, v1), (2, v2), (3, v3), (4, v4), (5, v5)] : List (Nat × Value)).filter (fun q => !(q.1 == 2) && !(q.1 + 1 == 2 && q.2.category == 2)) = [(0, v0), (1, v1), (3, v3), (4, v4), (5, v5)] from by simp [h]] at h'
  exact lv_sub h' [1, 2, 0, 3, 4, 5] rfl
theorem kp_6_3 {n : Nat} {v0 v1 v2 v3 v4 v5 x : Value} (h : v2.category = 1) : ∀ ls : Array Slot, lv_has ls n ((3, x) :: (([(0, v0), (1, v1), (2, v2), (3, v3), (4, v4), (5, v5)] : List (Nat × Value)).filter (fun q => !(q.1 == 3) && !(q.1 + 1 == 3 && q.2.category == 2)))) → lv_has ls n [(0, v0), (1, v1), (2, v2), (3, x), (4, v4), (5, v5)] := by
  intro ls h'
  rw [show ([(0, v0), (1, v1), (2, v2), (3, v3), (4, v4), (5, v5)] : List (Nat × Value)).filter (fun q => !(q.1 == 3) && !(q.1 + 1 == 3 && q.2.category == 2)) = [(0, v0), (1, v1), (2, v2), (4, v4), (5, v5)] from by simp [h]] at h'
  exact lv_sub h' [1, 2, 3, 0, 4, 5] rfl
theorem kp_6_4 {n : Nat} {v0 v1 v2 v3 v4 v5 x : Value} (h : v3.category = 1) : ∀ ls : Array Slot, lv_has ls n ((4, x) :: (([(0, v0), (1, v1), (2, v2), (3, v3), (4, v4), (5, v5)] : List (Nat × Value)).filter (fun q => !(q.1 == 4) && !(q.1 + 1 == 4 && q.2.category == 2)))) → lv_has ls n [(0, v0), (1, v1), (2, v2), (3, v3), (4, x), (5, v5)] := by
  intro ls h'
  rw [show ([(0, v0), (1, v1), (2, v2), (3, v3), (4, v4), (5, v5)] : List (Nat × Value)).filter (fun q => !(q.1 == 4) && !(q.1 + 1 == 4 && q.2.category == 2)) = [(0, v0), (1, v1), (2, v2), (3, v3), (5, v5)] from by simp [h]] at h'
  exact lv_sub h' [1, 2, 3, 4, 0, 5] rfl
theorem kp_6_5 {n : Nat} {v0 v1 v2 v3 v4 v5 x : Value} (h : v4.category = 1) : ∀ ls : Array Slot, lv_has ls n ((5, x) :: (([(0, v0), (1, v1), (2, v2), (3, v3), (4, v4), (5, v5)] : List (Nat × Value)).filter (fun q => !(q.1 == 5) && !(q.1 + 1 == 5 && q.2.category == 2)))) → lv_has ls n [(0, v0), (1, v1), (2, v2), (3, v3), (4, v4), (5, x)] := by
  intro ls h'
  rw [show ([(0, v0), (1, v1), (2, v2), (3, v3), (4, v4), (5, v5)] : List (Nat × Value)).filter (fun q => !(q.1 == 5) && !(q.1 + 1 == 5 && q.2.category == 2)) = [(0, v0), (1, v1), (2, v2), (3, v3), (4, v4)] from by simp [h]] at h'
  exact lv_sub h' [1, 2, 3, 4, 5, 0] rfl
theorem kp_6_6 {n : Nat} {v0 v1 v2 v3 v4 v5 x : Value} (h : v5.category = 1) : ∀ ls : Array Slot, lv_has ls n ((6, x) :: (([(0, v0), (1, v1), (2, v2), (3, v3), (4, v4), (5, v5)] : List (Nat × Value)).filter (fun q => !(q.1 == 6) && !(q.1 + 1 == 6 && q.2.category == 2)))) → lv_has ls n [(0, v0), (1, v1), (2, v2), (3, v3), (4, v4), (5, v5), (6, x)] := by
  intro ls h'
  rw [show ([(0, v0), (1, v1), (2, v2), (3, v3), (4, v4), (5, v5)] : List (Nat × Value)).filter (fun q => !(q.1 == 6) && !(q.1 + 1 == 6 && q.2.category == 2)) = [(0, v0), (1, v1), (2, v2), (3, v3), (4, v4), (5, v5)] from by simp [h]] at h'
  exact lv_sub h' [1, 2, 3, 4, 5, 6, 0] rfl
theorem kp_7_0 {n : Nat} {v0 v1 v2 v3 v4 v5 v6 x : Value} : ∀ ls : Array Slot, lv_has ls n ((0, x) :: (([(0, v0), (1, v1), (2, v2), (3, v3), (4, v4), (5, v5), (6, v6)] : List (Nat × Value)).filter (fun q => !(q.1 == 0) && !(q.1 + 1 == 0 && q.2.category == 2)))) → lv_has ls n [(0, x), (1, v1), (2, v2), (3, v3), (4, v4), (5, v5), (6, v6)] := by
  intro ls h'
  rw [show ([(0, v0), (1, v1), (2, v2), (3, v3), (4, v4), (5, v5), (6, v6)] : List (Nat × Value)).filter (fun q => !(q.1 == 0) && !(q.1 + 1 == 0 && q.2.category == 2)) = [(1, v1), (2, v2), (3, v3), (4, v4), (5, v5), (6, v6)] from by simp] at h'
  exact lv_sub h' [0, 1, 2, 3, 4, 5, 6] rfl
theorem kp_7_1 {n : Nat} {v0 v1 v2 v3 v4 v5 v6 x : Value} (h : v0.category = 1) : ∀ ls : Array Slot, lv_has ls n ((1, x) :: (([(0, v0), (1, v1), (2, v2), (3, v3), (4, v4), (5, v5), (6, v6)] : List (Nat × Value)).filter (fun q => !(q.1 == 1) && !(q.1 + 1 == 1 && q.2.category == 2)))) → lv_has ls n [(0, v0), (1, x), (2, v2), (3, v3), (4, v4), (5, v5), (6, v6)] := by
  intro ls h'
  rw [show ([(0, v0), (1, v1), (2, v2), (3, v3), (4, v4), (5, v5), (6, v6)] : List (Nat × Value)).filter (fun q => !(q.1 == 1) && !(q.1 + 1 == 1 && q.2.category == 2)) = [(0, v0), (2, v2), (3, v3), (4, v4), (5, v5), (6, v6)] from by simp [h]] at h'
  exact lv_sub h' [1, 0, 2, 3, 4, 5, 6] rfl
theorem kp_7_2 {n : Nat} {v0 v1 v2 v3 v4 v5 v6 x : Value} (h : v1.category = 1) : ∀ ls : Array Slot, lv_has ls n ((2, x) :: (([(0, v0), (1, v1), (2, v2), (3, v3), (4, v4), (5, v5), (6, v6)] : List (Nat × Value)).filter (fun q => !(q.1 == 2) && !(q.1 + 1 == 2 && q.2.category == 2)))) → lv_has ls n [(0, v0), (1, v1), (2, x), (3, v3), (4, v4), (5, v5), (6, v6)] := by
  intro ls h'
  rw [show ([(0, v0), (1, v1), (2, v2), (3, v3), (4, v4), (5, v5), (6, v6)] : List (Nat × Value)).filter (fun q => !(q.1 == 2) && !(q.1 + 1 == 2 && q.2.category == 2)) = [(0, v0), (1, v1), (3, v3), (4, v4), (5, v5), (6, v6)] from by simp [h]] at h'
  exact lv_sub h' [1, 2, 0, 3, 4, 5, 6] rfl
theorem kp_7_3 {n : Nat} {v0 v1 v2 v3 v4 v5 v6 x : Value} (h : v2.category = 1) : ∀ ls : Array Slot, lv_has ls n ((3, x) :: (([(0, v0), (1, v1), (2, v2), (3, v3), (4, v4), (5, v5), (6, v6)] : List (Nat × Value)).filter (fun q => !(q.1 == 3) && !(q.1 + 1 == 3 && q.2.category == 2)))) → lv_has ls n [(0, v0), (1, v1), (2, v2), (3, x), (4, v4), (5, v5), (6, v6)] := by
  intro ls h'
  rw [show ([(0, v0), (1, v1), (2, v2), (3, v3), (4, v4), (5, v5), (6, v6)] : List (Nat × Value)).filter (fun q => !(q.1 == 3) && !(q.1 + 1 == 3 && q.2.category == 2)) = [(0, v0), (1, v1), (2, v2), (4, v4), (5, v5), (6, v6)] from by simp [h]] at h'
  exact lv_sub h' [1, 2, 3, 0, 4, 5, 6] rfl
theorem kp_7_4 {n : Nat} {v0 v1 v2 v3 v4 v5 v6 x : Value} (h : v3.category = 1) : ∀ ls : Array Slot, lv_has ls n ((4, x) :: (([(0, v0), (1, v1), (2, v2), (3, v3), (4, v4), (5, v5), (6, v6)] : List (Nat × Value)).filter (fun q => !(q.1 == 4) && !(q.1 + 1 == 4 && q.2.category == 2)))) → lv_has ls n [(0, v0), (1, v1), (2, v2), (3, v3), (4, x), (5, v5), (6, v6)] := by
  intro ls h'
  rw [show ([(0, v0), (1, v1), (2, v2), (3, v3), (4, v4), (5, v5), (6, v6)] : List (Nat × Value)).filter (fun q => !(q.1 == 4) && !(q.1 + 1 == 4 && q.2.category == 2)) = [(0, v0), (1, v1), (2, v2), (3, v3), (5, v5), (6, v6)] from by simp [h]] at h'
  exact lv_sub h' [1, 2, 3, 4, 0, 5, 6] rfl
theorem kp_7_5 {n : Nat} {v0 v1 v2 v3 v4 v5 v6 x : Value} (h : v4.category = 1) : ∀ ls : Array Slot, lv_has ls n ((5, x) :: (([(0, v0), (1, v1), (2, v2), (3, v3), (4, v4), (5, v5), (6, v6)] : List (Nat × Value)).filter (fun q => !(q.1 == 5) && !(q.1 + 1 == 5 && q.2.category == 2)))) → lv_has ls n [(0, v0), (1, v1), (2, v2), (3, v3), (4, v4), (5, x), (6, v6)] := by
  intro ls h'
  rw [show ([(0, v0), (1, v1), (2, v2), (3, v3), (4, v4), (5, v5), (6, v6)] : List (Nat × Value)).filter (fun q => !(q.1 == 5) && !(q.1 + 1 == 5 && q.2.category == 2)) = [(0, v0), (1, v1), (2, v2), (3, v3), (4, v4), (6, v6)] from by simp [h]] at h'
  exact lv_sub h' [1, 2, 3, 4, 5, 0, 6] rfl
theorem kp_7_6 {n : Nat} {v0 v1 v2 v3 v4 v5 v6 x : Value} (h : v5.category = 1) : ∀ ls : Array Slot, lv_has ls n ((6, x) :: (([(0, v0), (1, v1), (2, v2), (3, v3), (4, v4), (5, v5), (6, v6)] : List (Nat × Value)).filter (fun q => !(q.1 == 6) && !(q.1 + 1 == 6 && q.2.category == 2)))) → lv_has ls n [(0, v0), (1, v1), (2, v2), (3, v3), (4, v4), (5, v5), (6, x)] := by
  intro ls h'
  rw [show ([(0, v0), (1, v1), (2, v2), (3, v3), (4, v4), (5, v5), (6, v6)] : List (Nat × Value)).filter (fun q => !(q.1 == 6) && !(q.1 + 1 == 6 && q.2.category == 2)) = [(0, v0), (1, v1), (2, v2), (3, v3), (4, v4), (5, v5)] from by simp [h]] at h'
  exact lv_sub h' [1, 2, 3, 4, 5, 6, 0] rfl
theorem kp_7_7 {n : Nat} {v0 v1 v2 v3 v4 v5 v6 x : Value} (h : v6.category = 1) : ∀ ls : Array Slot, lv_has ls n ((7, x) :: (([(0, v0), (1, v1), (2, v2), (3, v3), (4, v4), (5, v5), (6, v6)] : List (Nat × Value)).filter (fun q => !(q.1 == 7) && !(q.1 + 1 == 7 && q.2.category == 2)))) → lv_has ls n [(0, v0), (1, v1), (2, v2), (3, v3), (4, v4), (5, v5), (6, v6), (7, x)] := by
  intro ls h'
  rw [show ([(0, v0), (1, v1), (2, v2), (3, v3), (4, v4), (5, v5), (6, v6)] : List (Nat × Value)).filter (fun q => !(q.1 == 7) && !(q.1 + 1 == 7 && q.2.category == 2)) = [(0, v0), (1, v1), (2, v2), (3, v3), (4, v4), (5, v5), (6, v6)] from by simp [h]] at h'
  exact lv_sub h' [1, 2, 3, 4, 5, 6, 7, 0] rfl
theorem kp_8_0 {n : Nat} {v0 v1 v2 v3 v4 v5 v6 v7 x : Value} : ∀ ls : Array Slot, lv_has ls n ((0, x) :: (([(0, v0), (1, v1), (2, v2), (3, v3), (4, v4), (5, v5), (6, v6), (7, v7)] : List (Nat × Value)).filter (fun q => !(q.1 == 0) && !(q.1 + 1 == 0 && q.2.category == 2)))) → lv_has ls n [(0, x), (1, v1), (2, v2), (3, v3), (4, v4), (5, v5), (6, v6), (7, v7)] := by
  intro ls h'
  rw [show ([(0, v0), (1, v1), (2, v2), (3, v3), (4, v4), (5, v5), (6, v6), (7, v7)] : List (Nat × Value)).filter (fun q => !(q.1 == 0) && !(q.1 + 1 == 0 && q.2.category == 2)) = [(1, v1), (2, v2), (3, v3), (4, v4), (5, v5), (6, v6), (7, v7)] from by simp] at h'
  exact lv_sub h' [0, 1, 2, 3, 4, 5, 6, 7] rfl
theorem kp_8_1 {n : Nat} {v0 v1 v2 v3 v4 v5 v6 v7 x : Value} (h : v0.category = 1) : ∀ ls : Array Slot, lv_has ls n ((1, x) :: (([(0, v0), (1, v1), (2, v2), (3, v3), (4, v4), (5, v5), (6, v6), (7, v7)] : List (Nat × Value)).filter (fun q => !(q.1 == 1) && !(q.1 + 1 == 1 && q.2.category == 2)))) → lv_has ls n [(0, v0), (1, x), (2, v2), (3, v3), (4, v4), (5, v5), (6, v6), (7, v7)] := by
  intro ls h'
  rw [show ([(0, v0), (1, v1), (2, v2), (3, v3), (4, v4), (5, v5), (6, v6), (7, v7)] : List (Nat × Value)).filter (fun q => !(q.1 == 1) && !(q.1 + 1 == 1 && q.2.category == 2)) = [(0, v0), (2, v2), (3, v3), (4, v4), (5, v5), (6, v6), (7, v7)] from by simp [h]] at h'
  exact lv_sub h' [1, 0, 2, 3, 4, 5, 6, 7] rfl
theorem kp_8_2 {n : Nat} {v0 v1 v2 v3 v4 v5 v6 v7 x : Value} (h : v1.category = 1) : ∀ ls : Array Slot, lv_has ls n ((2, x) :: (([(0, v0), (1, v1), (2, v2), (3, v3), (4, v4), (5, v5), (6, v6), (7, v7)] : List (Nat × Value)).filter (fun q => !(q.1 == 2) && !(q.1 + 1 == 2 && q.2.category == 2)))) → lv_has ls n [(0, v0), (1, v1), (2, x), (3, v3), (4, v4), (5, v5), (6, v6), (7, v7)] := by
  intro ls h'
  rw [show ([(0, v0), (1, v1), (2, v2), (3, v3), (4, v4), (5, v5), (6, v6), (7, v7)] : List (Nat × Value)).filter (fun q => !(q.1 == 2) && !(q.1 + 1 == 2 && q.2.category == 2)) = [(0, v0), (1, v1), (3, v3), (4, v4), (5, v5), (6, v6), (7, v7)] from by simp [h]] at h'
  exact lv_sub h' [1, 2, 0, 3, 4, 5, 6, 7] rfl
theorem kp_8_3 {n : Nat} {v0 v1 v2 v3 v4 v5 v6 v7 x : Value} (h : v2.category = 1) : ∀ ls : Array Slot, lv_has ls n ((3, x) :: (([(0, v0), (1, v1), (2, v2), (3, v3), (4, v4), (5, v5), (6, v6), (7, v7)] : List (Nat × Value)).filter (fun q => !(q.1 == 3) && !(q.1 + 1 == 3 && q.2.category == 2)))) → lv_has ls n [(0, v0), (1, v1), (2, v2), (3, x), (4, v4), (5, v5), (6, v6), (7, v7)] := by
  intro ls h'
  rw [show ([(0, v0), (1, v1), (2, v2), (3, v3), (4, v4), (5, v5), (6, v6), (7, v7)] : List (Nat × Value)).filter (fun q => !(q.1 == 3) && !(q.1 + 1 == 3 && q.2.category == 2)) = [(0, v0), (1, v1), (2, v2), (4, v4), (5, v5), (6, v6), (7, v7)] from by simp [h]] at h'
  exact lv_sub h' [1, 2, 3, 0, 4, 5, 6, 7] rfl
theorem kp_8_4 {n : Nat} {v0 v1 v2 v3 v4 v5 v6 v7 x : Value} (h : v3.category = 1) : ∀ ls : Array Slot, lv_has ls n ((4, x) :: (([(0, v0), (1, v1), (2, v2), (3, v3), (4, v4), (5, v5), (6, v6), (7, v7)] : List (Nat × Value)).filter (fun q => !(q.1 == 4) && !(q.1 + 1 == 4 && q.2.category == 2)))) → lv_has ls n [(0, v0), (1, v1), (2, v2), (3, v3), (4, x), (5, v5), (6, v6), (7, v7)] := by
  intro ls h'
  rw [show ([(0, v0), (1, v1), (2, v2), (3, v3), (4, v4), (5, v5), (6, v6), (7, v7)] : List (Nat × Value)).filter (fun q => !(q.1 == 4) && !(q.1 + 1 == 4 && q.2.category == 2)) = [(0, v0), (1, v1), (2, v2), (3, v3), (5, v5), (6, v6), (7, v7)] from by simp [h]] at h'
  exact lv_sub h' [1, 2, 3, 4, 0, 5, 6, 7] rfl
theorem kp_8_5 {n : Nat} {v0 v1 v2 v3 v4 v5 v6 v7 x : Value} (h : v4.category = 1) : ∀ ls : Array Slot, lv_has ls n ((5, x) :: (([(0, v0), (1, v1), (2, v2), (3, v3), (4, v4), (5, v5), (6, v6), (7, v7)] : List (Nat × Value)).filter (fun q => !(q.1 == 5) && !(q.1 + 1 == 5 && q.2.category == 2)))) → lv_has ls n [(0, v0), (1, v1), (2, v2), (3, v3), (4, v4), (5, x), (6, v6), (7, v7)] := by
  intro ls h'
  rw [show ([(0, v0), (1, v1), (2, v2), (3, v3), (4, v4), (5, v5), (6, v6), (7, v7)] : List (Nat × Value)).filter (fun q => !(q.1 == 5) && !(q.1 + 1 == 5 && q.2.category == 2)) = [(0, v0), (1, v1), (2, v2), (3, v3), (4, v4), (6, v6), (7, v7)] from by simp [h]] at h'
  exact lv_sub h' [1, 2, 3, 4, 5, 0, 6, 7] rfl
theorem kp_8_6 {n : Nat} {v0 v1 v2 v3 v4 v5 v6 v7 x : Value} (h : v5.category = 1) : ∀ ls : Array Slot, lv_has ls n ((6, x) :: (([(0, v0), (1, v1), (2, v2), (3, v3), (4, v4), (5, v5), (6, v6), (7, v7)] : List (Nat × Value)).filter (fun q => !(q.1 == 6) && !(q.1 + 1 == 6 && q.2.category == 2)))) → lv_has ls n [(0, v0), (1, v1), (2, v2), (3, v3), (4, v4), (5, v5), (6, x), (7, v7)] := by
  intro ls h'
  rw [show ([(0, v0), (1, v1), (2, v2), (3, v3), (4, v4), (5, v5), (6, v6), (7, v7)] : List (Nat × Value)).filter (fun q => !(q.1 == 6) && !(q.1 + 1 == 6 && q.2.category == 2)) = [(0, v0), (1, v1), (2, v2), (3, v3), (4, v4), (5, v5), (7, v7)] from by simp [h]] at h'
  exact lv_sub h' [1, 2, 3, 4, 5, 6, 0, 7] rfl
theorem kp_8_7 {n : Nat} {v0 v1 v2 v3 v4 v5 v6 v7 x : Value} (h : v6.category = 1) : ∀ ls : Array Slot, lv_has ls n ((7, x) :: (([(0, v0), (1, v1), (2, v2), (3, v3), (4, v4), (5, v5), (6, v6), (7, v7)] : List (Nat × Value)).filter (fun q => !(q.1 == 7) && !(q.1 + 1 == 7 && q.2.category == 2)))) → lv_has ls n [(0, v0), (1, v1), (2, v2), (3, v3), (4, v4), (5, v5), (6, v6), (7, x)] := by
  intro ls h'
  rw [show ([(0, v0), (1, v1), (2, v2), (3, v3), (4, v4), (5, v5), (6, v6), (7, v7)] : List (Nat × Value)).filter (fun q => !(q.1 == 7) && !(q.1 + 1 == 7 && q.2.category == 2)) = [(0, v0), (1, v1), (2, v2), (3, v3), (4, v4), (5, v5), (6, v6)] from by simp [h]] at h'
  exact lv_sub h' [1, 2, 3, 4, 5, 6, 7, 0] rfl
theorem kp_8_8 {n : Nat} {v0 v1 v2 v3 v4 v5 v6 v7 x : Value} (h : v7.category = 1) : ∀ ls : Array Slot, lv_has ls n ((8, x) :: (([(0, v0), (1, v1), (2, v2), (3, v3), (4, v4), (5, v5), (6, v6), (7, v7)] : List (Nat × Value)).filter (fun q => !(q.1 == 8) && !(q.1 + 1 == 8 && q.2.category == 2)))) → lv_has ls n [(0, v0), (1, v1), (2, v2), (3, v3), (4, v4), (5, v5), (6, v6), (7, v7), (8, x)] := by
  intro ls h'
  rw [show ([(0, v0), (1, v1), (2, v2), (3, v3), (4, v4), (5, v5), (6, v6), (7, v7)] : List (Nat × Value)).filter (fun q => !(q.1 == 8) && !(q.1 + 1 == 8 && q.2.category == 2)) = [(0, v0), (1, v1), (2, v2), (3, v3), (4, v4), (5, v5), (6, v6), (7, v7)] from by simp [h]] at h'
  exact lv_sub h' [1, 2, 3, 4, 5, 6, 7, 8, 0] rfl
theorem tb_out {x : Int32} (n : Nat) (hn : n < 1000) (h : ∀ i, i < n + 1 → ¬ x = nI i) : x.toInt < 0 ∨ (n : Int) < x.toInt := by
  rcases Int.lt_or_le x.toInt 0 with q | q
  · exact Or.inl q
  · rcases Int.lt_or_le (n : Int) x.toInt with z | z
    · exact Or.inr z
    · exact absurd (Int32.toInt_inj.mp (by rw [nI_toInt (by omega)]; omega)) (h x.toInt.toNat (by omega))
/-! sums -/
def cn (f : Nat → Nat) : Nat → Nat
  | 0 => 0
  | n + 1 => cn f n + f n
def sm (f : Nat → Int32) : Nat → Int32
  | 0 => 0
  | n + 1 => sm f n + f n
def so (f : Nat → Int32) : Nat → Int32
  | 0 => 0
  | n + 1 => so f n ||| f n
theorem cn_p {f : Nat → Nat} {n x : Nat} (h : x = cn f n) (hf : f n = 1) : x + 1 = cn f (n + 1) := by rw [cn, h, hf]
theorem cn_z {f : Nat → Nat} {n x : Nat} (h : x = cn f n) (hf : f n = 0) : x = cn f (n + 1) := by rw [cn, h, hf]; rfl
theorem cn_le {f : Nat → Nat} {n : Nat} (h : ∀ i, i < n → f i ≤ 1) : cn f n ≤ n := by
  induction n with
  | zero => exact Nat.le_refl 0
  | succ n ih =>
    have h1 := ih (fun i hi => h i (by omega))
    have h2 := h n (by omega)
    rw [cn]; omega
/-- a bit of a set -/
abbrev hw (w : Int32) (k : Nat) : Prop := ¬ (w >>> (nI k &&& 31) &&& nI 1 = 0)
def bt (k : Nat) : Int32 := nI 1 <<< (nI k &&& 31)
/-- the first place that is seen -/
def pf (mo : Nat → Int32) (x : Int32) : Nat → Nat → Int32
  | _, 0 => -1
  | i, k + 1 => if mo i ≤ x then nI i else pf mo x (i + 1) k
end
section
theorem pf_step {mo : Nat → Int32} {x : Int32} {i P : Nat} (hi : i < P) (h : ¬ mo i ≤ x) : pf mo x i (P - i) = pf mo x (i + 1) (P - (i + 1)) := by
  rw [show P - i = (P - (i + 1)) + 1 by omega, pf, if_neg h]
theorem pf_hit {mo : Nat → Int32} {x : Int32} {i P : Nat} (hi : i < P) (h : mo i ≤ x) : pf mo x i (P - i) = nI i := by
  rw [show P - i = (P - (i + 1)) + 1 by omega, pf, if_pos h]
theorem pf_end {mo : Nat → Int32} {x : Int32} {i P : Nat} (hi : P ≤ i) : pf mo x i (P - i) = -1 := by
  rw [show P - i = 0 by omega, pf]
set_option maxHeartbeats 4000000 in
set_option maxRecDepth 100000 in
theorem c_X3_isOpen (l : Launch) {D : va_G} {τ : Nat → ClassId} {ad : Nat → Nat} (hI : kInj ad) {G : Nat → Nat → Int32} {j r : Nat} (hj : j < 7) (hr : r < 40) : kM l yX3_isOpen cX3_isOpen 1 (some .boolean) { frames := 0, cells := 0, slots := 0, locals := 0 } D τ ad [.ref (ad (rN j r))] G (fun v G' => v = (if G (rN j r) 1 = 0 then 1 else 0) ∧ G' = G) := by
  refine kMetZ (own := RX3) (by decide) rfl (Nat.le_of_ble_eq_true rfl) ?_
  intro p9 e9 s9 m9 args9 below9 meth9 c9 Q9 X hx hb hP hS hret ls hl
  have hPs := hP
  have hl : lv_has ls 1 [(0, .ref (ad (rN j r)))] := hl
  refine lv_aload_n hx hb dX3_isOpen_0 rfl (lv_at hl 0 rfl) ?_
  refine kget X hP (oR (by first | assumption | omega) (by first | assumption | omega)) g_X3_15 rfl dX3_isOpen_1 ?_
  first
    | refine kif_ne (tgt := 11) hx hb dX3_isOpen_4 (by decide) (fun c_4 => ?_) (fun c_4 => ?_)
    | refine lv_if_ne (tgt := 11) hx hb dX3_isOpen_4 (by decide) (fun c_4 => ?_) (fun c_4 => ?_)
  · skip
    refine lv_iconst (v := nI 0) hx hb dX3_isOpen_11 (by decide) ?_
    exact hret _ _ _ _ _ _ (by decide) (by refine ⟨?_, rfl⟩; first | exact (if_pos ‹_›).symm | exact (if_neg ‹_›).symm) hP hS dX3_isOpen_12
  · skip
    refine lv_iconst (v := nI 1) hx hb dX3_isOpen_7 (by decide) ?_
    refine lv_goto (tgt := 12) hx hb dX3_isOpen_8 (by decide) ?_
    exact hret _ _ _ _ _ _ (by decide) (by refine ⟨?_, rfl⟩; first | exact (if_pos ‹_›).symm | exact (if_neg ‹_›).symm) hP hS dX3_isOpen_12

set_option maxHeartbeats 4000000 in
set_option maxRecDepth 100000 in
theorem c_X3_isOpenWidow (l : Launch) {D : va_G} {τ : Nat → ClassId} {ad : Nat → Nat} (hI : kInj ad) {G : Nat → Nat → Int32} {j r : Nat} (hj : j < 7) (hr : r < 40) : kM l yX3_isOpenWidow cX3_isOpenWidow 1 (some .boolean) { frames := 0, cells := 0, slots := 0, locals := 0 } D τ ad [.ref (ad (rN j r))] G (fun v G' => v = (if G (rN j r) 1 = 0 ∧ 0 < G (rN j r) 6 then 1 else 0) ∧ G' = G) := by
  refine kMetZ (own := RX3) (by decide) rfl (Nat.le_of_ble_eq_true rfl) ?_
  intro p9 e9 s9 m9 args9 below9 meth9 c9 Q9 X hx hb hP hS hret ls hl
  have hPs := hP
  have hl : lv_has ls 1 [(0, .ref (ad (rN j r)))] := hl
  refine lv_aload_n hx hb dX3_isOpenWidow_0 rfl (lv_at hl 0 rfl) ?_
  refine kget X hP (oR (by first | assumption | omega) (by first | assumption | omega)) g_X3_15 rfl dX3_isOpenWidow_1 ?_
  first
    | refine kif_ne (tgt := 18) hx hb dX3_isOpenWidow_4 (by decide) (fun c_4 => ?_) (fun c_4 => ?_)
    | refine lv_if_ne (tgt := 18) hx hb dX3_isOpenWidow_4 (by decide) (fun c_4 => ?_) (fun c_4 => ?_)
  · skip
    refine lv_iconst (v := nI 0) hx hb dX3_isOpenWidow_18 (by decide) ?_
    exact hret _ _ _ _ _ _ (by decide) (by refine ⟨?_, rfl⟩; first | exact (if_pos ⟨c_4, c_11⟩).symm | exact (if_neg (fun z => c_4 z.1)).symm | exact (if_neg (fun z => Int32.not_le.mpr z.2 c_11)).symm) hP hS dX3_isOpenWidow_19
  · skip
    refine lv_aload_n hx hb dX3_isOpenWidow_7 rfl (lv_at hl 0 rfl) ?_
    refine kget X hP (oR (by first | assumption | omega) (by first | assumption | omega)) g_X3_31 rfl dX3_isOpenWidow_8 ?_
    refine lv_if_le (tgt := 18) hx hb dX3_isOpenWidow_11 (by decide) (fun c_11 => ?_) (fun c_11 => ?_)
    · skip
      refine lv_iconst (v := nI 0) hx hb dX3_isOpenWidow_18 (by decide) ?_
      exact hret _ _ _ _ _ _ (by decide) (by refine ⟨?_, rfl⟩; first | exact (if_pos ⟨c_4, c_11⟩).symm | exact (if_neg (fun z => c_4 z.1)).symm | exact (if_neg (fun z => Int32.not_le.mpr z.2 c_11)).symm) hP hS dX3_isOpenWidow_19
    · skip
      have c_11 := Int32.not_le.mp c_11
      refine lv_iconst (v := nI 1) hx hb dX3_isOpenWidow_14 (by decide) ?_
      refine lv_goto (tgt := 19) hx hb dX3_isOpenWidow_15 (by decide) ?_
      exact hret _ _ _ _ _ _ (by decide) (by refine ⟨?_, rfl⟩; first | exact (if_pos ⟨c_4, c_11⟩).symm | exact (if_neg (fun z => c_4 z.1)).symm | exact (if_neg (fun z => Int32.not_le.mpr z.2 c_11)).symm) hP hS dX3_isOpenWidow_19

set_option maxHeartbeats 4000000 in
set_option maxRecDepth 100000 in
theorem c_X3_paysRent (l : Launch) {D : va_G} {τ : Nat → ClassId} {ad : Nat → Nat} (hI : kInj ad) {G : Nat → Nat → Int32} {j r : Nat} (hj : j < 7) (hr : r < 40) : kM l yX3_paysRent cX3_paysRent 1 (some .boolean) { frames := 0, cells := 0, slots := 0, locals := 0 } D τ ad [.ref (ad (rN j r))] G (fun v G' => v = (if G (rN j r) 1 = 0 ∧ G (rN j r) 6 = 0 then 1 else 0) ∧ G' = G) := by
  refine kMetZ (own := RX3) (by decide) rfl (Nat.le_of_ble_eq_true rfl) ?_
  intro p9 e9 s9 m9 args9 below9 meth9 c9 Q9 X hx hb hP hS hret ls hl
  have hPs := hP
  have hl : lv_has ls 1 [(0, .ref (ad (rN j r)))] := hl
  refine lv_aload_n hx hb dX3_paysRent_0 rfl (lv_at hl 0 rfl) ?_
  refine kget X hP (oR (by first | assumption | omega) (by first | assumption | omega)) g_X3_15 rfl dX3_paysRent_1 ?_
  first
    | refine kif_ne (tgt := 18) hx hb dX3_paysRent_4 (by decide) (fun c_4 => ?_) (fun c_4 => ?_)
    | refine lv_if_ne (tgt := 18) hx hb dX3_paysRent_4 (by decide) (fun c_4 => ?_) (fun c_4 => ?_)
  · skip
    refine lv_iconst (v := nI 0) hx hb dX3_paysRent_18 (by decide) ?_
    exact hret _ _ _ _ _ _ (by decide) (by refine ⟨?_, rfl⟩; first | exact (if_pos ⟨c_4, c_11⟩).symm | exact (if_neg (fun z => c_4 z.1)).symm | exact (if_neg (fun z => c_11 z.2)).symm) hP hS dX3_paysRent_19
  · skip
    refine lv_aload_n hx hb dX3_paysRent_7 rfl (lv_at hl 0 rfl) ?_
    refine kget X hP (oR (by first | assumption | omega) (by first | assumption | omega)) g_X3_31 rfl dX3_paysRent_8 ?_
    first
      | refine kif_ne (tgt := 18) hx hb dX3_paysRent_11 (by decide) (fun c_11 => ?_) (fun c_11 => ?_)
      | refine lv_if_ne (tgt := 18) hx hb dX3_paysRent_11 (by decide) (fun c_11 => ?_) (fun c_11 => ?_)
    · skip
      refine lv_iconst (v := nI 0) hx hb dX3_paysRent_18 (by decide) ?_
      exact hret _ _ _ _ _ _ (by decide) (by refine ⟨?_, rfl⟩; first | exact (if_pos ⟨c_4, c_11⟩).symm | exact (if_neg (fun z => c_4 z.1)).symm | exact (if_neg (fun z => c_11 z.2)).symm) hP hS dX3_paysRent_19
    · skip
      refine lv_iconst (v := nI 1) hx hb dX3_paysRent_14 (by decide) ?_
      refine lv_goto (tgt := 19) hx hb dX3_paysRent_15 (by decide) ?_
      exact hret _ _ _ _ _ _ (by decide) (by refine ⟨?_, rfl⟩; first | exact (if_pos ⟨c_4, c_11⟩).symm | exact (if_neg (fun z => c_4 z.1)).symm | exact (if_neg (fun z => c_11 z.2)).symm) hP hS dX3_paysRent_19

set_option maxHeartbeats 4000000 in
set_option maxRecDepth 100000 in
theorem c_X3_hasWrite (l : Launch) {D : va_G} {τ : Nat → ClassId} {ad : Nat → Nat} (hI : kInj ad) {G : Nat → Nat → Int32} {j r k : Nat} (hj : j < 7) (hr : r < 40) : kM l yX3_hasWrite cX3_hasWrite 2 (some .boolean) { frames := 0, cells := 0, slots := 0, locals := 0 } D τ ad [.ref (ad (rN j r)), .int (nI k)] G (fun v G' => v = (if hw (G (rN j r) 5) k then 1 else 0) ∧ G' = G) := by
  refine kMetZ (own := RX3) (by decide) rfl (Nat.le_of_ble_eq_true rfl) ?_
  intro p9 e9 s9 m9 args9 below9 meth9 c9 Q9 X hx hb hP hS hret ls hl
  have hPs := hP
  have hl : lv_has ls 2 [(0, .ref (ad (rN j r))), (1, .int (nI k))] := hl
  refine lv_aload_n hx hb dX3_hasWrite_0 rfl (lv_at hl 0 rfl) ?_
  refine kget X hP (oR (by first | assumption | omega) (by first | assumption | omega)) g_X3_28 rfl dX3_hasWrite_1 ?_
  refine lv_iload_n hx hb dX3_hasWrite_4 rfl (lv_at hl 1 rfl) ?_
  refine lv_ishr hx hb dX3_hasWrite_5 ?_
  refine lv_iconst (v := nI 1) hx hb dX3_hasWrite_6 (by decide) ?_
  refine lv_iand hx hb dX3_hasWrite_7 ?_
  first
    | refine kif_eq (tgt := 15) hx hb dX3_hasWrite_8 (by decide) (fun c_8 => ?_) (fun c_8 => ?_)
    | refine lv_if_eq (tgt := 15) hx hb dX3_hasWrite_8 (by decide) (fun c_8 => ?_) (fun c_8 => ?_)
  · skip
    refine lv_iconst (v := nI 0) hx hb dX3_hasWrite_15 (by decide) ?_
    exact hret _ _ _ _ _ _ (by decide) (by refine ⟨?_, rfl⟩; first | exact (if_pos c_8).symm | exact (if_neg (fun z => z c_8)).symm) hP hS dX3_hasWrite_16
  · skip
    refine lv_iconst (v := nI 1) hx hb dX3_hasWrite_11 (by decide) ?_
    refine lv_goto (tgt := 16) hx hb dX3_hasWrite_12 (by decide) ?_
    exact hret _ _ _ _ _ _ (by decide) (by refine ⟨?_, rfl⟩; first | exact (if_pos c_8).symm | exact (if_neg (fun z => z c_8)).symm) hP hS dX3_hasWrite_16

set_option maxHeartbeats 4000000 in
set_option maxRecDepth 100000 in
theorem c_X3_putWrite (l : Launch) {D : va_G} {τ : Nat → ClassId} {ad : Nat → Nat} (hI : kInj ad) {G : Nat → Nat → Int32} {j r k : Nat} {x : Int32} (hj : j < 7) (hr : r < 40) (hk : k < 12) : kMv l yX3_putWrite cX3_putWrite 3 { frames := 0, cells := 0, slots := 0, locals := 0 } D τ ad [.ref (ad (rN j r)), .int (nI k), .int x] G (fun G' => G' = gs (gs G (rW j r) k x) (rN j r) 5 (G (rN j r) 5 ||| bt k)) := by
  refine kMetV (own := RX3) (by decide) rfl (Nat.le_of_ble_eq_true rfl) ?_
  intro p9 e9 s9 m9 args9 below9 meth9 c9 Q9 X hx hb hP hS hret ls hl
  have hPs := hP
  have hl : lv_has ls 3 [(0, .ref (ad (rN j r))), (1, .int (nI k)), (2, .int x)] := hl
  refine lv_aload_n hx hb dX3_putWrite_0 rfl (lv_at hl 0 rfl) ?_
  refine kget X hP (oR (by first | assumption | omega) (by first | assumption | omega)) g_X3_9 rfl dX3_putWrite_1 ?_
  refine lv_iload_n hx hb dX3_putWrite_4 rfl (lv_at hl 1 rfl) ?_
  refine lv_iload_n hx hb dX3_putWrite_5 rfl (lv_at hl 2 rfl) ?_
  refine kiast X hI hP hS (aW (by first | assumption | omega) (by first | assumption | omega)) (by first | assumption | omega) dX3_putWrite_6 (fun H locs hP hS => ?_)
  refine lv_aload_n hx hb dX3_putWrite_7 rfl (lv_at hl 0 rfl) ?_
  refine lv_dup hx hb dX3_putWrite_8 rfl ?_
  refine kget X hP (oR (by first | assumption | omega) (by first | assumption | omega)) g_X3_28 rfl dX3_putWrite_9 ?_
  refine lv_iconst (v := nI 1) hx hb dX3_putWrite_12 (by decide) ?_
  refine lv_iload_n hx hb dX3_putWrite_13 rfl (lv_at hl 1 rfl) ?_
  refine lv_ishl hx hb dX3_putWrite_14 ?_
  refine lv_ior hx hb dX3_putWrite_15 ?_
  refine kput X hI hP hS (oR (by first | assumption | omega) (by first | assumption | omega)) g_X3_28 (fun _ => rfl) rfl (fun _ => Nat.le_of_ble_eq_true rfl) rfl rfl dX3_putWrite_16 (fun H locs hP hS => ?_)
  exact hret _ _ _ _ _ (by rw [gs_other (show rN j r ≠ rW j r by unfold rN rW; omega)]; rfl) hP hS dX3_putWrite_19

set_option maxHeartbeats 4000000 in
set_option maxRecDepth 100000 in
theorem c_X3_begin (l : Launch) {D : va_G} {τ : Nat → ClassId} {ad : Nat → Nat} (hI : kInj ad) {G : Nat → Nat → Int32} {j r : Nat} {x y : Int32} (hj : j < 7) (hr : r < 40) : kMv l yX3_begin cX3_begin 3 { frames := 0, cells := 0, slots := 0, locals := 0 } D τ ad [.ref (ad (rN j r)), .int x, .int y] G (fun G' => G' = gs (gs (gs (gs (gs (gs (gs (gs G (rN j r) 1 0) (rN j r) 2 x) (rN j r) 3 y) (rN j r) 4 0) (rN j r) 5 0) (rN j r) 6 0) (rN j r) 7 0) (rN j r) 8 0) := by
  refine kMetV (own := RX3) (by decide) rfl (Nat.le_of_ble_eq_true rfl) ?_
  intro p9 e9 s9 m9 args9 below9 meth9 c9 Q9 X hx hb hP hS hret ls hl
  have hPs := hP
  have hl : lv_has ls 3 [(0, .ref (ad (rN j r))), (1, .int x), (2, .int y)] := hl
  refine lv_aload_n hx hb dX3_begin_0 rfl (lv_at hl 0 rfl) ?_
  refine lv_iconst (v := nI 0) hx hb dX3_begin_1 (by decide) ?_
  refine kput X hI hP hS (oR (by first | assumption | omega) (by first | assumption | omega)) g_X3_15 (fun _ => rfl) rfl (fun _ => Nat.le_of_ble_eq_true rfl) rfl rfl dX3_begin_2 (fun H locs hP hS => ?_)
  refine lv_aload_n hx hb dX3_begin_5 rfl (lv_at hl 0 rfl) ?_
  refine lv_iload_n hx hb dX3_begin_6 rfl (lv_at hl 1 rfl) ?_
  refine kput X hI hP hS (oR (by first | assumption | omega) (by first | assumption | omega)) g_X3_19 (fun _ => rfl) rfl (fun _ => Nat.le_of_ble_eq_true rfl) rfl rfl dX3_begin_7 (fun H locs hP hS => ?_)
  refine lv_aload_n hx hb dX3_begin_10 rfl (lv_at hl 0 rfl) ?_
  refine lv_iload_n hx hb dX3_begin_11 rfl (lv_at hl 2 rfl) ?_
  refine kput X hI hP hS (oR (by first | assumption | omega) (by first | assumption | omega)) g_X3_22 (fun _ => rfl) rfl (fun _ => Nat.le_of_ble_eq_true rfl) rfl rfl dX3_begin_12 (fun H locs hP hS => ?_)
  refine lv_aload_n hx hb dX3_begin_15 rfl (lv_at hl 0 rfl) ?_
  refine lv_iconst (v := nI 0) hx hb dX3_begin_16 (by decide) ?_
  refine kput X hI hP hS (oR (by first | assumption | omega) (by first | assumption | omega)) g_X3_25 (fun _ => rfl) rfl (fun _ => Nat.le_of_ble_eq_true rfl) rfl rfl dX3_begin_17 (fun H locs hP hS => ?_)
  refine lv_aload_n hx hb dX3_begin_20 rfl (lv_at hl 0 rfl) ?_
  refine lv_iconst (v := nI 0) hx hb dX3_begin_21 (by decide) ?_
  refine kput X hI hP hS (oR (by first | assumption | omega) (by first | assumption | omega)) g_X3_28 (fun _ => rfl) rfl (fun _ => Nat.le_of_ble_eq_true rfl) rfl rfl dX3_begin_22 (fun H locs hP hS => ?_)
  refine lv_aload_n hx hb dX3_begin_25 rfl (lv_at hl 0 rfl) ?_
  refine lv_iconst (v := nI 0) hx hb dX3_begin_26 (by decide) ?_
  refine kput X hI hP hS (oR (by first | assumption | omega) (by first | assumption | omega)) g_X3_31 (fun _ => rfl) rfl (fun _ => Nat.le_of_ble_eq_true rfl) rfl rfl dX3_begin_27 (fun H locs hP hS => ?_)
  refine lv_aload_n hx hb dX3_begin_30 rfl (lv_at hl 0 rfl) ?_
  refine lv_iconst (v := nI 0) hx hb dX3_begin_31 (by decide) ?_
  refine kput X hI hP hS (oR (by first | assumption | omega) (by first | assumption | omega)) g_X3_34 (fun _ => rfl) rfl (fun _ => Nat.le_of_ble_eq_true rfl) rfl rfl dX3_begin_32 (fun H locs hP hS => ?_)
  refine lv_aload_n hx hb dX3_begin_35 rfl (lv_at hl 0 rfl) ?_
  refine lv_iconst (v := nI 0) hx hb dX3_begin_36 (by decide) ?_
  refine kput X hI hP hS (oR (by first | assumption | omega) (by first | assumption | omega)) g_X3_37 (fun _ => rfl) rfl (fun _ => Nat.le_of_ble_eq_true rfl) rfl rfl dX3_begin_37 (fun H locs hP hS => ?_)
  exact hret _ _ _ _ _ (by rfl) hP hS dX3_begin_40

set_option maxHeartbeats 4000000 in
set_option maxRecDepth 100000 in
theorem c_X0_placeSeenAt (l : Launch) {D : va_G} {τ : Nat → ClassId} {ad : Nat → Nat} (hI : kInj ad) {G : Nat → Nat → Int32} {j c P : Nat} {x : Int32} (hj : j < 7) (hc : c < 12) (hpl : G (cB j c) 2 = nI P) (hp10 : P ≤ 10) : kM l yX0_placeSeenAt cX0_placeSeenAt 3 (some .int) { frames := 0, cells := 0, slots := 0, locals := 0 } D τ ad [.ref (ad (cB j c)), .int x] G (fun v G' => v = pf (G (cM j c)) x 0 P ∧ G' = G) := by
  refine kMet (own := RX0) (by decide) rfl (Nat.le_of_ble_eq_true rfl) ?_
  intro p9 e9 s9 m9 args9 below9 meth9 c9 Q9 X hx hb hP hS hret ls hl
  have hPs := hP
  have hl : lv_has ls 3 [(0, .ref (ad (cB j c))), (1, .int x)] := hl
  refine lv_iconst (v := nI 0) hx hb dX0_placeSeenAt_0 (by decide) ?_
  refine kist hx hb dX0_placeSeenAt_1 rfl hl (by decide) (kp_2_2 rfl) (fun ls hl => ?_)
  have lp_2 : ∀ (d : Nat) (i : Nat) (H : Heap) (locs : List Loc) (ls : Array Slot), (P - i) < d → (i ≤ P) → (pf (G (cM j c)) x 0 P = pf (G (cM j c)) x i (P - i)) → va_P D vwCl (kW τ ad G) H → va_S (kAd ad) s9.heap H locs → lv_has ls 3 [(0, .ref (ad (cB j c))), (1, .int x), (2, .int (nI i))] → W p9 l e9 { frames := 0, cells := 0, slots := 0, locals := 0 } s9 m9 args9 below9 meth9 c9 H locs 0 0 Q9 (F0 m9 2 ls []) := by
    intro d
    induction d with
    | zero => exact fun _ _ _ _ hd => absurd hd (Nat.not_lt_zero _)
    | succ d ih =>
      intro i H locs ls hd iv_0 iv_1 hP hS hl
      refine lv_iload_n hx hb dX0_placeSeenAt_2 rfl (lv_at hl 2 rfl) ?_
      refine lv_aload_n hx hb dX0_placeSeenAt_3 rfl (lv_at hl 0 rfl) ?_
      refine kget X hP (oC (by first | assumption | omega) (by first | assumption | omega)) g_X0_18 (congrArg (fun z => some (Value.int z)) hpl) dX0_placeSeenAt_4 ?_
      first
        | refine kic_ge (tgt := 28) hx hb dX0_placeSeenAt_7 (by decide) (by with_reducible rfl) (by with_reducible rfl) (by omega) (by omega) (fun c_7 => ?_) (fun c_7 => ?_)
        | refine lv_icmp_ge (tgt := 28) hx hb dX0_placeSeenAt_7 (by decide) (fun c_7 => ?_) (fun c_7 => ?_)
      · skip
        refine lv_iconst (v := (-1)) hx hb dX0_placeSeenAt_28 (by decide) ?_
        exact hret _ _ _ _ _ _ (⟨(iv_1.trans (pf_end (by omega))).symm, rfl⟩) hP hS dX0_placeSeenAt_29
      · skip
        refine lv_aload_n hx hb dX0_placeSeenAt_10 rfl (lv_at hl 0 rfl) ?_
        refine kget X hP (oC (by first | assumption | omega) (by first | assumption | omega)) g_X0_15 rfl dX0_placeSeenAt_11 ?_
        refine lv_iload_n hx hb dX0_placeSeenAt_14 rfl (lv_at hl 2 rfl) ?_
        refine kiald X hP (aM (by first | assumption | omega) (by first | assumption | omega)) (by first | assumption | omega) dX0_placeSeenAt_15 ?_
        refine lv_iload_n hx hb dX0_placeSeenAt_16 rfl (lv_at hl 1 rfl) ?_
        first
          | refine kic_gt (tgt := 22) hx hb dX0_placeSeenAt_17 (by decide) (by with_reducible rfl) (by with_reducible rfl) (by omega) (by omega) (fun c_17 => ?_) (fun c_17 => ?_)
          | refine lv_icmp_gt (tgt := 22) hx hb dX0_placeSeenAt_17 (by decide) (fun c_17 => ?_) (fun c_17 => ?_)
        · skip
          first
            | refine kinc (q := 2) hx hb dX0_placeSeenAt_22 hl rfl (by decide) (kp_3_2 rfl) (fun ls hl => ?_)
            | refine kincG (q := 2) hx hb dX0_placeSeenAt_22 hl rfl (by decide) (kp_3_2 rfl) (fun ls hl => ?_)
          refine lv_goto (tgt := 2) hx hb dX0_placeSeenAt_25 (by decide) ?_
          exact ih _ _ _ _ (by omega) (by omega) (iv_1.trans (pf_step (by omega) (Int32.not_le.mpr c_17))) hP hS (lv_sub hl [0,1,2] rfl)
        · skip
          refine lv_iload_n hx hb dX0_placeSeenAt_20 rfl (lv_at hl 2 rfl) ?_
          exact hret _ _ _ _ _ _ (⟨(iv_1.trans (pf_hit (by omega) (Int32.not_lt.mp c_17))).symm, rfl⟩) hP hS dX0_placeSeenAt_21
  exact lp_2 _ 0 _ _ _ (Nat.lt_succ_self _) (Nat.zero_le _) (rfl) hP hS (lv_sub hl [0,1,2] rfl)

set_option maxHeartbeats 4000000 in
set_option maxRecDepth 100000 in
theorem c_X4_hasReader (l : Launch) {D : va_G} {τ : Nat → ClassId} {ad : Nat → Nat} (hI : kInj ad) {G : Nat → Nat → Int32} {j : Nat} {x : Int32} (hj : j < 7) : kM l yX4_hasReader cX4_hasReader 2 (some .boolean) { frames := 0, cells := 0, slots := 0, locals := 0 } D τ ad [.ref (ad (sB j)), .int x] G (fun v G' => v = (if 0 ≤ x ∧ x < G (sB j) 6 then 1 else 0) ∧ G' = G) := by
  refine kMetZ (own := RX4) (by decide) rfl (Nat.le_of_ble_eq_true rfl) ?_
  intro p9 e9 s9 m9 args9 below9 meth9 c9 Q9 X hx hb hP hS hret ls hl
  have hPs := hP
  have hl : lv_has ls 2 [(0, .ref (ad (sB j))), (1, .int x)] := hl
  refine lv_iload_n hx hb dX4_hasReader_0 rfl (lv_at hl 1 rfl) ?_
  refine lv_if_lt (tgt := 16) hx hb dX4_hasReader_1 (by decide) (fun c_1 => ?_) (fun c_1 => ?_)
  · skip
    refine lv_iconst (v := nI 0) hx hb dX4_hasReader_16 (by decide) ?_
    exact hret _ _ _ _ _ _ (by decide) (by refine ⟨?_, rfl⟩; first | exact (if_pos ⟨Int32.not_lt.mp c_1, Int32.not_le.mp c_9⟩).symm | exact (if_neg (fun z => Int32.not_lt.mpr z.1 c_1)).symm | exact (if_neg (fun z => Int32.not_le.mpr z.2 c_9)).symm) hP hS dX4_hasReader_17
  · skip
    refine lv_iload_n hx hb dX4_hasReader_4 rfl (lv_at hl 1 rfl) ?_
    refine lv_aload_n hx hb dX4_hasReader_5 rfl (lv_at hl 0 rfl) ?_
    refine kget X hP (oS (by first | assumption | omega)) g_X4_44 rfl dX4_hasReader_6 ?_
    first
      | refine kic_ge (tgt := 16) hx hb dX4_hasReader_9 (by decide) (by with_reducible rfl) (by with_reducible rfl) (by omega) (by omega) (fun c_9 => ?_) (fun c_9 => ?_)
      | refine lv_icmp_ge (tgt := 16) hx hb dX4_hasReader_9 (by decide) (fun c_9 => ?_) (fun c_9 => ?_)
    · skip
      refine lv_iconst (v := nI 0) hx hb dX4_hasReader_16 (by decide) ?_
      exact hret _ _ _ _ _ _ (by decide) (by refine ⟨?_, rfl⟩; first | exact (if_pos ⟨Int32.not_lt.mp c_1, Int32.not_le.mp c_9⟩).symm | exact (if_neg (fun z => Int32.not_lt.mpr z.1 c_1)).symm | exact (if_neg (fun z => Int32.not_le.mpr z.2 c_9)).symm) hP hS dX4_hasReader_17
    · skip
      refine lv_iconst (v := nI 1) hx hb dX4_hasReader_12 (by decide) ?_
      refine lv_goto (tgt := 17) hx hb dX4_hasReader_13 (by decide) ?_
      exact hret _ _ _ _ _ _ (by decide) (by refine ⟨?_, rfl⟩; first | exact (if_pos ⟨Int32.not_lt.mp c_1, Int32.not_le.mp c_9⟩).symm | exact (if_neg (fun z => Int32.not_lt.mpr z.1 c_1)).symm | exact (if_neg (fun z => Int32.not_le.mpr z.2 c_9)).symm) hP hS dX4_hasReader_17

set_option maxHeartbeats 4000000 in
set_option maxRecDepth 100000 in
theorem c_X4_readersIn (l : Launch) {D : va_G} {τ : Nat → ClassId} {ad : Nat → Nat} (hI : kInj ad) {G : Nat → Nat → Int32} {j n : Nat} {w : Int32} (hj : j < 7) (hn : G (sB j) 6 = nI n) (hn4 : n ≤ 40) : kM l yX4_readersIn cX4_readersIn 4 (some .int) { frames := 0, cells := 0, slots := 0, locals := 0 } D τ ad [.ref (ad (sB j)), .int w] G (fun v G' => v = nI (cn (fun i => if G (rN j i) 1 = w then 1 else 0) n) ∧ G' = G) := by
  refine kMet (own := RX4) (by decide) rfl (Nat.le_of_ble_eq_true rfl) ?_
  intro p9 e9 s9 m9 args9 below9 meth9 c9 Q9 X hx hb hP hS hret ls hl
  have hPs := hP
  have hl : lv_has ls 4 [(0, .ref (ad (sB j))), (1, .int w)] := hl
  refine lv_iconst (v := nI 0) hx hb dX4_readersIn_0 (by decide) ?_
  refine kist hx hb dX4_readersIn_1 rfl hl (by decide) (kp_2_2 rfl) (fun ls hl => ?_)
  refine lv_iconst (v := nI 0) hx hb dX4_readersIn_2 (by decide) ?_
  refine kist hx hb dX4_readersIn_3 rfl hl (by decide) (kp_3_3 rfl) (fun ls hl => ?_)
  have lp_4 : ∀ (d : Nat) (i x : Nat) (H : Heap) (locs : List Loc) (ls : Array Slot), (n - i) < d → (i ≤ n) → (x = cn (fun i => if G (rN j i) 1 = w then 1 else 0) i) → va_P D vwCl (kW τ ad G) H → va_S (kAd ad) s9.heap H locs → lv_has ls 4 [(0, .ref (ad (sB j))), (1, .int w), (2, .int (nI x)), (3, .int (nI i))] → W p9 l e9 { frames := 0, cells := 0, slots := 0, locals := 0 } s9 m9 args9 below9 meth9 c9 H locs 0 0 Q9 (F0 m9 4 ls []) := by
    intro d
    induction d with
    | zero => exact fun _ _ _ _ _ hd => absurd hd (Nat.not_lt_zero _)
    | succ d ih =>
      intro i x H locs ls hd iv_0 iv_1 hP hS hl
      refine lv_iload_n hx hb dX4_readersIn_4 rfl (lv_at hl 3 rfl) ?_
      refine lv_aload_n hx hb dX4_readersIn_5 rfl (lv_at hl 0 rfl) ?_
      refine kget X hP (oS (by first | assumption | omega)) g_X4_44 (congrArg (fun z => some (Value.int z)) hn) dX4_readersIn_6 ?_
      first
        | refine kic_ge (tgt := 34) hx hb dX4_readersIn_9 (by decide) (by with_reducible rfl) (by with_reducible rfl) (by omega) (by omega) (fun c_9 => ?_) (fun c_9 => ?_)
        | refine lv_icmp_ge (tgt := 34) hx hb dX4_readersIn_9 (by decide) (fun c_9 => ?_) (fun c_9 => ?_)
      · skip
        refine lv_iload_n hx hb dX4_readersIn_34 rfl (lv_at hl 2 rfl) ?_
        exact hret _ _ _ _ _ _ (⟨congrArg nI (iv_1.trans (by rw [show i = n by omega])), rfl⟩) hP hS dX4_readersIn_35
      · skip
        refine lv_aload_n hx hb dX4_readersIn_12 rfl (lv_at hl 0 rfl) ?_
        refine kget X hP (oS (by first | assumption | omega)) g_X4_19 rfl dX4_readersIn_13 ?_
        refine lv_iload_n hx hb dX4_readersIn_16 rfl (lv_at hl 3 rfl) ?_
        refine kaald X hP (qR (by first | assumption | omega)) (by first | assumption | omega) rfl dX4_readersIn_17 ?_
        refine kget X hP (oR (by first | assumption | omega) (by first | assumption | omega)) g_X4_73 rfl dX4_readersIn_18 ?_
        refine lv_iload_n hx hb dX4_readersIn_21 rfl (lv_at hl 1 rfl) ?_
        first
          | refine kic_ne (tgt := 28) hx hb dX4_readersIn_22 (by decide) (by with_reducible rfl) (by with_reducible rfl) (by omega) (by omega) (fun c_22 => ?_) (fun c_22 => ?_)
          | refine lv_icmp_ne (tgt := 28) hx hb dX4_readersIn_22 (by decide) (fun c_22 => ?_) (fun c_22 => ?_)
        · skip
          first
            | refine kinc (q := 3) hx hb dX4_readersIn_28 hl rfl (by decide) (kp_4_3 rfl) (fun ls hl => ?_)
            | refine kincG (q := 3) hx hb dX4_readersIn_28 hl rfl (by decide) (kp_4_3 rfl) (fun ls hl => ?_)
          refine lv_goto (tgt := 4) hx hb dX4_readersIn_31 (by decide) ?_
          exact ih _ _ _ _ _ (by omega) (by omega) (by first | exact cn_p iv_1 (if_pos (by first | assumption | exact ⟨‹_›, ‹_›⟩)) | exact cn_z iv_1 (if_neg (by first | assumption | (intro z; exact absurd z.1 ‹_›) | (intro z; exact absurd z.2 ‹_›)))) hP hS (lv_sub hl [0,1,2,3] rfl)
        · skip
          first
            | refine kinc (q := 2) hx hb dX4_readersIn_25 hl rfl (by decide) (kp_4_2 rfl) (fun ls hl => ?_)
            | refine kincG (q := 2) hx hb dX4_readersIn_25 hl rfl (by decide) (kp_4_2 rfl) (fun ls hl => ?_)
          first
            | refine kinc (q := 3) hx hb dX4_readersIn_28 hl rfl (by decide) (kp_4_3 rfl) (fun ls hl => ?_)
            | refine kincG (q := 3) hx hb dX4_readersIn_28 hl rfl (by decide) (kp_4_3 rfl) (fun ls hl => ?_)
          refine lv_goto (tgt := 4) hx hb dX4_readersIn_31 (by decide) ?_
          exact ih _ _ _ _ _ (by omega) (by omega) (by first | exact cn_p iv_1 (if_pos (by first | assumption | exact ⟨‹_›, ‹_›⟩)) | exact cn_z iv_1 (if_neg (by first | assumption | (intro z; exact absurd z.1 ‹_›) | (intro z; exact absurd z.2 ‹_›)))) hP hS (lv_sub hl [0,1,2,3] rfl)
  exact lp_4 _ 0 0 _ _ _ (Nat.lt_succ_self _) (Nat.zero_le _) (rfl) hP hS (lv_sub hl [0,1,2,3] rfl)
end
section
theorem so_p {f : Nat → Int32} {n : Nat} {x y : Int32} (h : x = so f n) (hf : f n = y) : x ||| y = so f (n + 1) := by rw [so, h, hf]
theorem so_z {f : Nat → Int32} {n : Nat} {x : Int32} (h : x = so f n) (hf : f n = 0) : x = so f (n + 1) := by
  rw [so, h, hf]
  exact (Int32.or_zero).symm
theorem sm_s {f : Nat → Int32} {n : Nat} {x y : Int32} (h : x = sm f n) (hf : f n = y) : x + y = sm f (n + 1) := by rw [sm, h, hf]
theorem cn_mono {f : Nat → Nat} {m n : Nat} (h : m ≤ n) : cn f m ≤ cn f n := by
  induction n with
  | zero => rw [show m = 0 by omega]; exact Nat.le_refl _
  | succ n ih =>
    rcases Nat.lt_or_ge n m with q | q
    · rw [show m = n + 1 by omega]; exact Nat.le_refl _
    · rw [cn]; have := ih q; omega
theorem cn_pos {f : Nat → Nat} {i n : Nat} (h : i < n) (hf : f i ≠ 0) : cn f n ≠ 0 := by
  have h1 : cn f (i + 1) ≤ cn f n := cn_mono h
  rw [cn] at h1
  omega
/-- what a call of placesSeen gathers from one reader -/
def psB (G : Nat → Nat → Int32) (j c P : Nat) (q : Int32) : Nat → Int32 := fun i => if ¬ nI i = q ∧ G (rN j i) 1 = 0 ∧ ¬ pf (G (cM j c)) (G (rN j i) 2) 0 P = -1 then nI 1 <<< (pf (G (cM j c)) (G (rN j i) 2) 0 P &&& 31) else 0
theorem pf_or (mo : Nat → Int32) (x : Int32) (i P : Nat) : pf mo x i P = -1 ∨ ∃ w, w < i + P ∧ pf mo x i P = nI w := by
  induction P generalizing i with
  | zero => exact Or.inl rfl
  | succ P ih =>
    rw [pf]
    by_cases h : mo i ≤ x
    · rw [if_pos h]; exact Or.inr ⟨i, by omega, rfl⟩
    · rw [if_neg h]
      rcases ih (i + 1) with q | ⟨w, q1, q2⟩
      · exact Or.inl q
      · exact Or.inr ⟨w, by omega, q2⟩
def vsF (va mo : Nat → Int32) (x : Int32) (P : Nat) : Int32 := if pf mo x 0 P = -1 then 0 else va (pf mo x 0 P).toNatClampNeg
theorem nI_m1 {w : Nat} (h : w < 2 ^ 31) : ¬ nI w = -1 := fun q => by
  have h1 := congrArg Int32.toInt q
  rw [nI_toInt h] at h1
  rw [show (-1 : Int32).toInt = -1 from rfl] at h1
  omega
theorem vsF_at {va mo : Nat → Int32} {x : Int32} {P w : Nat} (h : pf mo x 0 P = nI w) (hw : w < 2 ^ 31) : vsF va mo x P = va w := by
  rw [vsF, h, if_neg (nI_m1 hw), nI_clamp hw]
def pyF (G : Nat → Nat → Int32) (j n c P : Nat) (q : Int32) : Nat := cn (fun i => if (G (rN j i) 1 = 0 ∧ G (rN j i) 6 = 0) ∧ pf (G (cM j c)) (G (rN j i) 2) 0 P = q then 1 else 0) n
def shF (G : Nat → Nat → Int32) (j n c P : Nat) (q : Int32) : Int32 := if q ≤ 0 then 0 else if nI (pyF G j n c P q) = 0 then 0 else (G (sB j) 5 + nI (pyF G j n c P q) - nI 1) / nI (pyF G j n c P q)
def dueF (G : Nat → Nat → Int32) (j n : Nat) (P : Nat → Nat) (r : Nat) : Int32 := if G (rN j r) 1 = 0 ∧ G (rN j r) 6 = 0 then sm (fun c => shF G j n c (P c) (pf (G (cM j c)) (G (rN j r) 2) 0 (P c))) 12 else 0
def cfF (G : Nat → Nat → Int32) (j r : Nat) : Nat → Nat := fun c => if hw (G (rN j r) 5) c ∧ G (rN j r) 2 < G (cM j c) 0 then 1 else 0
/-- an earlier commit's row and a reader's row: in skew -/
abbrev skF (a b : Nat → Int32) : Prop := b 2 < a 2 ∧ ¬ (b 4 &&& a 3 = 0) ∧ ¬ (a 4 &&& b 5 = 0) ∧ a 3 &&& b 5 = 0
def bc1 (x : Int32) : Int32 := x - ((x.toUInt32 >>> ((nI 1).toUInt32 &&& Int32.toUInt32 31)).toInt32 &&& 1431655765)
def bc2 (x : Int32) : Int32 := (x &&& 858993459) + ((x.toUInt32 >>> ((nI 2).toUInt32 &&& Int32.toUInt32 31)).toInt32 &&& 858993459)
def bc3 (x : Int32) : Int32 := x + (x.toUInt32 >>> ((nI 4).toUInt32 &&& Int32.toUInt32 31)).toInt32 &&& 252645135
def bc4 (x : Int32) : Int32 := x + (x.toUInt32 >>> ((nI 8).toUInt32 &&& Int32.toUInt32 31)).toInt32
def bc5 (x : Int32) : Int32 := x + (x.toUInt32 >>> ((nI 16).toUInt32 &&& Int32.toUInt32 31)).toInt32
def bcF (x : Int32) : Int32 := bc5 (bc4 (bc3 (bc2 (bc1 x)))) &&& nI 63
def ovF (G : Nat → Nat → Int32) (j n r : Nat) (P : Nat → Nat) : Nat → Int32 := fun c => bcF (if hw (G (rN j r) 5) c then so (psB G j c (P c) (nI r)) n else so (psB G j c (P c) (nI r)) n &&& (-2))
set_option maxHeartbeats 4000000 in
set_option maxRecDepth 100000 in
theorem c_J6_bitCount_0f7a4 (l : Launch) {D : va_G} {τ : Nat → ClassId} {ad : Nat → Nat} (hI : kInj ad) {G : Nat → Nat → Int32} {x : Int32} : kM l yJ6_bitCount_0f7a4 cJ6_bitCount_0f7a4 1 (some .int) { frames := 0, cells := 0, slots := 0, locals := 0 } D τ ad [.int x] G (fun v G' => v = bcF x ∧ G' = G) := by
  refine kMet (own := RJ6) (by decide) rfl (Nat.le_of_ble_eq_true rfl) ?_
  intro p9 e9 s9 m9 args9 below9 meth9 c9 Q9 X hx hb hP hS hret ls hl
  have hl : lv_has ls 1 [(0, .int x)] := hl
  refine lv_iload_n hx hb dJ6_bitCount_0f7a4_0 rfl (lv_at hl 0 rfl) ?_
  refine lv_iload_n hx hb dJ6_bitCount_0f7a4_1 rfl (lv_at hl 0 rfl) ?_
  refine lv_iconst (v := nI 1) hx hb dJ6_bitCount_0f7a4_2 (by decide) ?_
  refine lv_iushr hx hb dJ6_bitCount_0f7a4_3 rfl ?_
  refine lv_ldcw (v := 1431655765) hx hb X.2.2.2.1 (X.2.2.2.2.1 (.constant RJ6 265 1431655765) (kWs_of 416 (by decide +kernel) rfl)) dJ6_bitCount_0f7a4_4 ?_
  refine lv_iand hx hb dJ6_bitCount_0f7a4_7 ?_
  refine lv_isub hx hb dJ6_bitCount_0f7a4_8 ?_
  refine kist hx hb dJ6_bitCount_0f7a4_9 rfl hl (by decide) kp_1_0 (fun ls hl => ?_)
  refine lv_iload_n hx hb dJ6_bitCount_0f7a4_10 rfl (lv_at hl 0 rfl) ?_
  refine lv_ldcw (v := 858993459) hx hb X.2.2.2.1 (X.2.2.2.2.1 (.constant RJ6 266 858993459) (kWs_of 417 (by decide +kernel) rfl)) dJ6_bitCount_0f7a4_11 ?_
  refine lv_iand hx hb dJ6_bitCount_0f7a4_14 ?_
  refine lv_iload_n hx hb dJ6_bitCount_0f7a4_15 rfl (lv_at hl 0 rfl) ?_
  refine lv_iconst (v := nI 2) hx hb dJ6_bitCount_0f7a4_16 (by decide) ?_
  refine lv_iushr hx hb dJ6_bitCount_0f7a4_17 rfl ?_
  refine lv_ldcw (v := 858993459) hx hb X.2.2.2.1 (X.2.2.2.2.1 (.constant RJ6 266 858993459) (kWs_of 417 (by decide +kernel) rfl)) dJ6_bitCount_0f7a4_18 ?_
  refine lv_iand hx hb dJ6_bitCount_0f7a4_21 ?_
  refine lv_iadd hx hb dJ6_bitCount_0f7a4_22 ?_
  refine kist hx hb dJ6_bitCount_0f7a4_23 rfl hl (by decide) kp_1_0 (fun ls hl => ?_)
  refine lv_iload_n hx hb dJ6_bitCount_0f7a4_24 rfl (lv_at hl 0 rfl) ?_
  refine lv_iload_n hx hb dJ6_bitCount_0f7a4_25 rfl (lv_at hl 0 rfl) ?_
  refine lv_iconst (v := nI 4) hx hb dJ6_bitCount_0f7a4_26 (by decide) ?_
  refine lv_iushr hx hb dJ6_bitCount_0f7a4_27 rfl ?_
  refine lv_iadd hx hb dJ6_bitCount_0f7a4_28 ?_
  refine lv_ldcw (v := 252645135) hx hb X.2.2.2.1 (X.2.2.2.2.1 (.constant RJ6 267 252645135) (kWs_of 418 (by decide +kernel) rfl)) dJ6_bitCount_0f7a4_29 ?_
  refine lv_iand hx hb dJ6_bitCount_0f7a4_32 ?_
  refine kist hx hb dJ6_bitCount_0f7a4_33 rfl hl (by decide) kp_1_0 (fun ls hl => ?_)
  refine lv_iload_n hx hb dJ6_bitCount_0f7a4_34 rfl (lv_at hl 0 rfl) ?_
  refine lv_iload_n hx hb dJ6_bitCount_0f7a4_35 rfl (lv_at hl 0 rfl) ?_
  refine lv_bipush (v := nI 8) hx hb dJ6_bitCount_0f7a4_36 (by decide) ?_
  refine lv_iushr hx hb dJ6_bitCount_0f7a4_38 rfl ?_
  refine lv_iadd hx hb dJ6_bitCount_0f7a4_39 ?_
  refine kist hx hb dJ6_bitCount_0f7a4_40 rfl hl (by decide) kp_1_0 (fun ls hl => ?_)
  refine lv_iload_n hx hb dJ6_bitCount_0f7a4_41 rfl (lv_at hl 0 rfl) ?_
  refine lv_iload_n hx hb dJ6_bitCount_0f7a4_42 rfl (lv_at hl 0 rfl) ?_
  refine lv_bipush (v := nI 16) hx hb dJ6_bitCount_0f7a4_43 (by decide) ?_
  refine lv_iushr hx hb dJ6_bitCount_0f7a4_45 rfl ?_
  refine lv_iadd hx hb dJ6_bitCount_0f7a4_46 ?_
  refine kist hx hb dJ6_bitCount_0f7a4_47 rfl hl (by decide) kp_1_0 (fun ls hl => ?_)
  refine lv_iload_n hx hb dJ6_bitCount_0f7a4_48 rfl (lv_at hl 0 rfl) ?_
  refine lv_bipush (v := nI 63) hx hb dJ6_bitCount_0f7a4_49 (by decide) ?_
  refine lv_iand hx hb dJ6_bitCount_0f7a4_51 ?_
  exact hret _ _ _ _ _ _ ⟨rfl, rfl⟩ hP hS dJ6_bitCount_0f7a4_52
set_option maxHeartbeats 4000000 in
set_option maxRecDepth 100000 in
theorem c_X4_openWidows (l : Launch) {D : va_G} {τ : Nat → ClassId} {ad : Nat → Nat} (hI : kInj ad) {G : Nat → Nat → Int32} {j n : Nat} (hj : j < 7) (hn : G (sB j) 6 = nI n) (hn4 : n ≤ 40) : kM l yX4_openWidows cX4_openWidows 3 (some .int) { frames := 1, cells := 0, slots := 0, locals := 20 } D τ ad [.ref (ad (sB j))] G (fun v G' => v = nI (cn (fun i => if G (rN j i) 1 = 0 ∧ 0 < G (rN j i) 6 then 1 else 0) n) ∧ G' = G) := by
  refine kMet (own := RX4) (by decide) rfl (Nat.le_of_ble_eq_true rfl) ?_
  intro p9 e9 s9 m9 args9 below9 meth9 c9 Q9 X hx hb hP hS hret ls hl
  have hPs := hP
  have hl : lv_has ls 3 [(0, .ref (ad (sB j)))] := hl
  refine lv_iconst (v := nI 0) hx hb dX4_openWidows_0 (by decide) ?_
  refine kist hx hb dX4_openWidows_1 rfl hl (by decide) (kp_1_1 rfl) (fun ls hl => ?_)
  refine lv_iconst (v := nI 0) hx hb dX4_openWidows_2 (by decide) ?_
  refine kist hx hb dX4_openWidows_3 rfl hl (by decide) (kp_2_2 rfl) (fun ls hl => ?_)
  have lp_4 : ∀ (d : Nat) (i x : Nat) (H : Heap) (locs : List Loc) (ls : Array Slot), (n - i) < d → (i ≤ n) → (x = cn (fun i => if G (rN j i) 1 = 0 ∧ 0 < G (rN j i) 6 then 1 else 0) i) → va_P D vwCl (kW τ ad G) H → va_S (kAd ad) s9.heap H locs → lv_has ls 3 [(0, .ref (ad (sB j))), (1, .int (nI x)), (2, .int (nI i))] → W p9 l e9 { frames := 1, cells := 0, slots := 0, locals := 20 } s9 m9 args9 below9 meth9 c9 H locs 0 0 Q9 (F0 m9 4 ls []) := by
    intro d
    induction d with
    | zero => exact fun _ _ _ _ _ hd => absurd hd (Nat.not_lt_zero _)
    | succ d ih =>
      intro i x H locs ls hd iv_0 iv_1 hP hS hl
      refine lv_iload_n hx hb dX4_openWidows_4 rfl (lv_at hl 2 rfl) ?_
      refine lv_aload_n hx hb dX4_openWidows_5 rfl (lv_at hl 0 rfl) ?_
      refine kget X hP (oS (by first | assumption | omega)) g_X4_44 (congrArg (fun z => some (Value.int z)) hn) dX4_openWidows_6 ?_
      first
        | refine kic_ge (tgt := 33) hx hb dX4_openWidows_9 (by decide) (by with_reducible rfl) (by with_reducible rfl) (by omega) (by omega) (fun c_9 => ?_) (fun c_9 => ?_)
        | refine lv_icmp_ge (tgt := 33) hx hb dX4_openWidows_9 (by decide) (fun c_9 => ?_) (fun c_9 => ?_)
      · skip
        refine lv_iload_n hx hb dX4_openWidows_33 rfl (lv_at hl 1 rfl) ?_
        exact hret _ _ _ _ _ _ (⟨congrArg nI (iv_1.trans (by rw [show i = n by omega])), rfl⟩) hP hS dX4_openWidows_34
      · skip
        refine lv_aload_n hx hb dX4_openWidows_12 rfl (lv_at hl 0 rfl) ?_
        refine kget X hP (oS (by first | assumption | omega)) g_X4_19 rfl dX4_openWidows_13 ?_
        refine lv_iload_n hx hb dX4_openWidows_16 rfl (lv_at hl 2 rfl) ?_
        refine kaald X hP (qR (by first | assumption | omega)) (by first | assumption | omega) rfl dX4_openWidows_17 ?_
        refine kcV X hP hS (c_X3_isOpenWidow l hI (by first | assumption | omega) (by first | assumption | omega)) (oR (by first | assumption | omega) (by first | assumption | omega)) v_X4_76 ⟨Nat.le_of_ble_eq_true rfl, Nat.le_of_ble_eq_true rfl, rfl, rfl⟩ rfl rfl (Nat.le_of_ble_eq_true rfl) hl.1 ⟨Nat.zero_le _, Nat.zero_le _⟩ dX4_openWidows_18 (fun r_18 G_18 H locs hR hP hS => ?_)
        obtain ⟨rfl, hG_18⟩ := hR
        rw [hG_18] at hP
        clear hG_18
        first
          | refine kif_eq (tgt := 27) hx hb dX4_openWidows_21 (by decide) (fun c_21 => ?_) (fun c_21 => ?_)
          | refine lv_if_eq (tgt := 27) hx hb dX4_openWidows_21 (by decide) (fun c_21 => ?_) (fun c_21 => ?_)
        · skip
          first
            | refine kinc (q := 2) hx hb dX4_openWidows_27 hl rfl (by decide) (kp_3_2 rfl) (fun ls hl => ?_)
            | refine kincG (q := 2) hx hb dX4_openWidows_27 hl rfl (by decide) (kp_3_2 rfl) (fun ls hl => ?_)
          refine lv_goto (tgt := 4) hx hb dX4_openWidows_30 (by decide) ?_
          exact ih _ _ _ _ _ (by omega) (by omega) (by first | exact cn_p iv_1 (if_pos (by first | assumption | exact ⟨‹_›, ‹_›⟩)) | exact cn_z iv_1 (if_neg (by first | assumption | (intro z; exact absurd z.1 ‹_›) | (intro z; exact absurd z.2 ‹_›)))) hP hS (lv_sub hl [0,1,2] rfl)
        · skip
          first
            | refine kinc (q := 1) hx hb dX4_openWidows_24 hl rfl (by decide) (kp_3_1 rfl) (fun ls hl => ?_)
            | refine kincG (q := 1) hx hb dX4_openWidows_24 hl rfl (by decide) (kp_3_1 rfl) (fun ls hl => ?_)
          first
            | refine kinc (q := 2) hx hb dX4_openWidows_27 hl rfl (by decide) (kp_3_2 rfl) (fun ls hl => ?_)
            | refine kincG (q := 2) hx hb dX4_openWidows_27 hl rfl (by decide) (kp_3_2 rfl) (fun ls hl => ?_)
          refine lv_goto (tgt := 4) hx hb dX4_openWidows_30 (by decide) ?_
          exact ih _ _ _ _ _ (by omega) (by omega) (by first | exact cn_p iv_1 (if_pos (by first | assumption | exact ⟨‹_›, ‹_›⟩)) | exact cn_z iv_1 (if_neg (by first | assumption | (intro z; exact absurd z.1 ‹_›) | (intro z; exact absurd z.2 ‹_›)))) hP hS (lv_sub hl [0,1,2] rfl)
  exact lp_4 _ 0 0 _ _ _ (Nat.lt_succ_self _) (Nat.zero_le _) (rfl) hP hS (lv_sub hl [0,1,2] rfl)

set_option maxHeartbeats 4000000 in
set_option maxRecDepth 100000 in
theorem c_X4_coinsPaid (l : Launch) {D : va_G} {τ : Nat → ClassId} {ad : Nat → Nat} (hI : kInj ad) {G : Nat → Nat → Int32} {j n : Nat} (hj : j < 7) (hn : G (sB j) 6 = nI n) (hn4 : n ≤ 40) : kM l yX4_coinsPaid cX4_coinsPaid 3 (some .int) { frames := 0, cells := 0, slots := 0, locals := 0 } D τ ad [.ref (ad (sB j))] G (fun v G' => v = sm (fun i => G (rN j i) 7) n ∧ G' = G) := by
  refine kMet (own := RX4) (by decide) rfl (Nat.le_of_ble_eq_true rfl) ?_
  intro p9 e9 s9 m9 args9 below9 meth9 c9 Q9 X hx hb hP hS hret ls hl
  have hPs := hP
  have hl : lv_has ls 3 [(0, .ref (ad (sB j)))] := hl
  refine lv_iconst (v := nI 0) hx hb dX4_coinsPaid_0 (by decide) ?_
  refine kist hx hb dX4_coinsPaid_1 rfl hl (by decide) (kp_1_1 rfl) (fun ls hl => ?_)
  refine lv_iconst (v := nI 0) hx hb dX4_coinsPaid_2 (by decide) ?_
  refine kist hx hb dX4_coinsPaid_3 rfl hl (by decide) (kp_2_2 rfl) (fun ls hl => ?_)
  have lp_4 : ∀ (d : Nat) (i : Nat) (x : Int32) (H : Heap) (locs : List Loc) (ls : Array Slot), (n - i) < d → (i ≤ n) → (x = sm (fun i => G (rN j i) 7) i) → va_P D vwCl (kW τ ad G) H → va_S (kAd ad) s9.heap H locs → lv_has ls 3 [(0, .ref (ad (sB j))), (1, .int x), (2, .int (nI i))] → W p9 l e9 { frames := 0, cells := 0, slots := 0, locals := 0 } s9 m9 args9 below9 meth9 c9 H locs 0 0 Q9 (F0 m9 4 ls []) := by
    intro d
    induction d with
    | zero => exact fun _ _ _ _ _ hd => absurd hd (Nat.not_lt_zero _)
    | succ d ih =>
      intro i x H locs ls hd iv_0 iv_1 hP hS hl
      refine lv_iload_n hx hb dX4_coinsPaid_4 rfl (lv_at hl 2 rfl) ?_
      refine lv_aload_n hx hb dX4_coinsPaid_5 rfl (lv_at hl 0 rfl) ?_
      refine kget X hP (oS (by first | assumption | omega)) g_X4_44 (congrArg (fun z => some (Value.int z)) hn) dX4_coinsPaid_6 ?_
      first
        | refine kic_ge (tgt := 30) hx hb dX4_coinsPaid_9 (by decide) (by with_reducible rfl) (by with_reducible rfl) (by omega) (by omega) (fun c_9 => ?_) (fun c_9 => ?_)
        | refine lv_icmp_ge (tgt := 30) hx hb dX4_coinsPaid_9 (by decide) (fun c_9 => ?_) (fun c_9 => ?_)
      · skip
        refine lv_iload_n hx hb dX4_coinsPaid_30 rfl (lv_at hl 1 rfl) ?_
        exact hret _ _ _ _ _ _ (⟨iv_1.trans (by rw [show i = n by omega]), rfl⟩) hP hS dX4_coinsPaid_31
      · skip
        refine lv_iload_n hx hb dX4_coinsPaid_12 rfl (lv_at hl 1 rfl) ?_
        refine lv_aload_n hx hb dX4_coinsPaid_13 rfl (lv_at hl 0 rfl) ?_
        refine kget X hP (oS (by first | assumption | omega)) g_X4_19 rfl dX4_coinsPaid_14 ?_
        refine lv_iload_n hx hb dX4_coinsPaid_17 rfl (lv_at hl 2 rfl) ?_
        refine kaald X hP (qR (by first | assumption | omega)) (by first | assumption | omega) rfl dX4_coinsPaid_18 ?_
        refine kget X hP (oR (by first | assumption | omega) (by first | assumption | omega)) g_X4_80 rfl dX4_coinsPaid_19 ?_
        first
          | refine kadd hx hb dX4_coinsPaid_22 (by with_reducible rfl) (by with_reducible rfl) ?_
          | refine lv_iadd hx hb dX4_coinsPaid_22 ?_
        refine kist hx hb dX4_coinsPaid_23 rfl hl (by decide) (kp_3_1 rfl) (fun ls hl => ?_)
        first
          | refine kinc (q := 2) hx hb dX4_coinsPaid_24 hl rfl (by decide) (kp_3_2 rfl) (fun ls hl => ?_)
          | refine kincG (q := 2) hx hb dX4_coinsPaid_24 hl rfl (by decide) (kp_3_2 rfl) (fun ls hl => ?_)
        refine lv_goto (tgt := 4) hx hb dX4_coinsPaid_27 (by decide) ?_
        exact ih _ _ _ _ _ (by omega) (by omega) (by rw [iv_1]; rfl) hP hS (lv_sub hl [0,1,2] rfl)
  exact lp_4 _ 0 0 _ _ _ (Nat.lt_succ_self _) (Nat.zero_le _) (rfl) hP hS (lv_sub hl [0,1,2] rfl)

set_option maxHeartbeats 4000000 in
set_option maxRecDepth 100000 in
theorem c_X4_writersOf (l : Launch) {D : va_G} {τ : Nat → ClassId} {ad : Nat → Nat} (hI : kInj ad) {G : Nat → Nat → Int32} {j n c : Nat} (hj : j < 7) (hn : G (sB j) 6 = nI n) (hn4 : n ≤ 40) : kM l yX4_writersOf cX4_writersOf 4 (some .int) { frames := 1, cells := 0, slots := 0, locals := 21 } D τ ad [.ref (ad (sB j)), .int (nI c)] G (fun v G' => v = nI (cn (fun i => if G (rN j i) 1 = 0 ∧ hw (G (rN j i) 5) c then 1 else 0) n) ∧ G' = G) := by
  refine kMet (own := RX4) (by decide) rfl (Nat.le_of_ble_eq_true rfl) ?_
  intro p9 e9 s9 m9 args9 below9 meth9 c9 Q9 X hx hb hP hS hret ls hl
  have hPs := hP
  have hl : lv_has ls 4 [(0, .ref (ad (sB j))), (1, .int (nI c))] := hl
  refine lv_iconst (v := nI 0) hx hb dX4_writersOf_0 (by decide) ?_
  refine kist hx hb dX4_writersOf_1 rfl hl (by decide) (kp_2_2 rfl) (fun ls hl => ?_)
  refine lv_iconst (v := nI 0) hx hb dX4_writersOf_2 (by decide) ?_
  refine kist hx hb dX4_writersOf_3 rfl hl (by decide) (kp_3_3 rfl) (fun ls hl => ?_)
  have lp_4 : ∀ (d : Nat) (i x : Nat) (H : Heap) (locs : List Loc) (ls : Array Slot), (n - i) < d → (i ≤ n) → (x = cn (fun i => if G (rN j i) 1 = 0 ∧ hw (G (rN j i) 5) c then 1 else 0) i) → va_P D vwCl (kW τ ad G) H → va_S (kAd ad) s9.heap H locs → lv_has ls 4 [(0, .ref (ad (sB j))), (1, .int (nI c)), (2, .int (nI x)), (3, .int (nI i))] → W p9 l e9 { frames := 1, cells := 0, slots := 0, locals := 21 } s9 m9 args9 below9 meth9 c9 H locs 0 0 Q9 (F0 m9 4 ls []) := by
    intro d
    induction d with
    | zero => exact fun _ _ _ _ _ hd => absurd hd (Nat.not_lt_zero _)
    | succ d ih =>
      intro i x H locs ls hd iv_0 iv_1 hP hS hl
      refine lv_iload_n hx hb dX4_writersOf_4 rfl (lv_at hl 3 rfl) ?_
      refine lv_aload_n hx hb dX4_writersOf_5 rfl (lv_at hl 0 rfl) ?_
      refine kget X hP (oS (by first | assumption | omega)) g_X4_44 (congrArg (fun z => some (Value.int z)) hn) dX4_writersOf_6 ?_
      first
        | refine kic_ge (tgt := 46) hx hb dX4_writersOf_9 (by decide) (by with_reducible rfl) (by with_reducible rfl) (by omega) (by omega) (fun c_9 => ?_) (fun c_9 => ?_)
        | refine lv_icmp_ge (tgt := 46) hx hb dX4_writersOf_9 (by decide) (fun c_9 => ?_) (fun c_9 => ?_)
      · skip
        refine lv_iload_n hx hb dX4_writersOf_46 rfl (lv_at hl 2 rfl) ?_
        exact hret _ _ _ _ _ _ (⟨congrArg nI (iv_1.trans (by rw [show i = n by omega])), rfl⟩) hP hS dX4_writersOf_47
      · skip
        refine lv_aload_n hx hb dX4_writersOf_12 rfl (lv_at hl 0 rfl) ?_
        refine kget X hP (oS (by first | assumption | omega)) g_X4_19 rfl dX4_writersOf_13 ?_
        refine lv_iload_n hx hb dX4_writersOf_16 rfl (lv_at hl 3 rfl) ?_
        refine kaald X hP (qR (by first | assumption | omega)) (by first | assumption | omega) rfl dX4_writersOf_17 ?_
        refine kcV X hP hS (c_X3_isOpen l hI (by first | assumption | omega) (by first | assumption | omega)) (oR (by first | assumption | omega) (by first | assumption | omega)) v_X4_83 ⟨Nat.le_of_ble_eq_true rfl, Nat.le_of_ble_eq_true rfl, rfl, rfl⟩ rfl rfl (Nat.le_of_ble_eq_true rfl) hl.1 ⟨Nat.zero_le _, Nat.zero_le _⟩ dX4_writersOf_18 (fun r_18 G_18 H locs hR hP hS => ?_)
        obtain ⟨rfl, hG_18⟩ := hR
        rw [hG_18] at hP
        clear hG_18
        first
          | refine kif_eq (tgt := 40) hx hb dX4_writersOf_21 (by decide) (fun c_21 => ?_) (fun c_21 => ?_)
          | refine lv_if_eq (tgt := 40) hx hb dX4_writersOf_21 (by decide) (fun c_21 => ?_) (fun c_21 => ?_)
        · skip
          first
            | refine kinc (q := 3) hx hb dX4_writersOf_40 hl rfl (by decide) (kp_4_3 rfl) (fun ls hl => ?_)
            | refine kincG (q := 3) hx hb dX4_writersOf_40 hl rfl (by decide) (kp_4_3 rfl) (fun ls hl => ?_)
          refine lv_goto (tgt := 4) hx hb dX4_writersOf_43 (by decide) ?_
          exact ih _ _ _ _ _ (by omega) (by omega) (by first | exact cn_p iv_1 (if_pos (⟨c_21, c_34⟩)) | exact cn_z iv_1 (if_neg (fun z => c_21 z.1)) | exact cn_z iv_1 (if_neg (fun z => c_34 z.2))) hP hS (lv_sub hl [0,1,2,3] rfl)
        · skip
          refine lv_aload_n hx hb dX4_writersOf_24 rfl (lv_at hl 0 rfl) ?_
          refine kget X hP (oS (by first | assumption | omega)) g_X4_19 rfl dX4_writersOf_25 ?_
          refine lv_iload_n hx hb dX4_writersOf_28 rfl (lv_at hl 3 rfl) ?_
          refine kaald X hP (qR (by first | assumption | omega)) (by first | assumption | omega) rfl dX4_writersOf_29 ?_
          refine lv_iload_n hx hb dX4_writersOf_30 rfl (lv_at hl 1 rfl) ?_
          refine kcV X hP hS (c_X3_hasWrite l hI (by first | assumption | omega) (by first | assumption | omega)) (oR (by first | assumption | omega) (by first | assumption | omega)) v_X4_86 ⟨Nat.le_of_ble_eq_true rfl, Nat.le_of_ble_eq_true rfl, rfl, rfl⟩ rfl rfl (Nat.le_of_ble_eq_true rfl) hl.1 ⟨Nat.zero_le _, Nat.zero_le _⟩ dX4_writersOf_31 (fun r_31 G_31 H locs hR hP hS => ?_)
          obtain ⟨rfl, hG_31⟩ := hR
          rw [hG_31] at hP
          clear hG_31
          first
            | refine kif_eq (tgt := 40) hx hb dX4_writersOf_34 (by decide) (fun c_34 => ?_) (fun c_34 => ?_)
            | refine lv_if_eq (tgt := 40) hx hb dX4_writersOf_34 (by decide) (fun c_34 => ?_) (fun c_34 => ?_)
          · skip
            first
              | refine kinc (q := 3) hx hb dX4_writersOf_40 hl rfl (by decide) (kp_4_3 rfl) (fun ls hl => ?_)
              | refine kincG (q := 3) hx hb dX4_writersOf_40 hl rfl (by decide) (kp_4_3 rfl) (fun ls hl => ?_)
            refine lv_goto (tgt := 4) hx hb dX4_writersOf_43 (by decide) ?_
            exact ih _ _ _ _ _ (by omega) (by omega) (by first | exact cn_p iv_1 (if_pos (⟨c_21, c_34⟩)) | exact cn_z iv_1 (if_neg (fun z => c_21 z.1)) | exact cn_z iv_1 (if_neg (fun z => c_34 z.2))) hP hS (lv_sub hl [0,1,2,3] rfl)
          · skip
            first
              | refine kinc (q := 2) hx hb dX4_writersOf_37 hl rfl (by decide) (kp_4_2 rfl) (fun ls hl => ?_)
              | refine kincG (q := 2) hx hb dX4_writersOf_37 hl rfl (by decide) (kp_4_2 rfl) (fun ls hl => ?_)
            first
              | refine kinc (q := 3) hx hb dX4_writersOf_40 hl rfl (by decide) (kp_4_3 rfl) (fun ls hl => ?_)
              | refine kincG (q := 3) hx hb dX4_writersOf_40 hl rfl (by decide) (kp_4_3 rfl) (fun ls hl => ?_)
            refine lv_goto (tgt := 4) hx hb dX4_writersOf_43 (by decide) ?_
            exact ih _ _ _ _ _ (by omega) (by omega) (by first | exact cn_p iv_1 (if_pos (⟨c_21, c_34⟩)) | exact cn_z iv_1 (if_neg (fun z => c_21 z.1)) | exact cn_z iv_1 (if_neg (fun z => c_34 z.2))) hP hS (lv_sub hl [0,1,2,3] rfl)
  exact lp_4 _ 0 0 _ _ _ (Nat.lt_succ_self _) (Nat.zero_le _) (rfl) hP hS (lv_sub hl [0,1,2,3] rfl)

set_option maxHeartbeats 4000000 in
set_option maxRecDepth 100000 in
theorem c_X4_seersOf (l : Launch) {D : va_G} {τ : Nat → ClassId} {ad : Nat → Nat} (hI : kInj ad) {G : Nat → Nat → Int32} {j n c P : Nat} {q : Int32} (hj : j < 7) (hn : G (sB j) 6 = nI n) (hn4 : n ≤ 40) (hc : c < 12) (hpl : G (cB j c) 2 = nI P) (hp10 : P ≤ 10) : kM l yX4_seersOf cX4_seersOf 6 (some .int) { frames := 1, cells := 0, slots := 0, locals := 22 } D τ ad [.ref (ad (sB j)), .ref (ad (cB j c)), .int q] G (fun v G' => v = nI (cn (fun i => if G (rN j i) 1 = 0 ∧ pf (G (cM j c)) (G (rN j i) 2) 0 P = q then 1 else 0) n) ∧ G' = G) := by
  refine kMet (own := RX4) (by decide) rfl (Nat.le_of_ble_eq_true rfl) ?_
  intro p9 e9 s9 m9 args9 below9 meth9 c9 Q9 X hx hb hP hS hret ls hl
  have hPs := hP
  have hl : lv_has ls 6 [(0, .ref (ad (sB j))), (1, .ref (ad (cB j c))), (2, .int q)] := hl
  refine lv_iconst (v := nI 0) hx hb dX4_seersOf_0 (by decide) ?_
  refine kist hx hb dX4_seersOf_1 rfl hl (by decide) (kp_3_3 rfl) (fun ls hl => ?_)
  refine lv_iconst (v := nI 0) hx hb dX4_seersOf_2 (by decide) ?_
  refine kistW hx hb dX4_seersOf_3 hl (by decide) (kp_4_4 rfl) (fun ls hl => ?_)
  have lp_5 : ∀ (d : Nat) (i x : Nat) (H : Heap) (locs : List Loc) (ls : Array Slot), (n - i) < d → (i ≤ n) → (x = cn (fun i => if G (rN j i) 1 = 0 ∧ pf (G (cM j c)) (G (rN j i) 2) 0 P = q then 1 else 0) i) → va_P D vwCl (kW τ ad G) H → va_S (kAd ad) s9.heap H locs → lv_has ls 6 [(0, .ref (ad (sB j))), (1, .ref (ad (cB j c))), (2, .int q), (3, .int (nI x)), (4, .int (nI i))] → W p9 l e9 { frames := 1, cells := 0, slots := 0, locals := 22 } s9 m9 args9 below9 meth9 c9 H locs 0 0 Q9 (F0 m9 5 ls []) := by
    intro d
    induction d with
    | zero => exact fun _ _ _ _ _ hd => absurd hd (Nat.not_lt_zero _)
    | succ d ih =>
      intro i x H locs ls hd iv_0 iv_1 hP hS hl
      refine lv_iload hx hb dX4_seersOf_5 (lv_at hl 4 rfl) ?_
      refine lv_aload_n hx hb dX4_seersOf_7 rfl (lv_at hl 0 rfl) ?_
      refine kget X hP (oS (by first | assumption | omega)) g_X4_44 (congrArg (fun z => some (Value.int z)) hn) dX4_seersOf_8 ?_
      first
        | refine kic_ge (tgt := 53) hx hb dX4_seersOf_11 (by decide) (by with_reducible rfl) (by with_reducible rfl) (by omega) (by omega) (fun c_11 => ?_) (fun c_11 => ?_)
        | refine lv_icmp_ge (tgt := 53) hx hb dX4_seersOf_11 (by decide) (fun c_11 => ?_) (fun c_11 => ?_)
      · skip
        refine lv_iload_n hx hb dX4_seersOf_53 rfl (lv_at hl 3 rfl) ?_
        exact hret _ _ _ _ _ _ (⟨congrArg nI (iv_1.trans (by rw [show i = n by omega])), rfl⟩) hP hS dX4_seersOf_54
      · skip
        refine lv_aload_n hx hb dX4_seersOf_14 rfl (lv_at hl 0 rfl) ?_
        refine kget X hP (oS (by first | assumption | omega)) g_X4_19 rfl dX4_seersOf_15 ?_
        refine lv_iload hx hb dX4_seersOf_18 (lv_at hl 4 rfl) ?_
        refine kaald X hP (qR (by first | assumption | omega)) (by first | assumption | omega) rfl dX4_seersOf_20 ?_
        refine kastW hx hb dX4_seersOf_21 hl (by decide) (kp_5_5 rfl) (fun ls hl => ?_)
        refine lv_aload hx hb dX4_seersOf_23 (lv_at hl 5 rfl) ?_
        refine kcV X hP hS (c_X3_isOpen l hI (by first | assumption | omega) (by first | assumption | omega)) (oR (by first | assumption | omega) (by first | assumption | omega)) v_X4_83 ⟨Nat.le_of_ble_eq_true rfl, Nat.le_of_ble_eq_true rfl, rfl, rfl⟩ rfl rfl (Nat.le_of_ble_eq_true rfl) hl.1 ⟨Nat.zero_le _, Nat.zero_le _⟩ dX4_seersOf_25 (fun r_25 G_25 H locs hR hP hS => ?_)
        obtain ⟨rfl, hG_25⟩ := hR
        rw [hG_25] at hP
        clear hG_25
        first
          | refine kif_eq (tgt := 47) hx hb dX4_seersOf_28 (by decide) (fun c_28 => ?_) (fun c_28 => ?_)
          | refine lv_if_eq (tgt := 47) hx hb dX4_seersOf_28 (by decide) (fun c_28 => ?_) (fun c_28 => ?_)
        · skip
          first
            | refine kinc (q := 4) hx hb dX4_seersOf_47 hl rfl (by decide) (kp_6_4 rfl) (fun ls hl => ?_)
            | refine kincG (q := 4) hx hb dX4_seersOf_47 hl rfl (by decide) (kp_6_4 rfl) (fun ls hl => ?_)
          refine lv_goto (tgt := 5) hx hb dX4_seersOf_50 (by decide) ?_
          exact ih _ _ _ _ _ (by omega) (by omega) (by first | exact cn_p iv_1 (if_pos (⟨c_28, c_41⟩)) | exact cn_z iv_1 (if_neg (fun z => c_28 z.1)) | exact cn_z iv_1 (if_neg (fun z => c_41 z.2))) hP hS (lv_sub hl [0,1,2,3,4] rfl)
        · skip
          refine lv_aload_n hx hb dX4_seersOf_31 rfl (lv_at hl 1 rfl) ?_
          refine lv_aload hx hb dX4_seersOf_32 (lv_at hl 5 rfl) ?_
          refine kget X hP (oR (by first | assumption | omega) (by first | assumption | omega)) g_X4_90 rfl dX4_seersOf_34 ?_
          refine kcV X hP hS (c_X0_placeSeenAt l hI (x := G (rN j i) 2) hj hc hpl hp10) (oC (by first | assumption | omega) (by first | assumption | omega)) v_X4_91 ⟨Nat.le_of_ble_eq_true rfl, Nat.le_of_ble_eq_true rfl, rfl, rfl⟩ rfl rfl (Nat.le_of_ble_eq_true rfl) hl.1 ⟨Nat.zero_le _, Nat.zero_le _⟩ dX4_seersOf_37 (fun r_37 G_37 H locs hR hP hS => ?_)
          obtain ⟨rfl, hG_37⟩ := hR
          rw [hG_37] at hP
          clear hG_37
          refine lv_iload_n hx hb dX4_seersOf_40 rfl (lv_at hl 2 rfl) ?_
          first
            | refine kic_ne (tgt := 47) hx hb dX4_seersOf_41 (by decide) (by with_reducible rfl) (by with_reducible rfl) (by omega) (by omega) (fun c_41 => ?_) (fun c_41 => ?_)
            | refine lv_icmp_ne (tgt := 47) hx hb dX4_seersOf_41 (by decide) (fun c_41 => ?_) (fun c_41 => ?_)
          · skip
            first
              | refine kinc (q := 4) hx hb dX4_seersOf_47 hl rfl (by decide) (kp_6_4 rfl) (fun ls hl => ?_)
              | refine kincG (q := 4) hx hb dX4_seersOf_47 hl rfl (by decide) (kp_6_4 rfl) (fun ls hl => ?_)
            refine lv_goto (tgt := 5) hx hb dX4_seersOf_50 (by decide) ?_
            exact ih _ _ _ _ _ (by omega) (by omega) (by first | exact cn_p iv_1 (if_pos (⟨c_28, c_41⟩)) | exact cn_z iv_1 (if_neg (fun z => c_28 z.1)) | exact cn_z iv_1 (if_neg (fun z => c_41 z.2))) hP hS (lv_sub hl [0,1,2,3,4] rfl)
          · skip
            first
              | refine kinc (q := 3) hx hb dX4_seersOf_44 hl rfl (by decide) (kp_6_3 rfl) (fun ls hl => ?_)
              | refine kincG (q := 3) hx hb dX4_seersOf_44 hl rfl (by decide) (kp_6_3 rfl) (fun ls hl => ?_)
            first
              | refine kinc (q := 4) hx hb dX4_seersOf_47 hl rfl (by decide) (kp_6_4 rfl) (fun ls hl => ?_)
              | refine kincG (q := 4) hx hb dX4_seersOf_47 hl rfl (by decide) (kp_6_4 rfl) (fun ls hl => ?_)
            refine lv_goto (tgt := 5) hx hb dX4_seersOf_50 (by decide) ?_
            exact ih _ _ _ _ _ (by omega) (by omega) (by first | exact cn_p iv_1 (if_pos (⟨c_28, c_41⟩)) | exact cn_z iv_1 (if_neg (fun z => c_28 z.1)) | exact cn_z iv_1 (if_neg (fun z => c_41 z.2))) hP hS (lv_sub hl [0,1,2,3,4] rfl)
  exact lp_5 _ 0 0 _ _ _ (Nat.lt_succ_self _) (Nat.zero_le _) (rfl) hP hS (lv_sub hl [0,1,2,3,4] rfl)

set_option maxHeartbeats 4000000 in
set_option maxRecDepth 100000 in
theorem c_X4_payersOf (l : Launch) {D : va_G} {τ : Nat → ClassId} {ad : Nat → Nat} (hI : kInj ad) {G : Nat → Nat → Int32} {j n c P : Nat} {q : Int32} (hj : j < 7) (hn : G (sB j) 6 = nI n) (hn4 : n ≤ 40) (hc : c < 12) (hpl : G (cB j c) 2 = nI P) (hp10 : P ≤ 10) : kM l yX4_payersOf cX4_payersOf 6 (some .int) { frames := 1, cells := 0, slots := 0, locals := 22 } D τ ad [.ref (ad (sB j)), .ref (ad (cB j c)), .int q] G (fun v G' => v = nI (cn (fun i => if (G (rN j i) 1 = 0 ∧ G (rN j i) 6 = 0) ∧ pf (G (cM j c)) (G (rN j i) 2) 0 P = q then 1 else 0) n) ∧ G' = G) := by
  refine kMet (own := RX4) (by decide) rfl (Nat.le_of_ble_eq_true rfl) ?_
  intro p9 e9 s9 m9 args9 below9 meth9 c9 Q9 X hx hb hP hS hret ls hl
  have hPs := hP
  have hl : lv_has ls 6 [(0, .ref (ad (sB j))), (1, .ref (ad (cB j c))), (2, .int q)] := hl
  refine lv_iconst (v := nI 0) hx hb dX4_payersOf_0 (by decide) ?_
  refine kist hx hb dX4_payersOf_1 rfl hl (by decide) (kp_3_3 rfl) (fun ls hl => ?_)
  refine lv_iconst (v := nI 0) hx hb dX4_payersOf_2 (by decide) ?_
  refine kistW hx hb dX4_payersOf_3 hl (by decide) (kp_4_4 rfl) (fun ls hl => ?_)
  have lp_5 : ∀ (d : Nat) (i x : Nat) (H : Heap) (locs : List Loc) (ls : Array Slot), (n - i) < d → (i ≤ n) → (x = cn (fun i => if (G (rN j i) 1 = 0 ∧ G (rN j i) 6 = 0) ∧ pf (G (cM j c)) (G (rN j i) 2) 0 P = q then 1 else 0) i) → va_P D vwCl (kW τ ad G) H → va_S (kAd ad) s9.heap H locs → lv_has ls 6 [(0, .ref (ad (sB j))), (1, .ref (ad (cB j c))), (2, .int q), (3, .int (nI x)), (4, .int (nI i))] → W p9 l e9 { frames := 1, cells := 0, slots := 0, locals := 22 } s9 m9 args9 below9 meth9 c9 H locs 0 0 Q9 (F0 m9 5 ls []) := by
    intro d
    induction d with
    | zero => exact fun _ _ _ _ _ hd => absurd hd (Nat.not_lt_zero _)
    | succ d ih =>
      intro i x H locs ls hd iv_0 iv_1 hP hS hl
      refine lv_iload hx hb dX4_payersOf_5 (lv_at hl 4 rfl) ?_
      refine lv_aload_n hx hb dX4_payersOf_7 rfl (lv_at hl 0 rfl) ?_
      refine kget X hP (oS (by first | assumption | omega)) g_X4_44 (congrArg (fun z => some (Value.int z)) hn) dX4_payersOf_8 ?_
      first
        | refine kic_ge (tgt := 53) hx hb dX4_payersOf_11 (by decide) (by with_reducible rfl) (by with_reducible rfl) (by omega) (by omega) (fun c_11 => ?_) (fun c_11 => ?_)
        | refine lv_icmp_ge (tgt := 53) hx hb dX4_payersOf_11 (by decide) (fun c_11 => ?_) (fun c_11 => ?_)
      · skip
        refine lv_iload_n hx hb dX4_payersOf_53 rfl (lv_at hl 3 rfl) ?_
        exact hret _ _ _ _ _ _ (⟨congrArg nI (iv_1.trans (by rw [show i = n by omega])), rfl⟩) hP hS dX4_payersOf_54
      · skip
        refine lv_aload_n hx hb dX4_payersOf_14 rfl (lv_at hl 0 rfl) ?_
        refine kget X hP (oS (by first | assumption | omega)) g_X4_19 rfl dX4_payersOf_15 ?_
        refine lv_iload hx hb dX4_payersOf_18 (lv_at hl 4 rfl) ?_
        refine kaald X hP (qR (by first | assumption | omega)) (by first | assumption | omega) rfl dX4_payersOf_20 ?_
        refine kastW hx hb dX4_payersOf_21 hl (by decide) (kp_5_5 rfl) (fun ls hl => ?_)
        refine lv_aload hx hb dX4_payersOf_23 (lv_at hl 5 rfl) ?_
        refine kcV X hP hS (c_X3_paysRent l hI (by first | assumption | omega) (by first | assumption | omega)) (oR (by first | assumption | omega) (by first | assumption | omega)) v_X4_95 ⟨Nat.le_of_ble_eq_true rfl, Nat.le_of_ble_eq_true rfl, rfl, rfl⟩ rfl rfl (Nat.le_of_ble_eq_true rfl) hl.1 ⟨Nat.zero_le _, Nat.zero_le _⟩ dX4_payersOf_25 (fun r_25 G_25 H locs hR hP hS => ?_)
        obtain ⟨rfl, hG_25⟩ := hR
        rw [hG_25] at hP
        clear hG_25
        first
          | refine kif_eq (tgt := 47) hx hb dX4_payersOf_28 (by decide) (fun c_28 => ?_) (fun c_28 => ?_)
          | refine lv_if_eq (tgt := 47) hx hb dX4_payersOf_28 (by decide) (fun c_28 => ?_) (fun c_28 => ?_)
        · skip
          first
            | refine kinc (q := 4) hx hb dX4_payersOf_47 hl rfl (by decide) (kp_6_4 rfl) (fun ls hl => ?_)
            | refine kincG (q := 4) hx hb dX4_payersOf_47 hl rfl (by decide) (kp_6_4 rfl) (fun ls hl => ?_)
          refine lv_goto (tgt := 5) hx hb dX4_payersOf_50 (by decide) ?_
          exact ih _ _ _ _ _ (by omega) (by omega) (by first | exact cn_p iv_1 (if_pos (⟨c_28, c_41⟩)) | exact cn_z iv_1 (if_neg (fun z => c_28 z.1)) | exact cn_z iv_1 (if_neg (fun z => c_41 z.2))) hP hS (lv_sub hl [0,1,2,3,4] rfl)
        · skip
          refine lv_aload_n hx hb dX4_payersOf_31 rfl (lv_at hl 1 rfl) ?_
          refine lv_aload hx hb dX4_payersOf_32 (lv_at hl 5 rfl) ?_
          refine kget X hP (oR (by first | assumption | omega) (by first | assumption | omega)) g_X4_90 rfl dX4_payersOf_34 ?_
          refine kcV X hP hS (c_X0_placeSeenAt l hI (x := G (rN j i) 2) hj hc hpl hp10) (oC (by first | assumption | omega) (by first | assumption | omega)) v_X4_91 ⟨Nat.le_of_ble_eq_true rfl, Nat.le_of_ble_eq_true rfl, rfl, rfl⟩ rfl rfl (Nat.le_of_ble_eq_true rfl) hl.1 ⟨Nat.zero_le _, Nat.zero_le _⟩ dX4_payersOf_37 (fun r_37 G_37 H locs hR hP hS => ?_)
          obtain ⟨rfl, hG_37⟩ := hR
          rw [hG_37] at hP
          clear hG_37
          refine lv_iload_n hx hb dX4_payersOf_40 rfl (lv_at hl 2 rfl) ?_
          first
            | refine kic_ne (tgt := 47) hx hb dX4_payersOf_41 (by decide) (by with_reducible rfl) (by with_reducible rfl) (by omega) (by omega) (fun c_41 => ?_) (fun c_41 => ?_)
            | refine lv_icmp_ne (tgt := 47) hx hb dX4_payersOf_41 (by decide) (fun c_41 => ?_) (fun c_41 => ?_)
          · skip
            first
              | refine kinc (q := 4) hx hb dX4_payersOf_47 hl rfl (by decide) (kp_6_4 rfl) (fun ls hl => ?_)
              | refine kincG (q := 4) hx hb dX4_payersOf_47 hl rfl (by decide) (kp_6_4 rfl) (fun ls hl => ?_)
            refine lv_goto (tgt := 5) hx hb dX4_payersOf_50 (by decide) ?_
            exact ih _ _ _ _ _ (by omega) (by omega) (by first | exact cn_p iv_1 (if_pos (⟨c_28, c_41⟩)) | exact cn_z iv_1 (if_neg (fun z => c_28 z.1)) | exact cn_z iv_1 (if_neg (fun z => c_41 z.2))) hP hS (lv_sub hl [0,1,2,3,4] rfl)
          · skip
            first
              | refine kinc (q := 3) hx hb dX4_payersOf_44 hl rfl (by decide) (kp_6_3 rfl) (fun ls hl => ?_)
              | refine kincG (q := 3) hx hb dX4_payersOf_44 hl rfl (by decide) (kp_6_3 rfl) (fun ls hl => ?_)
            first
              | refine kinc (q := 4) hx hb dX4_payersOf_47 hl rfl (by decide) (kp_6_4 rfl) (fun ls hl => ?_)
              | refine kincG (q := 4) hx hb dX4_payersOf_47 hl rfl (by decide) (kp_6_4 rfl) (fun ls hl => ?_)
            refine lv_goto (tgt := 5) hx hb dX4_payersOf_50 (by decide) ?_
            exact ih _ _ _ _ _ (by omega) (by omega) (by first | exact cn_p iv_1 (if_pos (⟨c_28, c_41⟩)) | exact cn_z iv_1 (if_neg (fun z => c_28 z.1)) | exact cn_z iv_1 (if_neg (fun z => c_41 z.2))) hP hS (lv_sub hl [0,1,2,3,4] rfl)
  exact lp_5 _ 0 0 _ _ _ (Nat.lt_succ_self _) (Nat.zero_le _) (rfl) hP hS (lv_sub hl [0,1,2,3,4] rfl)

set_option maxHeartbeats 4000000 in
set_option maxRecDepth 100000 in
theorem c_X4_placesSeen (l : Launch) {D : va_G} {τ : Nat → ClassId} {ad : Nat → Nat} (hI : kInj ad) {G : Nat → Nat → Int32} {j n c P : Nat} {q : Int32} (hj : j < 7) (hn : G (sB j) 6 = nI n) (hn4 : n ≤ 40) (hc : c < 12) (hpl : G (cB j c) 2 = nI P) (hp10 : P ≤ 10) : kM l yX4_placesSeen cX4_placesSeen 6 (some .int) { frames := 1, cells := 0, slots := 0, locals := 22 } D τ ad [.ref (ad (sB j)), .ref (ad (cB j c)), .int q] G (fun v G' => v = so (psB G j c P q) n ∧ G' = G) := by
  refine kMet (own := RX4) (by decide) rfl (Nat.le_of_ble_eq_true rfl) ?_
  intro p9 e9 s9 m9 args9 below9 meth9 c9 Q9 X hx hb hP hS hret ls hl
  have hPs := hP
  have hl : lv_has ls 6 [(0, .ref (ad (sB j))), (1, .ref (ad (cB j c))), (2, .int q)] := hl
  refine lv_iconst (v := nI 0) hx hb dX4_placesSeen_0 (by decide) ?_
  refine kist hx hb dX4_placesSeen_1 rfl hl (by decide) (kp_3_3 rfl) (fun ls hl => ?_)
  refine lv_iconst (v := nI 0) hx hb dX4_placesSeen_2 (by decide) ?_
  refine kistW hx hb dX4_placesSeen_3 hl (by decide) (kp_4_4 rfl) (fun ls hl => ?_)
  have lp_5 : ∀ (d : Nat) (i : Nat) (x : Int32) (H : Heap) (locs : List Loc) (ls : Array Slot), (n - i) < d → (i ≤ n) → (x = so (psB G j c P q) i) → va_P D vwCl (kW τ ad G) H → va_S (kAd ad) s9.heap H locs → lv_has ls 6 [(0, .ref (ad (sB j))), (1, .ref (ad (cB j c))), (2, .int q), (3, .int x), (4, .int (nI i))] → W p9 l e9 { frames := 1, cells := 0, slots := 0, locals := 22 } s9 m9 args9 below9 meth9 c9 H locs 0 0 Q9 (F0 m9 5 ls []) := by
    intro d
    induction d with
    | zero => exact fun _ _ _ _ _ hd => absurd hd (Nat.not_lt_zero _)
    | succ d ih =>
      intro i x H locs ls hd iv_0 iv_1 hP hS hl
      refine lv_iload hx hb dX4_placesSeen_5 (lv_at hl 4 rfl) ?_
      refine lv_aload_n hx hb dX4_placesSeen_7 rfl (lv_at hl 0 rfl) ?_
      refine kget X hP (oS (by first | assumption | omega)) g_X4_44 (congrArg (fun z => some (Value.int z)) hn) dX4_placesSeen_8 ?_
      first
        | refine kic_ge (tgt := 68) hx hb dX4_placesSeen_11 (by decide) (by with_reducible rfl) (by with_reducible rfl) (by omega) (by omega) (fun c_11 => ?_) (fun c_11 => ?_)
        | refine lv_icmp_ge (tgt := 68) hx hb dX4_placesSeen_11 (by decide) (fun c_11 => ?_) (fun c_11 => ?_)
      · skip
        refine lv_iload_n hx hb dX4_placesSeen_68 rfl (lv_at hl 3 rfl) ?_
        exact hret _ _ _ _ _ _ (⟨iv_1.trans (by rw [show i = n by omega]), rfl⟩) hP hS dX4_placesSeen_69
      · skip
        refine lv_iload hx hb dX4_placesSeen_14 (lv_at hl 4 rfl) ?_
        refine lv_iload_n hx hb dX4_placesSeen_16 rfl (lv_at hl 2 rfl) ?_
        first
          | refine kic_eq (tgt := 62) hx hb dX4_placesSeen_17 (by decide) (by with_reducible rfl) (by with_reducible rfl) (by omega) (by omega) (fun c_17 => ?_) (fun c_17 => ?_)
          | refine lv_icmp_eq (tgt := 62) hx hb dX4_placesSeen_17 (by decide) (fun c_17 => ?_) (fun c_17 => ?_)
        · skip
          first
            | refine kinc (q := 4) hx hb dX4_placesSeen_62 hl rfl (by decide) (kp_5_4 rfl) (fun ls hl => ?_)
            | refine kincG (q := 4) hx hb dX4_placesSeen_62 hl rfl (by decide) (kp_5_4 rfl) (fun ls hl => ?_)
          refine lv_goto (tgt := 5) hx hb dX4_placesSeen_65 (by decide) ?_
          exact ih _ _ _ _ _ (by omega) (by omega) (so_z iv_1 (if_neg (fun z => z.1 c_17))) hP hS (lv_sub hl [0,1,2,3,4] rfl)
        · skip
          refine lv_aload_n hx hb dX4_placesSeen_20 rfl (lv_at hl 0 rfl) ?_
          refine kget X hP (oS (by first | assumption | omega)) g_X4_19 rfl dX4_placesSeen_21 ?_
          refine lv_iload hx hb dX4_placesSeen_24 (lv_at hl 4 rfl) ?_
          refine kaald X hP (qR (by first | assumption | omega)) (by first | assumption | omega) rfl dX4_placesSeen_26 ?_
          refine kcV X hP hS (c_X3_isOpen l hI (by first | assumption | omega) (by first | assumption | omega)) (oR (by first | assumption | omega) (by first | assumption | omega)) v_X4_83 ⟨Nat.le_of_ble_eq_true rfl, Nat.le_of_ble_eq_true rfl, rfl, rfl⟩ rfl rfl (Nat.le_of_ble_eq_true rfl) hl.1 ⟨Nat.zero_le _, Nat.zero_le _⟩ dX4_placesSeen_27 (fun r_27 G_27 H locs hR hP hS => ?_)
          obtain ⟨rfl, hG_27⟩ := hR
          rw [hG_27] at hP
          clear hG_27
          first
            | refine kif_eq (tgt := 62) hx hb dX4_placesSeen_30 (by decide) (fun c_30 => ?_) (fun c_30 => ?_)
            | refine lv_if_eq (tgt := 62) hx hb dX4_placesSeen_30 (by decide) (fun c_30 => ?_) (fun c_30 => ?_)
          · skip
            first
              | refine kinc (q := 4) hx hb dX4_placesSeen_62 hl rfl (by decide) (kp_5_4 rfl) (fun ls hl => ?_)
              | refine kincG (q := 4) hx hb dX4_placesSeen_62 hl rfl (by decide) (kp_5_4 rfl) (fun ls hl => ?_)
            refine lv_goto (tgt := 5) hx hb dX4_placesSeen_65 (by decide) ?_
            exact ih _ _ _ _ _ (by omega) (by omega) (so_z iv_1 (if_neg (fun z => c_30 z.2.1))) hP hS (lv_sub hl [0,1,2,3,4] rfl)
          · skip
            refine lv_aload_n hx hb dX4_placesSeen_33 rfl (lv_at hl 1 rfl) ?_
            refine lv_aload_n hx hb dX4_placesSeen_34 rfl (lv_at hl 0 rfl) ?_
            refine kget X hP (oS (by first | assumption | omega)) g_X4_19 rfl dX4_placesSeen_35 ?_
            refine lv_iload hx hb dX4_placesSeen_38 (lv_at hl 4 rfl) ?_
            refine kaald X hP (qR (by first | assumption | omega)) (by first | assumption | omega) rfl dX4_placesSeen_40 ?_
            refine kget X hP (oR (by first | assumption | omega) (by first | assumption | omega)) g_X4_90 rfl dX4_placesSeen_41 ?_
            refine kcV X hP hS (c_X0_placeSeenAt l hI (x := G (rN j i) 2) hj hc hpl hp10) (oC (by first | assumption | omega) (by first | assumption | omega)) v_X4_91 ⟨Nat.le_of_ble_eq_true rfl, Nat.le_of_ble_eq_true rfl, rfl, rfl⟩ rfl rfl (Nat.le_of_ble_eq_true rfl) hl.1 ⟨Nat.zero_le _, Nat.zero_le _⟩ dX4_placesSeen_44 (fun r_44 G_44 H locs hR hP hS => ?_)
            obtain ⟨rfl, hG_44⟩ := hR
            rw [hG_44] at hP
            clear hG_44
            refine kistW hx hb dX4_placesSeen_47 hl (by decide) (kp_5_5 rfl) (fun ls hl => ?_)
            refine lv_iload hx hb dX4_placesSeen_49 (lv_at hl 5 rfl) ?_
            refine lv_iconst (v := (-1)) hx hb dX4_placesSeen_51 (by decide) ?_
            first
              | refine kic_eq (tgt := 62) hx hb dX4_placesSeen_52 (by decide) (by with_reducible rfl) (by with_reducible rfl) (by omega) (by omega) (fun c_52 => ?_) (fun c_52 => ?_)
              | refine lv_icmp_eq (tgt := 62) hx hb dX4_placesSeen_52 (by decide) (fun c_52 => ?_) (fun c_52 => ?_)
            · skip
              first
                | refine kinc (q := 4) hx hb dX4_placesSeen_62 hl rfl (by decide) (kp_6_4 rfl) (fun ls hl => ?_)
                | refine kincG (q := 4) hx hb dX4_placesSeen_62 hl rfl (by decide) (kp_6_4 rfl) (fun ls hl => ?_)
              refine lv_goto (tgt := 5) hx hb dX4_placesSeen_65 (by decide) ?_
              exact ih _ _ _ _ _ (by omega) (by omega) (so_z iv_1 (if_neg (fun z => z.2.2 c_52))) hP hS (lv_sub hl [0,1,2,3,4] rfl)
            · skip
              refine lv_iload_n hx hb dX4_placesSeen_55 rfl (lv_at hl 3 rfl) ?_
              refine lv_iconst (v := nI 1) hx hb dX4_placesSeen_56 (by decide) ?_
              refine lv_iload hx hb dX4_placesSeen_57 (lv_at hl 5 rfl) ?_
              refine lv_ishl hx hb dX4_placesSeen_59 ?_
              refine lv_ior hx hb dX4_placesSeen_60 ?_
              refine kist hx hb dX4_placesSeen_61 rfl hl (by decide) (kp_6_3 rfl) (fun ls hl => ?_)
              first
                | refine kinc (q := 4) hx hb dX4_placesSeen_62 hl rfl (by decide) (kp_6_4 rfl) (fun ls hl => ?_)
                | refine kincG (q := 4) hx hb dX4_placesSeen_62 hl rfl (by decide) (kp_6_4 rfl) (fun ls hl => ?_)
              refine lv_goto (tgt := 5) hx hb dX4_placesSeen_65 (by decide) ?_
              exact ih _ _ _ _ _ (by omega) (by omega) (so_p iv_1 (if_pos (And.intro c_17 (And.intro c_30 c_52)))) hP hS (lv_sub hl [0,1,2,3,4] rfl)
  exact lp_5 _ 0 0 _ _ _ (Nat.lt_succ_self _) (Nat.zero_le _) (rfl) hP hS (lv_sub hl [0,1,2,3,4] rfl)

set_option maxHeartbeats 4000000 in
set_option maxRecDepth 100000 in
theorem c_X4_oldVersions (l : Launch) {D : va_G} {τ : Nat → ClassId} {ad : Nat → Nat} (hI : kInj ad) {G : Nat → Nat → Int32} {j : Nat} {P : Nat → Nat} (hj : j < 7) (hp : ∀ c, c < 12 → G (cB j c) 2 = nI (P c) ∧ 1 ≤ P c) : kM l yX4_oldVersions cX4_oldVersions 3 (some .int) { frames := 0, cells := 0, slots := 0, locals := 0 } D τ ad [.ref (ad (sB j))] G (fun v G' => v = nI (cn (fun c => P c - 1) 12) ∧ G' = G) := by
  refine kMet (own := RX4) (by decide) rfl (Nat.le_of_ble_eq_true rfl) ?_
  intro p9 e9 s9 m9 args9 below9 meth9 c9 Q9 X hx hb hP hS hret ls hl
  have hPs := hP
  have hl : lv_has ls 3 [(0, .ref (ad (sB j)))] := hl
  refine lv_iconst (v := nI 0) hx hb dX4_oldVersions_0 (by decide) ?_
  refine kist hx hb dX4_oldVersions_1 rfl hl (by decide) (kp_1_1 rfl) (fun ls hl => ?_)
  refine lv_iconst (v := nI 0) hx hb dX4_oldVersions_2 (by decide) ?_
  refine kist hx hb dX4_oldVersions_3 rfl hl (by decide) (kp_2_2 rfl) (fun ls hl => ?_)
  have lp_4 : ∀ (d : Nat) (i x : Nat) (H : Heap) (locs : List Loc) (ls : Array Slot), (12 - i) < d → (i ≤ 12) → (x = cn (fun c => P c - 1) i) → va_P D vwCl (kW τ ad G) H → va_S (kAd ad) s9.heap H locs → lv_has ls 3 [(0, .ref (ad (sB j))), (1, .int (nI x)), (2, .int (nI i))] → W p9 l e9 { frames := 0, cells := 0, slots := 0, locals := 0 } s9 m9 args9 below9 meth9 c9 H locs 0 0 Q9 (F0 m9 4 ls []) := by
    intro d
    induction d with
    | zero => exact fun _ _ _ _ _ hd => absurd hd (Nat.not_lt_zero _)
    | succ d ih =>
      intro i x H locs ls hd iv_0 iv_1 hP hS hl
      refine lv_iload_n hx hb dX4_oldVersions_4 rfl (lv_at hl 2 rfl) ?_
      refine lv_bipush (v := nI 12) hx hb dX4_oldVersions_5 (by decide) ?_
      first
        | refine kic_ge (tgt := 30) hx hb dX4_oldVersions_7 (by decide) (by with_reducible rfl) (by with_reducible rfl) (by omega) (by omega) (fun c_7 => ?_) (fun c_7 => ?_)
        | refine lv_icmp_ge (tgt := 30) hx hb dX4_oldVersions_7 (by decide) (fun c_7 => ?_) (fun c_7 => ?_)
      · skip
        refine lv_iload_n hx hb dX4_oldVersions_30 rfl (lv_at hl 1 rfl) ?_
        exact hret _ _ _ _ _ _ (⟨congrArg nI (iv_1.trans (by rw [show i = 12 by omega])), rfl⟩) hP hS dX4_oldVersions_31
      · skip
        refine lv_iload_n hx hb dX4_oldVersions_10 rfl (lv_at hl 1 rfl) ?_
        refine lv_aload_n hx hb dX4_oldVersions_11 rfl (lv_at hl 0 rfl) ?_
        refine kget X hP (oS (by first | assumption | omega)) g_X4_11 rfl dX4_oldVersions_12 ?_
        refine lv_iload_n hx hb dX4_oldVersions_15 rfl (lv_at hl 2 rfl) ?_
        refine kaald X hP (qC (by first | assumption | omega)) (by first | assumption | omega) rfl dX4_oldVersions_16 ?_
        refine kget X hP (oC (by first | assumption | omega) (by first | assumption | omega)) g_X4_98 (congrArg (fun z => some (Value.int z)) (hp _ (by omega)).1) dX4_oldVersions_17 ?_
        refine lv_iconst (v := nI 1) hx hb dX4_oldVersions_20 (by decide) ?_
        refine ksub hx hb dX4_oldVersions_21 (by with_reducible rfl) (by with_reducible rfl) (hp _ (by omega)).2 ?_
        first
          | refine kadd hx hb dX4_oldVersions_22 (by with_reducible rfl) (by with_reducible rfl) ?_
          | refine lv_iadd hx hb dX4_oldVersions_22 ?_
        refine kist hx hb dX4_oldVersions_23 rfl hl (by decide) (kp_3_1 rfl) (fun ls hl => ?_)
        first
          | refine kinc (q := 2) hx hb dX4_oldVersions_24 hl rfl (by decide) (kp_3_2 rfl) (fun ls hl => ?_)
          | refine kincG (q := 2) hx hb dX4_oldVersions_24 hl rfl (by decide) (kp_3_2 rfl) (fun ls hl => ?_)
        refine lv_goto (tgt := 4) hx hb dX4_oldVersions_27 (by decide) ?_
        exact ih _ _ _ _ _ (by omega) (by omega) (by rw [iv_1]; rfl) hP hS (lv_sub hl [0,1,2] rfl)
  exact lp_4 _ 0 0 _ _ _ (Nat.lt_succ_self _) (Nat.zero_le _) (rfl) hP hS (lv_sub hl [0,1,2] rfl)

set_option maxHeartbeats 4000000 in
set_option maxRecDepth 100000 in
theorem c_X4_oldVersionsSeenBy (l : Launch) {D : va_G} {τ : Nat → ClassId} {ad : Nat → Nat} (hI : kInj ad) {G : Nat → Nat → Int32} {j r : Nat} {P : Nat → Nat} (hj : j < 7) (hr : r < 40) (hp : ∀ c, c < 12 → G (cB j c) 2 = nI (P c) ∧ P c ≤ 10) : kM l yX4_oldVersionsSeenBy cX4_oldVersionsSeenBy 4 (some .int) { frames := 1, cells := 0, slots := 0, locals := 22 } D τ ad [.ref (ad (sB j)), .ref (ad (rN j r))] G (fun v G' => v = nI (cn (fun c => if 0 < pf (G (cM j c)) (G (rN j r) 2) 0 (P c) then 1 else 0) 12) ∧ G' = G) := by
  refine kMet (own := RX4) (by decide) rfl (Nat.le_of_ble_eq_true rfl) ?_
  intro p9 e9 s9 m9 args9 below9 meth9 c9 Q9 X hx hb hP hS hret ls hl
  have hPs := hP
  have hl : lv_has ls 4 [(0, .ref (ad (sB j))), (1, .ref (ad (rN j r)))] := hl
  refine lv_iconst (v := nI 0) hx hb dX4_oldVersionsSeenBy_0 (by decide) ?_
  refine kist hx hb dX4_oldVersionsSeenBy_1 rfl hl (by decide) (kp_2_2 rfl) (fun ls hl => ?_)
  refine lv_iconst (v := nI 0) hx hb dX4_oldVersionsSeenBy_2 (by decide) ?_
  refine kist hx hb dX4_oldVersionsSeenBy_3 rfl hl (by decide) (kp_3_3 rfl) (fun ls hl => ?_)
  have lp_4 : ∀ (d : Nat) (i x : Nat) (H : Heap) (locs : List Loc) (ls : Array Slot), (12 - i) < d → (i ≤ 12) → (x = cn (fun c => if 0 < pf (G (cM j c)) (G (rN j r) 2) 0 (P c) then 1 else 0) i) → va_P D vwCl (kW τ ad G) H → va_S (kAd ad) s9.heap H locs → lv_has ls 4 [(0, .ref (ad (sB j))), (1, .ref (ad (rN j r))), (2, .int (nI x)), (3, .int (nI i))] → W p9 l e9 { frames := 1, cells := 0, slots := 0, locals := 22 } s9 m9 args9 below9 meth9 c9 H locs 0 0 Q9 (F0 m9 4 ls []) := by
    intro d
    induction d with
    | zero => exact fun _ _ _ _ _ hd => absurd hd (Nat.not_lt_zero _)
    | succ d ih =>
      intro i x H locs ls hd iv_0 iv_1 hP hS hl
      refine lv_iload_n hx hb dX4_oldVersionsSeenBy_4 rfl (lv_at hl 3 rfl) ?_
      refine lv_bipush (v := nI 12) hx hb dX4_oldVersionsSeenBy_5 (by decide) ?_
      first
        | refine kic_ge (tgt := 35) hx hb dX4_oldVersionsSeenBy_7 (by decide) (by with_reducible rfl) (by with_reducible rfl) (by omega) (by omega) (fun c_7 => ?_) (fun c_7 => ?_)
        | refine lv_icmp_ge (tgt := 35) hx hb dX4_oldVersionsSeenBy_7 (by decide) (fun c_7 => ?_) (fun c_7 => ?_)
      · skip
        refine lv_iload_n hx hb dX4_oldVersionsSeenBy_35 rfl (lv_at hl 2 rfl) ?_
        exact hret _ _ _ _ _ _ (⟨congrArg nI (iv_1.trans (by rw [show i = 12 by omega])), rfl⟩) hP hS dX4_oldVersionsSeenBy_36
      · skip
        refine lv_aload_n hx hb dX4_oldVersionsSeenBy_10 rfl (lv_at hl 0 rfl) ?_
        refine kget X hP (oS (by first | assumption | omega)) g_X4_11 rfl dX4_oldVersionsSeenBy_11 ?_
        refine lv_iload_n hx hb dX4_oldVersionsSeenBy_14 rfl (lv_at hl 3 rfl) ?_
        refine kaald X hP (qC (by first | assumption | omega)) (by first | assumption | omega) rfl dX4_oldVersionsSeenBy_15 ?_
        refine lv_aload_n hx hb dX4_oldVersionsSeenBy_16 rfl (lv_at hl 1 rfl) ?_
        refine kget X hP (oR (by first | assumption | omega) (by first | assumption | omega)) g_X4_90 rfl dX4_oldVersionsSeenBy_17 ?_
        refine kcV X hP hS (c_X0_placeSeenAt l hI (x := G (rN j r) 2) hj (by omega) (hp _ (by omega)).1 (hp _ (by omega)).2) (oC hj (by omega)) v_X4_91 ⟨Nat.le_of_ble_eq_true rfl, Nat.le_of_ble_eq_true rfl, rfl, rfl⟩ rfl rfl (Nat.le_of_ble_eq_true rfl) hl.1 ⟨Nat.zero_le _, Nat.zero_le _⟩ dX4_oldVersionsSeenBy_20 (fun r_20 G_20 H locs hR hP hS => ?_)
        obtain ⟨rfl, hG_20⟩ := hR
        rw [hG_20] at hP
        clear hG_20
        refine lv_if_le (tgt := 29) hx hb dX4_oldVersionsSeenBy_23 (by decide) (fun c_23 => ?_) (fun c_23 => ?_)
        · skip
          first
            | refine kinc (q := 3) hx hb dX4_oldVersionsSeenBy_29 hl rfl (by decide) (kp_4_3 rfl) (fun ls hl => ?_)
            | refine kincG (q := 3) hx hb dX4_oldVersionsSeenBy_29 hl rfl (by decide) (kp_4_3 rfl) (fun ls hl => ?_)
          refine lv_goto (tgt := 4) hx hb dX4_oldVersionsSeenBy_32 (by decide) ?_
          exact ih _ _ _ _ _ (by omega) (by omega) (by first | exact cn_p iv_1 (if_pos (Int32.not_le.mp c_23)) | exact cn_z iv_1 (if_neg (Int32.not_lt.mpr c_23))) hP hS (lv_sub hl [0,1,2,3] rfl)
        · skip
          first
            | refine kinc (q := 2) hx hb dX4_oldVersionsSeenBy_26 hl rfl (by decide) (kp_4_2 rfl) (fun ls hl => ?_)
            | refine kincG (q := 2) hx hb dX4_oldVersionsSeenBy_26 hl rfl (by decide) (kp_4_2 rfl) (fun ls hl => ?_)
          first
            | refine kinc (q := 3) hx hb dX4_oldVersionsSeenBy_29 hl rfl (by decide) (kp_4_3 rfl) (fun ls hl => ?_)
            | refine kincG (q := 3) hx hb dX4_oldVersionsSeenBy_29 hl rfl (by decide) (kp_4_3 rfl) (fun ls hl => ?_)
          refine lv_goto (tgt := 4) hx hb dX4_oldVersionsSeenBy_32 (by decide) ?_
          exact ih _ _ _ _ _ (by omega) (by omega) (by first | exact cn_p iv_1 (if_pos (Int32.not_le.mp c_23)) | exact cn_z iv_1 (if_neg (Int32.not_lt.mpr c_23))) hP hS (lv_sub hl [0,1,2,3] rfl)
  exact lp_4 _ 0 0 _ _ _ (Nat.lt_succ_self _) (Nat.zero_le _) (rfl) hP hS (lv_sub hl [0,1,2,3] rfl)

set_option maxHeartbeats 4000000 in
set_option maxRecDepth 100000 in
theorem c_X0_valueSeenAt (l : Launch) {D : va_G} {τ : Nat → ClassId} {ad : Nat → Nat} (hI : kInj ad) {G : Nat → Nat → Int32} {j c P : Nat} {x : Int32} (hj : j < 7) (hc : c < 12) (hpl : G (cB j c) 2 = nI P) (hp10 : P ≤ 10) : kM l yX0_valueSeenAt cX0_valueSeenAt 3 (some .int) { frames := 1, cells := 0, slots := 0, locals := 22 } D τ ad [.ref (ad (cB j c)), .int x] G (fun v G' => v = vsF (G (cV j c)) (G (cM j c)) x P ∧ G' = G) := by
  refine kMet (own := RX0) (by decide) rfl (Nat.le_of_ble_eq_true rfl) ?_
  intro p9 e9 s9 m9 args9 below9 meth9 c9 Q9 X hx hb hP hS hret ls hl
  have hPs := hP
  have hl : lv_has ls 3 [(0, .ref (ad (cB j c))), (1, .int x)] := hl
  refine lv_aload_n hx hb dX0_valueSeenAt_0 rfl (lv_at hl 0 rfl) ?_
  refine lv_iload_n hx hb dX0_valueSeenAt_1 rfl (lv_at hl 1 rfl) ?_
  refine kcV X hP hS (c_X0_placeSeenAt l hI hj hc hpl hp10) (oC (by first | assumption | omega) (by first | assumption | omega)) v_X0_28 ⟨Nat.le_of_ble_eq_true rfl, Nat.le_of_ble_eq_true rfl, rfl, rfl⟩ rfl rfl (Nat.le_of_ble_eq_true rfl) hl.1 ⟨Nat.zero_le _, Nat.zero_le _⟩ dX0_valueSeenAt_2 (fun r_2 G_2 H locs hR hP hS => ?_)
  obtain ⟨rfl, hG_2⟩ := hR
  rw [hG_2] at hP
  clear hG_2
  refine kist hx hb dX0_valueSeenAt_5 rfl hl (by decide) (kp_2_2 rfl) (fun ls hl => ?_)
  refine lv_iload_n hx hb dX0_valueSeenAt_6 rfl (lv_at hl 2 rfl) ?_
  refine lv_iconst (v := (-1)) hx hb dX0_valueSeenAt_7 (by decide) ?_
  first
    | refine kic_ne (tgt := 15) hx hb dX0_valueSeenAt_8 (by decide) (by with_reducible rfl) (by with_reducible rfl) (by omega) (by omega) (fun c_8 => ?_) (fun c_8 => ?_)
    | refine lv_icmp_ne (tgt := 15) hx hb dX0_valueSeenAt_8 (by decide) (fun c_8 => ?_) (fun c_8 => ?_)
  · skip
    obtain ⟨w, hw1, hw2⟩ := (pf_or (G (cM j c)) x 0 P).resolve_left c_8
    rw [hw2] at hl
    refine lv_aload_n hx hb dX0_valueSeenAt_15 rfl (lv_at hl 0 rfl) ?_
    refine kget X hP (oC (by first | assumption | omega) (by first | assumption | omega)) g_X0_9 rfl dX0_valueSeenAt_16 ?_
    refine lv_iload_n hx hb dX0_valueSeenAt_19 rfl (lv_at hl 2 rfl) ?_
    refine kiald X hP (aV (by first | assumption | omega) (by first | assumption | omega)) (by omega) dX0_valueSeenAt_20 ?_
    exact hret _ _ _ _ _ _ (by refine ⟨?_, rfl⟩; first | exact (if_pos c_8).symm | exact (vsF_at hw2 (by omega)).symm) hP hS dX0_valueSeenAt_21
  · skip
    refine lv_iconst (v := nI 0) hx hb dX0_valueSeenAt_11 (by decide) ?_
    refine lv_goto (tgt := 21) hx hb dX0_valueSeenAt_12 (by decide) ?_
    exact hret _ _ _ _ _ _ (by refine ⟨?_, rfl⟩; first | exact (if_pos c_8).symm | exact (vsF_at hw2 (by omega)).symm) hP hS dX0_valueSeenAt_21

set_option maxHeartbeats 4000000 in
set_option maxRecDepth 100000 in
theorem c_X4_sumSeenBy (l : Launch) {D : va_G} {τ : Nat → ClassId} {ad : Nat → Nat} (hI : kInj ad) {G : Nat → Nat → Int32} {j r : Nat} {P : Nat → Nat} (hj : j < 7) (hr : r < 40) (hp : ∀ c, c < 12 → G (cB j c) 2 = nI (P c) ∧ P c ≤ 10) : kM l yX4_sumSeenBy cX4_sumSeenBy 4 (some .int) { frames := 2, cells := 0, slots := 0, locals := 44 } D τ ad [.ref (ad (sB j)), .ref (ad (rN j r))] G (fun v G' => v = sm (fun c => vsF (G (cV j c)) (G (cM j c)) (G (rN j r) 2) (P c)) 12 ∧ G' = G) := by
  refine kMet (own := RX4) (by decide) rfl (Nat.le_of_ble_eq_true rfl) ?_
  intro p9 e9 s9 m9 args9 below9 meth9 c9 Q9 X hx hb hP hS hret ls hl
  have hPs := hP
  have hl : lv_has ls 4 [(0, .ref (ad (sB j))), (1, .ref (ad (rN j r)))] := hl
  refine lv_iconst (v := nI 0) hx hb dX4_sumSeenBy_0 (by decide) ?_
  refine kist hx hb dX4_sumSeenBy_1 rfl hl (by decide) (kp_2_2 rfl) (fun ls hl => ?_)
  refine lv_iconst (v := nI 0) hx hb dX4_sumSeenBy_2 (by decide) ?_
  refine kist hx hb dX4_sumSeenBy_3 rfl hl (by decide) (kp_3_3 rfl) (fun ls hl => ?_)
  have lp_4 : ∀ (d : Nat) (i : Nat) (x : Int32) (H : Heap) (locs : List Loc) (ls : Array Slot), (12 - i) < d → (i ≤ 12) → (x = sm (fun c => vsF (G (cV j c)) (G (cM j c)) (G (rN j r) 2) (P c)) i) → va_P D vwCl (kW τ ad G) H → va_S (kAd ad) s9.heap H locs → lv_has ls 4 [(0, .ref (ad (sB j))), (1, .ref (ad (rN j r))), (2, .int x), (3, .int (nI i))] → W p9 l e9 { frames := 2, cells := 0, slots := 0, locals := 44 } s9 m9 args9 below9 meth9 c9 H locs 0 0 Q9 (F0 m9 4 ls []) := by
    intro d
    induction d with
    | zero => exact fun _ _ _ _ _ hd => absurd hd (Nat.not_lt_zero _)
    | succ d ih =>
      intro i x H locs ls hd iv_0 iv_1 hP hS hl
      refine lv_iload_n hx hb dX4_sumSeenBy_4 rfl (lv_at hl 3 rfl) ?_
      refine lv_bipush (v := nI 12) hx hb dX4_sumSeenBy_5 (by decide) ?_
      first
        | refine kic_ge (tgt := 32) hx hb dX4_sumSeenBy_7 (by decide) (by with_reducible rfl) (by with_reducible rfl) (by omega) (by omega) (fun c_7 => ?_) (fun c_7 => ?_)
        | refine lv_icmp_ge (tgt := 32) hx hb dX4_sumSeenBy_7 (by decide) (fun c_7 => ?_) (fun c_7 => ?_)
      · skip
        refine lv_iload_n hx hb dX4_sumSeenBy_32 rfl (lv_at hl 2 rfl) ?_
        exact hret _ _ _ _ _ _ (⟨iv_1.trans (by rw [show i = 12 by omega]), rfl⟩) hP hS dX4_sumSeenBy_33
      · skip
        refine lv_iload_n hx hb dX4_sumSeenBy_10 rfl (lv_at hl 2 rfl) ?_
        refine lv_aload_n hx hb dX4_sumSeenBy_11 rfl (lv_at hl 0 rfl) ?_
        refine kget X hP (oS (by first | assumption | omega)) g_X4_11 rfl dX4_sumSeenBy_12 ?_
        refine lv_iload_n hx hb dX4_sumSeenBy_15 rfl (lv_at hl 3 rfl) ?_
        refine kaald X hP (qC (by first | assumption | omega)) (by first | assumption | omega) rfl dX4_sumSeenBy_16 ?_
        refine lv_aload_n hx hb dX4_sumSeenBy_17 rfl (lv_at hl 1 rfl) ?_
        refine kget X hP (oR (by first | assumption | omega) (by first | assumption | omega)) g_X4_90 rfl dX4_sumSeenBy_18 ?_
        refine kcV X hP hS (c_X0_valueSeenAt l hI (x := G (rN j r) 2) hj (by omega) (hp _ (by omega)).1 (hp _ (by omega)).2) (oC hj (by omega)) v_X4_101 ⟨Nat.le_of_ble_eq_true rfl, Nat.le_of_ble_eq_true rfl, rfl, rfl⟩ rfl rfl (Nat.le_of_ble_eq_true rfl) hl.1 ⟨Nat.zero_le _, Nat.zero_le _⟩ dX4_sumSeenBy_21 (fun r_21 G_21 H locs hR hP hS => ?_)
        obtain ⟨rfl, hG_21⟩ := hR
        rw [hG_21] at hP
        clear hG_21
        first
          | refine kadd hx hb dX4_sumSeenBy_24 (by with_reducible rfl) (by with_reducible rfl) ?_
          | refine lv_iadd hx hb dX4_sumSeenBy_24 ?_
        refine kist hx hb dX4_sumSeenBy_25 rfl hl (by decide) (kp_4_2 rfl) (fun ls hl => ?_)
        first
          | refine kinc (q := 3) hx hb dX4_sumSeenBy_26 hl rfl (by decide) (kp_4_3 rfl) (fun ls hl => ?_)
          | refine kincG (q := 3) hx hb dX4_sumSeenBy_26 hl rfl (by decide) (kp_4_3 rfl) (fun ls hl => ?_)
        refine lv_goto (tgt := 4) hx hb dX4_sumSeenBy_29 (by decide) ?_
        exact ih _ _ _ _ _ (by omega) (by omega) (by rw [iv_1]; rfl) hP hS (lv_sub hl [0,1,2,3] rfl)
  exact lp_4 _ 0 0 _ _ _ (Nat.lt_succ_self _) (Nat.zero_le _) (rfl) hP hS (lv_sub hl [0,1,2,3] rfl)

set_option maxHeartbeats 4000000 in
set_option maxRecDepth 100000 in
theorem c_X4_shareOf (l : Launch) {D : va_G} {τ : Nat → ClassId} {ad : Nat → Nat} (hI : kInj ad) {G : Nat → Nat → Int32} {j n c P : Nat} {q : Int32} (hj : j < 7) (hn : G (sB j) 6 = nI n) (hn4 : n ≤ 40) (hc : c < 12) (hpl : G (cB j c) 2 = nI P) (hp10 : P ≤ 10) : kM l yX4_shareOf cX4_shareOf 4 (some .int) { frames := 2, cells := 0, slots := 0, locals := 47 } D τ ad [.ref (ad (sB j)), .ref (ad (cB j c)), .int q] G (fun v G' => v = shF G j n c P q ∧ G' = G) := by
  refine kMet (own := RX4) (by decide) rfl (Nat.le_of_ble_eq_true rfl) ?_
  intro p9 e9 s9 m9 args9 below9 meth9 c9 Q9 X hx hb hP hS hret ls hl
  have hPs := hP
  have hl : lv_has ls 4 [(0, .ref (ad (sB j))), (1, .ref (ad (cB j c))), (2, .int q)] := hl
  refine lv_iload_n hx hb dX4_shareOf_0 rfl (lv_at hl 2 rfl) ?_
  refine lv_if_gt (tgt := 6) hx hb dX4_shareOf_1 (by decide) (fun c_1 => ?_) (fun c_1 => ?_)
  · skip
    refine lv_aload_n hx hb dX4_shareOf_6 rfl (lv_at hl 0 rfl) ?_
    refine lv_aload_n hx hb dX4_shareOf_7 rfl (lv_at hl 1 rfl) ?_
    refine lv_iload_n hx hb dX4_shareOf_8 rfl (lv_at hl 2 rfl) ?_
    refine kcV X hP hS (c_X4_payersOf l hI hj hn hn4 hc hpl hp10) (oS (by first | assumption | omega)) v_X4_111 ⟨Nat.le_of_ble_eq_true rfl, Nat.le_of_ble_eq_true rfl, rfl, rfl⟩ rfl rfl (Nat.le_of_ble_eq_true rfl) hl.1 ⟨Nat.zero_le _, Nat.zero_le _⟩ dX4_shareOf_9 (fun r_9 G_9 H locs hR hP hS => ?_)
    obtain ⟨rfl, hG_9⟩ := hR
    rw [hG_9] at hP
    clear hG_9
    refine kist hx hb dX4_shareOf_12 rfl hl (by decide) (kp_3_3 rfl) (fun ls hl => ?_)
    refine lv_iload_n hx hb dX4_shareOf_13 rfl (lv_at hl 3 rfl) ?_
    first
      | refine kif_ne (tgt := 21) hx hb dX4_shareOf_14 (by decide) (fun c_14 => ?_) (fun c_14 => ?_)
      | refine lv_if_ne (tgt := 21) hx hb dX4_shareOf_14 (by decide) (fun c_14 => ?_) (fun c_14 => ?_)
    · skip
      have hne : ¬ nI (pyF G j n c P q) = 0 := c_14
      refine lv_aload_n hx hb dX4_shareOf_21 rfl (lv_at hl 0 rfl) ?_
      refine kget X hP (oS (by first | assumption | omega)) g_X4_29 rfl dX4_shareOf_22 ?_
      refine lv_iload_n hx hb dX4_shareOf_25 rfl (lv_at hl 3 rfl) ?_
      first
        | refine kadd hx hb dX4_shareOf_26 (by with_reducible rfl) (by with_reducible rfl) ?_
        | refine lv_iadd hx hb dX4_shareOf_26 ?_
      refine lv_iconst (v := nI 1) hx hb dX4_shareOf_27 (by decide) ?_
      first
        | refine ksub hx hb dX4_shareOf_28 (by with_reducible rfl) (by with_reducible rfl) (by omega) ?_
        | refine lv_isub hx hb dX4_shareOf_28 ?_
      refine lv_iload_n hx hb dX4_shareOf_29 rfl (lv_at hl 3 rfl) ?_
      refine lv_idiv hx hb dX4_shareOf_30 hne ?_
      exact hret _ _ _ _ _ _ (by refine ⟨?_, rfl⟩; first | exact ((if_neg (Int32.not_le.mpr c_1)).trans (if_pos c_14)).symm | exact ((if_neg (Int32.not_le.mpr c_1)).trans (if_neg c_14)).symm) hP hS dX4_shareOf_31
    · skip
      refine lv_iconst (v := nI 0) hx hb dX4_shareOf_17 (by decide) ?_
      refine lv_goto (tgt := 31) hx hb dX4_shareOf_18 (by decide) ?_
      exact hret _ _ _ _ _ _ (by refine ⟨?_, rfl⟩; first | exact ((if_neg (Int32.not_le.mpr c_1)).trans (if_pos c_14)).symm | exact ((if_neg (Int32.not_le.mpr c_1)).trans (if_neg c_14)).symm) hP hS dX4_shareOf_31
  · skip
    refine lv_iconst (v := nI 0) hx hb dX4_shareOf_4 (by decide) ?_
    exact hret _ _ _ _ _ _ (⟨(if_pos (Int32.not_lt.mp c_1)).symm, rfl⟩) hP hS dX4_shareOf_5

set_option maxHeartbeats 4000000 in
set_option maxRecDepth 100000 in
theorem c_X4_dueOf (l : Launch) {D : va_G} {τ : Nat → ClassId} {ad : Nat → Nat} (hI : kInj ad) {G : Nat → Nat → Int32} {j n r : Nat} {P : Nat → Nat} (hj : j < 7) (hn : G (sB j) 6 = nI n) (hn4 : n ≤ 40) (hr : r < 40) (hp : ∀ c, c < 12 → G (cB j c) 2 = nI (P c) ∧ P c ≤ 10) : kM l yX4_dueOf cX4_dueOf 4 (some .int) { frames := 3, cells := 0, slots := 0, locals := 70 } D τ ad [.ref (ad (sB j)), .ref (ad (rN j r))] G (fun v G' => v = dueF G j n P r ∧ G' = G) := by
  refine kMet (own := RX4) (by decide) rfl (Nat.le_of_ble_eq_true rfl) ?_
  intro p9 e9 s9 m9 args9 below9 meth9 c9 Q9 X hx hb hP hS hret ls hl
  have hPs := hP
  have hl : lv_has ls 4 [(0, .ref (ad (sB j))), (1, .ref (ad (rN j r)))] := hl
  refine lv_aload_n hx hb dX4_dueOf_0 rfl (lv_at hl 1 rfl) ?_
  refine kcV X hP hS (c_X3_paysRent l hI (by first | assumption | omega) (by first | assumption | omega)) (oR (by first | assumption | omega) (by first | assumption | omega)) v_X4_95 ⟨Nat.le_of_ble_eq_true rfl, Nat.le_of_ble_eq_true rfl, rfl, rfl⟩ rfl rfl (Nat.le_of_ble_eq_true rfl) hl.1 ⟨Nat.zero_le _, Nat.zero_le _⟩ dX4_dueOf_1 (fun r_1 G_1 H locs hR hP hS => ?_)
  obtain ⟨rfl, hG_1⟩ := hR
  rw [hG_1] at hP
  clear hG_1
  first
    | refine kif_ne (tgt := 9) hx hb dX4_dueOf_4 (by decide) (fun c_4 => ?_) (fun c_4 => ?_)
    | refine lv_if_ne (tgt := 9) hx hb dX4_dueOf_4 (by decide) (fun c_4 => ?_) (fun c_4 => ?_)
  · skip
    refine lv_iconst (v := nI 0) hx hb dX4_dueOf_9 (by decide) ?_
    refine kist hx hb dX4_dueOf_10 rfl hl (by decide) (kp_2_2 rfl) (fun ls hl => ?_)
    refine lv_iconst (v := nI 0) hx hb dX4_dueOf_11 (by decide) ?_
    refine kist hx hb dX4_dueOf_12 rfl hl (by decide) (kp_3_3 rfl) (fun ls hl => ?_)
    have lp_13 : ∀ (d : Nat) (i : Nat) (x : Int32) (H : Heap) (locs : List Loc) (ls : Array Slot), (12 - i) < d → (i ≤ 12) → (x = sm (fun c => shF G j n c (P c) (pf (G (cM j c)) (G (rN j r) 2) 0 (P c))) i) → va_P D vwCl (kW τ ad G) H → va_S (kAd ad) s9.heap H locs → lv_has ls 4 [(0, .ref (ad (sB j))), (1, .ref (ad (rN j r))), (2, .int x), (3, .int (nI i))] → W p9 l e9 { frames := 3, cells := 0, slots := 0, locals := 70 } s9 m9 args9 below9 meth9 c9 H locs 0 0 Q9 (F0 m9 13 ls []) := by
      intro d
      induction d with
      | zero => exact fun _ _ _ _ _ hd => absurd hd (Nat.not_lt_zero _)
      | succ d ih =>
        intro i x H locs ls hd iv_0 iv_1 hP hS hl
        refine lv_iload_n hx hb dX4_dueOf_13 rfl (lv_at hl 3 rfl) ?_
        refine lv_bipush (v := nI 12) hx hb dX4_dueOf_14 (by decide) ?_
        first
          | refine kic_ge (tgt := 51) hx hb dX4_dueOf_16 (by decide) (by with_reducible rfl) (by with_reducible rfl) (by omega) (by omega) (fun c_16 => ?_) (fun c_16 => ?_)
          | refine lv_icmp_ge (tgt := 51) hx hb dX4_dueOf_16 (by decide) (fun c_16 => ?_) (fun c_16 => ?_)
        · skip
          refine lv_iload_n hx hb dX4_dueOf_51 rfl (lv_at hl 2 rfl) ?_
          exact hret _ _ _ _ _ _ (by refine ⟨?_, rfl⟩; rw [dueF, if_pos c_4, iv_1, show i = 12 by omega]) hP hS dX4_dueOf_52
        · skip
          refine lv_iload_n hx hb dX4_dueOf_19 rfl (lv_at hl 2 rfl) ?_
          refine lv_aload_n hx hb dX4_dueOf_20 rfl (lv_at hl 0 rfl) ?_
          refine lv_aload_n hx hb dX4_dueOf_21 rfl (lv_at hl 0 rfl) ?_
          refine kget X hP (oS (by first | assumption | omega)) g_X4_11 rfl dX4_dueOf_22 ?_
          refine lv_iload_n hx hb dX4_dueOf_25 rfl (lv_at hl 3 rfl) ?_
          refine kaald X hP (qC (by first | assumption | omega)) (by first | assumption | omega) rfl dX4_dueOf_26 ?_
          refine lv_aload_n hx hb dX4_dueOf_27 rfl (lv_at hl 0 rfl) ?_
          refine kget X hP (oS (by first | assumption | omega)) g_X4_11 rfl dX4_dueOf_28 ?_
          refine lv_iload_n hx hb dX4_dueOf_31 rfl (lv_at hl 3 rfl) ?_
          refine kaald X hP (qC (by first | assumption | omega)) (by first | assumption | omega) rfl dX4_dueOf_32 ?_
          refine lv_aload_n hx hb dX4_dueOf_33 rfl (lv_at hl 1 rfl) ?_
          refine kget X hP (oR (by first | assumption | omega) (by first | assumption | omega)) g_X4_90 rfl dX4_dueOf_34 ?_
          refine kcV X hP hS (c_X0_placeSeenAt l hI (x := G (rN j r) 2) hj (by omega) (hp _ (by omega)).1 (hp _ (by omega)).2) (oC hj (by omega)) v_X4_91 ⟨Nat.le_of_ble_eq_true rfl, Nat.le_of_ble_eq_true rfl, rfl, rfl⟩ rfl rfl (Nat.le_of_ble_eq_true rfl) hl.1 ⟨Nat.zero_le _, Nat.zero_le _⟩ dX4_dueOf_37 (fun r_37 G_37 H locs hR hP hS => ?_)
          obtain ⟨rfl, hG_37⟩ := hR
          rw [hG_37] at hP
          clear hG_37
          refine kcV X hP hS (c_X4_shareOf l hI hj hn hn4 (by omega) (hp _ (by omega)).1 (hp _ (by omega)).2) (oS (by first | assumption | omega)) v_X4_114 ⟨Nat.le_of_ble_eq_true rfl, Nat.le_of_ble_eq_true rfl, rfl, rfl⟩ rfl rfl (Nat.le_of_ble_eq_true rfl) hl.1 ⟨Nat.zero_le _, Nat.zero_le _⟩ dX4_dueOf_40 (fun r_40 G_40 H locs hR hP hS => ?_)
          obtain ⟨rfl, hG_40⟩ := hR
          rw [hG_40] at hP
          clear hG_40
          first
            | refine kadd hx hb dX4_dueOf_43 (by with_reducible rfl) (by with_reducible rfl) ?_
            | refine lv_iadd hx hb dX4_dueOf_43 ?_
          refine kist hx hb dX4_dueOf_44 rfl hl (by decide) (kp_4_2 rfl) (fun ls hl => ?_)
          first
            | refine kinc (q := 3) hx hb dX4_dueOf_45 hl rfl (by decide) (kp_4_3 rfl) (fun ls hl => ?_)
            | refine kincG (q := 3) hx hb dX4_dueOf_45 hl rfl (by decide) (kp_4_3 rfl) (fun ls hl => ?_)
          refine lv_goto (tgt := 13) hx hb dX4_dueOf_48 (by decide) ?_
          exact ih _ _ _ _ _ (by omega) (by omega) (by rw [iv_1]; rfl) hP hS (lv_sub hl [0,1,2,3] rfl)
    exact lp_13 _ 0 0 _ _ _ (Nat.lt_succ_self _) (Nat.zero_le _) (rfl) hP hS (lv_sub hl [0,1,2,3] rfl)
  · skip
    refine lv_iconst (v := nI 0) hx hb dX4_dueOf_7 (by decide) ?_
    exact hret _ _ _ _ _ _ (⟨(if_neg c_4).symm, rfl⟩) hP hS dX4_dueOf_8

set_option maxHeartbeats 4000000 in
set_option maxRecDepth 100000 in
theorem c_X4_hasConflict (l : Launch) {D : va_G} {τ : Nat → ClassId} {ad : Nat → Nat} (hI : kInj ad) {G : Nat → Nat → Int32} {j r : Nat} (hj : j < 7) (hr : r < 40) : kM l yX4_hasConflict cX4_hasConflict 3 (some .boolean) { frames := 1, cells := 0, slots := 0, locals := 21 } D τ ad [.ref (ad (sB j)), .ref (ad (rN j r))] G (fun v G' => v = (if cn (cfF G j r) 12 ≠ 0 then 1 else 0) ∧ G' = G) := by
  refine kMetZ (own := RX4) (by decide) rfl (Nat.le_of_ble_eq_true rfl) ?_
  intro p9 e9 s9 m9 args9 below9 meth9 c9 Q9 X hx hb hP hS hret ls hl
  have hPs := hP
  have hl : lv_has ls 3 [(0, .ref (ad (sB j))), (1, .ref (ad (rN j r)))] := hl
  refine lv_iconst (v := nI 0) hx hb dX4_hasConflict_0 (by decide) ?_
  refine kist hx hb dX4_hasConflict_1 rfl hl (by decide) (kp_2_2 rfl) (fun ls hl => ?_)
  have lp_2 : ∀ (d : Nat) (i : Nat) (H : Heap) (locs : List Loc) (ls : Array Slot), (12 - i) < d → (i ≤ 12) → (0 = cn (cfF G j r) i) → va_P D vwCl (kW τ ad G) H → va_S (kAd ad) s9.heap H locs → lv_has ls 3 [(0, .ref (ad (sB j))), (1, .ref (ad (rN j r))), (2, .int (nI i))] → W p9 l e9 { frames := 1, cells := 0, slots := 0, locals := 21 } s9 m9 args9 below9 meth9 c9 H locs 0 0 Q9 (F0 m9 2 ls []) := by
    intro d
    induction d with
    | zero => exact fun _ _ _ _ hd => absurd hd (Nat.not_lt_zero _)
    | succ d ih =>
      intro i H locs ls hd iv_0 iv_1 hP hS hl
      refine lv_iload_n hx hb dX4_hasConflict_2 rfl (lv_at hl 2 rfl) ?_
      refine lv_bipush (v := nI 12) hx hb dX4_hasConflict_3 (by decide) ?_
      first
        | refine kic_ge (tgt := 42) hx hb dX4_hasConflict_5 (by decide) (by with_reducible rfl) (by with_reducible rfl) (by omega) (by omega) (fun c_5 => ?_) (fun c_5 => ?_)
        | refine lv_icmp_ge (tgt := 42) hx hb dX4_hasConflict_5 (by decide) (fun c_5 => ?_) (fun c_5 => ?_)
      · skip
        refine lv_iconst (v := nI 0) hx hb dX4_hasConflict_42 (by decide) ?_
        exact hret _ _ _ _ _ _ (by decide) (by refine ⟨(if_neg (fun z => z ?_)).symm, rfl⟩; rw [show (12 : Nat) = i by omega]; exact iv_1.symm) hP hS dX4_hasConflict_43
      · skip
        refine lv_aload_n hx hb dX4_hasConflict_8 rfl (lv_at hl 1 rfl) ?_
        refine lv_iload_n hx hb dX4_hasConflict_9 rfl (lv_at hl 2 rfl) ?_
        refine kcV X hP hS (c_X3_hasWrite l hI (by first | assumption | omega) (by first | assumption | omega)) (oR (by first | assumption | omega) (by first | assumption | omega)) v_X4_86 ⟨Nat.le_of_ble_eq_true rfl, Nat.le_of_ble_eq_true rfl, rfl, rfl⟩ rfl rfl (Nat.le_of_ble_eq_true rfl) hl.1 ⟨Nat.zero_le _, Nat.zero_le _⟩ dX4_hasConflict_10 (fun r_10 G_10 H locs hR hP hS => ?_)
        obtain ⟨rfl, hG_10⟩ := hR
        rw [hG_10] at hP
        clear hG_10
        first
          | refine kif_eq (tgt := 36) hx hb dX4_hasConflict_13 (by decide) (fun c_13 => ?_) (fun c_13 => ?_)
          | refine lv_if_eq (tgt := 36) hx hb dX4_hasConflict_13 (by decide) (fun c_13 => ?_) (fun c_13 => ?_)
        · skip
          first
            | refine kinc (q := 2) hx hb dX4_hasConflict_36 hl rfl (by decide) (kp_3_2 rfl) (fun ls hl => ?_)
            | refine kincG (q := 2) hx hb dX4_hasConflict_36 hl rfl (by decide) (kp_3_2 rfl) (fun ls hl => ?_)
          refine lv_goto (tgt := 2) hx hb dX4_hasConflict_39 (by decide) ?_
          exact ih _ _ _ _ (by omega) (by omega) (cn_z iv_1 (if_neg (fun z => c_13 z.1))) hP hS (lv_sub hl [0,1,2] rfl)
        · skip
          refine lv_aload_n hx hb dX4_hasConflict_16 rfl (lv_at hl 0 rfl) ?_
          refine kget X hP (oS (by first | assumption | omega)) g_X4_11 rfl dX4_hasConflict_17 ?_
          refine lv_iload_n hx hb dX4_hasConflict_20 rfl (lv_at hl 2 rfl) ?_
          refine kaald X hP (qC (by first | assumption | omega)) (by first | assumption | omega) rfl dX4_hasConflict_21 ?_
          refine kget X hP (oC hj (by omega)) g_X4_143 rfl dX4_hasConflict_22 ?_
          refine lv_iconst (v := nI 0) hx hb dX4_hasConflict_25 (by decide) ?_
          refine kiald X hP (aM hj (by omega)) (by omega) dX4_hasConflict_26 ?_
          refine lv_aload_n hx hb dX4_hasConflict_27 rfl (lv_at hl 1 rfl) ?_
          refine kget X hP (oR (by first | assumption | omega) (by first | assumption | omega)) g_X4_90 rfl dX4_hasConflict_28 ?_
          first
            | refine kic_le (tgt := 36) hx hb dX4_hasConflict_31 (by decide) (by with_reducible rfl) (by with_reducible rfl) (by omega) (by omega) (fun c_31 => ?_) (fun c_31 => ?_)
            | refine lv_icmp_le (tgt := 36) hx hb dX4_hasConflict_31 (by decide) (fun c_31 => ?_) (fun c_31 => ?_)
          · skip
            first
              | refine kinc (q := 2) hx hb dX4_hasConflict_36 hl rfl (by decide) (kp_3_2 rfl) (fun ls hl => ?_)
              | refine kincG (q := 2) hx hb dX4_hasConflict_36 hl rfl (by decide) (kp_3_2 rfl) (fun ls hl => ?_)
            refine lv_goto (tgt := 2) hx hb dX4_hasConflict_39 (by decide) ?_
            exact ih _ _ _ _ (by omega) (by omega) (cn_z iv_1 (if_neg (fun z => Int32.not_le.mpr z.2 c_31))) hP hS (lv_sub hl [0,1,2] rfl)
          · skip
            refine lv_iconst (v := nI 1) hx hb dX4_hasConflict_34 (by decide) ?_
            exact hret _ _ _ _ _ _ (by decide) (by refine ⟨(if_pos (cn_pos (i := i) (by omega) ?_)).symm, rfl⟩; rw [cfF, if_pos ⟨c_13, Int32.not_le.mp c_31⟩]; decide) hP hS dX4_hasConflict_35
  exact lp_2 _ 0 _ _ _ (Nat.lt_succ_self _) (Nat.zero_le _) (rfl) hP hS (lv_sub hl [0,1,2] rfl)

set_option maxHeartbeats 4000000 in
set_option maxRecDepth 100000 in
theorem c_X1_isInSkewWithLater (l : Launch) {D : va_G} {τ : Nat → ClassId} {ad : Nat → Nat} (hI : kInj ad) {G : Nat → Nat → Int32} {j r q : Nat} (hj : j < 7) (hr : r < 40) (hq : q < 40) : kM l yX1_isInSkewWithLater cX1_isInSkewWithLater 2 (some .boolean) { frames := 0, cells := 0, slots := 0, locals := 0 } D τ ad [.ref (ad (mC j q)), .ref (ad (rN j r))] G (fun v G' => v = (if skF (G (mC j q)) (G (rN j r)) then 1 else 0) ∧ G' = G) := by
  refine kMetZ (own := RX1) (by decide) rfl (Nat.le_of_ble_eq_true rfl) ?_
  intro p9 e9 s9 m9 args9 below9 meth9 c9 Q9 X hx hb hP hS hret ls hl
  have hPs := hP
  have hl : lv_has ls 2 [(0, .ref (ad (mC j q))), (1, .ref (ad (rN j r)))] := hl
  refine lv_aload_n hx hb dX1_isInSkewWithLater_0 rfl (lv_at hl 1 rfl) ?_
  refine kget X hP (oR (by first | assumption | omega) (by first | assumption | omega)) g_X1_28 rfl dX1_isInSkewWithLater_1 ?_
  refine lv_aload_n hx hb dX1_isInSkewWithLater_4 rfl (lv_at hl 0 rfl) ?_
  refine kget X hP (oM (by first | assumption | omega) (by first | assumption | omega)) g_X1_16 rfl dX1_isInSkewWithLater_5 ?_
  first
    | refine kic_ge (tgt := 51) hx hb dX1_isInSkewWithLater_8 (by decide) (by with_reducible rfl) (by with_reducible rfl) (by omega) (by omega) (fun c_8 => ?_) (fun c_8 => ?_)
    | refine lv_icmp_ge (tgt := 51) hx hb dX1_isInSkewWithLater_8 (by decide) (fun c_8 => ?_) (fun c_8 => ?_)
  · skip
    refine lv_iconst (v := nI 0) hx hb dX1_isInSkewWithLater_51 (by decide) ?_
    exact hret _ _ _ _ _ _ (by decide) (⟨(if_neg (fun z => Int32.not_le.mpr z.1 c_8)).symm, rfl⟩) hP hS dX1_isInSkewWithLater_52
  · skip
    refine lv_aload_n hx hb dX1_isInSkewWithLater_11 rfl (lv_at hl 1 rfl) ?_
    refine kget X hP (oR (by first | assumption | omega) (by first | assumption | omega)) g_X1_33 rfl dX1_isInSkewWithLater_12 ?_
    refine lv_aload_n hx hb dX1_isInSkewWithLater_15 rfl (lv_at hl 0 rfl) ?_
    refine kget X hP (oM (by first | assumption | omega) (by first | assumption | omega)) g_X1_19 rfl dX1_isInSkewWithLater_16 ?_
    refine lv_iand hx hb dX1_isInSkewWithLater_19 ?_
    first
      | refine kif_eq (tgt := 51) hx hb dX1_isInSkewWithLater_20 (by decide) (fun c_20 => ?_) (fun c_20 => ?_)
      | refine lv_if_eq (tgt := 51) hx hb dX1_isInSkewWithLater_20 (by decide) (fun c_20 => ?_) (fun c_20 => ?_)
    · skip
      refine lv_iconst (v := nI 0) hx hb dX1_isInSkewWithLater_51 (by decide) ?_
      exact hret _ _ _ _ _ _ (by decide) (⟨(if_neg (fun z => z.2.1 c_20)).symm, rfl⟩) hP hS dX1_isInSkewWithLater_52
    · skip
      refine lv_aload_n hx hb dX1_isInSkewWithLater_23 rfl (lv_at hl 0 rfl) ?_
      refine kget X hP (oM (by first | assumption | omega) (by first | assumption | omega)) g_X1_22 rfl dX1_isInSkewWithLater_24 ?_
      refine lv_aload_n hx hb dX1_isInSkewWithLater_27 rfl (lv_at hl 1 rfl) ?_
      refine kget X hP (oR (by first | assumption | omega) (by first | assumption | omega)) g_X1_34 rfl dX1_isInSkewWithLater_28 ?_
      refine lv_iand hx hb dX1_isInSkewWithLater_31 ?_
      first
        | refine kif_eq (tgt := 51) hx hb dX1_isInSkewWithLater_32 (by decide) (fun c_32 => ?_) (fun c_32 => ?_)
        | refine lv_if_eq (tgt := 51) hx hb dX1_isInSkewWithLater_32 (by decide) (fun c_32 => ?_) (fun c_32 => ?_)
      · skip
        refine lv_iconst (v := nI 0) hx hb dX1_isInSkewWithLater_51 (by decide) ?_
        exact hret _ _ _ _ _ _ (by decide) (⟨(if_neg (fun z => z.2.2.1 c_32)).symm, rfl⟩) hP hS dX1_isInSkewWithLater_52
      · skip
        refine lv_aload_n hx hb dX1_isInSkewWithLater_35 rfl (lv_at hl 0 rfl) ?_
        refine kget X hP (oM (by first | assumption | omega) (by first | assumption | omega)) g_X1_19 rfl dX1_isInSkewWithLater_36 ?_
        refine lv_aload_n hx hb dX1_isInSkewWithLater_39 rfl (lv_at hl 1 rfl) ?_
        refine kget X hP (oR (by first | assumption | omega) (by first | assumption | omega)) g_X1_34 rfl dX1_isInSkewWithLater_40 ?_
        refine lv_iand hx hb dX1_isInSkewWithLater_43 ?_
        first
          | refine kif_ne (tgt := 51) hx hb dX1_isInSkewWithLater_44 (by decide) (fun c_44 => ?_) (fun c_44 => ?_)
          | refine lv_if_ne (tgt := 51) hx hb dX1_isInSkewWithLater_44 (by decide) (fun c_44 => ?_) (fun c_44 => ?_)
        · skip
          refine lv_iconst (v := nI 0) hx hb dX1_isInSkewWithLater_51 (by decide) ?_
          exact hret _ _ _ _ _ _ (by decide) (⟨(if_neg (fun z => c_44 z.2.2.2)).symm, rfl⟩) hP hS dX1_isInSkewWithLater_52
        · skip
          refine lv_iconst (v := nI 1) hx hb dX1_isInSkewWithLater_47 (by decide) ?_
          refine lv_goto (tgt := 52) hx hb dX1_isInSkewWithLater_48 (by decide) ?_
          exact hret _ _ _ _ _ _ (by decide) (⟨(if_pos ⟨Int32.not_le.mp c_8, c_20, c_32, c_44⟩).symm, rfl⟩) hP hS dX1_isInSkewWithLater_52

set_option maxHeartbeats 4000000 in
set_option maxRecDepth 100000 in
theorem c_X4_skewsOf (l : Launch) {D : va_G} {τ : Nat → ClassId} {ad : Nat → Nat} (hI : kInj ad) {G : Nat → Nat → Int32} {j k r : Nat} (hj : j < 7) (hk : G (sB j) 7 = nI k) (hk4 : k ≤ 40) (hr : r < 40) : kM l yX4_skewsOf cX4_skewsOf 4 (some .int) { frames := 1, cells := 0, slots := 0, locals := 21 } D τ ad [.ref (ad (sB j)), .ref (ad (rN j r))] G (fun v G' => v = nI (cn (fun q => if skF (G (mC j q)) (G (rN j r)) then 1 else 0) k) ∧ G' = G) := by
  refine kMet (own := RX4) (by decide) rfl (Nat.le_of_ble_eq_true rfl) ?_
  intro p9 e9 s9 m9 args9 below9 meth9 c9 Q9 X hx hb hP hS hret ls hl
  have hPs := hP
  have hl : lv_has ls 4 [(0, .ref (ad (sB j))), (1, .ref (ad (rN j r)))] := hl
  refine lv_iconst (v := nI 0) hx hb dX4_skewsOf_0 (by decide) ?_
  refine kist hx hb dX4_skewsOf_1 rfl hl (by decide) (kp_2_2 rfl) (fun ls hl => ?_)
  refine lv_iconst (v := nI 0) hx hb dX4_skewsOf_2 (by decide) ?_
  refine kist hx hb dX4_skewsOf_3 rfl hl (by decide) (kp_3_3 rfl) (fun ls hl => ?_)
  have lp_4 : ∀ (d : Nat) (i x : Nat) (H : Heap) (locs : List Loc) (ls : Array Slot), (k - i) < d → (i ≤ k) → (x = cn (fun q => if skF (G (mC j q)) (G (rN j r)) then 1 else 0) i) → va_P D vwCl (kW τ ad G) H → va_S (kAd ad) s9.heap H locs → lv_has ls 4 [(0, .ref (ad (sB j))), (1, .ref (ad (rN j r))), (2, .int (nI x)), (3, .int (nI i))] → W p9 l e9 { frames := 1, cells := 0, slots := 0, locals := 21 } s9 m9 args9 below9 meth9 c9 H locs 0 0 Q9 (F0 m9 4 ls []) := by
    intro d
    induction d with
    | zero => exact fun _ _ _ _ _ hd => absurd hd (Nat.not_lt_zero _)
    | succ d ih =>
      intro i x H locs ls hd iv_0 iv_1 hP hS hl
      refine lv_iload_n hx hb dX4_skewsOf_4 rfl (lv_at hl 3 rfl) ?_
      refine lv_aload_n hx hb dX4_skewsOf_5 rfl (lv_at hl 0 rfl) ?_
      refine kget X hP (oS (by first | assumption | omega)) g_X4_50 (congrArg (fun z => some (Value.int z)) hk) dX4_skewsOf_6 ?_
      first
        | refine kic_ge (tgt := 34) hx hb dX4_skewsOf_9 (by decide) (by with_reducible rfl) (by with_reducible rfl) (by omega) (by omega) (fun c_9 => ?_) (fun c_9 => ?_)
        | refine lv_icmp_ge (tgt := 34) hx hb dX4_skewsOf_9 (by decide) (fun c_9 => ?_) (fun c_9 => ?_)
      · skip
        refine lv_iload_n hx hb dX4_skewsOf_34 rfl (lv_at hl 2 rfl) ?_
        exact hret _ _ _ _ _ _ (⟨congrArg nI (iv_1.trans (by rw [show i = k by omega])), rfl⟩) hP hS dX4_skewsOf_35
      · skip
        refine lv_aload_n hx hb dX4_skewsOf_12 rfl (lv_at hl 0 rfl) ?_
        refine kget X hP (oS (by first | assumption | omega)) g_X4_25 rfl dX4_skewsOf_13 ?_
        refine lv_iload_n hx hb dX4_skewsOf_16 rfl (lv_at hl 3 rfl) ?_
        refine kaald X hP (qM (by first | assumption | omega)) (by first | assumption | omega) rfl dX4_skewsOf_17 ?_
        refine lv_aload_n hx hb dX4_skewsOf_18 rfl (lv_at hl 1 rfl) ?_
        refine kcV X hP hS (c_X1_isInSkewWithLater l hI (by first | assumption | omega) (by first | assumption | omega) (by first | assumption | omega)) (oM (by first | assumption | omega) (by first | assumption | omega)) v_X4_146 ⟨Nat.le_of_ble_eq_true rfl, Nat.le_of_ble_eq_true rfl, rfl, rfl⟩ rfl rfl (Nat.le_of_ble_eq_true rfl) hl.1 ⟨Nat.zero_le _, Nat.zero_le _⟩ dX4_skewsOf_19 (fun r_19 G_19 H locs hR hP hS => ?_)
        obtain ⟨rfl, hG_19⟩ := hR
        rw [hG_19] at hP
        clear hG_19
        first
          | refine kif_eq (tgt := 28) hx hb dX4_skewsOf_22 (by decide) (fun c_22 => ?_) (fun c_22 => ?_)
          | refine lv_if_eq (tgt := 28) hx hb dX4_skewsOf_22 (by decide) (fun c_22 => ?_) (fun c_22 => ?_)
        · skip
          first
            | refine kinc (q := 3) hx hb dX4_skewsOf_28 hl rfl (by decide) (kp_4_3 rfl) (fun ls hl => ?_)
            | refine kincG (q := 3) hx hb dX4_skewsOf_28 hl rfl (by decide) (kp_4_3 rfl) (fun ls hl => ?_)
          refine lv_goto (tgt := 4) hx hb dX4_skewsOf_31 (by decide) ?_
          exact ih _ _ _ _ _ (by omega) (by omega) (by first | exact cn_p iv_1 (if_pos c_22) | exact cn_z iv_1 (if_neg c_22)) hP hS (lv_sub hl [0,1,2,3] rfl)
        · skip
          first
            | refine kinc (q := 2) hx hb dX4_skewsOf_25 hl rfl (by decide) (kp_4_2 rfl) (fun ls hl => ?_)
            | refine kincG (q := 2) hx hb dX4_skewsOf_25 hl rfl (by decide) (kp_4_2 rfl) (fun ls hl => ?_)
          first
            | refine kinc (q := 3) hx hb dX4_skewsOf_28 hl rfl (by decide) (kp_4_3 rfl) (fun ls hl => ?_)
            | refine kincG (q := 3) hx hb dX4_skewsOf_28 hl rfl (by decide) (kp_4_3 rfl) (fun ls hl => ?_)
          refine lv_goto (tgt := 4) hx hb dX4_skewsOf_31 (by decide) ?_
          exact ih _ _ _ _ _ (by omega) (by omega) (by first | exact cn_p iv_1 (if_pos c_22) | exact cn_z iv_1 (if_neg c_22)) hP hS (lv_sub hl [0,1,2,3] rfl)
  exact lp_4 _ 0 0 _ _ _ (Nat.lt_succ_self _) (Nat.zero_le _) (rfl) hP hS (lv_sub hl [0,1,2,3] rfl)

set_option maxHeartbeats 4000000 in
set_option maxRecDepth 100000 in
theorem c_X4_pairsInSkew (l : Launch) {D : va_G} {τ : Nat → ClassId} {ad : Nat → Nat} (hI : kInj ad) {G : Nat → Nat → Int32} {j k : Nat} (hj : j < 7) (hk : G (sB j) 7 = nI k) (hk4 : k ≤ 40) : kM l yX4_pairsInSkew cX4_pairsInSkew 3 (some .int) { frames := 0, cells := 0, slots := 0, locals := 0 } D τ ad [.ref (ad (sB j))] G (fun v G' => v = sm (fun q => G (mC j q) 5) k ∧ G' = G) := by
  refine kMet (own := RX4) (by decide) rfl (Nat.le_of_ble_eq_true rfl) ?_
  intro p9 e9 s9 m9 args9 below9 meth9 c9 Q9 X hx hb hP hS hret ls hl
  have hPs := hP
  have hl : lv_has ls 3 [(0, .ref (ad (sB j)))] := hl
  refine lv_iconst (v := nI 0) hx hb dX4_pairsInSkew_0 (by decide) ?_
  refine kist hx hb dX4_pairsInSkew_1 rfl hl (by decide) (kp_1_1 rfl) (fun ls hl => ?_)
  refine lv_iconst (v := nI 0) hx hb dX4_pairsInSkew_2 (by decide) ?_
  refine kist hx hb dX4_pairsInSkew_3 rfl hl (by decide) (kp_2_2 rfl) (fun ls hl => ?_)
  have lp_4 : ∀ (d : Nat) (i : Nat) (x : Int32) (H : Heap) (locs : List Loc) (ls : Array Slot), (k - i) < d → (i ≤ k) → (x = sm (fun q => G (mC j q) 5) i) → va_P D vwCl (kW τ ad G) H → va_S (kAd ad) s9.heap H locs → lv_has ls 3 [(0, .ref (ad (sB j))), (1, .int x), (2, .int (nI i))] → W p9 l e9 { frames := 0, cells := 0, slots := 0, locals := 0 } s9 m9 args9 below9 meth9 c9 H locs 0 0 Q9 (F0 m9 4 ls []) := by
    intro d
    induction d with
    | zero => exact fun _ _ _ _ _ hd => absurd hd (Nat.not_lt_zero _)
    | succ d ih =>
      intro i x H locs ls hd iv_0 iv_1 hP hS hl
      refine lv_iload_n hx hb dX4_pairsInSkew_4 rfl (lv_at hl 2 rfl) ?_
      refine lv_aload_n hx hb dX4_pairsInSkew_5 rfl (lv_at hl 0 rfl) ?_
      refine kget X hP (oS (by first | assumption | omega)) g_X4_50 (congrArg (fun z => some (Value.int z)) hk) dX4_pairsInSkew_6 ?_
      first
        | refine kic_ge (tgt := 30) hx hb dX4_pairsInSkew_9 (by decide) (by with_reducible rfl) (by with_reducible rfl) (by omega) (by omega) (fun c_9 => ?_) (fun c_9 => ?_)
        | refine lv_icmp_ge (tgt := 30) hx hb dX4_pairsInSkew_9 (by decide) (fun c_9 => ?_) (fun c_9 => ?_)
      · skip
        refine lv_iload_n hx hb dX4_pairsInSkew_30 rfl (lv_at hl 1 rfl) ?_
        exact hret _ _ _ _ _ _ (⟨iv_1.trans (by rw [show i = k by omega]), rfl⟩) hP hS dX4_pairsInSkew_31
      · skip
        refine lv_iload_n hx hb dX4_pairsInSkew_12 rfl (lv_at hl 1 rfl) ?_
        refine lv_aload_n hx hb dX4_pairsInSkew_13 rfl (lv_at hl 0 rfl) ?_
        refine kget X hP (oS (by first | assumption | omega)) g_X4_25 rfl dX4_pairsInSkew_14 ?_
        refine lv_iload_n hx hb dX4_pairsInSkew_17 rfl (lv_at hl 2 rfl) ?_
        refine kaald X hP (qM (by first | assumption | omega)) (by first | assumption | omega) rfl dX4_pairsInSkew_18 ?_
        refine kget X hP (oM (by first | assumption | omega) (by first | assumption | omega)) g_X4_150 rfl dX4_pairsInSkew_19 ?_
        first
          | refine kadd hx hb dX4_pairsInSkew_22 (by with_reducible rfl) (by with_reducible rfl) ?_
          | refine lv_iadd hx hb dX4_pairsInSkew_22 ?_
        refine kist hx hb dX4_pairsInSkew_23 rfl hl (by decide) (kp_3_1 rfl) (fun ls hl => ?_)
        first
          | refine kinc (q := 2) hx hb dX4_pairsInSkew_24 hl rfl (by decide) (kp_3_2 rfl) (fun ls hl => ?_)
          | refine kincG (q := 2) hx hb dX4_pairsInSkew_24 hl rfl (by decide) (kp_3_2 rfl) (fun ls hl => ?_)
        refine lv_goto (tgt := 4) hx hb dX4_pairsInSkew_27 (by decide) ?_
        exact ih _ _ _ _ _ (by omega) (by omega) (by rw [iv_1]; rfl) hP hS (lv_sub hl [0,1,2] rfl)
  exact lp_4 _ 0 0 _ _ _ (Nat.lt_succ_self _) (Nat.zero_le _) (rfl) hP hS (lv_sub hl [0,1,2] rfl)

set_option maxHeartbeats 4000000 in
set_option maxRecDepth 100000 in
theorem c_X4_oldVersionsWithout (l : Launch) {D : va_G} {τ : Nat → ClassId} {ad : Nat → Nat} (hI : kInj ad) {G : Nat → Nat → Int32} {j n r : Nat} {P : Nat → Nat} (hj : j < 7) (hn : G (sB j) 6 = nI n) (hn4 : n ≤ 40) (hr : r < n) (hp : ∀ c, c < 12 → G (cB j c) 2 = nI (P c) ∧ P c ≤ 10) : kM l yX4_oldVersionsWithout cX4_oldVersionsWithout 6 (some .int) { frames := 2, cells := 0, slots := 0, locals := 47 } D τ ad [.ref (ad (sB j)), .int (nI r)] G (fun v G' => v = sm (ovF G j n r P) 12 ∧ G' = G) := by
  refine kMet (own := RX4) (by decide) rfl (Nat.le_of_ble_eq_true rfl) ?_
  intro p9 e9 s9 m9 args9 below9 meth9 c9 Q9 X hx hb hP hS hret ls hl
  have hPs := hP
  have hl : lv_has ls 6 [(0, .ref (ad (sB j))), (1, .int (nI r))] := hl
  refine lv_iconst (v := nI 0) hx hb dX4_oldVersionsWithout_0 (by decide) ?_
  refine kist hx hb dX4_oldVersionsWithout_1 rfl hl (by decide) (kp_2_2 rfl) (fun ls hl => ?_)
  refine lv_iconst (v := nI 0) hx hb dX4_oldVersionsWithout_2 (by decide) ?_
  refine kist hx hb dX4_oldVersionsWithout_3 rfl hl (by decide) (kp_3_3 rfl) (fun ls hl => ?_)
  have lp_4 : ∀ (d : Nat) (i : Nat) (x : Int32) (H : Heap) (locs : List Loc) (ls : Array Slot), (12 - i) < d → (i ≤ 12) → (x = sm (ovF G j n r P) i) → va_P D vwCl (kW τ ad G) H → va_S (kAd ad) s9.heap H locs → lv_has ls 6 [(0, .ref (ad (sB j))), (1, .int (nI r)), (2, .int x), (3, .int (nI i))] → W p9 l e9 { frames := 2, cells := 0, slots := 0, locals := 47 } s9 m9 args9 below9 meth9 c9 H locs 0 0 Q9 (F0 m9 4 ls []) := by
    intro d
    induction d with
    | zero => exact fun _ _ _ _ _ hd => absurd hd (Nat.not_lt_zero _)
    | succ d ih =>
      intro i x H locs ls hd iv_0 iv_1 hP hS hl
      refine lv_iload_n hx hb dX4_oldVersionsWithout_4 rfl (lv_at hl 3 rfl) ?_
      refine lv_bipush (v := nI 12) hx hb dX4_oldVersionsWithout_5 (by decide) ?_
      first
        | refine kic_ge (tgt := 62) hx hb dX4_oldVersionsWithout_7 (by decide) (by with_reducible rfl) (by with_reducible rfl) (by omega) (by omega) (fun c_7 => ?_) (fun c_7 => ?_)
        | refine lv_icmp_ge (tgt := 62) hx hb dX4_oldVersionsWithout_7 (by decide) (fun c_7 => ?_) (fun c_7 => ?_)
      · skip
        refine lv_iload_n hx hb dX4_oldVersionsWithout_62 rfl (lv_at hl 2 rfl) ?_
        exact hret _ _ _ _ _ _ (⟨iv_1.trans (by rw [show i = 12 by omega]), rfl⟩) hP hS dX4_oldVersionsWithout_63
      · skip
        refine lv_aload_n hx hb dX4_oldVersionsWithout_10 rfl (lv_at hl 0 rfl) ?_
        refine lv_aload_n hx hb dX4_oldVersionsWithout_11 rfl (lv_at hl 0 rfl) ?_
        refine kget X hP (oS (by first | assumption | omega)) g_X4_11 rfl dX4_oldVersionsWithout_12 ?_
        refine lv_iload_n hx hb dX4_oldVersionsWithout_15 rfl (lv_at hl 3 rfl) ?_
        refine kaald X hP (qC (by first | assumption | omega)) (by first | assumption | omega) rfl dX4_oldVersionsWithout_16 ?_
        refine lv_iload_n hx hb dX4_oldVersionsWithout_17 rfl (lv_at hl 1 rfl) ?_
        refine kcV X hP hS (c_X4_placesSeen l hI (q := nI r) hj hn hn4 (by omega) (hp _ (by omega)).1 (hp _ (by omega)).2) (oS (by first | assumption | omega)) v_X4_104 ⟨Nat.le_of_ble_eq_true rfl, Nat.le_of_ble_eq_true rfl, rfl, rfl⟩ rfl rfl (Nat.le_of_ble_eq_true rfl) hl.1 ⟨Nat.zero_le _, Nat.zero_le _⟩ dX4_oldVersionsWithout_18 (fun r_18 G_18 H locs hR hP hS => ?_)
        obtain ⟨rfl, hG_18⟩ := hR
        rw [hG_18] at hP
        clear hG_18
        refine kistW hx hb dX4_oldVersionsWithout_21 hl (by decide) (kp_4_4 rfl) (fun ls hl => ?_)
        refine lv_aload_n hx hb dX4_oldVersionsWithout_23 rfl (lv_at hl 0 rfl) ?_
        refine kget X hP (oS (by first | assumption | omega)) g_X4_19 rfl dX4_oldVersionsWithout_24 ?_
        refine lv_iload_n hx hb dX4_oldVersionsWithout_27 rfl (lv_at hl 1 rfl) ?_
        refine kaald X hP (qR (by first | assumption | omega)) (by omega) rfl dX4_oldVersionsWithout_28 ?_
        refine lv_iload_n hx hb dX4_oldVersionsWithout_29 rfl (lv_at hl 3 rfl) ?_
        refine kcV X hP hS (c_X3_hasWrite l hI (by first | assumption | omega) (by first | assumption | omega)) (oR (by first | assumption | omega) (by first | assumption | omega)) v_X4_86 ⟨Nat.le_of_ble_eq_true rfl, Nat.le_of_ble_eq_true rfl, rfl, rfl⟩ rfl rfl (Nat.le_of_ble_eq_true rfl) hl.1 ⟨Nat.zero_le _, Nat.zero_le _⟩ dX4_oldVersionsWithout_30 (fun r_30 G_30 H locs hR hP hS => ?_)
        obtain ⟨rfl, hG_30⟩ := hR
        rw [hG_30] at hP
        clear hG_30
        refine kistW hx hb dX4_oldVersionsWithout_33 hl (by decide) (kp_5_5 rfl) (fun ls hl => ?_)
        refine lv_iload_n hx hb dX4_oldVersionsWithout_35 rfl (lv_at hl 2 rfl) ?_
        refine lv_iload hx hb dX4_oldVersionsWithout_36 (lv_at hl 5 rfl) ?_
        first
          | refine kif_eq (tgt := 46) hx hb dX4_oldVersionsWithout_38 (by decide) (fun c_38 => ?_) (fun c_38 => ?_)
          | refine lv_if_eq (tgt := 46) hx hb dX4_oldVersionsWithout_38 (by decide) (fun c_38 => ?_) (fun c_38 => ?_)
        · skip
          refine lv_iload hx hb dX4_oldVersionsWithout_46 (lv_at hl 4 rfl) ?_
          refine lv_bipush (v := (-2)) hx hb dX4_oldVersionsWithout_48 (by decide) ?_
          refine lv_iand hx hb dX4_oldVersionsWithout_50 ?_
          refine kcS2 X hP hS (c_J6_bitCount_0f7a4 l hI) (n := 1) ⟨kWs_of 440 (by decide +kernel) rfl, mw_J6_bitCount_0f7a4.2.1, mw_J6_bitCount_0f7a4.2.2, mw_J6_bitCount_0f7a4.1, by decide, by decide, by decide +kernel⟩ ⟨Nat.le_of_ble_eq_true rfl, Nat.le_of_ble_eq_true rfl, rfl, rfl⟩ rfl rfl (Nat.le_of_ble_eq_true rfl) hl.1 ⟨Nat.zero_le _, Nat.zero_le _⟩ dX4_oldVersionsWithout_51 (fun r_51 G_51 H locs hR hP hS => ?_)
          obtain ⟨rfl, hG_51⟩ := hR
          rw [hG_51] at hP
          clear hG_51
          first
            | refine kadd hx hb dX4_oldVersionsWithout_54 (by with_reducible rfl) (by with_reducible rfl) ?_
            | refine lv_iadd hx hb dX4_oldVersionsWithout_54 ?_
          refine kist hx hb dX4_oldVersionsWithout_55 rfl hl (by decide) (kp_6_2 rfl) (fun ls hl => ?_)
          first
            | refine kinc (q := 3) hx hb dX4_oldVersionsWithout_56 hl rfl (by decide) (kp_6_3 rfl) (fun ls hl => ?_)
            | refine kincG (q := 3) hx hb dX4_oldVersionsWithout_56 hl rfl (by decide) (kp_6_3 rfl) (fun ls hl => ?_)
          refine lv_goto (tgt := 4) hx hb dX4_oldVersionsWithout_59 (by decide) ?_
          exact ih _ _ _ _ _ (by omega) (by omega) (by first | exact sm_s iv_1 (congrArg bcF (if_pos c_38)) | exact sm_s iv_1 (congrArg bcF (if_neg c_38))) hP hS (lv_sub hl [0,1,2,3] rfl)
        · skip
          refine lv_iload hx hb dX4_oldVersionsWithout_41 (lv_at hl 4 rfl) ?_
          refine lv_goto (tgt := 51) hx hb dX4_oldVersionsWithout_43 (by decide) ?_
          refine kcS2 X hP hS (c_J6_bitCount_0f7a4 l hI) (n := 1) ⟨kWs_of 440 (by decide +kernel) rfl, mw_J6_bitCount_0f7a4.2.1, mw_J6_bitCount_0f7a4.2.2, mw_J6_bitCount_0f7a4.1, by decide, by decide, by decide +kernel⟩ ⟨Nat.le_of_ble_eq_true rfl, Nat.le_of_ble_eq_true rfl, rfl, rfl⟩ rfl rfl (Nat.le_of_ble_eq_true rfl) hl.1 ⟨Nat.zero_le _, Nat.zero_le _⟩ dX4_oldVersionsWithout_51 (fun r_51 G_51 H locs hR hP hS => ?_)
          obtain ⟨rfl, hG_51⟩ := hR
          rw [hG_51] at hP
          clear hG_51
          first
            | refine kadd hx hb dX4_oldVersionsWithout_54 (by with_reducible rfl) (by with_reducible rfl) ?_
            | refine lv_iadd hx hb dX4_oldVersionsWithout_54 ?_
          refine kist hx hb dX4_oldVersionsWithout_55 rfl hl (by decide) (kp_6_2 rfl) (fun ls hl => ?_)
          first
            | refine kinc (q := 3) hx hb dX4_oldVersionsWithout_56 hl rfl (by decide) (kp_6_3 rfl) (fun ls hl => ?_)
            | refine kincG (q := 3) hx hb dX4_oldVersionsWithout_56 hl rfl (by decide) (kp_6_3 rfl) (fun ls hl => ?_)
          refine lv_goto (tgt := 4) hx hb dX4_oldVersionsWithout_59 (by decide) ?_
          exact ih _ _ _ _ _ (by omega) (by omega) (by first | exact sm_s iv_1 (congrArg bcF (if_pos c_38)) | exact sm_s iv_1 (congrArg bcF (if_neg c_38))) hP hS (lv_sub hl [0,1,2,3] rfl)
  exact lp_4 _ 0 0 _ _ _ (Nat.lt_succ_self _) (Nat.zero_le _) (rfl) hP hS (lv_sub hl [0,1,2,3] rfl)
end
section
/-- which places behind the newest stay -/
def rf (w : Int32) : Nat → Nat := fun t => if 1 ≤ t ∧ hw w t then 1 else 0
theorem rf_le (w : Int32) (i : Nat) : cn (rf w) i ≤ i - 1 := by
  induction i with
  | zero => exact Nat.le_refl _
  | succ i ih =>
    rw [cn]
    have h : rf w i ≤ 1 := by unfold rf; split <;> omega
    rcases Nat.eq_zero_or_pos i with rfl | hp
    · have h0 : rf w 0 = 0 := by unfold rf; rw [if_neg (fun z => absurd z.1 (by omega))]
      rw [h0]; exact Nat.le_refl _
    · omega
theorem rf_z {w : Int32} {x i : Nat} (h : x = 1 + cn (rf w) i) (hz : ¬ hw w i) : x = 1 + cn (rf w) (i + 1) := by
  rw [cn, rf, if_neg (fun z => hz z.2)]; exact h
theorem rf_p {w : Int32} {x i : Nat} (h : x = 1 + cn (rf w) i) (h1 : 1 ≤ i) (hz : hw w i) : x + 1 = 1 + cn (rf w) (i + 1) := by
  rw [cn, rf, if_pos ⟨h1, hz⟩, h]; rfl
def RT (G G' : Nat → Nat → Int32) (j c P : Nat) (w : Int32) : Prop := G' (cB j c) 2 = nI (1 + cn (rf w) P) ∧ G' (cV j c) 0 = G (cV j c) 0 ∧ G' (cM j c) 0 = G (cM j c) 0 ∧ ∀ p, 1 ≤ p → p < P → hw w p → G' (cV j c) (1 + cn (rf w) p) = G (cV j c) p ∧ G' (cM j c) (1 + cn (rf w) p) = G (cM j c) p
theorem rf_keep {w : Int32} {i : Nat} {Z : Nat → Prop} (h : ∀ p, 1 ≤ p → p < i → hw w p → Z p) (hz : ¬ hw w i) : ∀ p, 1 ≤ p → p < i + 1 → hw w p → Z p := fun p h1 h2 h3 => by
  rcases Nat.lt_or_ge p i with q | q
  · exact h p h1 q h3
  · rw [show p = i by omega] at h3; exact absurd h3 hz
theorem rf_lt {w : Int32} {p i : Nat} (h1 : 1 ≤ p) (h : p < i) (hz : hw w p) : cn (rf w) p < cn (rf w) i := by
  have h2 : cn (rf w) (p + 1) ≤ cn (rf w) i := cn_mono h
  rw [cn, rf, if_pos ⟨h1, hz⟩] at h2
  omega
theorem rf_step {w : Int32} {x i kV kM : Nat} {G G1 : Nat → Nat → Int32} (h : x = 1 + cn (rf w) i) (h3 : ∀ p, x ≤ p → G1 kV p = G kV p ∧ G1 kM p = G kM p) (h5 : ∀ p, 1 ≤ p → p < i → hw w p → G1 kV (1 + cn (rf w) p) = G kV p ∧ G1 kM (1 + cn (rf w) p) = G kM p) (h1 : 1 ≤ i) (hx : x ≤ i) (z : kV ≠ kM) : ∀ p, 1 ≤ p → p < i + 1 → hw w p → gs (gs G1 kV x (G1 kV i)) kM x (gs G1 kV x (G1 kV i) kM i) kV (1 + cn (rf w) p) = G kV p ∧ gs (gs G1 kV x (G1 kV i)) kM x (gs G1 kV x (G1 kV i) kM i) kM (1 + cn (rf w) p) = G kM p := by
  intro p hp1 hp2 hp3
  rcases Nat.lt_or_ge p i with q | q
  · have q1 := rf_lt hp1 q hp3
    have q2 := h5 p hp1 q hp3
    have e : 1 + cn (rf w) p ≠ x := by omega
    exact ⟨by simpa [gs, z, e] using q2.1, by simpa [gs, z.symm, e] using q2.2⟩
  · have e : p = i := by omega
    subst e
    have q := h3 p hx
    rw [← h]
    exact ⟨by simpa [gs, z] using q.1, by simpa [gs, z.symm] using q.2⟩
set_option maxHeartbeats 4000000 in
set_option maxRecDepth 100000 in
theorem c_X0_copyFrom (l : Launch) {D : va_G} {τ : Nat → ClassId} {ad : Nat → Nat} (hI : kInj ad) {G : Nat → Nat → Int32} {j c j2 c2 : Nat} (hj : j < 7) (hc : c < 12) (hj2 : j2 < 7) (hc2 : c2 < 12) : kMv l yX0_copyFrom cX0_copyFrom 2 { frames := 1, cells := 0, slots := 0, locals := 40 } D τ ad [.ref (ad (cB j c)), .ref (ad (cB j2 c2))] G (fun G' => (∀ k, k ≠ cB j c → k ≠ cV j c → k ≠ cM j c → G' k = G k) ∧ (∀ p, p < 10 → G' (cV j c) p = G (cV j2 c2) p ∧ G' (cM j c) p = G (cM j2 c2) p) ∧ G' (cB j c) 2 = G (cB j2 c2) 2) := by
  refine kMetV (own := RX0) (by decide) rfl (Nat.le_of_ble_eq_true rfl) ?_
  intro p9 e9 s9 m9 args9 below9 meth9 c9 Q9 X hx hb hP hS hret ls hl
  have hPs := hP
  have hl : lv_has ls 2 [(0, .ref (ad (cB j c))), (1, .ref (ad (cB j2 c2)))] := hl
  refine lv_aload_n hx hb dX0_copyFrom_0 rfl (lv_at hl 1 rfl) ?_
  refine kget X hP (oC (by first | assumption | omega) (by first | assumption | omega)) g_X0_9 rfl dX0_copyFrom_1 ?_
  refine lv_iconst (v := nI 0) hx hb dX0_copyFrom_4 (by decide) ?_
  refine lv_aload_n hx hb dX0_copyFrom_5 rfl (lv_at hl 0 rfl) ?_
  refine kget X hP (oC (by first | assumption | omega) (by first | assumption | omega)) g_X0_9 rfl dX0_copyFrom_6 ?_
  refine lv_iconst (v := nI 0) hx hb dX0_copyFrom_9 (by decide) ?_
  refine lv_bipush (v := nI 10) hx hb dX0_copyFrom_10 (by decide) ?_
  refine kcopy X hI hP hS (aV hj2 hc2) (aV hj hc) ⟨kWs_of 273 (by decide +kernel) rfl, kWs_of 275 (by decide +kernel) rfl, kWs_of 274 (by decide +kernel) rfl, kWs_of 9 (by decide +kernel) rfl⟩ (by omega) (by omega) ⟨Nat.le_of_ble_eq_true rfl, Nat.le_of_ble_eq_true rfl⟩ (Nat.le_of_ble_eq_true rfl) hl.1 dX0_copyFrom_12 (fun H locs hP hS => ?_)
  refine lv_aload_n hx hb dX0_copyFrom_15 rfl (lv_at hl 1 rfl) ?_
  refine kget X hP (oC (by first | assumption | omega) (by first | assumption | omega)) g_X0_15 rfl dX0_copyFrom_16 ?_
  refine lv_iconst (v := nI 0) hx hb dX0_copyFrom_19 (by decide) ?_
  refine lv_aload_n hx hb dX0_copyFrom_20 rfl (lv_at hl 0 rfl) ?_
  refine kget X hP (oC (by first | assumption | omega) (by first | assumption | omega)) g_X0_15 rfl dX0_copyFrom_21 ?_
  refine lv_iconst (v := nI 0) hx hb dX0_copyFrom_24 (by decide) ?_
  refine lv_bipush (v := nI 10) hx hb dX0_copyFrom_25 (by decide) ?_
  refine kcopy X hI hP hS (aM hj2 hc2) (aM hj hc) ⟨kWs_of 273 (by decide +kernel) rfl, kWs_of 275 (by decide +kernel) rfl, kWs_of 274 (by decide +kernel) rfl, kWs_of 9 (by decide +kernel) rfl⟩ (by omega) (by omega) ⟨Nat.le_of_ble_eq_true rfl, Nat.le_of_ble_eq_true rfl⟩ (Nat.le_of_ble_eq_true rfl) hl.1 dX0_copyFrom_27 (fun H locs hP hS => ?_)
  refine lv_aload_n hx hb dX0_copyFrom_30 rfl (lv_at hl 0 rfl) ?_
  refine lv_aload_n hx hb dX0_copyFrom_31 rfl (lv_at hl 1 rfl) ?_
  refine kget X hP (oC (by first | assumption | omega) (by first | assumption | omega)) g_X0_18 rfl dX0_copyFrom_32 ?_
  refine kput X hI hP hS (oC (by first | assumption | omega) (by first | assumption | omega)) g_X0_18 (fun _ => rfl) rfl (fun _ => Nat.le_of_ble_eq_true rfl) rfl rfl dX0_copyFrom_35 (fun H locs hP hS => ?_)
  exact hret _ _ _ _ _ (by
      have z0 : cM j2 c2 ≠ cV j c := by unfold cM cV; omega
      have z1 : cB j2 c2 ≠ cM j c := by unfold cB cM; omega
      have z2 : cB j2 c2 ≠ cV j c := by unfold cB cV; omega
      have z3 : cV j c ≠ cB j c := by unfold cV cB; omega
      have z4 : cM j c ≠ cB j c := by unfold cM cB; omega
      have z5 : cV j c ≠ cM j c := by unfold cV cM; omega
      refine ⟨fun k h1 h2 h3 => ?_, fun p hp => ⟨?_, ?_⟩, ?_⟩
      · funext f; simp [gs, gc, h1, h2, h3]
      · simp [gs, gc, cpy, z3, z5, hp]
      · simp [gs, gc, cpy, z0, z4, hp]
      · simp [gs, gc, z1, z2]) hP hS dX0_copyFrom_38

set_option maxHeartbeats 4000000 in
set_option maxRecDepth 100000 in
theorem c_X0_push (l : Launch) {D : va_G} {τ : Nat → ClassId} {ad : Nat → Nat} (hI : kInj ad) {G : Nat → Nat → Int32} {j c P : Nat} {x y : Int32} (hj : j < 7) (hc : c < 12) (hpl : G (cB j c) 2 = nI P) (hp9 : P ≤ 9) : kMv l yX0_push cX0_push 3 { frames := 1, cells := 0, slots := 0, locals := 40 } D τ ad [.ref (ad (cB j c)), .int x, .int y] G (fun G' => (∀ k, k ≠ cB j c → k ≠ cV j c → k ≠ cM j c → G' k = G k) ∧ G' (cB j c) 2 = nI (P + 1) ∧ G' (cV j c) 0 = x ∧ G' (cM j c) 0 = y ∧ ∀ p, p < P → G' (cV j c) (p + 1) = G (cV j c) p ∧ G' (cM j c) (p + 1) = G (cM j c) p) := by
  refine kMetV (own := RX0) (by decide) rfl (Nat.le_of_ble_eq_true rfl) ?_
  intro p9 e9 s9 m9 args9 below9 meth9 c9 Q9 X hx hb hP hS hret ls hl
  have hPs := hP
  have hl : lv_has ls 3 [(0, .ref (ad (cB j c))), (1, .int x), (2, .int y)] := hl
  have z0 : cB j c ≠ cV j c := by unfold cB cV; omega
  have z1 : cB j c ≠ cM j c := by unfold cB cM; omega
  have z2 : cV j c ≠ cM j c := by unfold cV cM; omega
  refine lv_aload_n hx hb dX0_push_0 rfl (lv_at hl 0 rfl) ?_
  refine kget X hP (oC (by first | assumption | omega) (by first | assumption | omega)) g_X0_18 (congrArg (fun z => some (Value.int z)) hpl) dX0_push_1 ?_
  refine lv_bipush (v := nI 10) hx hb dX0_push_4 (by decide) ?_
  first
    | refine kic_ge (tgt := 19) hx hb dX0_push_6 (by decide) (by with_reducible rfl) (by with_reducible rfl) (by omega) (by omega) (fun c_6 => ?_) (fun c_6 => ?_)
    | refine lv_icmp_ge (tgt := 19) hx hb dX0_push_6 (by decide) (fun c_6 => ?_) (fun c_6 => ?_)
  · skip
    exact absurd c_6 (by omega)
  · skip
    refine lv_aload_n hx hb dX0_push_9 rfl (lv_at hl 0 rfl) ?_
    refine lv_dup hx hb dX0_push_10 rfl ?_
    refine kget X hP (oC (by first | assumption | omega) (by first | assumption | omega)) g_X0_18 (congrArg (fun z => some (Value.int z)) hpl) dX0_push_11 ?_
    refine lv_iconst (v := nI 1) hx hb dX0_push_14 (by decide) ?_
    first
      | refine kadd hx hb dX0_push_15 (by with_reducible rfl) (by with_reducible rfl) ?_
      | refine lv_iadd hx hb dX0_push_15 ?_
    refine kput X hI hP hS (oC (by first | assumption | omega) (by first | assumption | omega)) g_X0_18 (fun _ => rfl) rfl (fun _ => Nat.le_of_ble_eq_true rfl) rfl rfl dX0_push_16 (fun H locs hP hS => ?_)
    refine lv_aload_n hx hb dX0_push_19 rfl (lv_at hl 0 rfl) ?_
    refine kget X hP (oC (by first | assumption | omega) (by first | assumption | omega)) g_X0_9 rfl dX0_push_20 ?_
    refine lv_iconst (v := nI 0) hx hb dX0_push_23 (by decide) ?_
    refine lv_aload_n hx hb dX0_push_24 rfl (lv_at hl 0 rfl) ?_
    refine kget X hP (oC (by first | assumption | omega) (by first | assumption | omega)) g_X0_9 rfl dX0_push_25 ?_
    refine lv_iconst (v := nI 1) hx hb dX0_push_28 (by decide) ?_
    refine lv_aload_n hx hb dX0_push_29 rfl (lv_at hl 0 rfl) ?_
    refine kget X hP (oC (by first | assumption | omega) (by first | assumption | omega)) g_X0_18 (congrArg (fun z => some (Value.int z)) (show gs G (cB j c) 2 (nI (P + 1)) (cB j c) 2 = nI (P + 1) from by simp [gs])) dX0_push_30 ?_
    refine lv_iconst (v := nI 1) hx hb dX0_push_33 (by decide) ?_
    first
      | refine ksub hx hb dX0_push_34 (by with_reducible rfl) (by with_reducible rfl) (by omega) ?_
      | refine lv_isub hx hb dX0_push_34 ?_
    refine kcopy X hI hP hS (aV hj hc) (aV hj hc) ⟨kWs_of 273 (by decide +kernel) rfl, kWs_of 275 (by decide +kernel) rfl, kWs_of 274 (by decide +kernel) rfl, kWs_of 9 (by decide +kernel) rfl⟩ (by omega) (by omega) ⟨Nat.le_of_ble_eq_true rfl, Nat.le_of_ble_eq_true rfl⟩ (Nat.le_of_ble_eq_true rfl) hl.1 dX0_push_35 (fun H locs hP hS => ?_)
    refine lv_aload_n hx hb dX0_push_38 rfl (lv_at hl 0 rfl) ?_
    refine kget X hP (oC (by first | assumption | omega) (by first | assumption | omega)) g_X0_15 rfl dX0_push_39 ?_
    refine lv_iconst (v := nI 0) hx hb dX0_push_42 (by decide) ?_
    refine lv_aload_n hx hb dX0_push_43 rfl (lv_at hl 0 rfl) ?_
    refine kget X hP (oC (by first | assumption | omega) (by first | assumption | omega)) g_X0_15 rfl dX0_push_44 ?_
    refine lv_iconst (v := nI 1) hx hb dX0_push_47 (by decide) ?_
    refine lv_aload_n hx hb dX0_push_48 rfl (lv_at hl 0 rfl) ?_
    refine kget X hP (oC (by first | assumption | omega) (by first | assumption | omega)) g_X0_18 (congrArg (fun z => some (Value.int z)) (show gc (gs G (cB j c) 2 (nI (P + 1))) (cV j c) (cV j c) 0 1 (P + 1 - 1) (cB j c) 2 = nI (P + 1) from by simp [gs, gc, z0])) dX0_push_49 ?_
    refine lv_iconst (v := nI 1) hx hb dX0_push_52 (by decide) ?_
    first
      | refine ksub hx hb dX0_push_53 (by with_reducible rfl) (by with_reducible rfl) (by omega) ?_
      | refine lv_isub hx hb dX0_push_53 ?_
    refine kcopy X hI hP hS (aM hj hc) (aM hj hc) ⟨kWs_of 273 (by decide +kernel) rfl, kWs_of 275 (by decide +kernel) rfl, kWs_of 274 (by decide +kernel) rfl, kWs_of 9 (by decide +kernel) rfl⟩ (by omega) (by omega) ⟨Nat.le_of_ble_eq_true rfl, Nat.le_of_ble_eq_true rfl⟩ (Nat.le_of_ble_eq_true rfl) hl.1 dX0_push_54 (fun H locs hP hS => ?_)
    refine lv_aload_n hx hb dX0_push_57 rfl (lv_at hl 0 rfl) ?_
    refine kget X hP (oC (by first | assumption | omega) (by first | assumption | omega)) g_X0_9 rfl dX0_push_58 ?_
    refine lv_iconst (v := nI 0) hx hb dX0_push_61 (by decide) ?_
    refine lv_iload_n hx hb dX0_push_62 rfl (lv_at hl 1 rfl) ?_
    refine kiast X hI hP hS (aV hj hc) (by omega) dX0_push_63 (fun H locs hP hS => ?_)
    refine lv_aload_n hx hb dX0_push_64 rfl (lv_at hl 0 rfl) ?_
    refine kget X hP (oC (by first | assumption | omega) (by first | assumption | omega)) g_X0_15 rfl dX0_push_65 ?_
    refine lv_iconst (v := nI 0) hx hb dX0_push_68 (by decide) ?_
    refine lv_iload_n hx hb dX0_push_69 rfl (lv_at hl 2 rfl) ?_
    refine kiast X hI hP hS (aM hj hc) (by omega) dX0_push_70 (fun H locs hP hS => ?_)
    exact hret _ _ _ _ _ (by
        refine ⟨fun k h1 h2 h3 => ?_, ?_, ?_, ?_, fun p hp => ⟨?_, ?_⟩⟩
        · funext f; simp [gs, gc, h1, h2, h3]
        · simp [gs, gc, z0, z1]
        · simp [gs, gc, z2]
        · simp [gs]
        · simp [gs, gc, cpy, z2, z0.symm, hp]; omega
        · simp [gs, gc, cpy, z2.symm, z1.symm, hp]; omega) hP hS dX0_push_71

set_option maxHeartbeats 4000000 in
set_option maxRecDepth 100000 in
theorem c_X0_retainOld (l : Launch) {D : va_G} {τ : Nat → ClassId} {ad : Nat → Nat} (hI : kInj ad) {G : Nat → Nat → Int32} {j c P : Nat} {w : Int32} (hj : j < 7) (hc : c < 12) (hpl : G (cB j c) 2 = nI P) (hp1 : 1 ≤ P) (hp10 : P ≤ 10) : kM l yX0_retainOld cX0_retainOld 4 (some .int) { frames := 0, cells := 0, slots := 0, locals := 0 } D τ ad [.ref (ad (cB j c)), .int w] G (fun v G' => v = nI (P - (1 + cn (rf w) P)) ∧ (∀ k, k ≠ cB j c → k ≠ cV j c → k ≠ cM j c → G' k = G k) ∧ RT G G' j c P w) := by
  refine kMet (own := RX0) (by decide) rfl (Nat.le_of_ble_eq_true rfl) ?_
  intro p9 e9 s9 m9 args9 below9 meth9 c9 Q9 X hx hb hP hS hret ls hl
  have hPs := hP
  have hl : lv_has ls 4 [(0, .ref (ad (cB j c))), (1, .int w)] := hl
  have z0 : cB j c ≠ cV j c := by unfold cB cV; omega
  have z1 : cB j c ≠ cM j c := by unfold cB cM; omega
  have z2 : cV j c ≠ cM j c := by unfold cV cM; omega
  refine lv_iconst (v := nI 1) hx hb dX0_retainOld_0 (by decide) ?_
  refine kist hx hb dX0_retainOld_1 rfl hl (by decide) (kp_2_2 rfl) (fun ls hl => ?_)
  refine lv_iconst (v := nI 1) hx hb dX0_retainOld_2 (by decide) ?_
  refine kist hx hb dX0_retainOld_3 rfl hl (by decide) (kp_3_3 rfl) (fun ls hl => ?_)
  have lp_4 : ∀ (d : Nat) (x i : Nat) (G1 : Nat → Nat → Int32) (H : Heap) (locs : List Loc) (ls : Array Slot), (P - i) < d → (1 ≤ i ∧ i ≤ P) → (x = 1 + cn (rf w) i) → (∀ k, k ≠ cV j c → k ≠ cM j c → G1 k = G k) → (∀ p, x ≤ p → G1 (cV j c) p = G (cV j c) p ∧ G1 (cM j c) p = G (cM j c) p) → (G1 (cV j c) 0 = G (cV j c) 0 ∧ G1 (cM j c) 0 = G (cM j c) 0) → (∀ p, 1 ≤ p → p < i → hw w p → G1 (cV j c) (1 + cn (rf w) p) = G (cV j c) p ∧ G1 (cM j c) (1 + cn (rf w) p) = G (cM j c) p) → va_P D vwCl (kW τ ad G1) H → va_S (kAd ad) s9.heap H locs → lv_has ls 4 [(0, .ref (ad (cB j c))), (1, .int w), (2, .int (nI x)), (3, .int (nI i))] → W p9 l e9 { frames := 0, cells := 0, slots := 0, locals := 0 } s9 m9 args9 below9 meth9 c9 H locs 0 0 Q9 (F0 m9 4 ls []) := by
    intro d
    induction d with
    | zero => exact fun _ _ _ _ _ _ hd => absurd hd (Nat.not_lt_zero _)
    | succ d ih =>
      intro x i G1 H locs ls hd iv_0 iv_1 iv_2 iv_3 iv_4 iv_5 hP hS hl
      refine lv_iload_n hx hb dX0_retainOld_4 rfl (lv_at hl 3 rfl) ?_
      refine lv_aload_n hx hb dX0_retainOld_5 rfl (lv_at hl 0 rfl) ?_
      refine kget X hP (oC (by first | assumption | omega) (by first | assumption | omega)) g_X0_18 (congrArg (fun z => some (Value.int z)) (show G1 (cB j c) 2 = nI P from by rw [iv_2 _ z0 z1]; exact hpl)) dX0_retainOld_6 ?_
      first
        | refine kic_ge (tgt := 53) hx hb dX0_retainOld_9 (by decide) (by with_reducible rfl) (by with_reducible rfl) (by omega) (by omega) (fun c_9 => ?_) (fun c_9 => ?_)
        | refine lv_icmp_ge (tgt := 53) hx hb dX0_retainOld_9 (by decide) (fun c_9 => ?_) (fun c_9 => ?_)
      · skip
        refine lv_aload_n hx hb dX0_retainOld_53 rfl (lv_at hl 0 rfl) ?_
        refine kget X hP (oC (by first | assumption | omega) (by first | assumption | omega)) g_X0_18 (congrArg (fun z => some (Value.int z)) (show G1 (cB j c) 2 = nI P from by rw [iv_2 _ z0 z1]; exact hpl)) dX0_retainOld_54 ?_
        refine lv_iload_n hx hb dX0_retainOld_57 rfl (lv_at hl 2 rfl) ?_
        refine ksub hx hb dX0_retainOld_58 (by with_reducible rfl) (by with_reducible rfl) (by have q := rf_le w i; omega) ?_
        refine kist hx hb dX0_retainOld_59 rfl hl (by decide) (kp_4_3 rfl) (fun ls hl => ?_)
        refine lv_aload_n hx hb dX0_retainOld_60 rfl (lv_at hl 0 rfl) ?_
        refine lv_iload_n hx hb dX0_retainOld_61 rfl (lv_at hl 2 rfl) ?_
        refine kput X hI hP hS (oC (by first | assumption | omega) (by first | assumption | omega)) g_X0_18 (fun _ => rfl) rfl (fun _ => Nat.le_of_ble_eq_true rfl) rfl rfl dX0_retainOld_62 (fun H locs hP hS => ?_)
        refine lv_iload_n hx hb dX0_retainOld_65 rfl (lv_at hl 3 rfl) ?_
        exact hret _ _ _ _ _ _ (by
            have ei : i = P := (by omega)
            rw [ei] at iv_1 iv_5
            refine ⟨by rw [iv_1], fun k h1 h2 h3 => ?_, ?_, ?_, ?_, fun p h1 h2 h3 => ?_⟩
            · rw [gs_other h1]; exact iv_2 k h2 h3
            · simp [gs, iv_1]
            · rw [gs_other z0.symm]; exact iv_4.1
            · rw [gs_other z1.symm]; exact iv_4.2
            · rw [gs_other z0.symm, gs_other z1.symm]; exact iv_5 p h1 h2 h3) hP hS dX0_retainOld_66
      · skip
        have hxi : cn (rf w) i ≤ i - 1 := rf_le w i
        refine lv_iload_n hx hb dX0_retainOld_12 rfl (lv_at hl 1 rfl) ?_
        refine lv_iload_n hx hb dX0_retainOld_13 rfl (lv_at hl 3 rfl) ?_
        refine lv_ishr hx hb dX0_retainOld_14 ?_
        refine lv_iconst (v := nI 1) hx hb dX0_retainOld_15 (by decide) ?_
        refine lv_iand hx hb dX0_retainOld_16 ?_
        first
          | refine kif_eq (tgt := 47) hx hb dX0_retainOld_17 (by decide) (fun c_17 => ?_) (fun c_17 => ?_)
          | refine lv_if_eq (tgt := 47) hx hb dX0_retainOld_17 (by decide) (fun c_17 => ?_) (fun c_17 => ?_)
        · skip
          first
            | refine kinc (q := 3) hx hb dX0_retainOld_47 hl rfl (by decide) (kp_4_3 rfl) (fun ls hl => ?_)
            | refine kincG (q := 3) hx hb dX0_retainOld_47 hl rfl (by decide) (kp_4_3 rfl) (fun ls hl => ?_)
          refine lv_goto (tgt := 4) hx hb dX0_retainOld_50 (by decide) ?_
          exact ih _ _ _ _ _ _ (by omega) (by omega) (rf_z iv_1 (fun z => z c_17)) (iv_2) (iv_3) (iv_4) (rf_keep iv_5 (fun z => absurd c_17 z)) hP hS (lv_sub hl [0,1,2,3] rfl)
        · skip
          refine lv_aload_n hx hb dX0_retainOld_20 rfl (lv_at hl 0 rfl) ?_
          refine kget X hP (oC (by first | assumption | omega) (by first | assumption | omega)) g_X0_9 rfl dX0_retainOld_21 ?_
          refine lv_iload_n hx hb dX0_retainOld_24 rfl (lv_at hl 2 rfl) ?_
          refine lv_aload_n hx hb dX0_retainOld_25 rfl (lv_at hl 0 rfl) ?_
          refine kget X hP (oC (by first | assumption | omega) (by first | assumption | omega)) g_X0_9 rfl dX0_retainOld_26 ?_
          refine lv_iload_n hx hb dX0_retainOld_29 rfl (lv_at hl 3 rfl) ?_
          refine kiald X hP (aV hj hc) (by omega) dX0_retainOld_30 ?_
          refine kiast X hI hP hS (aV hj hc) (by omega) dX0_retainOld_31 (fun H locs hP hS => ?_)
          refine lv_aload_n hx hb dX0_retainOld_32 rfl (lv_at hl 0 rfl) ?_
          refine kget X hP (oC (by first | assumption | omega) (by first | assumption | omega)) g_X0_15 rfl dX0_retainOld_33 ?_
          refine lv_iload_n hx hb dX0_retainOld_36 rfl (lv_at hl 2 rfl) ?_
          refine lv_aload_n hx hb dX0_retainOld_37 rfl (lv_at hl 0 rfl) ?_
          refine kget X hP (oC (by first | assumption | omega) (by first | assumption | omega)) g_X0_15 rfl dX0_retainOld_38 ?_
          refine lv_iload_n hx hb dX0_retainOld_41 rfl (lv_at hl 3 rfl) ?_
          refine kiald X hP (aM hj hc) (by omega) dX0_retainOld_42 ?_
          refine kiast X hI hP hS (aM hj hc) (by omega) dX0_retainOld_43 (fun H locs hP hS => ?_)
          first
            | refine kinc (q := 2) hx hb dX0_retainOld_44 hl rfl (by decide) (kp_4_2 rfl) (fun ls hl => ?_)
            | refine kincG (q := 2) hx hb dX0_retainOld_44 hl rfl (by decide) (kp_4_2 rfl) (fun ls hl => ?_)
          first
            | refine kinc (q := 3) hx hb dX0_retainOld_47 hl rfl (by decide) (kp_4_3 rfl) (fun ls hl => ?_)
            | refine kincG (q := 3) hx hb dX0_retainOld_47 hl rfl (by decide) (kp_4_3 rfl) (fun ls hl => ?_)
          refine lv_goto (tgt := 4) hx hb dX0_retainOld_50 (by decide) ?_
          exact ih _ _ _ _ _ _ (by omega) (by omega) (rf_p iv_1 iv_0.1 c_17) (fun k h1 h2 => by rw [gs_other h2, gs_other h1]; exact iv_2 k h1 h2) (fun p hp => by have q := iv_3 p (by omega); have e : p ≠ x := (by omega); exact ⟨by simpa [gs, z2, e] using q.1, by simpa [gs, e] using q.2⟩) (by have e : (0 : Nat) ≠ x := (by omega); exact ⟨by simpa [gs, z2, e] using iv_4.1, by simpa [gs, e] using iv_4.2⟩) (rf_step iv_1 iv_3 iv_5 (by omega) (by omega) z2) hP hS (lv_sub hl [0,1,2,3] rfl)
  exact lp_4 _ 1 1 G _ _ _ (Nat.lt_succ_self _) (⟨Nat.le_refl _, hp1⟩) (rfl) (fun _ _ _ => rfl) (fun _ _ => ⟨rfl, rfl⟩) (⟨rfl, rfl⟩) (fun p h1 h2 => absurd h1 (by omega)) hP hS (lv_sub hl [0,1,2,3] rfl)
end
section
theorem dueF_congr {G G' : Nat → Nat → Int32} {j n r : Nat} {P : Nat → Nat} (h : ∀ k, k ≠ sD j → G' k = G k) (hr : r < 40) : dueF G' j n P r = dueF G j n P r := by
  have e1 : ∀ i, G' (rN j i) = G (rN j i) := fun i => h _ (by unfold rN sD; omega)
  have e2 : ∀ c, G' (cM j c) = G (cM j c) := fun c => h _ (by unfold cM sD; omega)
  have e3 : G' (sB j) = G (sB j) := h _ (by unfold sB sD; omega)
  unfold dueF shF pyF
  simp only [e1, e2, e3]
set_option maxHeartbeats 4000000 in
set_option maxRecDepth 100000 in
theorem c_X3_copyFrom (l : Launch) {D : va_G} {τ : Nat → ClassId} {ad : Nat → Nat} (hI : kInj ad) {G : Nat → Nat → Int32} {j r j2 r2 : Nat} (hj : j < 7) (hr : r < 40) (hj2 : j2 < 7) (hr2 : r2 < 40) (hz : G (rN j2 r2) 8 = 0 ∨ G (rN j2 r2) 8 = 1) : kMv l yX3_copyFrom cX3_copyFrom 2 { frames := 1, cells := 0, slots := 0, locals := 40 } D τ ad [.ref (ad (rN j r)), .ref (ad (rN j2 r2))] G (fun G' => (∀ k, k ≠ rN j r → k ≠ rW j r → G' k = G k) ∧ (∀ p, p < 12 → G' (rW j r) p = G (rW j2 r2) p) ∧ ∀ f, 1 ≤ f → f ≤ 8 → G' (rN j r) f = G (rN j2 r2) f) := by
  refine kMetV (own := RX3) (by decide) rfl (Nat.le_of_ble_eq_true rfl) ?_
  intro p9 e9 s9 m9 args9 below9 meth9 c9 Q9 X hx hb hP hS hret ls hl
  have hPs := hP
  have hl : lv_has ls 2 [(0, .ref (ad (rN j r))), (1, .ref (ad (rN j2 r2)))] := hl
  have z0 : rN j2 r2 ≠ rW j r := by unfold rN rW; omega
  have z1 : rW j r ≠ rN j r := by unfold rW rN; omega
  refine lv_aload_n hx hb dX3_copyFrom_0 rfl (lv_at hl 1 rfl) ?_
  refine kget X hP (oR (by first | assumption | omega) (by first | assumption | omega)) g_X3_9 rfl dX3_copyFrom_1 ?_
  refine lv_iconst (v := nI 0) hx hb dX3_copyFrom_4 (by decide) ?_
  refine lv_aload_n hx hb dX3_copyFrom_5 rfl (lv_at hl 0 rfl) ?_
  refine kget X hP (oR (by first | assumption | omega) (by first | assumption | omega)) g_X3_9 rfl dX3_copyFrom_6 ?_
  refine lv_iconst (v := nI 0) hx hb dX3_copyFrom_9 (by decide) ?_
  refine lv_bipush (v := nI 12) hx hb dX3_copyFrom_10 (by decide) ?_
  refine kcopy X hI hP hS (aW hj2 hr2) (aW hj hr) ⟨kWs_of 280 (by decide +kernel) rfl, kWs_of 275 (by decide +kernel) rfl, kWs_of 274 (by decide +kernel) rfl, kWs_of 9 (by decide +kernel) rfl⟩ (by omega) (by omega) ⟨Nat.le_of_ble_eq_true rfl, Nat.le_of_ble_eq_true rfl⟩ (Nat.le_of_ble_eq_true rfl) hl.1 dX3_copyFrom_12 (fun H locs hP hS => ?_)
  refine lv_aload_n hx hb dX3_copyFrom_15 rfl (lv_at hl 0 rfl) ?_
  refine lv_aload_n hx hb dX3_copyFrom_16 rfl (lv_at hl 1 rfl) ?_
  refine kget X hP (oR (by first | assumption | omega) (by first | assumption | omega)) g_X3_15 rfl dX3_copyFrom_17 ?_
  refine kput X hI hP hS (oR (by first | assumption | omega) (by first | assumption | omega)) g_X3_15 (fun _ => rfl) rfl (fun _ => Nat.le_of_ble_eq_true rfl) rfl rfl dX3_copyFrom_20 (fun H locs hP hS => ?_)
  refine lv_aload_n hx hb dX3_copyFrom_23 rfl (lv_at hl 0 rfl) ?_
  refine lv_aload_n hx hb dX3_copyFrom_24 rfl (lv_at hl 1 rfl) ?_
  refine kget X hP (oR (by first | assumption | omega) (by first | assumption | omega)) g_X3_19 rfl dX3_copyFrom_25 ?_
  refine kput X hI hP hS (oR (by first | assumption | omega) (by first | assumption | omega)) g_X3_19 (fun _ => rfl) rfl (fun _ => Nat.le_of_ble_eq_true rfl) rfl rfl dX3_copyFrom_28 (fun H locs hP hS => ?_)
  refine lv_aload_n hx hb dX3_copyFrom_31 rfl (lv_at hl 0 rfl) ?_
  refine lv_aload_n hx hb dX3_copyFrom_32 rfl (lv_at hl 1 rfl) ?_
  refine kget X hP (oR (by first | assumption | omega) (by first | assumption | omega)) g_X3_22 rfl dX3_copyFrom_33 ?_
  refine kput X hI hP hS (oR (by first | assumption | omega) (by first | assumption | omega)) g_X3_22 (fun _ => rfl) rfl (fun _ => Nat.le_of_ble_eq_true rfl) rfl rfl dX3_copyFrom_36 (fun H locs hP hS => ?_)
  refine lv_aload_n hx hb dX3_copyFrom_39 rfl (lv_at hl 0 rfl) ?_
  refine lv_aload_n hx hb dX3_copyFrom_40 rfl (lv_at hl 1 rfl) ?_
  refine kget X hP (oR (by first | assumption | omega) (by first | assumption | omega)) g_X3_25 rfl dX3_copyFrom_41 ?_
  refine kput X hI hP hS (oR (by first | assumption | omega) (by first | assumption | omega)) g_X3_25 (fun _ => rfl) rfl (fun _ => Nat.le_of_ble_eq_true rfl) rfl rfl dX3_copyFrom_44 (fun H locs hP hS => ?_)
  refine lv_aload_n hx hb dX3_copyFrom_47 rfl (lv_at hl 0 rfl) ?_
  refine lv_aload_n hx hb dX3_copyFrom_48 rfl (lv_at hl 1 rfl) ?_
  refine kget X hP (oR (by first | assumption | omega) (by first | assumption | omega)) g_X3_28 rfl dX3_copyFrom_49 ?_
  refine kput X hI hP hS (oR (by first | assumption | omega) (by first | assumption | omega)) g_X3_28 (fun _ => rfl) rfl (fun _ => Nat.le_of_ble_eq_true rfl) rfl rfl dX3_copyFrom_52 (fun H locs hP hS => ?_)
  refine lv_aload_n hx hb dX3_copyFrom_55 rfl (lv_at hl 0 rfl) ?_
  refine lv_aload_n hx hb dX3_copyFrom_56 rfl (lv_at hl 1 rfl) ?_
  refine kget X hP (oR (by first | assumption | omega) (by first | assumption | omega)) g_X3_31 rfl dX3_copyFrom_57 ?_
  refine kput X hI hP hS (oR (by first | assumption | omega) (by first | assumption | omega)) g_X3_31 (fun _ => rfl) rfl (fun _ => Nat.le_of_ble_eq_true rfl) rfl rfl dX3_copyFrom_60 (fun H locs hP hS => ?_)
  refine lv_aload_n hx hb dX3_copyFrom_63 rfl (lv_at hl 0 rfl) ?_
  refine lv_aload_n hx hb dX3_copyFrom_64 rfl (lv_at hl 1 rfl) ?_
  refine kget X hP (oR (by first | assumption | omega) (by first | assumption | omega)) g_X3_34 rfl dX3_copyFrom_65 ?_
  refine kput X hI hP hS (oR (by first | assumption | omega) (by first | assumption | omega)) g_X3_34 (fun _ => rfl) rfl (fun _ => Nat.le_of_ble_eq_true rfl) rfl rfl dX3_copyFrom_68 (fun H locs hP hS => ?_)
  refine lv_aload_n hx hb dX3_copyFrom_71 rfl (lv_at hl 0 rfl) ?_
  refine lv_aload_n hx hb dX3_copyFrom_72 rfl (lv_at hl 1 rfl) ?_
  refine kget X hP (oR (by first | assumption | omega) (by first | assumption | omega)) g_X3_37 rfl dX3_copyFrom_73 ?_
  have hz2 : ∀ q : Int32, q = G (rN j2 r2) 8 → narrow (tyX3 8) (.int q) = .int q ∧ fits (tyX3 8) (.int q) = true := fun q hq => by rcases hz with h | h <;> rw [hq, h] <;> exact ⟨rfl, rfl⟩
  refine kput X hI hP hS (oR (by first | assumption | omega) (by first | assumption | omega)) g_X3_37 (fun _ => rfl) rfl (fun _ => Nat.le_of_ble_eq_true rfl) (hz2 _ (by simp [gs, gc, z0])).1 (hz2 _ (by simp [gs, gc, z0])).2 dX3_copyFrom_76 (fun H locs hP hS => ?_)
  exact hret _ _ _ _ _ (by
      refine ⟨fun k h1 h2 => ?_, fun p hp => ?_, fun f h1 h2 => ?_⟩
      · funext f; simp [gs, gc, h1, h2]
      · simp [gs, gc, cpy, z1, hp]
      · rcases (show f = 1 ∨ f = 2 ∨ f = 3 ∨ f = 4 ∨ f = 5 ∨ f = 6 ∨ f = 7 ∨ f = 8 by omega) with h | h | h | h | h | h | h | h <;> subst h <;> simp [gs, gc, z0]) hP hS dX3_copyFrom_79

set_option maxHeartbeats 4000000 in
set_option maxRecDepth 100000 in
theorem c_X1_copyFrom (l : Launch) {D : va_G} {τ : Nat → ClassId} {ad : Nat → Nat} (hI : kInj ad) {G : Nat → Nat → Int32} {j q j2 q2 : Nat} (hj : j < 7) (hq : q < 40) (hj2 : j2 < 7) (hq2 : q2 < 40) : kMv l yX1_copyFrom cX1_copyFrom 2 { frames := 0, cells := 0, slots := 0, locals := 0 } D τ ad [.ref (ad (mC j q)), .ref (ad (mC j2 q2))] G (fun G' => (∀ k, k ≠ mC j q → G' k = G k) ∧ ∀ f, f < 6 → G' (mC j q) f = G (mC j2 q2) f) := by
  refine kMetV (own := RX1) (by decide) rfl (Nat.le_of_ble_eq_true rfl) ?_
  intro p9 e9 s9 m9 args9 below9 meth9 c9 Q9 X hx hb hP hS hret ls hl
  have hPs := hP
  have hl : lv_has ls 2 [(0, .ref (ad (mC j q))), (1, .ref (ad (mC j2 q2)))] := hl
  refine lv_aload_n hx hb dX1_copyFrom_0 rfl (lv_at hl 0 rfl) ?_
  refine lv_aload_n hx hb dX1_copyFrom_1 rfl (lv_at hl 1 rfl) ?_
  refine kget X hP (oM (by first | assumption | omega) (by first | assumption | omega)) g_X1_7 rfl dX1_copyFrom_2 ?_
  refine kput X hI hP hS (oM (by first | assumption | omega) (by first | assumption | omega)) g_X1_7 (fun _ => rfl) rfl (fun _ => Nat.le_of_ble_eq_true rfl) rfl rfl dX1_copyFrom_5 (fun H locs hP hS => ?_)
  refine lv_aload_n hx hb dX1_copyFrom_8 rfl (lv_at hl 0 rfl) ?_
  refine lv_aload_n hx hb dX1_copyFrom_9 rfl (lv_at hl 1 rfl) ?_
  refine kget X hP (oM (by first | assumption | omega) (by first | assumption | omega)) g_X1_13 rfl dX1_copyFrom_10 ?_
  refine kput X hI hP hS (oM (by first | assumption | omega) (by first | assumption | omega)) g_X1_13 (fun _ => rfl) rfl (fun _ => Nat.le_of_ble_eq_true rfl) rfl rfl dX1_copyFrom_13 (fun H locs hP hS => ?_)
  refine lv_aload_n hx hb dX1_copyFrom_16 rfl (lv_at hl 0 rfl) ?_
  refine lv_aload_n hx hb dX1_copyFrom_17 rfl (lv_at hl 1 rfl) ?_
  refine kget X hP (oM (by first | assumption | omega) (by first | assumption | omega)) g_X1_16 rfl dX1_copyFrom_18 ?_
  refine kput X hI hP hS (oM (by first | assumption | omega) (by first | assumption | omega)) g_X1_16 (fun _ => rfl) rfl (fun _ => Nat.le_of_ble_eq_true rfl) rfl rfl dX1_copyFrom_21 (fun H locs hP hS => ?_)
  refine lv_aload_n hx hb dX1_copyFrom_24 rfl (lv_at hl 0 rfl) ?_
  refine lv_aload_n hx hb dX1_copyFrom_25 rfl (lv_at hl 1 rfl) ?_
  refine kget X hP (oM (by first | assumption | omega) (by first | assumption | omega)) g_X1_19 rfl dX1_copyFrom_26 ?_
  refine kput X hI hP hS (oM (by first | assumption | omega) (by first | assumption | omega)) g_X1_19 (fun _ => rfl) rfl (fun _ => Nat.le_of_ble_eq_true rfl) rfl rfl dX1_copyFrom_29 (fun H locs hP hS => ?_)
  refine lv_aload_n hx hb dX1_copyFrom_32 rfl (lv_at hl 0 rfl) ?_
  refine lv_aload_n hx hb dX1_copyFrom_33 rfl (lv_at hl 1 rfl) ?_
  refine kget X hP (oM (by first | assumption | omega) (by first | assumption | omega)) g_X1_22 rfl dX1_copyFrom_34 ?_
  refine kput X hI hP hS (oM (by first | assumption | omega) (by first | assumption | omega)) g_X1_22 (fun _ => rfl) rfl (fun _ => Nat.le_of_ble_eq_true rfl) rfl rfl dX1_copyFrom_37 (fun H locs hP hS => ?_)
  refine lv_aload_n hx hb dX1_copyFrom_40 rfl (lv_at hl 0 rfl) ?_
  refine lv_aload_n hx hb dX1_copyFrom_41 rfl (lv_at hl 1 rfl) ?_
  refine kget X hP (oM (by first | assumption | omega) (by first | assumption | omega)) g_X1_25 rfl dX1_copyFrom_42 ?_
  refine kput X hI hP hS (oM (by first | assumption | omega) (by first | assumption | omega)) g_X1_25 (fun _ => rfl) rfl (fun _ => Nat.le_of_ble_eq_true rfl) rfl rfl dX1_copyFrom_45 (fun H locs hP hS => ?_)
  exact hret _ _ _ _ _ (by
      refine ⟨fun k h1 => ?_, fun f h2 => ?_⟩
      · funext f; simp [gs, h1]
      · rcases (show f = 0 ∨ f = 1 ∨ f = 2 ∨ f = 3 ∨ f = 4 ∨ f = 5 by omega) with h | h | h | h | h | h <;> subst h <;> simp [gs]) hP hS dX1_copyFrom_48

set_option maxHeartbeats 4000000 in
set_option maxRecDepth 100000 in
theorem c_X4_addReader (l : Launch) {D : va_G} {τ : Nat → ClassId} {ad : Nat → Nat} (hI : kInj ad) {G : Nat → Nat → Int32} {j n : Nat} {x : Int32} (hj : j < 7) (hn : G (sB j) 6 = nI n) (hn4 : n < 40) : kM l yX4_addReader cX4_addReader 3 (some .int) { frames := 1, cells := 0, slots := 0, locals := 22 } D τ ad [.ref (ad (sB j)), .int x] G (fun v G' => v = nI n ∧ G' = gs (gs (gs (gs (gs (gs (gs (gs (gs G (rN j n) 1 0) (rN j n) 2 (G (sB j) 3)) (rN j n) 3 x) (rN j n) 4 0) (rN j n) 5 0) (rN j n) 6 0) (rN j n) 7 0) (rN j n) 8 0) (sB j) 6 (nI (n + 1))) := by
  refine kMet (own := RX4) (by decide) rfl (Nat.le_of_ble_eq_true rfl) ?_
  intro p9 e9 s9 m9 args9 below9 meth9 c9 Q9 X hx hb hP hS hret ls hl
  have hPs := hP
  have hl : lv_has ls 3 [(0, .ref (ad (sB j))), (1, .int x)] := hl
  have z0 : sB j ≠ rN j n := by unfold sB rN; omega
  refine lv_aload_n hx hb dX4_addReader_0 rfl (lv_at hl 0 rfl) ?_
  refine kget X hP (oS (by first | assumption | omega)) g_X4_44 (congrArg (fun z => some (Value.int z)) hn) dX4_addReader_1 ?_
  refine kist hx hb dX4_addReader_4 rfl hl (by decide) (kp_2_2 rfl) (fun ls hl => ?_)
  refine lv_aload_n hx hb dX4_addReader_5 rfl (lv_at hl 0 rfl) ?_
  refine kget X hP (oS (by first | assumption | omega)) g_X4_19 rfl dX4_addReader_6 ?_
  refine lv_iload_n hx hb dX4_addReader_9 rfl (lv_at hl 2 rfl) ?_
  refine kaald X hP (qR (by first | assumption | omega)) (by first | assumption | omega) rfl dX4_addReader_10 ?_
  refine lv_aload_n hx hb dX4_addReader_11 rfl (lv_at hl 0 rfl) ?_
  refine kget X hP (oS (by first | assumption | omega)) g_X4_56 rfl dX4_addReader_12 ?_
  refine lv_iload_n hx hb dX4_addReader_15 rfl (lv_at hl 1 rfl) ?_
  refine kcVv X hP hS (c_X3_begin l hI hj (by omega)) (oR (by first | assumption | omega) (by first | assumption | omega)) v_X4_69 ⟨Nat.le_of_ble_eq_true rfl, Nat.le_of_ble_eq_true rfl, rfl, rfl⟩ rfl rfl (Nat.le_of_ble_eq_true rfl) hl.1 ⟨Nat.zero_le _, Nat.zero_le _⟩ dX4_addReader_16 (fun G_16 H locs hR hP hS => ?_)
  subst hR
  refine lv_aload_n hx hb dX4_addReader_19 rfl (lv_at hl 0 rfl) ?_
  refine lv_dup hx hb dX4_addReader_20 rfl ?_
  have hn2 : (gs (gs (gs (gs (gs (gs (gs (gs G (rN j n) 1 0) (rN j n) 2 (G (sB j) 3)) (rN j n) 3 x) (rN j n) 4 0) (rN j n) 5 0) (rN j n) 6 0) (rN j n) 7 0) (rN j n) 8 0) (sB j) 6 = nI n := by simp [gs, z0, hn]
  refine kget X hP (oS (by first | assumption | omega)) g_X4_44 (congrArg (fun z => some (Value.int z)) hn2) dX4_addReader_21 ?_
  refine lv_iconst (v := nI 1) hx hb dX4_addReader_24 (by decide) ?_
  first
    | refine kadd hx hb dX4_addReader_25 (by with_reducible rfl) (by with_reducible rfl) ?_
    | refine lv_iadd hx hb dX4_addReader_25 ?_
  refine kput X hI hP hS (oS (by first | assumption | omega)) g_X4_44 (fun _ => rfl) rfl (fun _ => Nat.le_of_ble_eq_true rfl) rfl rfl dX4_addReader_26 (fun H locs hP hS => ?_)
  refine lv_iload_n hx hb dX4_addReader_29 rfl (lv_at hl 2 rfl) ?_
  exact hret _ _ _ _ _ _ (⟨rfl, rfl⟩) hP hS dX4_addReader_30

set_option maxHeartbeats 4000000 in
set_option maxRecDepth 100000 in
theorem c_X4_tellDues (l : Launch) {D : va_G} {τ : Nat → ClassId} {ad : Nat → Nat} (hI : kInj ad) {G : Nat → Nat → Int32} {j n : Nat} {P : Nat → Nat} (hj : j < 7) (hn : G (sB j) 6 = nI n) (hn4 : n ≤ 40) (hp : ∀ c, c < 12 → G (cB j c) 2 = nI (P c) ∧ P c ≤ 10) : kMv l yX4_tellDues cX4_tellDues 2 { frames := 4, cells := 0, slots := 0, locals := 93 } D τ ad [.ref (ad (sB j))] G (fun G' => (∀ k, k ≠ sD j → G' k = G k) ∧ ∀ t, t < n → G' (sD j) t = dueF G j n P t) := by
  refine kMetV (own := RX4) (by decide) rfl (Nat.le_of_ble_eq_true rfl) ?_
  intro p9 e9 s9 m9 args9 below9 meth9 c9 Q9 X hx hb hP hS hret ls hl
  have hPs := hP
  have hl : lv_has ls 2 [(0, .ref (ad (sB j)))] := hl
  have zS : sB j ≠ sD j := by unfold sB sD; omega
  refine lv_iconst (v := nI 0) hx hb dX4_tellDues_0 (by decide) ?_
  refine kist hx hb dX4_tellDues_1 rfl hl (by decide) (kp_1_1 rfl) (fun ls hl => ?_)
  have lp_2 : ∀ (d : Nat) (i : Nat) (G1 : Nat → Nat → Int32) (H : Heap) (locs : List Loc) (ls : Array Slot), (n - i) < d → (i ≤ n) → (∀ k, k ≠ sD j → G1 k = G k) → (∀ t, t < i → G1 (sD j) t = dueF G j n P t) → va_P D vwCl (kW τ ad G1) H → va_S (kAd ad) s9.heap H locs → lv_has ls 2 [(0, .ref (ad (sB j))), (1, .int (nI i))] → W p9 l e9 { frames := 4, cells := 0, slots := 0, locals := 93 } s9 m9 args9 below9 meth9 c9 H locs 0 0 Q9 (F0 m9 2 ls []) := by
    intro d
    induction d with
    | zero => exact fun _ _ _ _ _ hd => absurd hd (Nat.not_lt_zero _)
    | succ d ih =>
      intro i G1 H locs ls hd iv_0 iv_1 iv_2 hP hS hl
      refine lv_iload_n hx hb dX4_tellDues_2 rfl (lv_at hl 1 rfl) ?_
      refine lv_aload_n hx hb dX4_tellDues_3 rfl (lv_at hl 0 rfl) ?_
      refine kget X hP (oS (by first | assumption | omega)) g_X4_44 (congrArg (fun z => some (Value.int z)) (show G1 (sB j) 6 = nI n from by rw [iv_1 _ zS]; exact hn)) dX4_tellDues_4 ?_
      first
        | refine kic_ge (tgt := 32) hx hb dX4_tellDues_7 (by decide) (by with_reducible rfl) (by with_reducible rfl) (by omega) (by omega) (fun c_7 => ?_) (fun c_7 => ?_)
        | refine lv_icmp_ge (tgt := 32) hx hb dX4_tellDues_7 (by decide) (fun c_7 => ?_) (fun c_7 => ?_)
      · skip
        exact hret _ _ _ _ _ (⟨iv_1, fun t ht => iv_2 t (by omega)⟩) hP hS dX4_tellDues_32
      · skip
        refine lv_aload_n hx hb dX4_tellDues_10 rfl (lv_at hl 0 rfl) ?_
        refine kget X hP (oS (by first | assumption | omega)) g_X4_33 rfl dX4_tellDues_11 ?_
        refine lv_iload_n hx hb dX4_tellDues_14 rfl (lv_at hl 1 rfl) ?_
        refine lv_aload_n hx hb dX4_tellDues_15 rfl (lv_at hl 0 rfl) ?_
        refine lv_aload_n hx hb dX4_tellDues_16 rfl (lv_at hl 0 rfl) ?_
        refine kget X hP (oS (by first | assumption | omega)) g_X4_19 rfl dX4_tellDues_17 ?_
        refine lv_iload_n hx hb dX4_tellDues_20 rfl (lv_at hl 1 rfl) ?_
        refine kaald X hP (qR (by first | assumption | omega)) (by first | assumption | omega) rfl dX4_tellDues_21 ?_
        refine kcV X hP hS (c_X4_dueOf l hI (P := P) hj (by rw [iv_1 _ zS]; exact hn) hn4 (by omega) (fun c hc => by rw [iv_1 _ (by unfold cB sD; omega)]; exact hp c hc)) (oS (by first | assumption | omega)) v_X4_117 ⟨Nat.le_of_ble_eq_true rfl, Nat.le_of_ble_eq_true rfl, rfl, rfl⟩ rfl rfl (Nat.le_of_ble_eq_true rfl) hl.1 ⟨Nat.zero_le _, Nat.zero_le _⟩ dX4_tellDues_22 (fun r_22 G_22 H locs hR hP hS => ?_)
        obtain ⟨rfl, hG_22⟩ := hR
        rw [hG_22] at hP
        clear hG_22
        rw [dueF_congr (G' := G1) (G := G) (fun k h => iv_1 k h) (by omega)]
        refine kiast X hI hP hS (aD (by first | assumption | omega)) (by first | assumption | omega) dX4_tellDues_25 (fun H locs hP hS => ?_)
        first
          | refine kinc (q := 1) hx hb dX4_tellDues_26 hl rfl (by decide) (kp_2_1 rfl) (fun ls hl => ?_)
          | refine kincG (q := 1) hx hb dX4_tellDues_26 hl rfl (by decide) (kp_2_1 rfl) (fun ls hl => ?_)
        refine lv_goto (tgt := 2) hx hb dX4_tellDues_29 (by decide) ?_
        exact ih _ _ _ _ _ (by omega) (by omega) (fun k h => by rw [gs_other h]; exact iv_1 k h) (fun t ht => by
                by_cases e : t = i
                · subst e; simp [gs]
                · simp [gs, e]; exact iv_2 t (by omega)) hP hS (lv_sub hl [0,1] rfl)
  exact lp_2 _ 0 G _ _ _ (Nat.lt_succ_self _) (Nat.zero_le _) (fun _ _ => rfl) (fun t h => absurd h (by omega)) hP hS (lv_sub hl [0,1] rfl)
end
section

def fl (f : Nat → Nat) (i : Nat) : Int32 := if cn f i ≠ 0 then 1 else 0
theorem fl_z {f : Nat → Nat} {i : Nat} {x : Int32} (h : x = fl f i) (hz : f i = 0) : x = fl f (i + 1) := by rw [h, fl, fl, cn, hz]; rfl
theorem fl_p {f : Nat → Nat} {i : Nat} (hz : f i = 1) : nI 1 = fl f (i + 1) := by rw [fl, cn, hz, if_pos (by omega)]; rfl
theorem fl_k {f : Nat → Nat} {i : Nat} {x : Int32} (h : x = fl f i) (hz : ¬ x = 0) : nI 1 = fl f (i + 1) := by
  rw [fl, cn, if_pos]
  · rfl
  · intro q
    exact hz (by rw [h, fl, if_neg (fun z => z (by omega))])
theorem fl_o {f : Nat → Nat} {i : Nat} {x : Int32} (h : x = fl f i) (hx : x = 0) (hz : f i = 0) : nI 0 = fl f (i + 1) := by rw [← fl_z h hz, hx]; rfl
theorem fl_01 (f : Nat → Nat) (i : Nat) : fl f i = 0 ∨ fl f i = 1 := by
  unfold fl
  split
  · exact Or.inr rfl
  · exact Or.inl rfl
/-- a reader's row, behind its payment -/
def tdR (row : Nat → Int32) (d : Int32) : Nat → Int32 := if row 1 = 0 ∧ row 6 = 0 then (if d ≤ row 3 then upd (upd row 3 (row 3 - d)) 7 (row 7 + d) else upd row 1 3) else row
def evR (row : Nat → Int32) (d : Int32) : Prop := (row 1 = 0 ∧ row 6 = 0) ∧ ¬ d ≤ row 3
def evN (G : Nat → Nat → Int32) (j : Nat) : Nat → Nat := fun r => if (G (rN j r) 1 = 0 ∧ G (rN j r) 6 = 0) ∧ ¬ G (sD j) r ≤ G (rN j r) 3 then 1 else 0
def stR (row : Nat → Int32) : Nat → Int32 := if row 1 = 0 ∧ 0 < row 6 then upd row 6 (row 6 - nI 1) else row
def teN (G : Nat → Nat → Int32) (j : Nat) : Nat → Nat := fun r => if (G (rN j r) 1 = 0 ∧ 0 < G (rN j r) 6) ∧ G (rN j r) 6 - nI 1 = 0 then 1 else 0
theorem rN_ne {j r i : Nat} (h : r ≠ i) : rN j r ≠ rN j i := by unfold rN; omega
theorem rows_s {G1 G2 : Nat → Nat → Int32} {j i : Nat} {F : Nat → Nat → Int32} (h : ∀ r, r < i → G1 (rN j r) = F r) (h2 : ∀ k, k ≠ rN j i → G2 k = G1 k) (hi : G2 (rN j i) = F i) : ∀ r, r < i + 1 → G2 (rN j r) = F r := fun r hr => by
  rcases Nat.lt_or_ge r i with q | q
  · rw [h2 _ (rN_ne (by omega))]; exact h r q
  · rw [show r = i by omega]; exact hi
theorem rows_f {G G1 G2 : Nat → Nat → Int32} {j i : Nat} (h : ∀ k, (∀ r, r < i → k ≠ rN j r) → G1 k = G k) (h2 : ∀ k, k ≠ rN j i → G2 k = G1 k) : ∀ k, (∀ r, r < i + 1 → k ≠ rN j r) → G2 k = G k := fun k hk => by
  rw [h2 k (hk i (by omega))]; exact h k (fun r hr => hk r (by omega))
theorem gs2_o {G : Nat → Nat → Int32} {k f g : Nat} {x y : Int32} : ∀ q, q ≠ k → gs (gs G k f x) k g y q = G q := fun q h => by rw [gs_other h, gs_other h]
theorem gs1_o {G : Nat → Nat → Int32} {k f : Nat} {x : Int32} : ∀ q, q ≠ k → gs G k f x q = G q := fun q h => gs_other h
theorem td_pay {G1 : Nat → Nat → Int32} {K S i : Nat} (h : S ≠ K) (h1 : G1 K 1 = 0 ∧ G1 K 6 = 0) (h2 : G1 S i ≤ G1 K 3) : gs (gs G1 K 3 (G1 K 3 - G1 S i)) K 7 (gs G1 K 3 (G1 K 3 - G1 S i) K 7 + gs G1 K 3 (G1 K 3 - G1 S i) S i) K = tdR (G1 K) (G1 S i) := by
  rw [gs_up, gs_up, gs_other h, tdR, if_pos h1, if_pos h2]
  simp [upd]
theorem td_ev {G1 : Nat → Nat → Int32} {K : Nat} {d : Int32} (h1 : G1 K 1 = 0 ∧ G1 K 6 = 0) (h2 : ¬ d ≤ G1 K 3) : gs G1 K 1 (nI 3) K = tdR (G1 K) d := by
  rw [gs_up, tdR, if_pos h1, if_neg h2]
  rfl
set_option maxHeartbeats 4000000 in
set_option maxRecDepth 100000 in
theorem c_X4_takeDues (l : Launch) {D : va_G} {τ : Nat → ClassId} {ad : Nat → Nat} (hI : kInj ad) {G : Nat → Nat → Int32} {j n : Nat} (hj : j < 7) (hn : G (sB j) 6 = nI n) (hn4 : n ≤ 40) : kM l yX4_takeDues cX4_takeDues 4 (some .boolean) { frames := 1, cells := 0, slots := 0, locals := 20 } D τ ad [.ref (ad (sB j))] G (fun v G' => v = fl (evN G j) n ∧ (∀ k, (∀ r, r < n → k ≠ rN j r) → G' k = G k) ∧ ∀ r, r < n → G' (rN j r) = tdR (G (rN j r)) (G (sD j) r)) := by
  refine kMetZ (own := RX4) (by decide) rfl (Nat.le_of_ble_eq_true rfl) ?_
  intro p9 e9 s9 m9 args9 below9 meth9 c9 Q9 X hx hb hP hS hret ls hl
  have hPs := hP
  have hl : lv_has ls 4 [(0, .ref (ad (sB j)))] := hl
  refine lv_iconst (v := nI 0) hx hb dX4_takeDues_0 (by decide) ?_
  refine kist hx hb dX4_takeDues_1 rfl hl (by decide) (kp_1_1 rfl) (fun ls hl => ?_)
  refine lv_iconst (v := nI 0) hx hb dX4_takeDues_2 (by decide) ?_
  refine kist hx hb dX4_takeDues_3 rfl hl (by decide) (kp_2_2 rfl) (fun ls hl => ?_)
  have lp_4 : ∀ (d : Nat) (x : Int32) (i : Nat) (G1 : Nat → Nat → Int32) (H : Heap) (locs : List Loc) (ls : Array Slot), (n - i) < d → (i ≤ n) → (∀ k, (∀ r, r < i → k ≠ rN j r) → G1 k = G k) → (∀ r, r < i → G1 (rN j r) = tdR (G (rN j r)) (G (sD j) r)) → (x = fl (evN G j) i) → va_P D vwCl (kW τ ad G1) H → va_S (kAd ad) s9.heap H locs → lv_has ls 4 [(0, .ref (ad (sB j))), (1, .int x), (2, .int (nI i))] → W p9 l e9 { frames := 1, cells := 0, slots := 0, locals := 20 } s9 m9 args9 below9 meth9 c9 H locs 0 0 Q9 (F0 m9 4 ls []) := by
    intro d
    induction d with
    | zero => exact fun _ _ _ _ _ _ hd => absurd hd (Nat.not_lt_zero _)
    | succ d ih =>
      intro x i G1 H locs ls hd iv_0 iv_1 iv_2 iv_3 hP hS hl
      have e1 : G1 (rN j i) = G (rN j i) := iv_1 _ (fun r hr => rN_ne (by omega))
      have e2 : G1 (sD j) = G (sD j) := iv_1 _ (fun r hr => by unfold sD rN; omega)
      have e3 : G1 (sB j) = G (sB j) := iv_1 _ (fun r hr => by unfold sB rN; omega)
      have hn1 : G1 (sB j) 6 = nI n := by rw [e3]; exact hn
      have z0 : sD j ≠ rN j i := by unfold sD rN; omega
      refine lv_iload_n hx hb dX4_takeDues_4 rfl (lv_at hl 2 rfl) ?_
      refine lv_aload_n hx hb dX4_takeDues_5 rfl (lv_at hl 0 rfl) ?_
      refine kget X hP (oS (by first | assumption | omega)) g_X4_44 (congrArg (fun z => some (Value.int z)) hn1) dX4_takeDues_6 ?_
      first
        | refine kic_ge (tgt := 85) hx hb dX4_takeDues_9 (by decide) (by with_reducible rfl) (by with_reducible rfl) (by omega) (by omega) (fun c_9 => ?_) (fun c_9 => ?_)
        | refine lv_icmp_ge (tgt := 85) hx hb dX4_takeDues_9 (by decide) (fun c_9 => ?_) (fun c_9 => ?_)
      · skip
        refine lv_iload_n hx hb dX4_takeDues_85 rfl (lv_at hl 1 rfl) ?_
        exact hret _ _ _ _ _ _ (by rw [iv_3]; exact fl_01 _ _) (by have ei : i = n := (by omega); rw [ei] at iv_1 iv_2 iv_3; exact ⟨iv_3, iv_1, iv_2⟩) hP hS dX4_takeDues_86
      · skip
        refine lv_aload_n hx hb dX4_takeDues_12 rfl (lv_at hl 0 rfl) ?_
        refine kget X hP (oS (by first | assumption | omega)) g_X4_19 rfl dX4_takeDues_13 ?_
        refine lv_iload_n hx hb dX4_takeDues_16 rfl (lv_at hl 2 rfl) ?_
        refine kaald X hP (qR (by first | assumption | omega)) (by first | assumption | omega) rfl dX4_takeDues_17 ?_
        refine kast hx hb dX4_takeDues_18 rfl hl (by decide) (kp_3_3 rfl) (fun ls hl => ?_)
        refine lv_aload_n hx hb dX4_takeDues_19 rfl (lv_at hl 3 rfl) ?_
        refine kcV X hP hS (c_X3_paysRent l hI (by first | assumption | omega) (by first | assumption | omega)) (oR (by first | assumption | omega) (by first | assumption | omega)) v_X4_95 ⟨Nat.le_of_ble_eq_true rfl, Nat.le_of_ble_eq_true rfl, rfl, rfl⟩ rfl rfl (Nat.le_of_ble_eq_true rfl) hl.1 ⟨Nat.zero_le _, Nat.zero_le _⟩ dX4_takeDues_20 (fun r_20 G_20 H locs hR hP hS => ?_)
        obtain ⟨rfl, hG_20⟩ := hR
        rw [hG_20] at hP
        clear hG_20
        first
          | refine kif_eq (tgt := 79) hx hb dX4_takeDues_23 (by decide) (fun c_23 => ?_) (fun c_23 => ?_)
          | refine lv_if_eq (tgt := 79) hx hb dX4_takeDues_23 (by decide) (fun c_23 => ?_) (fun c_23 => ?_)
        · skip
          first
            | refine kinc (q := 2) hx hb dX4_takeDues_79 hl rfl (by decide) (kp_4_2 rfl) (fun ls hl => ?_)
            | refine kincG (q := 2) hx hb dX4_takeDues_79 hl rfl (by decide) (kp_4_2 rfl) (fun ls hl => ?_)
          refine lv_goto (tgt := 4) hx hb dX4_takeDues_82 (by decide) ?_
          exact ih _ _ _ _ _ _ (by omega) (by omega) (fun k hk => iv_1 k (fun r hr => hk r (by omega))) (rows_s iv_2 (fun _ _ => rfl) (by rw [e1, tdR, if_neg (by rw [← e1]; exact c_23)])) (fl_z iv_3 (if_neg (fun z => c_23 (by rw [e1]; exact z.1)))) hP hS (lv_sub hl [0,1,2] rfl)
        · skip
          refine lv_aload_n hx hb dX4_takeDues_26 rfl (lv_at hl 3 rfl) ?_
          refine kget X hP (oR (by first | assumption | omega) (by first | assumption | omega)) g_X4_137 rfl dX4_takeDues_27 ?_
          refine lv_aload_n hx hb dX4_takeDues_30 rfl (lv_at hl 0 rfl) ?_
          refine kget X hP (oS (by first | assumption | omega)) g_X4_33 rfl dX4_takeDues_31 ?_
          refine lv_iload_n hx hb dX4_takeDues_34 rfl (lv_at hl 2 rfl) ?_
          refine kiald X hP (aD (by first | assumption | omega)) (by first | assumption | omega) dX4_takeDues_35 ?_
          first
            | refine kic_lt (tgt := 72) hx hb dX4_takeDues_36 (by decide) (by with_reducible rfl) (by with_reducible rfl) (by omega) (by omega) (fun c_36 => ?_) (fun c_36 => ?_)
            | refine lv_icmp_lt (tgt := 72) hx hb dX4_takeDues_36 (by decide) (fun c_36 => ?_) (fun c_36 => ?_)
          · skip
            refine lv_aload_n hx hb dX4_takeDues_72 rfl (lv_at hl 3 rfl) ?_
            refine lv_iconst (v := nI 3) hx hb dX4_takeDues_73 (by decide) ?_
            refine kput X hI hP hS (oR (by first | assumption | omega) (by first | assumption | omega)) g_X4_73 (fun _ => rfl) rfl (fun _ => Nat.le_of_ble_eq_true rfl) rfl rfl dX4_takeDues_74 (fun H locs hP hS => ?_)
            refine lv_iconst (v := nI 1) hx hb dX4_takeDues_77 (by decide) ?_
            refine kist hx hb dX4_takeDues_78 rfl hl (by decide) (kp_4_1 rfl) (fun ls hl => ?_)
            first
              | refine kinc (q := 2) hx hb dX4_takeDues_79 hl rfl (by decide) (kp_4_2 rfl) (fun ls hl => ?_)
              | refine kincG (q := 2) hx hb dX4_takeDues_79 hl rfl (by decide) (kp_4_2 rfl) (fun ls hl => ?_)
            refine lv_goto (tgt := 4) hx hb dX4_takeDues_82 (by decide) ?_
            exact ih _ _ _ _ _ _ (by omega) (by omega) (rows_f iv_1 (by first | exact gs2_o | exact gs1_o)) (rows_s iv_2 gs1_o ((td_ev c_23 (Int32.not_le.mpr c_36)).trans (by rw [e1, e2]))) (fl_p (if_pos (by rw [← e1, ← e2]; exact ⟨c_23, Int32.not_le.mpr c_36⟩))) hP hS (lv_sub hl [0,1,2] rfl)
          · skip
            refine lv_aload_n hx hb dX4_takeDues_39 rfl (lv_at hl 3 rfl) ?_
            refine lv_dup hx hb dX4_takeDues_40 rfl ?_
            refine kget X hP (oR (by first | assumption | omega) (by first | assumption | omega)) g_X4_137 rfl dX4_takeDues_41 ?_
            refine lv_aload_n hx hb dX4_takeDues_44 rfl (lv_at hl 0 rfl) ?_
            refine kget X hP (oS (by first | assumption | omega)) g_X4_33 rfl dX4_takeDues_45 ?_
            refine lv_iload_n hx hb dX4_takeDues_48 rfl (lv_at hl 2 rfl) ?_
            refine kiald X hP (aD (by first | assumption | omega)) (by first | assumption | omega) dX4_takeDues_49 ?_
            first
              | refine ksub hx hb dX4_takeDues_50 (by with_reducible rfl) (by with_reducible rfl) (by omega) ?_
              | refine lv_isub hx hb dX4_takeDues_50 ?_
            refine kput X hI hP hS (oR (by first | assumption | omega) (by first | assumption | omega)) g_X4_137 (fun _ => rfl) rfl (fun _ => Nat.le_of_ble_eq_true rfl) rfl rfl dX4_takeDues_51 (fun H locs hP hS => ?_)
            refine lv_aload_n hx hb dX4_takeDues_54 rfl (lv_at hl 3 rfl) ?_
            refine lv_dup hx hb dX4_takeDues_55 rfl ?_
            refine kget X hP (oR (by first | assumption | omega) (by first | assumption | omega)) g_X4_80 rfl dX4_takeDues_56 ?_
            refine lv_aload_n hx hb dX4_takeDues_59 rfl (lv_at hl 0 rfl) ?_
            refine kget X hP (oS (by first | assumption | omega)) g_X4_33 rfl dX4_takeDues_60 ?_
            refine lv_iload_n hx hb dX4_takeDues_63 rfl (lv_at hl 2 rfl) ?_
            refine kiald X hP (aD (by first | assumption | omega)) (by first | assumption | omega) dX4_takeDues_64 ?_
            first
              | refine kadd hx hb dX4_takeDues_65 (by with_reducible rfl) (by with_reducible rfl) ?_
              | refine lv_iadd hx hb dX4_takeDues_65 ?_
            refine kput X hI hP hS (oR (by first | assumption | omega) (by first | assumption | omega)) g_X4_80 (fun _ => rfl) rfl (fun _ => Nat.le_of_ble_eq_true rfl) rfl rfl dX4_takeDues_66 (fun H locs hP hS => ?_)
            refine lv_goto (tgt := 79) hx hb dX4_takeDues_69 (by decide) ?_
            first
              | refine kinc (q := 2) hx hb dX4_takeDues_79 hl rfl (by decide) (kp_4_2 rfl) (fun ls hl => ?_)
              | refine kincG (q := 2) hx hb dX4_takeDues_79 hl rfl (by decide) (kp_4_2 rfl) (fun ls hl => ?_)
            refine lv_goto (tgt := 4) hx hb dX4_takeDues_82 (by decide) ?_
            exact ih _ _ _ _ _ _ (by omega) (by omega) (rows_f iv_1 (by first | exact gs2_o | exact gs1_o)) (rows_s iv_2 gs2_o ((td_pay z0 c_23 (Int32.not_lt.mp c_36)).trans (by rw [e1, e2]))) (fl_z iv_3 (if_neg (fun z => z.2 (by rw [← e1, ← e2]; exact Int32.not_lt.mp c_36)))) hP hS (lv_sub hl [0,1,2] rfl)
  exact lp_4 _ (nI 0) 0 G _ _ _ (Nat.lt_succ_self _) (Nat.zero_le _) (fun _ _ => rfl) (fun r h => absurd h (by omega)) (rfl) hP hS (lv_sub hl [0,1,2] rfl)

set_option maxHeartbeats 4000000 in
set_option maxRecDepth 100000 in
theorem c_X4_shortenTerms (l : Launch) {D : va_G} {τ : Nat → ClassId} {ad : Nat → Nat} (hI : kInj ad) {G : Nat → Nat → Int32} {j n : Nat} (hj : j < 7) (hn : G (sB j) 6 = nI n) (hn4 : n ≤ 40) : kM l yX4_shortenTerms cX4_shortenTerms 4 (some .boolean) { frames := 1, cells := 0, slots := 0, locals := 20 } D τ ad [.ref (ad (sB j))] G (fun v G' => v = fl (teN G j) n ∧ (∀ k, (∀ r, r < n → k ≠ rN j r) → G' k = G k) ∧ ∀ r, r < n → G' (rN j r) = stR (G (rN j r))) := by
  refine kMetZ (own := RX4) (by decide) rfl (Nat.le_of_ble_eq_true rfl) ?_
  intro p9 e9 s9 m9 args9 below9 meth9 c9 Q9 X hx hb hP hS hret ls hl
  have hPs := hP
  have hl : lv_has ls 4 [(0, .ref (ad (sB j)))] := hl
  refine lv_iconst (v := nI 0) hx hb dX4_shortenTerms_0 (by decide) ?_
  refine kist hx hb dX4_shortenTerms_1 rfl hl (by decide) (kp_1_1 rfl) (fun ls hl => ?_)
  refine lv_iconst (v := nI 0) hx hb dX4_shortenTerms_2 (by decide) ?_
  refine kist hx hb dX4_shortenTerms_3 rfl hl (by decide) (kp_2_2 rfl) (fun ls hl => ?_)
  have lp_4 : ∀ (d : Nat) (x : Int32) (i : Nat) (G1 : Nat → Nat → Int32) (H : Heap) (locs : List Loc) (ls : Array Slot), (n - i) < d → (i ≤ n) → (∀ k, (∀ r, r < i → k ≠ rN j r) → G1 k = G k) → (∀ r, r < i → G1 (rN j r) = stR (G (rN j r))) → (x = fl (teN G j) i) → va_P D vwCl (kW τ ad G1) H → va_S (kAd ad) s9.heap H locs → lv_has ls 4 [(0, .ref (ad (sB j))), (1, .int x), (2, .int (nI i))] → W p9 l e9 { frames := 1, cells := 0, slots := 0, locals := 20 } s9 m9 args9 below9 meth9 c9 H locs 0 0 Q9 (F0 m9 4 ls []) := by
    intro d
    induction d with
    | zero => exact fun _ _ _ _ _ _ hd => absurd hd (Nat.not_lt_zero _)
    | succ d ih =>
      intro x i G1 H locs ls hd iv_0 iv_1 iv_2 iv_3 hP hS hl
      have e1 : G1 (rN j i) = G (rN j i) := iv_1 _ (fun r hr => rN_ne (by omega))
      have e2 : G1 (sD j) = G (sD j) := iv_1 _ (fun r hr => by unfold sD rN; omega)
      have e3 : G1 (sB j) = G (sB j) := iv_1 _ (fun r hr => by unfold sB rN; omega)
      have hn1 : G1 (sB j) 6 = nI n := by rw [e3]; exact hn
      have z0 : sD j ≠ rN j i := by unfold sD rN; omega
      refine lv_iload_n hx hb dX4_shortenTerms_4 rfl (lv_at hl 2 rfl) ?_
      refine lv_aload_n hx hb dX4_shortenTerms_5 rfl (lv_at hl 0 rfl) ?_
      refine kget X hP (oS (by first | assumption | omega)) g_X4_44 (congrArg (fun z => some (Value.int z)) hn1) dX4_shortenTerms_6 ?_
      first
        | refine kic_ge (tgt := 59) hx hb dX4_shortenTerms_9 (by decide) (by with_reducible rfl) (by with_reducible rfl) (by omega) (by omega) (fun c_9 => ?_) (fun c_9 => ?_)
        | refine lv_icmp_ge (tgt := 59) hx hb dX4_shortenTerms_9 (by decide) (fun c_9 => ?_) (fun c_9 => ?_)
      · skip
        refine lv_iload_n hx hb dX4_shortenTerms_59 rfl (lv_at hl 1 rfl) ?_
        exact hret _ _ _ _ _ _ (by rw [iv_3]; exact fl_01 _ _) (by have ei : i = n := (by omega); rw [ei] at iv_1 iv_2 iv_3; exact ⟨iv_3, iv_1, iv_2⟩) hP hS dX4_shortenTerms_60
      · skip
        refine lv_aload_n hx hb dX4_shortenTerms_12 rfl (lv_at hl 0 rfl) ?_
        refine kget X hP (oS (by first | assumption | omega)) g_X4_19 rfl dX4_shortenTerms_13 ?_
        refine lv_iload_n hx hb dX4_shortenTerms_16 rfl (lv_at hl 2 rfl) ?_
        refine kaald X hP (qR (by first | assumption | omega)) (by first | assumption | omega) rfl dX4_shortenTerms_17 ?_
        refine kast hx hb dX4_shortenTerms_18 rfl hl (by decide) (kp_3_3 rfl) (fun ls hl => ?_)
        refine lv_aload_n hx hb dX4_shortenTerms_19 rfl (lv_at hl 3 rfl) ?_
        refine kcV X hP hS (c_X3_isOpenWidow l hI (by first | assumption | omega) (by first | assumption | omega)) (oR (by first | assumption | omega) (by first | assumption | omega)) v_X4_76 ⟨Nat.le_of_ble_eq_true rfl, Nat.le_of_ble_eq_true rfl, rfl, rfl⟩ rfl rfl (Nat.le_of_ble_eq_true rfl) hl.1 ⟨Nat.zero_le _, Nat.zero_le _⟩ dX4_shortenTerms_20 (fun r_20 G_20 H locs hR hP hS => ?_)
        obtain ⟨rfl, hG_20⟩ := hR
        rw [hG_20] at hP
        clear hG_20
        first
          | refine kif_eq (tgt := 53) hx hb dX4_shortenTerms_23 (by decide) (fun c_23 => ?_) (fun c_23 => ?_)
          | refine lv_if_eq (tgt := 53) hx hb dX4_shortenTerms_23 (by decide) (fun c_23 => ?_) (fun c_23 => ?_)
        · skip
          first
            | refine kinc (q := 2) hx hb dX4_shortenTerms_53 hl rfl (by decide) (kp_4_2 rfl) (fun ls hl => ?_)
            | refine kincG (q := 2) hx hb dX4_shortenTerms_53 hl rfl (by decide) (kp_4_2 rfl) (fun ls hl => ?_)
          refine lv_goto (tgt := 4) hx hb dX4_shortenTerms_56 (by decide) ?_
          exact ih _ _ _ _ _ _ (by omega) (by omega) (fun k hk => iv_1 k (fun r hr => hk r (by omega))) (rows_s iv_2 (fun _ _ => rfl) (by rw [e1, stR, if_neg (by rw [← e1]; exact c_23)])) (fl_z iv_3 (if_neg (fun z => c_23 (by rw [e1]; exact z.1)))) hP hS (lv_sub hl [0,1,2] rfl)
        · skip
          refine lv_aload_n hx hb dX4_shortenTerms_26 rfl (lv_at hl 3 rfl) ?_
          refine lv_dup hx hb dX4_shortenTerms_27 rfl ?_
          refine kget X hP (oR (by first | assumption | omega) (by first | assumption | omega)) g_X4_140 rfl dX4_shortenTerms_28 ?_
          refine lv_iconst (v := nI 1) hx hb dX4_shortenTerms_31 (by decide) ?_
          first
            | refine ksub hx hb dX4_shortenTerms_32 (by with_reducible rfl) (by with_reducible rfl) (by omega) ?_
            | refine lv_isub hx hb dX4_shortenTerms_32 ?_
          refine kput X hI hP hS (oR (by first | assumption | omega) (by first | assumption | omega)) g_X4_140 (fun _ => rfl) rfl (fun _ => Nat.le_of_ble_eq_true rfl) rfl rfl dX4_shortenTerms_33 (fun H locs hP hS => ?_)
          refine lv_iload_n hx hb dX4_shortenTerms_36 rfl (lv_at hl 1 rfl) ?_
          first
            | refine kif_ne (tgt := 47) hx hb dX4_shortenTerms_37 (by decide) (fun c_37 => ?_) (fun c_37 => ?_)
            | refine lv_if_ne (tgt := 47) hx hb dX4_shortenTerms_37 (by decide) (fun c_37 => ?_) (fun c_37 => ?_)
          · skip
            refine lv_iconst (v := nI 1) hx hb dX4_shortenTerms_47 (by decide) ?_
            refine lv_goto (tgt := 52) hx hb dX4_shortenTerms_48 (by decide) ?_
            refine kist hx hb dX4_shortenTerms_52 rfl hl (by decide) (kp_4_1 rfl) (fun ls hl => ?_)
            first
              | refine kinc (q := 2) hx hb dX4_shortenTerms_53 hl rfl (by decide) (kp_4_2 rfl) (fun ls hl => ?_)
              | refine kincG (q := 2) hx hb dX4_shortenTerms_53 hl rfl (by decide) (kp_4_2 rfl) (fun ls hl => ?_)
            refine lv_goto (tgt := 4) hx hb dX4_shortenTerms_56 (by decide) ?_
            exact ih _ _ _ _ _ _ (by omega) (by omega) (rows_f iv_1 gs1_o) (rows_s iv_2 gs1_o (by rw [gs_up, stR, ← e1, if_pos c_23])) (fl_k iv_3 c_37) hP hS (lv_sub hl [0,1,2] rfl)
          · skip
            refine lv_aload_n hx hb dX4_shortenTerms_40 rfl (lv_at hl 3 rfl) ?_
            have e6 : gs G1 (rN j i) 6 (G1 (rN j i) 6 - nI 1) (rN j i) 6 = G1 (rN j i) 6 - nI 1 := by simp [gs]
            refine kget X hP (oR (by first | assumption | omega) (by first | assumption | omega)) g_X4_140 rfl dX4_shortenTerms_41 ?_
            rw [e6]
            first
              | refine kif_ne (tgt := 51) hx hb dX4_shortenTerms_44 (by decide) (fun c_44 => ?_) (fun c_44 => ?_)
              | refine lv_if_ne (tgt := 51) hx hb dX4_shortenTerms_44 (by decide) (fun c_44 => ?_) (fun c_44 => ?_)
            · skip
              refine lv_iconst (v := nI 0) hx hb dX4_shortenTerms_51 (by decide) ?_
              refine kist hx hb dX4_shortenTerms_52 rfl hl (by decide) (kp_4_1 rfl) (fun ls hl => ?_)
              first
                | refine kinc (q := 2) hx hb dX4_shortenTerms_53 hl rfl (by decide) (kp_4_2 rfl) (fun ls hl => ?_)
                | refine kincG (q := 2) hx hb dX4_shortenTerms_53 hl rfl (by decide) (kp_4_2 rfl) (fun ls hl => ?_)
              refine lv_goto (tgt := 4) hx hb dX4_shortenTerms_56 (by decide) ?_
              exact ih _ _ _ _ _ _ (by omega) (by omega) (rows_f iv_1 gs1_o) (rows_s iv_2 gs1_o (by rw [gs_up, stR, ← e1, if_pos c_23])) (fl_o iv_3 c_37 (if_neg (fun z => c_44 (by rw [e1]; exact z.2)))) hP hS (lv_sub hl [0,1,2] rfl)
            · skip
              refine lv_iconst (v := nI 1) hx hb dX4_shortenTerms_47 (by decide) ?_
              refine lv_goto (tgt := 52) hx hb dX4_shortenTerms_48 (by decide) ?_
              refine kist hx hb dX4_shortenTerms_52 rfl hl (by decide) (kp_4_1 rfl) (fun ls hl => ?_)
              first
                | refine kinc (q := 2) hx hb dX4_shortenTerms_53 hl rfl (by decide) (kp_4_2 rfl) (fun ls hl => ?_)
                | refine kincG (q := 2) hx hb dX4_shortenTerms_53 hl rfl (by decide) (kp_4_2 rfl) (fun ls hl => ?_)
              refine lv_goto (tgt := 4) hx hb dX4_shortenTerms_56 (by decide) ?_
              exact ih _ _ _ _ _ _ (by omega) (by omega) (rows_f iv_1 gs1_o) (rows_s iv_2 gs1_o (by rw [gs_up, stR, ← e1, if_pos c_23])) (fl_p (if_pos (by rw [← e1]; exact ⟨c_23, c_44⟩))) hP hS (lv_sub hl [0,1,2] rfl)
  exact lp_4 _ (nI 0) 0 G _ _ _ (Nat.lt_succ_self _) (Nat.zero_le _) (fun _ _ => rfl) (fun r h => absurd h (by omega)) (rfl) hP hS (lv_sub hl [0,1,2] rfl)

def snF (G : Nat → Nat → Int32) (j n : Nat) (P : Nat → Nat) (c : Nat) : Int32 := so (psB G j c (P c) (-1)) n
theorem psB_congr {G G' : Nat → Nat → Int32} {j c P : Nat} {q : Int32} (h1 : ∀ i, G' (rN j i) = G (rN j i)) (h2 : G' (cM j c) = G (cM j c)) : psB G' j c P q = psB G j c P q := by
  unfold psB
  simp only [h1, h2]
theorem RT_of {G G1 G2 : Nat → Nat → Int32} {j c P : Nat} {w : Int32} (h : RT G1 G2 j c P w) (h1 : G1 (cV j c) = G (cV j c)) (h2 : G1 (cM j c) = G (cM j c)) : RT G G2 j c P w := by
  obtain ⟨a, b, d, e⟩ := h
  refine ⟨a, by rw [b, h1], by rw [d, h2], fun p p1 p2 p3 => ?_⟩
  have := e p p1 p2 p3
  rw [h1, h2] at this
  exact this
theorem RT_to {G G1 G2 : Nat → Nat → Int32} {j c P : Nat} {w : Int32} (h : RT G G1 j c P w) (h0 : G2 (cB j c) = G1 (cB j c)) (h1 : G2 (cV j c) = G1 (cV j c)) (h2 : G2 (cM j c) = G1 (cM j c)) : RT G G2 j c P w := by
  unfold RT
  rw [h0, h1, h2]
  exact h
set_option maxHeartbeats 4000000 in
set_option maxRecDepth 100000 in
theorem c_X4_removeUnseen (l : Launch) {D : va_G} {τ : Nat → ClassId} {ad : Nat → Nat} (hI : kInj ad) {G : Nat → Nat → Int32} {j n : Nat} {P : Nat → Nat} (hj : j < 7) (hn : G (sB j) 6 = nI n) (hn4 : n ≤ 40) (hp : ∀ c, c < 12 → G (cB j c) 2 = nI (P c) ∧ 1 ≤ P c ∧ P c ≤ 10) : kM l yX4_removeUnseen cX4_removeUnseen 3 (some .int) { frames := 2, cells := 0, slots := 0, locals := 47 } D τ ad [.ref (ad (sB j))] G (fun v G' => v = nI (cn (fun c => P c - (1 + cn (rf (snF G j n P c)) (P c))) 12) ∧ (∀ c, c < 12 → RT G G' j c (P c) (snF G j n P c)) ∧ (∀ f, f ≠ 8 → G' (sB j) f = G (sB j) f) ∧ G' (sB j) 8 = G (sB j) 8 + v ∧ ∀ k, k ≠ sB j → (∀ c, c < 12 → k ≠ cB j c ∧ k ≠ cV j c ∧ k ≠ cM j c) → G' k = G k) := by
  refine kMet (own := RX4) (by decide) rfl (Nat.le_of_ble_eq_true rfl) ?_
  intro p9 e9 s9 m9 args9 below9 meth9 c9 Q9 X hx hb hP hS hret ls hl
  have hPs := hP
  have hl : lv_has ls 3 [(0, .ref (ad (sB j)))] := hl
  refine lv_iconst (v := nI 0) hx hb dX4_removeUnseen_0 (by decide) ?_
  refine kist hx hb dX4_removeUnseen_1 rfl hl (by decide) (kp_1_1 rfl) (fun ls hl => ?_)
  refine lv_iconst (v := nI 0) hx hb dX4_removeUnseen_2 (by decide) ?_
  refine kist hx hb dX4_removeUnseen_3 rfl hl (by decide) (kp_2_2 rfl) (fun ls hl => ?_)
  have lp_4 : ∀ (d : Nat) (x i : Nat) (G1 : Nat → Nat → Int32) (H : Heap) (locs : List Loc) (ls : Array Slot), (12 - i) < d → (i ≤ 12) → (x = cn (fun c => P c - (1 + cn (rf (snF G j n P c)) (P c))) i) → (∀ k, (∀ c, c < i → k ≠ cB j c ∧ k ≠ cV j c ∧ k ≠ cM j c) → G1 k = G k) → (∀ c, c < i → RT G G1 j c (P c) (snF G j n P c)) → va_P D vwCl (kW τ ad G1) H → va_S (kAd ad) s9.heap H locs → lv_has ls 3 [(0, .ref (ad (sB j))), (1, .int (nI x)), (2, .int (nI i))] → W p9 l e9 { frames := 2, cells := 0, slots := 0, locals := 47 } s9 m9 args9 below9 meth9 c9 H locs 0 0 Q9 (F0 m9 4 ls []) := by
    intro d
    induction d with
    | zero => exact fun _ _ _ _ _ _ hd => absurd hd (Nat.not_lt_zero _)
    | succ d ih =>
      intro x i G1 H locs ls hd iv_0 iv_1 iv_2 iv_3 hP hS hl
      have er : ∀ t, G1 (rN j t) = G (rN j t) := fun t => iv_2 _ (fun c hc => by unfold rN cB cV cM; omega)
      have e3 : G1 (sB j) = G (sB j) := iv_2 _ (fun c hc => by unfold sB cB cV cM; omega)
      have ev : G1 (cV j i) = G (cV j i) := iv_2 _ (fun c hc => by unfold cB cV cM; omega)
      have em : G1 (cM j i) = G (cM j i) := iv_2 _ (fun c hc => by unfold cB cV cM; omega)
      have eb : G1 (cB j i) = G (cB j i) := iv_2 _ (fun c hc => by unfold cB cV cM; omega)
      refine lv_iload_n hx hb dX4_removeUnseen_4 rfl (lv_at hl 2 rfl) ?_
      refine lv_bipush (v := nI 12) hx hb dX4_removeUnseen_5 (by decide) ?_
      first
        | refine kic_ge (tgt := 39) hx hb dX4_removeUnseen_7 (by decide) (by with_reducible rfl) (by with_reducible rfl) (by omega) (by omega) (fun c_7 => ?_) (fun c_7 => ?_)
        | refine lv_icmp_ge (tgt := 39) hx hb dX4_removeUnseen_7 (by decide) (fun c_7 => ?_) (fun c_7 => ?_)
      · skip
        refine lv_aload_n hx hb dX4_removeUnseen_39 rfl (lv_at hl 0 rfl) ?_
        refine lv_dup hx hb dX4_removeUnseen_40 rfl ?_
        refine kget X hP (oS (by first | assumption | omega)) g_X4_62 rfl dX4_removeUnseen_41 ?_
        refine lv_iload_n hx hb dX4_removeUnseen_44 rfl (lv_at hl 1 rfl) ?_
        first
          | refine kadd hx hb dX4_removeUnseen_45 (by with_reducible rfl) (by with_reducible rfl) ?_
          | refine lv_iadd hx hb dX4_removeUnseen_45 ?_
        refine kput X hI hP hS (oS (by first | assumption | omega)) g_X4_62 (fun _ => rfl) rfl (fun _ => Nat.le_of_ble_eq_true rfl) rfl rfl dX4_removeUnseen_46 (fun H locs hP hS => ?_)
        refine lv_iload_n hx hb dX4_removeUnseen_49 rfl (lv_at hl 1 rfl) ?_
        exact hret _ _ _ _ _ _ (by
            have ei : i = 12 := (by omega)
            rw [ei] at iv_1 iv_2 iv_3
            refine ⟨by rw [iv_1], fun c hc => RT_to (iv_3 c hc) (gs_other (by unfold sB cB; omega)) (gs_other (by unfold sB cV; omega)) (gs_other (by unfold sB cM; omega)), fun f hf => by simp [gs, hf, e3], by simp [gs, e3], fun k h1 h2 => by rw [gs_other h1]; exact iv_2 k h2⟩) hP hS dX4_removeUnseen_50
      · skip
        refine lv_iload_n hx hb dX4_removeUnseen_10 rfl (lv_at hl 1 rfl) ?_
        refine lv_aload_n hx hb dX4_removeUnseen_11 rfl (lv_at hl 0 rfl) ?_
        refine kget X hP (oS (by first | assumption | omega)) g_X4_11 rfl dX4_removeUnseen_12 ?_
        refine lv_iload_n hx hb dX4_removeUnseen_15 rfl (lv_at hl 2 rfl) ?_
        refine kaald X hP (qC (by first | assumption | omega)) (by first | assumption | omega) rfl dX4_removeUnseen_16 ?_
        refine lv_aload_n hx hb dX4_removeUnseen_17 rfl (lv_at hl 0 rfl) ?_
        refine lv_aload_n hx hb dX4_removeUnseen_18 rfl (lv_at hl 0 rfl) ?_
        refine kget X hP (oS (by first | assumption | omega)) g_X4_11 rfl dX4_removeUnseen_19 ?_
        refine lv_iload_n hx hb dX4_removeUnseen_22 rfl (lv_at hl 2 rfl) ?_
        refine kaald X hP (qC (by first | assumption | omega)) (by first | assumption | omega) rfl dX4_removeUnseen_23 ?_
        refine lv_iconst (v := (-1)) hx hb dX4_removeUnseen_24 (by decide) ?_
        refine kcV X hP hS (c_X4_placesSeen l hI (q := -1) hj (by rw [e3]; exact hn) hn4 (by omega) (P := P i) (by rw [eb]; exact (hp i (by omega)).1) (hp i (by omega)).2.2) (oS (by first | assumption | omega)) v_X4_104 ⟨Nat.le_of_ble_eq_true rfl, Nat.le_of_ble_eq_true rfl, rfl, rfl⟩ rfl rfl (Nat.le_of_ble_eq_true rfl) hl.1 ⟨Nat.zero_le _, Nat.zero_le _⟩ dX4_removeUnseen_25 (fun r_25 G_25 H locs hR hP hS => ?_)
        obtain ⟨rfl, hG_25⟩ := hR
        rw [hG_25] at hP
        clear hG_25
        rw [psB_congr er em]
        refine kcV X hP hS (c_X0_retainOld l hI (P := P i) hj (by omega) (by rw [eb]; exact (hp i (by omega)).1) (hp i (by omega)).2.1 (hp i (by omega)).2.2) (oC (by first | assumption | omega) (by first | assumption | omega)) v_X4_108 ⟨Nat.le_of_ble_eq_true rfl, Nat.le_of_ble_eq_true rfl, rfl, rfl⟩ rfl rfl (Nat.le_of_ble_eq_true rfl) hl.1 ⟨Nat.zero_le _, Nat.zero_le _⟩ dX4_removeUnseen_28 (fun r_28 G_28 H locs hR hP hS => ?_)
        obtain ⟨rfl, hF_28, hR_28⟩ := hR
        first
          | refine kadd hx hb dX4_removeUnseen_31 (by with_reducible rfl) (by with_reducible rfl) ?_
          | refine lv_iadd hx hb dX4_removeUnseen_31 ?_
        refine kist hx hb dX4_removeUnseen_32 rfl hl (by decide) (kp_3_1 rfl) (fun ls hl => ?_)
        first
          | refine kinc (q := 2) hx hb dX4_removeUnseen_33 hl rfl (by decide) (kp_3_2 rfl) (fun ls hl => ?_)
          | refine kincG (q := 2) hx hb dX4_removeUnseen_33 hl rfl (by decide) (kp_3_2 rfl) (fun ls hl => ?_)
        refine lv_goto (tgt := 4) hx hb dX4_removeUnseen_36 (by decide) ?_
        exact ih _ _ _ _ _ _ (by omega) (by omega) (by rw [iv_1]; rfl) (fun k hk => by rw [hF_28 k (hk i (by omega)).1 (hk i (by omega)).2.1 (hk i (by omega)).2.2]; exact iv_2 k (fun c hc => hk c (by omega))) (fun c hc => by
                rcases Nat.lt_or_ge c i with q | q
                · exact RT_to (iv_3 c q) (hF_28 _ (by unfold cB; omega) (by unfold cB cV; omega) (by unfold cB cM; omega)) (hF_28 _ (by unfold cB cV; omega) (by unfold cV; omega) (by unfold cV cM; omega)) (hF_28 _ (by unfold cB cM; omega) (by unfold cV cM; omega) (by unfold cM; omega))
                · have e : c = i := (by omega)
                  subst e
                  exact RT_of hR_28 ev em) hP hS (lv_sub hl [0,1,2] rfl)
  exact lp_4 _ 0 0 G _ _ _ (Nat.lt_succ_self _) (Nat.zero_le _) (rfl) (fun _ _ => rfl) (fun c h => absurd h (by omega)) hP hS (lv_sub hl [0,1,2] rfl)
end
section

theorem cn_congr {f g : Nat → Nat} {n : Nat} (h : ∀ i, i < n → f i = g i) : cn f n = cn g n := by
  induction n with
  | zero => rfl
  | succ n ih => rw [cn, cn, ih (fun i hi => h i (by omega)), h n (by omega)]
theorem sm_congr {f g : Nat → Int32} {n : Nat} (h : ∀ i, i < n → f i = g i) : sm f n = sm g n := by
  induction n with
  | zero => rfl
  | succ n ih => rw [sm, sm, ih (fun i hi => h i (by omega)), h n (by omega)]
def skN (G : Nat → Nat → Int32) (j r : Nat) : Nat → Nat := fun q => if skF (G (mC j q)) (G (rN j r)) then 1 else 0
theorem skN_congr {G G' : Nat → Nat → Int32} {j r k : Nat} (h1 : ∀ q, q < k → G' (mC j q) = G (mC j q)) (h2 : G' (rN j r) = G (rN j r)) : cn (fun q => if skF (G' (mC j q)) (G' (rN j r)) then 1 else 0) k = cn (skN G j r) k := by
  refine cn_congr (fun q hq => ?_)
  show (if skF (G' (mC j q)) (G' (rN j r)) then 1 else 0) = _
  rw [h1 q hq, h2]
  rfl
/-- a new version in front -/
def PU (G G' : Nat → Nat → Int32) (j c P : Nat) (x y : Int32) : Prop := G' (cB j c) 2 = nI (P + 1) ∧ G' (cV j c) 0 = x ∧ G' (cM j c) 0 = y ∧ ∀ p, p < P → G' (cV j c) (p + 1) = G (cV j c) p ∧ G' (cM j c) (p + 1) = G (cM j c) p
def CS (G G' : Nat → Nat → Int32) (j c : Nat) : Prop := G' (cB j c) = G (cB j c) ∧ G' (cV j c) = G (cV j c) ∧ G' (cM j c) = G (cM j c)
theorem PU_to {G G1 G2 : Nat → Nat → Int32} {j c P : Nat} {x y : Int32} (h : PU G G1 j c P x y) (q : CS G1 G2 j c) : PU G G2 j c P x y := by
  unfold PU
  rw [q.1, q.2.1, q.2.2]
  exact h
theorem PU_of {G G1 G2 : Nat → Nat → Int32} {j c P : Nat} {x y : Int32} (h : PU G1 G2 j c P x y) (q : CS G G1 j c) : PU G G2 j c P x y := by
  unfold PU at h ⊢
  rw [q.2.1, q.2.2] at h
  exact h
theorem CS_t {G G1 G2 : Nat → Nat → Int32} {j c : Nat} (h : CS G G1 j c) (q : CS G1 G2 j c) : CS G G2 j c := ⟨q.1.trans h.1, q.2.1.trans h.2.1, q.2.2.trans h.2.2⟩
set_option maxHeartbeats 4000000 in
set_option maxRecDepth 100000 in
theorem c_X4_noteCommit (l : Launch) {D : va_G} {τ : Nat → ClassId} {ad : Nat → Nat} (hI : kInj ad) {G : Nat → Nat → Int32} {j n k r mm : Nat} (hj : j < 7) (hk : G (sB j) 7 = nI k) (hk4 : k < 40) (hr : r < 40) (hm : G (sB j) 3 = nI mm) : kMv l yX4_noteCommit cX4_noteCommit 4 { frames := 2, cells := 0, slots := 0, locals := 44 } D τ ad [.ref (ad (sB j)), .int (nI r)] G (fun G' => (∀ q, q ≠ mC j k → q ≠ sB j → G' q = G q) ∧ (∀ f, f ≠ 7 → G' (sB j) f = G (sB j) f) ∧ G' (sB j) 7 = nI (k + 1) ∧ G' (mC j k) 0 = nI r ∧ G' (mC j k) 1 = G (rN j r) 2 ∧ G' (mC j k) 2 = nI (mm + 1) ∧ G' (mC j k) 3 = G (rN j r) 5 ∧ G' (mC j k) 4 = G (rN j r) 4 ∧ G' (mC j k) 5 = nI (cn (skN G j r) k)) := by
  refine kMetV (own := RX4) (by decide) rfl (Nat.le_of_ble_eq_true rfl) ?_
  intro p9 e9 s9 m9 args9 below9 meth9 c9 Q9 X hx hb hP hS hret ls hl
  have hPs := hP
  have hl : lv_has ls 4 [(0, .ref (ad (sB j))), (1, .int (nI r))] := hl
  have z0 : sB j ≠ mC j k := by unfold sB mC; omega
  have z1 : rN j r ≠ mC j k := by unfold rN mC; omega
  refine lv_aload_n hx hb dX4_noteCommit_0 rfl (lv_at hl 0 rfl) ?_
  refine kget X hP (oS (by first | assumption | omega)) g_X4_50 (congrArg (fun z => some (Value.int z)) hk) dX4_noteCommit_1 ?_
  refine lv_bipush (v := nI 40) hx hb dX4_noteCommit_4 (by decide) ?_
  first
    | refine kic_lt (tgt := 10) hx hb dX4_noteCommit_6 (by decide) (by with_reducible rfl) (by with_reducible rfl) (by omega) (by omega) (fun c_6 => ?_) (fun c_6 => ?_)
    | refine lv_icmp_lt (tgt := 10) hx hb dX4_noteCommit_6 (by decide) (fun c_6 => ?_) (fun c_6 => ?_)
  · skip
    refine lv_aload_n hx hb dX4_noteCommit_10 rfl (lv_at hl 0 rfl) ?_
    refine kget X hP (oS (by first | assumption | omega)) g_X4_19 rfl dX4_noteCommit_11 ?_
    refine lv_iload_n hx hb dX4_noteCommit_14 rfl (lv_at hl 1 rfl) ?_
    refine kaald X hP (qR (by first | assumption | omega)) (by first | assumption | omega) rfl dX4_noteCommit_15 ?_
    refine kast hx hb dX4_noteCommit_16 rfl hl (by decide) (kp_2_2 rfl) (fun ls hl => ?_)
    refine lv_aload_n hx hb dX4_noteCommit_17 rfl (lv_at hl 0 rfl) ?_
    refine kget X hP (oS (by first | assumption | omega)) g_X4_25 rfl dX4_noteCommit_18 ?_
    refine lv_aload_n hx hb dX4_noteCommit_21 rfl (lv_at hl 0 rfl) ?_
    refine kget X hP (oS (by first | assumption | omega)) g_X4_50 (congrArg (fun z => some (Value.int z)) hk) dX4_noteCommit_22 ?_
    refine kaald X hP (qM (by first | assumption | omega)) (by first | assumption | omega) rfl dX4_noteCommit_25 ?_
    refine kast hx hb dX4_noteCommit_26 rfl hl (by decide) (kp_3_3 rfl) (fun ls hl => ?_)
    refine lv_aload_n hx hb dX4_noteCommit_27 rfl (lv_at hl 3 rfl) ?_
    refine lv_iload_n hx hb dX4_noteCommit_28 rfl (lv_at hl 1 rfl) ?_
    refine kput X hI hP hS (oM (by first | assumption | omega) (by first | assumption | omega)) g_X4_168 (fun _ => rfl) rfl (fun _ => Nat.le_of_ble_eq_true rfl) rfl rfl dX4_noteCommit_29 (fun H locs hP hS => ?_)
    refine lv_aload_n hx hb dX4_noteCommit_32 rfl (lv_at hl 3 rfl) ?_
    refine lv_aload_n hx hb dX4_noteCommit_33 rfl (lv_at hl 2 rfl) ?_
    refine kget X hP (oR (by first | assumption | omega) (by first | assumption | omega)) g_X4_90 rfl dX4_noteCommit_34 ?_
    refine kput X hI hP hS (oM (by first | assumption | omega) (by first | assumption | omega)) g_X4_171 (fun _ => rfl) rfl (fun _ => Nat.le_of_ble_eq_true rfl) rfl rfl dX4_noteCommit_37 (fun H locs hP hS => ?_)
    refine lv_aload_n hx hb dX4_noteCommit_40 rfl (lv_at hl 3 rfl) ?_
    refine lv_aload_n hx hb dX4_noteCommit_41 rfl (lv_at hl 0 rfl) ?_
    refine kget X hP (oS (by first | assumption | omega)) g_X4_56 (congrArg (fun z => some (Value.int z)) (by simp [gs, z0, hm] : _ = nI mm)) dX4_noteCommit_42 ?_
    refine lv_iconst (v := nI 1) hx hb dX4_noteCommit_45 (by decide) ?_
    first
      | refine kadd hx hb dX4_noteCommit_46 (by with_reducible rfl) (by with_reducible rfl) ?_
      | refine lv_iadd hx hb dX4_noteCommit_46 ?_
    refine kput X hI hP hS (oM (by first | assumption | omega) (by first | assumption | omega)) g_X4_174 (fun _ => rfl) rfl (fun _ => Nat.le_of_ble_eq_true rfl) rfl rfl dX4_noteCommit_47 (fun H locs hP hS => ?_)
    refine lv_aload_n hx hb dX4_noteCommit_50 rfl (lv_at hl 3 rfl) ?_
    refine lv_aload_n hx hb dX4_noteCommit_51 rfl (lv_at hl 2 rfl) ?_
    refine kget X hP (oR (by first | assumption | omega) (by first | assumption | omega)) g_X4_158 rfl dX4_noteCommit_52 ?_
    refine kput X hI hP hS (oM (by first | assumption | omega) (by first | assumption | omega)) g_X4_177 (fun _ => rfl) rfl (fun _ => Nat.le_of_ble_eq_true rfl) rfl rfl dX4_noteCommit_55 (fun H locs hP hS => ?_)
    refine lv_aload_n hx hb dX4_noteCommit_58 rfl (lv_at hl 3 rfl) ?_
    refine lv_aload_n hx hb dX4_noteCommit_59 rfl (lv_at hl 2 rfl) ?_
    refine kget X hP (oR (by first | assumption | omega) (by first | assumption | omega)) g_X4_178 rfl dX4_noteCommit_60 ?_
    refine kput X hI hP hS (oM (by first | assumption | omega) (by first | assumption | omega)) g_X4_181 (fun _ => rfl) rfl (fun _ => Nat.le_of_ble_eq_true rfl) rfl rfl dX4_noteCommit_63 (fun H locs hP hS => ?_)
    refine lv_aload_n hx hb dX4_noteCommit_66 rfl (lv_at hl 3 rfl) ?_
    refine lv_aload_n hx hb dX4_noteCommit_67 rfl (lv_at hl 0 rfl) ?_
    refine lv_aload_n hx hb dX4_noteCommit_68 rfl (lv_at hl 2 rfl) ?_
    refine kcV X hP hS (c_X4_skewsOf l hI (k := k) hj (by simp [gs, z0, hk]) (by omega) hr) (oS (by first | assumption | omega)) v_X4_182 ⟨Nat.le_of_ble_eq_true rfl, Nat.le_of_ble_eq_true rfl, rfl, rfl⟩ rfl rfl (Nat.le_of_ble_eq_true rfl) hl.1 ⟨Nat.zero_le _, Nat.zero_le _⟩ dX4_noteCommit_69 (fun r_69 G_69 H locs hR hP hS => ?_)
    obtain ⟨rfl, hG_69⟩ := hR
    rw [hG_69] at hP
    clear hG_69
    rw [skN_congr (G := G) (fun q hq => by rw [gs_other (by unfold mC; omega), gs_other (by unfold mC; omega), gs_other (by unfold mC; omega), gs_other (by unfold mC; omega), gs_other (by unfold mC; omega)]) (by rw [gs_other z1, gs_other z1, gs_other z1, gs_other z1, gs_other z1])]
    refine kput X hI hP hS (oM (by first | assumption | omega) (by first | assumption | omega)) g_X4_150 (fun _ => rfl) rfl (fun _ => Nat.le_of_ble_eq_true rfl) rfl rfl dX4_noteCommit_72 (fun H locs hP hS => ?_)
    refine lv_aload_n hx hb dX4_noteCommit_75 rfl (lv_at hl 0 rfl) ?_
    refine lv_dup hx hb dX4_noteCommit_76 rfl ?_
    refine kget X hP (oS (by first | assumption | omega)) g_X4_50 (congrArg (fun z => some (Value.int z)) (by simp [gs, z0, hk] : _ = nI k)) dX4_noteCommit_77 ?_
    refine lv_iconst (v := nI 1) hx hb dX4_noteCommit_80 (by decide) ?_
    first
      | refine kadd hx hb dX4_noteCommit_81 (by with_reducible rfl) (by with_reducible rfl) ?_
      | refine lv_iadd hx hb dX4_noteCommit_81 ?_
    refine kput X hI hP hS (oS (by first | assumption | omega)) g_X4_50 (fun _ => rfl) rfl (fun _ => Nat.le_of_ble_eq_true rfl) rfl rfl dX4_noteCommit_82 (fun H locs hP hS => ?_)
    exact hret _ _ _ _ _ (by
        refine ⟨fun q h1 h2 => ?_, fun f hf => ?_, ?_, ?_, ?_, ?_, ?_, ?_, ?_⟩
        · funext f; simp [gs, h1, h2]
        · simp [gs, z0, hf]
        · simp [gs]
        all_goals simp [gs, z0.symm, z1]) hP hS dX4_noteCommit_85
  · skip
    exact absurd c_6 (by omega)

set_option maxHeartbeats 4000000 in
set_option maxRecDepth 100000 in
theorem c_X4_pushWrites (l : Launch) {D : va_G} {τ : Nat → ClassId} {ad : Nat → Nat} (hI : kInj ad) {G : Nat → Nat → Int32} {j r : Nat} {P : Nat → Nat} (hj : j < 7) (hr : r < 40) (hp : ∀ c, c < 12 → G (cB j c) 2 = nI (P c) ∧ P c ≤ 9) : kMv l yX4_pushWrites cX4_pushWrites 3 { frames := 2, cells := 0, slots := 0, locals := 62 } D τ ad [.ref (ad (sB j)), .ref (ad (rN j r))] G (fun G' => (∀ c, c < 12 → (hw (G (rN j r) 5) c → PU G G' j c (P c) (G (rW j r) c) (G (sB j) 3)) ∧ (¬ hw (G (rN j r) 5) c → CS G G' j c)) ∧ ∀ k, (∀ c, c < 12 → k ≠ cB j c ∧ k ≠ cV j c ∧ k ≠ cM j c) → G' k = G k) := by
  refine kMetV (own := RX4) (by decide) rfl (Nat.le_of_ble_eq_true rfl) ?_
  intro p9 e9 s9 m9 args9 below9 meth9 c9 Q9 X hx hb hP hS hret ls hl
  have hPs := hP
  have hl : lv_has ls 3 [(0, .ref (ad (sB j))), (1, .ref (ad (rN j r)))] := hl
  refine lv_iconst (v := nI 0) hx hb dX4_pushWrites_0 (by decide) ?_
  refine kist hx hb dX4_pushWrites_1 rfl hl (by decide) (kp_2_2 rfl) (fun ls hl => ?_)
  have lp_2 : ∀ (d : Nat) (i : Nat) (G1 : Nat → Nat → Int32) (H : Heap) (locs : List Loc) (ls : Array Slot), (12 - i) < d → (i ≤ 12) → (∀ k, (∀ c, c < i → k ≠ cB j c ∧ k ≠ cV j c ∧ k ≠ cM j c) → G1 k = G k) → (∀ c, c < i → (hw (G (rN j r) 5) c → PU G G1 j c (P c) (G (rW j r) c) (G (sB j) 3)) ∧ (¬ hw (G (rN j r) 5) c → CS G G1 j c)) → va_P D vwCl (kW τ ad G1) H → va_S (kAd ad) s9.heap H locs → lv_has ls 3 [(0, .ref (ad (sB j))), (1, .ref (ad (rN j r))), (2, .int (nI i))] → W p9 l e9 { frames := 2, cells := 0, slots := 0, locals := 62 } s9 m9 args9 below9 meth9 c9 H locs 0 0 Q9 (F0 m9 2 ls []) := by
    intro d
    induction d with
    | zero => exact fun _ _ _ _ _ hd => absurd hd (Nat.not_lt_zero _)
    | succ d ih =>
      intro i G1 H locs ls hd iv_0 iv_1 iv_2 hP hS hl
      have er : G1 (rN j r) = G (rN j r) := iv_1 _ (fun c hc => by unfold rN cB cV cM; omega)
      have ew : G1 (rW j r) = G (rW j r) := iv_1 _ (fun c hc => by unfold rW cB cV cM; omega)
      have e3 : G1 (sB j) = G (sB j) := iv_1 _ (fun c hc => by unfold sB cB cV cM; omega)
      have ev : G1 (cV j i) = G (cV j i) := iv_1 _ (fun c hc => by unfold cB cV cM; omega)
      have em : G1 (cM j i) = G (cM j i) := iv_1 _ (fun c hc => by unfold cB cV cM; omega)
      have eb : G1 (cB j i) = G (cB j i) := iv_1 _ (fun c hc => by unfold cB cV cM; omega)
      refine lv_iload_n hx hb dX4_pushWrites_2 rfl (lv_at hl 2 rfl) ?_
      refine lv_bipush (v := nI 12) hx hb dX4_pushWrites_3 (by decide) ?_
      first
        | refine kic_ge (tgt := 41) hx hb dX4_pushWrites_5 (by decide) (by with_reducible rfl) (by with_reducible rfl) (by omega) (by omega) (fun c_5 => ?_) (fun c_5 => ?_)
        | refine lv_icmp_ge (tgt := 41) hx hb dX4_pushWrites_5 (by decide) (fun c_5 => ?_) (fun c_5 => ?_)
      · skip
        exact hret _ _ _ _ _ (by have ei : i = 12 := (by omega); rw [ei] at iv_1 iv_2; exact ⟨iv_2, iv_1⟩) hP hS dX4_pushWrites_41
      · skip
        refine lv_aload_n hx hb dX4_pushWrites_8 rfl (lv_at hl 1 rfl) ?_
        refine lv_iload_n hx hb dX4_pushWrites_9 rfl (lv_at hl 2 rfl) ?_
        refine kcV X hP hS (c_X3_hasWrite l hI (by first | assumption | omega) (by first | assumption | omega)) (oR (by first | assumption | omega) (by first | assumption | omega)) v_X4_86 ⟨Nat.le_of_ble_eq_true rfl, Nat.le_of_ble_eq_true rfl, rfl, rfl⟩ rfl rfl (Nat.le_of_ble_eq_true rfl) hl.1 ⟨Nat.zero_le _, Nat.zero_le _⟩ dX4_pushWrites_10 (fun r_10 G_10 H locs hR hP hS => ?_)
        obtain ⟨rfl, hG_10⟩ := hR
        rw [hG_10] at hP
        clear hG_10
        first
          | refine kif_eq (tgt := 35) hx hb dX4_pushWrites_13 (by decide) (fun c_13 => ?_) (fun c_13 => ?_)
          | refine lv_if_eq (tgt := 35) hx hb dX4_pushWrites_13 (by decide) (fun c_13 => ?_) (fun c_13 => ?_)
        · skip
          first
            | refine kinc (q := 2) hx hb dX4_pushWrites_35 hl rfl (by decide) (kp_3_2 rfl) (fun ls hl => ?_)
            | refine kincG (q := 2) hx hb dX4_pushWrites_35 hl rfl (by decide) (kp_3_2 rfl) (fun ls hl => ?_)
          refine lv_goto (tgt := 2) hx hb dX4_pushWrites_38 (by decide) ?_
          exact ih _ _ _ _ _ (by omega) (by omega) (fun k hk => iv_1 k (fun c hc => hk c (by omega))) (fun c hc => by
                  rcases Nat.lt_or_ge c i with q | q
                  · exact iv_2 c q
                  · have e : c = i := (by omega)
                    subst e
                    exact ⟨fun z => absurd (by rw [er]; exact z) c_13, fun _ => ⟨eb, ev, em⟩⟩) hP hS (lv_sub hl [0,1,2] rfl)
        · skip
          refine lv_aload_n hx hb dX4_pushWrites_16 rfl (lv_at hl 0 rfl) ?_
          refine kget X hP (oS (by first | assumption | omega)) g_X4_11 rfl dX4_pushWrites_17 ?_
          refine lv_iload_n hx hb dX4_pushWrites_20 rfl (lv_at hl 2 rfl) ?_
          refine kaald X hP (qC (by first | assumption | omega)) (by first | assumption | omega) rfl dX4_pushWrites_21 ?_
          refine lv_aload_n hx hb dX4_pushWrites_22 rfl (lv_at hl 1 rfl) ?_
          refine kget X hP (oR (by first | assumption | omega) (by first | assumption | omega)) g_X4_185 rfl dX4_pushWrites_23 ?_
          refine lv_iload_n hx hb dX4_pushWrites_26 rfl (lv_at hl 2 rfl) ?_
          refine kiald X hP (aW (by first | assumption | omega) (by first | assumption | omega)) (by omega) dX4_pushWrites_27 ?_
          refine lv_aload_n hx hb dX4_pushWrites_28 rfl (lv_at hl 0 rfl) ?_
          refine kget X hP (oS (by first | assumption | omega)) g_X4_56 rfl dX4_pushWrites_29 ?_
          refine kcVv X hP hS (c_X0_push l hI (P := P i) hj (by omega) (by rw [eb]; exact (hp i (by omega)).1) (hp i (by omega)).2) (oC (by first | assumption | omega) (by first | assumption | omega)) v_X4_188 ⟨Nat.le_of_ble_eq_true rfl, Nat.le_of_ble_eq_true rfl, rfl, rfl⟩ rfl rfl (Nat.le_of_ble_eq_true rfl) hl.1 ⟨Nat.zero_le _, Nat.zero_le _⟩ dX4_pushWrites_32 (fun G_32 H locs hR hP hS => ?_)
          have h_32 := hR
          first
            | refine kinc (q := 2) hx hb dX4_pushWrites_35 hl rfl (by decide) (kp_3_2 rfl) (fun ls hl => ?_)
            | refine kincG (q := 2) hx hb dX4_pushWrites_35 hl rfl (by decide) (kp_3_2 rfl) (fun ls hl => ?_)
          refine lv_goto (tgt := 2) hx hb dX4_pushWrites_38 (by decide) ?_
          exact ih _ _ _ _ _ (by omega) (by omega) (fun k hk => by rw [h_32.1 k (hk i (by omega)).1 (hk i (by omega)).2.1 (hk i (by omega)).2.2]; exact iv_1 k (fun c hc => hk c (by omega))) (fun c hc => by
                  rcases Nat.lt_or_ge c i with q | q
                  · have cs : CS G1 G_32 j c := ⟨h_32.1 _ (by unfold cB; omega) (by unfold cB cV; omega) (by unfold cB cM; omega), h_32.1 _ (by unfold cV cB; omega) (by unfold cV; omega) (by unfold cV cM; omega), h_32.1 _ (by unfold cM cB; omega) (by unfold cM cV; omega) (by unfold cM; omega)⟩
                    exact ⟨fun z => PU_to ((iv_2 c q).1 z) cs, fun z => CS_t ((iv_2 c q).2 z) cs⟩
                  · have e : c = i := (by omega)
                    subst e
                    have hh : PU G1 G_32 j c (P c) (G1 (rW j r) c) (G1 (sB j) 3) := h_32.2
                    rw [ew, e3] at hh
                    exact ⟨fun _ => PU_of hh ⟨eb, ev, em⟩, fun z => absurd (by rw [← er]; exact c_13) z⟩) hP hS (lv_sub hl [0,1,2] rfl)
  exact lp_2 _ 0 G _ _ _ (Nat.lt_succ_self _) (Nat.zero_le _) (fun _ _ => rfl) (fun c h => absurd h (by omega)) hP hS (lv_sub hl [0,1,2] rfl)

/-- of one state's block what another's holds -/
def CE (G G' : Nat → Nat → Int32) (j j2 c : Nat) : Prop := (∀ p, p < 10 → G' (cV j c) p = G (cV j2 c) p ∧ G' (cM j c) p = G (cM j2 c) p) ∧ G' (cB j c) 2 = G (cB j2 c) 2
def RE (G G' : Nat → Nat → Int32) (j j2 r : Nat) : Prop := (∀ p, p < 12 → G' (rW j r) p = G (rW j2 r) p) ∧ ∀ f, 1 ≤ f → f ≤ 8 → G' (rN j r) f = G (rN j2 r) f
def ME (G G' : Nat → Nat → Int32) (j j2 q : Nat) : Prop := ∀ f, f < 6 → G' (mC j q) f = G (mC j2 q) f
theorem CE_k {G G1 G2 : Nat → Nat → Int32} {j j2 c : Nat} (h : CE G G1 j j2 c) (q : CS G1 G2 j c) : CE G G2 j j2 c := by
  unfold CE
  rw [q.1, q.2.1, q.2.2]
  exact h
theorem RE_k {G G1 G2 : Nat → Nat → Int32} {j j2 r : Nat} (h : RE G G1 j j2 r) (q1 : G2 (rN j r) = G1 (rN j r)) (q2 : G2 (rW j r) = G1 (rW j r)) : RE G G2 j j2 r := by
  unfold RE
  rw [q1, q2]
  exact h
theorem ME_k {G G1 G2 : Nat → Nat → Int32} {j j2 q : Nat} (h : ME G G1 j j2 q) (q1 : G2 (mC j q) = G1 (mC j q)) : ME G G2 j j2 q := by
  unfold ME
  rw [q1]
  exact h
def CPY (G G' : Nat → Nat → Int32) (j j2 n k : Nat) : Prop := (∀ q, (q < sB j ∨ sB j + 161 ≤ q) → G' q = G q) ∧ (∀ c, c < 12 → CE G G' j j2 c) ∧ (∀ r, r < n → RE G G' j j2 r) ∧ (∀ q, q < k → ME G G' j j2 q) ∧ ∀ f, 3 ≤ f → f ≤ 9 → G' (sB j) f = G (sB j2) f
set_option maxHeartbeats 4000000 in
set_option maxRecDepth 100000 in
theorem c_X4_copyFrom (l : Launch) {D : va_G} {τ : Nat → ClassId} {ad : Nat → Nat} (hI : kInj ad) {G : Nat → Nat → Int32} {j j2 n k : Nat} (hj : j < 7) (hj2 : j2 < 7) (hne : j ≠ j2) (hn : G (sB j2) 6 = nI n) (hn4 : n ≤ 40) (hk : G (sB j2) 7 = nI k) (hk4 : k ≤ 40) (hz : ∀ r, r < n → G (rN j2 r) 8 = 0 ∨ G (rN j2 r) 8 = 1) (hy : G (sB j2) 9 = 0 ∨ G (sB j2) 9 = 1) : kMv l yX4_copyFrom cX4_copyFrom 3 { frames := 2, cells := 0, slots := 0, locals := 61 } D τ ad [.ref (ad (sB j)), .ref (ad (sB j2))] G (fun G' => CPY G G' j j2 n k) := by
  refine kMetV (own := RX4) (by decide) rfl (Nat.le_of_ble_eq_true rfl) ?_
  intro p9 e9 s9 m9 args9 below9 meth9 c9 Q9 X hx hb hP hS hret ls hl
  have hPs := hP
  have hl : lv_has ls 3 [(0, .ref (ad (sB j))), (1, .ref (ad (sB j2)))] := hl
  refine lv_iconst (v := nI 0) hx hb dX4_copyFrom_0 (by decide) ?_
  refine kist hx hb dX4_copyFrom_1 rfl hl (by decide) (kp_2_2 rfl) (fun ls hl => ?_)
  have lp_2 : ∀ (d : Nat) (i : Nat) (G1 : Nat → Nat → Int32) (H : Heap) (locs : List Loc) (ls : Array Slot), (12 - i) < d → (i ≤ 12) → (∀ q, (q < sB j ∨ sB j + 161 ≤ q) → G1 q = G q) → (∀ c, c < i → CE G G1 j j2 c) → va_P D vwCl (kW τ ad G1) H → va_S (kAd ad) s9.heap H locs → lv_has ls 3 [(0, .ref (ad (sB j))), (1, .ref (ad (sB j2))), (2, .int (nI i))] → W p9 l e9 { frames := 2, cells := 0, slots := 0, locals := 61 } s9 m9 args9 below9 meth9 c9 H locs 0 0 Q9 (F0 m9 2 ls []) := by
    intro d
    induction d with
    | zero => exact fun _ _ _ _ _ hd => absurd hd (Nat.not_lt_zero _)
    | succ d ih =>
      intro i G1 H locs ls hd iv_0 iv_1 iv_2 hP hS hl
      have ey : ∀ o, o < 161 → G1 (sB j2 + o) = G (sB j2 + o) := fun o ho => iv_1 _ (by unfold sB; omega)
      have e3 : G1 (sB j2) = G (sB j2) := ey 0 (by omega)
      refine lv_iload_n hx hb dX4_copyFrom_2 rfl (lv_at hl 2 rfl) ?_
      refine lv_bipush (v := nI 12) hx hb dX4_copyFrom_3 (by decide) ?_
      first
        | refine kic_ge (tgt := 29) hx hb dX4_copyFrom_5 (by decide) (by with_reducible rfl) (by with_reducible rfl) (by omega) (by omega) (fun c_5 => ?_) (fun c_5 => ?_)
        | refine lv_icmp_ge (tgt := 29) hx hb dX4_copyFrom_5 (by decide) (fun c_5 => ?_) (fun c_5 => ?_)
      · skip
        refine lv_iconst (v := nI 0) hx hb dX4_copyFrom_29 (by decide) ?_
        refine kist hx hb dX4_copyFrom_30 rfl hl (by decide) (kp_3_2 rfl) (fun ls hl => ?_)
        have lp_31 : ∀ (d : Nat) (i : Nat) (G1 : Nat → Nat → Int32) (H : Heap) (locs : List Loc) (ls : Array Slot), (n - i) < d → (i ≤ n) → (∀ q, (q < sB j ∨ sB j + 161 ≤ q) → G1 q = G q) → (∀ c, c < 12 → CE G G1 j j2 c) → (∀ r, r < i → RE G G1 j j2 r) → va_P D vwCl (kW τ ad G1) H → va_S (kAd ad) s9.heap H locs → lv_has ls 3 [(0, .ref (ad (sB j))), (1, .ref (ad (sB j2))), (2, .int (nI i))] → W p9 l e9 { frames := 2, cells := 0, slots := 0, locals := 61 } s9 m9 args9 below9 meth9 c9 H locs 0 0 Q9 (F0 m9 31 ls []) := by
          intro d
          induction d with
          | zero => exact fun _ _ _ _ _ hd => absurd hd (Nat.not_lt_zero _)
          | succ d ih =>
            intro i G1 H locs ls hd iv_0 iv_1 iv_2 iv_3 hP hS hl
            have ey : ∀ o, o < 161 → G1 (sB j2 + o) = G (sB j2 + o) := fun o ho => iv_1 _ (by unfold sB; omega)
            have e3 : G1 (sB j2) = G (sB j2) := ey 0 (by omega)
            refine lv_iload_n hx hb dX4_copyFrom_31 rfl (lv_at hl 2 rfl) ?_
            refine lv_aload_n hx hb dX4_copyFrom_32 rfl (lv_at hl 1 rfl) ?_
            refine kget X hP (oS (by first | assumption | omega)) g_X4_44 (congrArg (fun z => some (Value.int z)) (show G1 (sB j2) 6 = nI n from by rw [e3]; exact hn)) dX4_copyFrom_33 ?_
            first
              | refine kic_ge (tgt := 60) hx hb dX4_copyFrom_36 (by decide) (by with_reducible rfl) (by with_reducible rfl) (by omega) (by omega) (fun c_36 => ?_) (fun c_36 => ?_)
              | refine lv_icmp_ge (tgt := 60) hx hb dX4_copyFrom_36 (by decide) (fun c_36 => ?_) (fun c_36 => ?_)
            · skip
              refine lv_iconst (v := nI 0) hx hb dX4_copyFrom_60 (by decide) ?_
              refine kist hx hb dX4_copyFrom_61 rfl hl (by decide) (kp_3_2 rfl) (fun ls hl => ?_)
              have lp_62 : ∀ (d : Nat) (i : Nat) (G1 : Nat → Nat → Int32) (H : Heap) (locs : List Loc) (ls : Array Slot), (k - i) < d → (i ≤ k) → (∀ q, (q < sB j ∨ sB j + 161 ≤ q) → G1 q = G q) → (∀ c, c < 12 → CE G G1 j j2 c) → (∀ r, r < n → RE G G1 j j2 r) → (∀ q, q < i → ME G G1 j j2 q) → va_P D vwCl (kW τ ad G1) H → va_S (kAd ad) s9.heap H locs → lv_has ls 3 [(0, .ref (ad (sB j))), (1, .ref (ad (sB j2))), (2, .int (nI i))] → W p9 l e9 { frames := 2, cells := 0, slots := 0, locals := 61 } s9 m9 args9 below9 meth9 c9 H locs 0 0 Q9 (F0 m9 62 ls []) := by
                intro d
                induction d with
                | zero => exact fun _ _ _ _ _ hd => absurd hd (Nat.not_lt_zero _)
                | succ d ih =>
                  intro i G1 H locs ls hd iv_0 iv_1 iv_2 iv_3 iv_4 hP hS hl
                  have ey : ∀ o, o < 161 → G1 (sB j2 + o) = G (sB j2 + o) := fun o ho => iv_1 _ (by unfold sB; omega)
                  have e3 : G1 (sB j2) = G (sB j2) := ey 0 (by omega)
                  refine lv_iload_n hx hb dX4_copyFrom_62 rfl (lv_at hl 2 rfl) ?_
                  refine lv_aload_n hx hb dX4_copyFrom_63 rfl (lv_at hl 1 rfl) ?_
                  refine kget X hP (oS (by first | assumption | omega)) g_X4_50 (congrArg (fun z => some (Value.int z)) (show G1 (sB j2) 7 = nI k from by rw [e3]; exact hk)) dX4_copyFrom_64 ?_
                  first
                    | refine kic_ge (tgt := 91) hx hb dX4_copyFrom_67 (by decide) (by with_reducible rfl) (by with_reducible rfl) (by omega) (by omega) (fun c_67 => ?_) (fun c_67 => ?_)
                    | refine lv_icmp_ge (tgt := 91) hx hb dX4_copyFrom_67 (by decide) (fun c_67 => ?_) (fun c_67 => ?_)
                  · skip
                    have zs : sB j2 ≠ sB j := by unfold sB; omega
                    refine lv_aload_n hx hb dX4_copyFrom_91 rfl (lv_at hl 0 rfl) ?_
                    refine lv_aload_n hx hb dX4_copyFrom_92 rfl (lv_at hl 1 rfl) ?_
                    refine kget X hP (oS (by first | assumption | omega)) g_X4_56 rfl dX4_copyFrom_93 ?_
                    refine kput X hI hP hS (oS (by first | assumption | omega)) g_X4_56 (fun _ => rfl) rfl (fun _ => Nat.le_of_ble_eq_true rfl) rfl rfl dX4_copyFrom_96 (fun H locs hP hS => ?_)
                    refine lv_aload_n hx hb dX4_copyFrom_99 rfl (lv_at hl 0 rfl) ?_
                    refine lv_aload_n hx hb dX4_copyFrom_100 rfl (lv_at hl 1 rfl) ?_
                    refine kget X hP (oS (by first | assumption | omega)) g_X4_59 rfl dX4_copyFrom_101 ?_
                    refine kput X hI hP hS (oS (by first | assumption | omega)) g_X4_59 (fun _ => rfl) rfl (fun _ => Nat.le_of_ble_eq_true rfl) rfl rfl dX4_copyFrom_104 (fun H locs hP hS => ?_)
                    refine lv_aload_n hx hb dX4_copyFrom_107 rfl (lv_at hl 0 rfl) ?_
                    refine lv_aload_n hx hb dX4_copyFrom_108 rfl (lv_at hl 1 rfl) ?_
                    refine kget X hP (oS (by first | assumption | omega)) g_X4_29 rfl dX4_copyFrom_109 ?_
                    refine kput X hI hP hS (oS (by first | assumption | omega)) g_X4_29 (fun _ => rfl) rfl (fun _ => Nat.le_of_ble_eq_true rfl) rfl rfl dX4_copyFrom_112 (fun H locs hP hS => ?_)
                    refine lv_aload_n hx hb dX4_copyFrom_115 rfl (lv_at hl 0 rfl) ?_
                    refine lv_aload_n hx hb dX4_copyFrom_116 rfl (lv_at hl 1 rfl) ?_
                    refine kget X hP (oS (by first | assumption | omega)) g_X4_44 rfl dX4_copyFrom_117 ?_
                    refine kput X hI hP hS (oS (by first | assumption | omega)) g_X4_44 (fun _ => rfl) rfl (fun _ => Nat.le_of_ble_eq_true rfl) rfl rfl dX4_copyFrom_120 (fun H locs hP hS => ?_)
                    refine lv_aload_n hx hb dX4_copyFrom_123 rfl (lv_at hl 0 rfl) ?_
                    refine lv_aload_n hx hb dX4_copyFrom_124 rfl (lv_at hl 1 rfl) ?_
                    refine kget X hP (oS (by first | assumption | omega)) g_X4_50 rfl dX4_copyFrom_125 ?_
                    refine kput X hI hP hS (oS (by first | assumption | omega)) g_X4_50 (fun _ => rfl) rfl (fun _ => Nat.le_of_ble_eq_true rfl) rfl rfl dX4_copyFrom_128 (fun H locs hP hS => ?_)
                    refine lv_aload_n hx hb dX4_copyFrom_131 rfl (lv_at hl 0 rfl) ?_
                    refine lv_aload_n hx hb dX4_copyFrom_132 rfl (lv_at hl 1 rfl) ?_
                    refine kget X hP (oS (by first | assumption | omega)) g_X4_62 rfl dX4_copyFrom_133 ?_
                    refine kput X hI hP hS (oS (by first | assumption | omega)) g_X4_62 (fun _ => rfl) rfl (fun _ => Nat.le_of_ble_eq_true rfl) rfl rfl dX4_copyFrom_136 (fun H locs hP hS => ?_)
                    refine lv_aload_n hx hb dX4_copyFrom_139 rfl (lv_at hl 0 rfl) ?_
                    refine lv_aload_n hx hb dX4_copyFrom_140 rfl (lv_at hl 1 rfl) ?_
                    refine kget X hP (oS (by first | assumption | omega)) g_X4_65 rfl dX4_copyFrom_141 ?_
                    have hz2 : ∀ q : Int32, q = G1 (sB j2) 9 → narrow (tyX4 9) (.int q) = .int q ∧ fits (tyX4 9) (.int q) = true := fun q hq => by rw [e3] at hq; rcases hy with h | h <;> rw [hq, h] <;> exact ⟨rfl, rfl⟩
                    refine kput X hI hP hS (oS (by first | assumption | omega)) g_X4_65 (fun _ => rfl) rfl (fun _ => Nat.le_of_ble_eq_true rfl) (hz2 _ (by simp [gs, zs])).1 (hz2 _ (by simp [gs, zs])).2 dX4_copyFrom_144 (fun H locs hP hS => ?_)
                    exact hret _ _ _ _ _ (by
                        have ei : i = k := (by omega)
                        rw [ei] at iv_4
                        refine ⟨fun q hq => ?_, fun c hc => ?_, fun r hr => ?_, fun q hq => ?_, fun f h1 h2 => ?_⟩
                        · have zz : q ≠ sB j := (by omega)
                          rw [← iv_1 q hq]; funext f; simp [gs, zz]
                        · exact CE_k (iv_2 c hc) ⟨by have zz : cB j c ≠ sB j := (by unfold cB sB; omega)
                                                     funext f; simp [gs, zz], by have zz : cV j c ≠ sB j := (by unfold cV sB; omega)
                                                                                 funext f; simp [gs, zz], by have zz : cM j c ≠ sB j := (by unfold cM sB; omega)
                                                                                                             funext f; simp [gs, zz]⟩
                        · exact RE_k (iv_3 r hr) (by have zz : rN j r ≠ sB j := (by unfold rN sB; omega)
                                                     funext f; simp [gs, zz]) (by have zz : rW j r ≠ sB j := (by unfold rW sB; omega)
                                                                                  funext f; simp [gs, zz])
                        · exact ME_k (iv_4 q hq) (by have zz : mC j q ≠ sB j := (by unfold mC sB; omega)
                                                     funext f; simp [gs, zz])
                        · rw [← e3]; rcases (show f = 3 ∨ f = 4 ∨ f = 5 ∨ f = 6 ∨ f = 7 ∨ f = 8 ∨ f = 9 by omega) with h | h | h | h | h | h | h <;> subst h <;> simp [gs, zs]) hP hS dX4_copyFrom_147
                  · skip
                    refine lv_aload_n hx hb dX4_copyFrom_70 rfl (lv_at hl 0 rfl) ?_
                    refine kget X hP (oS (by first | assumption | omega)) g_X4_25 rfl dX4_copyFrom_71 ?_
                    refine lv_iload_n hx hb dX4_copyFrom_74 rfl (lv_at hl 2 rfl) ?_
                    refine kaald X hP (qM hj) (by first | assumption | omega) rfl dX4_copyFrom_75 ?_
                    refine lv_aload_n hx hb dX4_copyFrom_76 rfl (lv_at hl 1 rfl) ?_
                    refine kget X hP (oS (by first | assumption | omega)) g_X4_25 rfl dX4_copyFrom_77 ?_
                    refine lv_iload_n hx hb dX4_copyFrom_80 rfl (lv_at hl 2 rfl) ?_
                    refine kaald X hP (qM hj2) (by first | assumption | omega) rfl dX4_copyFrom_81 ?_
                    refine kcVv X hP hS (c_X1_copyFrom l hI hj (by omega) hj2 (by omega)) (oM hj (by omega)) v_X4_53 ⟨Nat.le_of_ble_eq_true rfl, Nat.le_of_ble_eq_true rfl, rfl, rfl⟩ rfl rfl (Nat.le_of_ble_eq_true rfl) hl.1 ⟨Nat.zero_le _, Nat.zero_le _⟩ dX4_copyFrom_82 (fun G_82 H locs hR hP hS => ?_)
                    have h_82 := hR
                    first
                      | refine kinc (q := 2) hx hb dX4_copyFrom_85 hl rfl (by decide) (kp_3_2 rfl) (fun ls hl => ?_)
                      | refine kincG (q := 2) hx hb dX4_copyFrom_85 hl rfl (by decide) (kp_3_2 rfl) (fun ls hl => ?_)
                    refine lv_goto (tgt := 62) hx hb dX4_copyFrom_88 (by decide) ?_
                    exact ih _ _ _ _ _ (by omega) (by omega) (fun q hq => by rw [h_82.1 q (by unfold mC; unfold sB at hq; omega)]; exact iv_1 q hq) (fun c hc => CE_k (iv_2 c hc) ⟨h_82.1 _ (by unfold cB mC; omega), h_82.1 _ (by unfold cV mC; omega), h_82.1 _ (by unfold cM mC; omega)⟩) (fun r hr => RE_k (iv_3 r hr) (h_82.1 _ (by unfold rN mC; omega)) (h_82.1 _ (by unfold rW mC; omega))) (fun q hq => by
                            rcases Nat.lt_or_ge q i with z | z
                            · exact ME_k (iv_4 q z) (h_82.1 _ (by unfold mC; omega))
                            · have e : q = i := (by omega)
                              subst e
                              have w1 : G1 (mC j2 q) = G (mC j2 q) := iv_1 _ (by unfold mC sB; omega)
                              have hh := h_82.2
                              rw [w1] at hh
                              exact hh) hP hS (lv_sub hl [0,1,2] rfl)
              exact lp_62 _ 0 G1 _ _ _ (Nat.lt_succ_self _) (Nat.zero_le _) (iv_1) (iv_2) (fun c hc => iv_3 c (by omega)) (fun c h => absurd h (by omega)) hP hS (lv_sub hl [0,1,2] rfl)
            · skip
              refine lv_aload_n hx hb dX4_copyFrom_39 rfl (lv_at hl 0 rfl) ?_
              refine kget X hP (oS (by first | assumption | omega)) g_X4_19 rfl dX4_copyFrom_40 ?_
              refine lv_iload_n hx hb dX4_copyFrom_43 rfl (lv_at hl 2 rfl) ?_
              refine kaald X hP (qR hj) (by first | assumption | omega) rfl dX4_copyFrom_44 ?_
              refine lv_aload_n hx hb dX4_copyFrom_45 rfl (lv_at hl 1 rfl) ?_
              refine kget X hP (oS (by first | assumption | omega)) g_X4_19 rfl dX4_copyFrom_46 ?_
              refine lv_iload_n hx hb dX4_copyFrom_49 rfl (lv_at hl 2 rfl) ?_
              refine kaald X hP (qR hj2) (by first | assumption | omega) rfl dX4_copyFrom_50 ?_
              refine kcVv X hP hS (c_X3_copyFrom l hI hj (by omega) hj2 (by omega) (by rw [show G1 (rN j2 i) = G (rN j2 i) from iv_1 _ (by unfold rN sB; omega)]; exact hz i (by omega))) (oR hj (by omega)) v_X4_47 ⟨Nat.le_of_ble_eq_true rfl, Nat.le_of_ble_eq_true rfl, rfl, rfl⟩ rfl rfl (Nat.le_of_ble_eq_true rfl) hl.1 ⟨Nat.zero_le _, Nat.zero_le _⟩ dX4_copyFrom_51 (fun G_51 H locs hR hP hS => ?_)
              have h_51 := hR
              first
                | refine kinc (q := 2) hx hb dX4_copyFrom_54 hl rfl (by decide) (kp_3_2 rfl) (fun ls hl => ?_)
                | refine kincG (q := 2) hx hb dX4_copyFrom_54 hl rfl (by decide) (kp_3_2 rfl) (fun ls hl => ?_)
              refine lv_goto (tgt := 31) hx hb dX4_copyFrom_57 (by decide) ?_
              exact ih _ _ _ _ _ (by omega) (by omega) (fun q hq => by rw [h_51.1 q (by unfold rN; unfold sB at hq; omega) (by unfold rW; unfold sB at hq; omega)]; exact iv_1 q hq) (fun c hc => CE_k (iv_2 c hc) ⟨h_51.1 _ (by unfold cB rN; omega) (by unfold cB rW; omega), h_51.1 _ (by unfold cV rN; omega) (by unfold cV rW; omega), h_51.1 _ (by unfold cM rN; omega) (by unfold cM rW; omega)⟩) (fun r hr => by
                      rcases Nat.lt_or_ge r i with q | q
                      · exact RE_k (iv_3 r q) (h_51.1 _ (by unfold rN; omega) (by unfold rN rW; omega)) (h_51.1 _ (by unfold rW rN; omega) (by unfold rW; omega))
                      · have e : r = i := (by omega)
                        subst e
                        have w1 : G1 (rN j2 r) = G (rN j2 r) := iv_1 _ (by unfold rN sB; omega)
                        have w2 : G1 (rW j2 r) = G (rW j2 r) := iv_1 _ (by unfold rW sB; omega)
                        have hh := h_51.2
                        rw [w1, w2] at hh
                        exact hh) hP hS (lv_sub hl [0,1,2] rfl)
        exact lp_31 _ 0 G1 _ _ _ (Nat.lt_succ_self _) (Nat.zero_le _) (iv_1) (fun c hc => iv_2 c (by omega)) (fun c h => absurd h (by omega)) hP hS (lv_sub hl [0,1,2] rfl)
      · skip
        refine lv_aload_n hx hb dX4_copyFrom_8 rfl (lv_at hl 0 rfl) ?_
        refine kget X hP (oS (by first | assumption | omega)) g_X4_11 rfl dX4_copyFrom_9 ?_
        refine lv_iload_n hx hb dX4_copyFrom_12 rfl (lv_at hl 2 rfl) ?_
        refine kaald X hP (qC hj) (by first | assumption | omega) rfl dX4_copyFrom_13 ?_
        refine lv_aload_n hx hb dX4_copyFrom_14 rfl (lv_at hl 1 rfl) ?_
        refine kget X hP (oS (by first | assumption | omega)) g_X4_11 rfl dX4_copyFrom_15 ?_
        refine lv_iload_n hx hb dX4_copyFrom_18 rfl (lv_at hl 2 rfl) ?_
        refine kaald X hP (qC hj2) (by first | assumption | omega) rfl dX4_copyFrom_19 ?_
        refine kcVv X hP hS (c_X0_copyFrom l hI hj (by omega) hj2 (by omega)) (oC hj (by omega)) v_X4_40 ⟨Nat.le_of_ble_eq_true rfl, Nat.le_of_ble_eq_true rfl, rfl, rfl⟩ rfl rfl (Nat.le_of_ble_eq_true rfl) hl.1 ⟨Nat.zero_le _, Nat.zero_le _⟩ dX4_copyFrom_20 (fun G_20 H locs hR hP hS => ?_)
        have h_20 := hR
        first
          | refine kinc (q := 2) hx hb dX4_copyFrom_23 hl rfl (by decide) (kp_3_2 rfl) (fun ls hl => ?_)
          | refine kincG (q := 2) hx hb dX4_copyFrom_23 hl rfl (by decide) (kp_3_2 rfl) (fun ls hl => ?_)
        refine lv_goto (tgt := 2) hx hb dX4_copyFrom_26 (by decide) ?_
        exact ih _ _ _ _ _ (by omega) (by omega) (fun q hq => by rw [h_20.1 q (by unfold cB; unfold sB at hq; omega) (by unfold cV; unfold sB at hq; omega) (by unfold cM; unfold sB at hq; omega)]; exact iv_1 q hq) (fun c hc => by
                rcases Nat.lt_or_ge c i with q | q
                · exact CE_k (iv_2 c q) ⟨h_20.1 _ (by unfold cB; omega) (by unfold cB cV; omega) (by unfold cB cM; omega), h_20.1 _ (by unfold cV cB; omega) (by unfold cV; omega) (by unfold cV cM; omega), h_20.1 _ (by unfold cM cB; omega) (by unfold cM cV; omega) (by unfold cM; omega)⟩
                · have e : c = i := (by omega)
                  subst e
                  have w1 : G1 (cV j2 c) = G (cV j2 c) := iv_1 _ (by unfold cV sB; omega)
                  have w2 : G1 (cM j2 c) = G (cM j2 c) := iv_1 _ (by unfold cM sB; omega)
                  have w3 : G1 (cB j2 c) = G (cB j2 c) := iv_1 _ (by unfold cB sB; omega)
                  have hh := h_20.2
                  rw [w1, w2, w3] at hh
                  exact hh) hP hS (lv_sub hl [0,1,2] rfl)
  exact lp_2 _ 0 G _ _ _ (Nat.lt_succ_self _) (Nat.zero_le _) (fun _ _ => rfl) (fun c h => absurd h (by omega)) hP hS (lv_sub hl [0,1,2] rfl)
end
section

def CB (G G' : Nat → Nat → Int32) (j j2 n k : Nat) : Prop := (∀ c, c < 12 → CE G G' j j2 c) ∧ (∀ r, r < n → RE G G' j j2 r) ∧ (∀ q, q < k → ME G G' j j2 q) ∧ ∀ f, 3 ≤ f → f ≤ 9 → G' (sB j) f = G (sB j2) f
def rotP (pi : Nat → Nat) (L t : Nat) : Nat := if L = 4 then (if t < 3 then pi (t + 1) else pi 0) else pi t
def rotL (L : Nat) : Nat := if L = 4 then 3 else L
theorem rotL_lt {L : Nat} (h : L ≤ 4) : rotL L < 4 := by unfold rotL; split <;> omega
theorem rotP_all {pi : Nat → Nat} {L t : Nat} {Z : Nat → Prop} (h : ∀ t, t < 4 → Z (pi t)) (ht : t < 4) : Z (rotP pi L t) := by
  unfold rotP
  split
  · split
    · exact h _ (by omega)
    · exact h _ (by omega)
  · exact h _ ht
theorem CB_of {G G1 G2 : Nat → Nat → Int32} {j j2 n k : Nat} (h : CB G1 G2 j j2 n k) (e : ∀ o, o < 161 → G1 (sB j2 + o) = G (sB j2 + o)) (hn : n ≤ 40) (hk : k ≤ 40) : CB G G2 j j2 n k := by
  obtain ⟨h1, h2, h3, h4⟩ := h
  have eo : ∀ (q o : Nat), o < 161 → q = sB j2 + o → G1 q = G q := fun q o ho hq => by rw [hq]; exact e o ho
  refine ⟨fun c hc => ?_, fun r hr => ?_, fun q hq => ?_, fun f f1 f2 => ?_⟩
  · have := h1 c hc
    unfold CE at this ⊢
    rw [eo (cV j2 c) (6 + 3 * c) (by omega) (by unfold cV sB; omega), eo (cM j2 c) (7 + 3 * c) (by omega) (by unfold cM sB; omega), eo (cB j2 c) (5 + 3 * c) (by omega) (by unfold cB sB; omega)] at this
    exact this
  · have := h2 r hr
    unfold RE at this ⊢
    rw [eo (rW j2 r) (42 + 2 * r) (by omega) (by unfold rW sB; omega), eo (rN j2 r) (41 + 2 * r) (by omega) (by unfold rN sB; omega)] at this
    exact this
  · have := h3 q hq
    unfold ME at this ⊢
    rw [eo (mC j2 q) (121 + q) (by omega) (by unfold mC sB; omega)] at this
    exact this
  · have := h4 f f1 f2
    rw [eo (sB j2) 0 (by omega) (by omega)] at this
    exact this
theorem CB_to {G G1 G2 : Nat → Nat → Int32} {j j2 n k : Nat} (h : CB G G1 j j2 n k) (e : ∀ o, o < 161 → G2 (sB j + o) = G1 (sB j + o)) (hn : n ≤ 40) (hk : k ≤ 40) : CB G G2 j j2 n k := by
  obtain ⟨h1, h2, h3, h4⟩ := h
  have eo : ∀ (q o : Nat), o < 161 → q = sB j + o → G2 q = G1 q := fun q o ho hq => by rw [hq]; exact e o ho
  refine ⟨fun c hc => ?_, fun r hr => ?_, fun q hq => ?_, fun f f1 f2 => ?_⟩
  · exact CE_k (h1 c hc) ⟨eo (cB j c) (5 + 3 * c) (by omega) (by unfold cB sB; omega), eo (cV j c) (6 + 3 * c) (by omega) (by unfold cV sB; omega), eo (cM j c) (7 + 3 * c) (by omega) (by unfold cM sB; omega)⟩
  · exact RE_k (h2 r hr) (eo (rN j r) (41 + 2 * r) (by omega) (by unfold rN sB; omega)) (eo (rW j r) (42 + 2 * r) (by omega) (by unfold rW sB; omega))
  · exact ME_k (h3 q hq) (eo (mC j q) (121 + q) (by omega) (by unfold mC sB; omega))
  · rw [eo (sB j) 0 (by omega) (by omega)]
    exact h4 f f1 f2
theorem CPY_cb {G G' : Nat → Nat → Int32} {j j2 n k : Nat} (h : CPY G G' j j2 n k) : CB G G' j j2 n k := h.2
set_option maxHeartbeats 4000000 in
set_option maxRecDepth 100000 in
theorem c_X2_dropOldest (l : Launch) {D : va_G} {τ : Nat → ClassId} {ad : Nat → Nat} (hI : kInj ad) {G : Nat → Nat → Int32} {pi : Nat → Nat} (hpi : ∀ t, t < 4 → G 9 t = nI (pi t) ∧ pi t < 7) : kMv l yX2_dropOldest cX2_dropOldest 3 { frames := 0, cells := 0, slots := 0, locals := 0 } D τ ad [.ref (ad 8)] G (fun G' => (∀ k, k ≠ 8 → k ≠ 9 → G' k = G k) ∧ (∀ t, t < 4 → G' 9 t = nI (rotP pi 4 t)) ∧ G' 8 1 = nI 3) := by
  refine kMetV (own := RX2) (by decide) rfl (Nat.le_of_ble_eq_true rfl) ?_
  intro p9 e9 s9 m9 args9 below9 meth9 c9 Q9 X hx hb hP hS hret ls hl
  have hPs := hP
  have hl : lv_has ls 3 [(0, .ref (ad 8))] := hl
  refine lv_aload_n hx hb dX2_dropOldest_0 rfl (lv_at hl 0 rfl) ?_
  refine kget X hP oH g_X2_11 rfl dX2_dropOldest_1 ?_
  refine lv_iconst (v := nI 0) hx hb dX2_dropOldest_4 (by decide) ?_
  refine kaald X hP qH (by omega) (show _ = sB (pi 0) from congrArg sB (by rw [(hpi 0 (by omega)).1, nI_clamp (by have := (hpi 0 (by omega)).2; omega)])) dX2_dropOldest_5 ?_
  refine kast hx hb dX2_dropOldest_6 rfl hl (by decide) (kp_1_1 rfl) (fun ls hl => ?_)
  refine lv_iconst (v := nI 1) hx hb dX2_dropOldest_7 (by decide) ?_
  refine kist hx hb dX2_dropOldest_8 rfl hl (by decide) (kp_2_2 rfl) (fun ls hl => ?_)
  have lp_9 : ∀ (d : Nat) (i : Nat) (G1 : Nat → Nat → Int32) (H : Heap) (locs : List Loc) (ls : Array Slot), (4 - i) < d → (1 ≤ i ∧ i ≤ 4) → (∀ k, k ≠ 9 → G1 k = G k) → (∀ t, t < 4 → G1 9 t = nI (if t + 1 < i then pi (t + 1) else pi t)) → va_P D vwCl (kW τ ad G1) H → va_S (kAd ad) s9.heap H locs → lv_has ls 3 [(0, .ref (ad 8)), (1, .ref (ad (sB (pi 0)))), (2, .int (nI i))] → W p9 l e9 { frames := 0, cells := 0, slots := 0, locals := 0 } s9 m9 args9 below9 meth9 c9 H locs 0 0 Q9 (F0 m9 9 ls []) := by
    intro d
    induction d with
    | zero => exact fun _ _ _ _ _ hd => absurd hd (Nat.not_lt_zero _)
    | succ d ih =>
      intro i G1 H locs ls hd iv_0 iv_1 iv_2 hP hS hl
      refine lv_iload_n hx hb dX2_dropOldest_9 rfl (lv_at hl 2 rfl) ?_
      refine lv_iconst (v := nI 4) hx hb dX2_dropOldest_10 (by decide) ?_
      first
        | refine kic_ge (tgt := 34) hx hb dX2_dropOldest_11 (by decide) (by with_reducible rfl) (by with_reducible rfl) (by omega) (by omega) (fun c_11 => ?_) (fun c_11 => ?_)
        | refine lv_icmp_ge (tgt := 34) hx hb dX2_dropOldest_11 (by decide) (fun c_11 => ?_) (fun c_11 => ?_)
      · skip
        refine lv_aload_n hx hb dX2_dropOldest_34 rfl (lv_at hl 0 rfl) ?_
        refine kget X hP oH g_X2_11 rfl dX2_dropOldest_35 ?_
        refine lv_iconst (v := nI 3) hx hb dX2_dropOldest_38 (by decide) ?_
        refine lv_aload_n hx hb dX2_dropOldest_39 rfl (lv_at hl 1 rfl) ?_
        refine kaast X hI hP hS (by omega) (hpi 0 (by omega)).2 dX2_dropOldest_40 (fun H locs hP hS => ?_)
        refine lv_aload_n hx hb dX2_dropOldest_41 rfl (lv_at hl 0 rfl) ?_
        refine lv_iconst (v := nI 3) hx hb dX2_dropOldest_42 (by decide) ?_
        refine kput X hI hP hS oH g_X2_18 (fun _ => rfl) rfl (fun _ => Nat.le_of_ble_eq_true rfl) rfl rfl dX2_dropOldest_43 (fun H locs hP hS => ?_)
        exact hret _ _ _ _ _ (by
            have ei : i = 4 := (by omega)
            rw [ei] at iv_2
            refine ⟨fun k h1 h2 => by rw [gs_other h1, gs_other h2]; exact iv_1 k h2, fun t ht => ?_, by simp [gs]⟩
            rw [gs_other (by omega), rotP, if_pos rfl]
            by_cases e : t = 3
            · subst e; simp [gs]
            · have q := iv_2 t ht
              rw [if_pos (by omega)] at q ⊢
              simp only [gs, e, and_false, if_false]; exact q) hP hS dX2_dropOldest_46
      · skip
        refine lv_aload_n hx hb dX2_dropOldest_14 rfl (lv_at hl 0 rfl) ?_
        refine kget X hP oH g_X2_11 rfl dX2_dropOldest_15 ?_
        refine lv_iload_n hx hb dX2_dropOldest_18 rfl (lv_at hl 2 rfl) ?_
        refine lv_iconst (v := nI 1) hx hb dX2_dropOldest_19 (by decide) ?_
        first
          | refine ksub hx hb dX2_dropOldest_20 (by with_reducible rfl) (by with_reducible rfl) (by omega) ?_
          | refine lv_isub hx hb dX2_dropOldest_20 ?_
        refine lv_aload_n hx hb dX2_dropOldest_21 rfl (lv_at hl 0 rfl) ?_
        refine kget X hP oH g_X2_11 rfl dX2_dropOldest_22 ?_
        refine lv_iload_n hx hb dX2_dropOldest_25 rfl (lv_at hl 2 rfl) ?_
        refine kaald X hP qH (by omega) (show _ = sB (pi i) from congrArg sB (by rw [iv_2 i (by omega), if_neg (by omega), nI_clamp (by have := (hpi i (by omega)).2; omega)])) dX2_dropOldest_26 ?_
        refine kaast X hI hP hS (by omega) (hpi i (by omega)).2 dX2_dropOldest_27 (fun H locs hP hS => ?_)
        first
          | refine kinc (q := 2) hx hb dX2_dropOldest_28 hl rfl (by decide) (kp_3_2 rfl) (fun ls hl => ?_)
          | refine kincG (q := 2) hx hb dX2_dropOldest_28 hl rfl (by decide) (kp_3_2 rfl) (fun ls hl => ?_)
        refine lv_goto (tgt := 9) hx hb dX2_dropOldest_31 (by decide) ?_
        exact ih _ _ _ _ _ (by omega) (by omega) (fun k hk => by rw [gs_other hk]; exact iv_1 k hk) (fun t ht => by
                by_cases e : t = i - 1
                · rw [if_pos (by omega), e, show i - 1 + 1 = i by omega]; simp [gs]
                · have q := iv_2 t ht
                  simp only [gs, e, and_false, if_false]
                  rw [q]
                  by_cases z : t + 1 < i
                  · rw [if_pos z, if_pos (by omega)]
                  · rw [if_neg z, if_neg (by omega)]) hP hS (lv_sub hl [0,1,2] rfl)
  exact lp_9 _ 1 G _ _ _ (Nat.lt_succ_self _) (⟨Nat.le_refl _, by omega⟩) (fun _ _ => rfl) (fun t ht => by rw [if_neg (by omega)]; exact (hpi t ht).1) hP hS (lv_sub hl [0,1,2] rfl)

set_option maxHeartbeats 4000000 in
set_option maxRecDepth 100000 in
theorem c_X2_record (l : Launch) {D : va_G} {τ : Nat → ClassId} {ad : Nat → Nat} (hI : kInj ad) {G : Nat → Nat → Int32} {j n k L : Nat} {pi : Nat → Nat} (hj : j < 7) (hL : G 8 1 = nI L) (hL4 : L ≤ 4) (hpi : ∀ t, t < 4 → G 9 t = nI (pi t) ∧ pi t < 7) (hne : ∀ t, t < 4 → pi t ≠ j) (hn : G (sB j) 6 = nI n) (hn4 : n ≤ 40) (hk : G (sB j) 7 = nI k) (hk4 : k ≤ 40) (hz : ∀ r, r < n → G (rN j r) 8 = 0 ∨ G (rN j r) 8 = 1) (hy : G (sB j) 9 = 0 ∨ G (sB j) 9 = 1) : kMv l yX2_record cX2_record 2 { frames := 3, cells := 0, slots := 0, locals := 83 } D τ ad [.ref (ad 8), .ref (ad (sB j))] G (fun G' => G' 8 1 = nI (rotL L + 1) ∧ (∀ t, t < 4 → G' 9 t = nI (rotP pi L t)) ∧ (∀ q, q ≠ 8 → q ≠ 9 → (q < sB (rotP pi L (rotL L)) ∨ sB (rotP pi L (rotL L)) + 161 ≤ q) → G' q = G q) ∧ CB G G' (rotP pi L (rotL L)) j n k) := by
  refine kMetV (own := RX2) (by decide) rfl (Nat.le_of_ble_eq_true rfl) ?_
  intro p9 e9 s9 m9 args9 below9 meth9 c9 Q9 X hx hb hP hS hret ls hl
  have hPs := hP
  have hl : lv_has ls 2 [(0, .ref (ad 8)), (1, .ref (ad (sB j)))] := hl
  refine lv_aload_n hx hb dX2_record_0 rfl (lv_at hl 0 rfl) ?_
  refine kget X hP oH g_X2_18 (congrArg (fun z => some (Value.int z)) hL) dX2_record_1 ?_
  refine lv_iconst (v := nI 4) hx hb dX2_record_4 (by decide) ?_
  first
    | refine kic_lt (tgt := 12) hx hb dX2_record_5 (by decide) (by with_reducible rfl) (by with_reducible rfl) (by omega) (by omega) (fun c_5 => ?_) (fun c_5 => ?_)
    | refine lv_icmp_lt (tgt := 12) hx hb dX2_record_5 (by decide) (fun c_5 => ?_) (fun c_5 => ?_)
  · skip
    have hx1 : G 8 1 = nI (rotL L) := by rw [rotL, if_neg (by omega)]; exact hL
    have hx2 : ∀ t, t < 4 → G 9 t = nI (rotP pi L t) := fun t ht => by rw [rotP, if_neg (by omega)]; exact (hpi t ht).1
    have hx3 : ∀ q, 14 ≤ q → G q = G q := fun _ _ => rfl
    refine lv_aload_n hx hb dX2_record_12 rfl (lv_at hl 0 rfl) ?_
    refine kget X hP oH g_X2_11 rfl dX2_record_13 ?_
    refine lv_aload_n hx hb dX2_record_16 rfl (lv_at hl 0 rfl) ?_
    refine kget X hP oH g_X2_18 (congrArg (fun z => some (Value.int z)) hx1) dX2_record_17 ?_
    refine kaald X hP qH (rotL_lt hL4) (show _ = sB (rotP pi L (rotL L)) from congrArg sB (by rw [hx2 _ (rotL_lt hL4), nI_clamp (by have := rotP_all (L := L) (Z := fun q => q < 7) (fun t ht => (hpi t ht).2) (rotL_lt hL4); omega)])) dX2_record_20 ?_
    refine lv_aload_n hx hb dX2_record_21 rfl (lv_at hl 1 rfl) ?_
    refine kcVv X hP hS (c_X4_copyFrom l hI (n := n) (k := k) (rotP_all (Z := fun q => q < 7) (fun t ht => (hpi t ht).2) (rotL_lt hL4)) hj (rotP_all (Z := fun q => q ≠ j) hne (rotL_lt hL4)) (by rw [hx3 _ (by unfold sB; omega)]; exact hn) hn4 (by rw [hx3 _ (by unfold sB; omega)]; exact hk) hk4 (fun r hr => by rw [hx3 _ (by unfold rN; omega)]; exact hz r hr) (by rw [hx3 _ (by unfold sB; omega)]; exact hy)) (oS (rotP_all (Z := fun q => q < 7) (fun t ht => (hpi t ht).2) (rotL_lt hL4))) v_X2_25 ⟨Nat.le_of_ble_eq_true rfl, Nat.le_of_ble_eq_true rfl, rfl, rfl⟩ rfl rfl (Nat.le_of_ble_eq_true rfl) hl.1 ⟨Nat.zero_le _, Nat.zero_le _⟩ dX2_record_22 (fun G_22 H locs hR hP hS => ?_)
    have h_22 := hR
    refine lv_aload_n hx hb dX2_record_25 rfl (lv_at hl 0 rfl) ?_
    refine lv_dup hx hb dX2_record_26 rfl ?_
    refine kget X hP oH g_X2_18 (congrArg (fun z => some (Value.int z)) (show _ = nI (rotL L) from (h_22.1 8 (by unfold sB; omega) ▸ hx1 : _ = nI (rotL L)))) dX2_record_27 ?_
    refine lv_iconst (v := nI 1) hx hb dX2_record_30 (by decide) ?_
    first
      | refine kadd hx hb dX2_record_31 (by with_reducible rfl) (by with_reducible rfl) ?_
      | refine lv_iadd hx hb dX2_record_31 ?_
    refine kput X hI hP hS oH g_X2_18 (fun _ => rfl) rfl (fun _ => Nat.le_of_ble_eq_true rfl) rfl rfl dX2_record_32 (fun H locs hP hS => ?_)
    exact hret _ _ _ _ _ (by
        refine ⟨by simp [gs], fun t ht => ?_, fun q h1 h2 h3 => ?_, ?_⟩
        · rw [gs_other (by omega), h_22.1 9 (by unfold sB; omega)]; exact hx2 t ht
        · exact (gs_other h1).trans ((h_22.1 q h3).trans (by first | rfl | exact h_9.1 q h1 h2))
        · exact CB_to (CB_of (CPY_cb h_22) (fun o ho => hx3 _ (by unfold sB; omega)) hn4 hk4) (fun o ho => gs_other (by unfold sB; omega)) hn4 hk4) hP hS dX2_record_35
  · skip
    skip
    refine lv_aload_n hx hb dX2_record_8 rfl (lv_at hl 0 rfl) ?_
    refine kcVv X hP hS (c_X2_dropOldest l hI hpi) oH v_X2_22 ⟨Nat.le_of_ble_eq_true rfl, Nat.le_of_ble_eq_true rfl, rfl, rfl⟩ rfl rfl (Nat.le_of_ble_eq_true rfl) hl.1 ⟨Nat.zero_le _, Nat.zero_le _⟩ dX2_record_9 (fun G_9 H locs hR hP hS => ?_)
    have h_9 := hR
    have hx1 : G_9 8 1 = nI (rotL L) := by rw [rotL, if_pos (by omega)]; exact h_9.2.2
    have hx2 : ∀ t, t < 4 → G_9 9 t = nI (rotP pi L t) := fun t ht => by rw [show L = 4 by omega]; exact h_9.2.1 t ht
    have hx3 : ∀ q, 14 ≤ q → G_9 q = G q := fun q hq => h_9.1 q (by omega) (by omega)
    refine lv_aload_n hx hb dX2_record_12 rfl (lv_at hl 0 rfl) ?_
    refine kget X hP oH g_X2_11 rfl dX2_record_13 ?_
    refine lv_aload_n hx hb dX2_record_16 rfl (lv_at hl 0 rfl) ?_
    refine kget X hP oH g_X2_18 (congrArg (fun z => some (Value.int z)) hx1) dX2_record_17 ?_
    refine kaald X hP qH (rotL_lt hL4) (show _ = sB (rotP pi L (rotL L)) from congrArg sB (by rw [hx2 _ (rotL_lt hL4), nI_clamp (by have := rotP_all (L := L) (Z := fun q => q < 7) (fun t ht => (hpi t ht).2) (rotL_lt hL4); omega)])) dX2_record_20 ?_
    refine lv_aload_n hx hb dX2_record_21 rfl (lv_at hl 1 rfl) ?_
    refine kcVv X hP hS (c_X4_copyFrom l hI (n := n) (k := k) (rotP_all (Z := fun q => q < 7) (fun t ht => (hpi t ht).2) (rotL_lt hL4)) hj (rotP_all (Z := fun q => q ≠ j) hne (rotL_lt hL4)) (by rw [hx3 _ (by unfold sB; omega)]; exact hn) hn4 (by rw [hx3 _ (by unfold sB; omega)]; exact hk) hk4 (fun r hr => by rw [hx3 _ (by unfold rN; omega)]; exact hz r hr) (by rw [hx3 _ (by unfold sB; omega)]; exact hy)) (oS (rotP_all (Z := fun q => q < 7) (fun t ht => (hpi t ht).2) (rotL_lt hL4))) v_X2_25 ⟨Nat.le_of_ble_eq_true rfl, Nat.le_of_ble_eq_true rfl, rfl, rfl⟩ rfl rfl (Nat.le_of_ble_eq_true rfl) hl.1 ⟨Nat.zero_le _, Nat.zero_le _⟩ dX2_record_22 (fun G_22 H locs hR hP hS => ?_)
    have h_22 := hR
    refine lv_aload_n hx hb dX2_record_25 rfl (lv_at hl 0 rfl) ?_
    refine lv_dup hx hb dX2_record_26 rfl ?_
    refine kget X hP oH g_X2_18 (congrArg (fun z => some (Value.int z)) (show _ = nI (rotL L) from (h_22.1 8 (by unfold sB; omega) ▸ hx1 : _ = nI (rotL L)))) dX2_record_27 ?_
    refine lv_iconst (v := nI 1) hx hb dX2_record_30 (by decide) ?_
    first
      | refine kadd hx hb dX2_record_31 (by with_reducible rfl) (by with_reducible rfl) ?_
      | refine lv_iadd hx hb dX2_record_31 ?_
    refine kput X hI hP hS oH g_X2_18 (fun _ => rfl) rfl (fun _ => Nat.le_of_ble_eq_true rfl) rfl rfl dX2_record_32 (fun H locs hP hS => ?_)
    exact hret _ _ _ _ _ (by
        refine ⟨by simp [gs], fun t ht => ?_, fun q h1 h2 h3 => ?_, ?_⟩
        · rw [gs_other (by omega), h_22.1 9 (by unfold sB; omega)]; exact hx2 t ht
        · exact (gs_other h1).trans ((h_22.1 q h3).trans (by first | rfl | exact h_9.1 q h1 h2))
        · exact CB_to (CB_of (CPY_cb h_22) (fun o ho => hx3 _ (by unfold sB; omega)) hn4 hk4) (fun o ho => gs_other (by unfold sB; omega)) hn4 hk4) hP hS dX2_record_35

set_option maxHeartbeats 4000000 in
set_option maxRecDepth 100000 in
theorem c_X2_bringBack (l : Launch) {D : va_G} {τ : Nat → ClassId} {ad : Nat → Nat} (hI : kInj ad) {G : Nat → Nat → Int32} {j n k L : Nat} {pi : Nat → Nat} (hj : j < 7) (hL : G 8 1 = nI L) (hL1 : 1 ≤ L) (hL4 : L ≤ 4) (hpi : ∀ t, t < 4 → G 9 t = nI (pi t) ∧ pi t < 7) (hne : j ≠ pi (L - 1)) (hn : G (sB (pi (L - 1))) 6 = nI n) (hn4 : n ≤ 40) (hk : G (sB (pi (L - 1))) 7 = nI k) (hk4 : k ≤ 40) (hz : ∀ r, r < n → G (rN (pi (L - 1)) r) 8 = 0 ∨ G (rN (pi (L - 1)) r) 8 = 1) (hy : G (sB (pi (L - 1))) 9 = 0 ∨ G (sB (pi (L - 1))) 9 = 1) : kMv l yX2_bringBack cX2_bringBack 2 { frames := 3, cells := 0, slots := 0, locals := 83 } D τ ad [.ref (ad 8), .ref (ad (sB j))] G (fun G' => G' 8 1 = nI (L - 1) ∧ (∀ q, q ≠ 8 → (q < sB j ∨ sB j + 161 ≤ q) → G' q = G q) ∧ CB G G' j (pi (L - 1)) n k) := by
  refine kMetV (own := RX2) (by decide) rfl (Nat.le_of_ble_eq_true rfl) ?_
  intro p9 e9 s9 m9 args9 below9 meth9 c9 Q9 X hx hb hP hS hret ls hl
  have hPs := hP
  have hl : lv_has ls 2 [(0, .ref (ad 8)), (1, .ref (ad (sB j)))] := hl
  refine lv_aload_n hx hb dX2_bringBack_0 rfl (lv_at hl 0 rfl) ?_
  refine kget X hP oH g_X2_18 (congrArg (fun z => some (Value.int z)) hL) dX2_bringBack_1 ?_
  refine lv_if_le (tgt := 30) hx hb dX2_bringBack_4 (by decide) (fun c_4 => ?_) (fun c_4 => ?_)
  · skip
    exact absurd c_4 (nI_nle (by omega) (by omega))
  · skip
    refine lv_aload_n hx hb dX2_bringBack_7 rfl (lv_at hl 0 rfl) ?_
    refine lv_dup hx hb dX2_bringBack_8 rfl ?_
    refine kget X hP oH g_X2_18 (congrArg (fun z => some (Value.int z)) hL) dX2_bringBack_9 ?_
    refine lv_iconst (v := nI 1) hx hb dX2_bringBack_12 (by decide) ?_
    first
      | refine ksub hx hb dX2_bringBack_13 (by with_reducible rfl) (by with_reducible rfl) (by omega) ?_
      | refine lv_isub hx hb dX2_bringBack_13 ?_
    refine kput X hI hP hS oH g_X2_18 (fun _ => rfl) rfl (fun _ => Nat.le_of_ble_eq_true rfl) rfl rfl dX2_bringBack_14 (fun H locs hP hS => ?_)
    refine lv_aload_n hx hb dX2_bringBack_17 rfl (lv_at hl 1 rfl) ?_
    refine lv_aload_n hx hb dX2_bringBack_18 rfl (lv_at hl 0 rfl) ?_
    refine kget X hP oH g_X2_11 rfl dX2_bringBack_19 ?_
    refine lv_aload_n hx hb dX2_bringBack_22 rfl (lv_at hl 0 rfl) ?_
    refine kget X hP oH g_X2_18 (congrArg (fun z => some (Value.int z)) (by simp [gs] : _ = nI (L - 1))) dX2_bringBack_23 ?_
    refine kaald X hP qH (by omega) (show _ = sB (pi (L - 1)) from congrArg sB (by rw [gs_other (by omega), (hpi (L - 1) (by omega)).1, nI_clamp (by have := (hpi (L - 1) (by omega)).2; omega)])) dX2_bringBack_26 ?_
    refine kcVv X hP hS (c_X4_copyFrom l hI (n := n) (k := k) hj (hpi (L - 1) (by omega)).2 hne (by rw [gs_other (by unfold sB; omega)]; exact hn) hn4 (by rw [gs_other (by unfold sB; omega)]; exact hk) hk4 (fun r hr => by rw [gs_other (by unfold rN; omega)]; exact hz r hr) (by rw [gs_other (by unfold sB; omega)]; exact hy)) (oS hj) v_X2_25 ⟨Nat.le_of_ble_eq_true rfl, Nat.le_of_ble_eq_true rfl, rfl, rfl⟩ rfl rfl (Nat.le_of_ble_eq_true rfl) hl.1 ⟨Nat.zero_le _, Nat.zero_le _⟩ dX2_bringBack_27 (fun G_27 H locs hR hP hS => ?_)
    have h_27 := hR
    exact hret _ _ _ _ _ (by
        refine ⟨by rw [h_27.1 8 (by unfold sB; omega)]; simp [gs], fun q h1 h2 => by rw [h_27.1 q h2]; exact gs_other h1, CB_of (CPY_cb h_27) (fun o ho => gs_other (by unfold sB; omega)) hn4 hk4⟩) hP hS dX2_bringBack_30
end
section

/-- a digit of the text, a sign of it -/
abbrev dgt (S : Nat → Int32) (T p : Nat) : Prop := p < T ∧ nI 48 ≤ S p ∧ S p ≤ nI 57
abbrev sgn (S : Nat → Int32) (T p s : Nat) : Prop := p < T ∧ S p = nI s
/-- behind at most k digits from e on -/
def rnn (S : Nat → Int32) (T : Nat) : Nat → Nat → Nat
  | e, 0 => e
  | e, k + 1 => if dgt S T e then rnn S T (e + 1) k else e
def eon (S : Nat → Int32) (T a m : Nat) : Nat := rnn S T a (if sgn S T a 48 then 1 else m)
theorem rnn_s {S : Nat → Int32} {T e k : Nat} (hk : 0 < k) (h : dgt S T e) : rnn S T e k = rnn S T (e + 1) (k - 1) := by
  obtain ⟨q, rfl⟩ : ∃ q, k = q + 1 := ⟨k - 1, by omega⟩
  rw [rnn, if_pos h]; rfl
theorem rnn_z {S : Nat → Int32} {T e k : Nat} (h : k = 0 ∨ ¬ dgt S T e) : rnn S T e k = e := by
  cases k with
  | zero => rfl
  | succ q => rw [rnn, if_neg (h.resolve_left (by omega))]
theorem rnn_b (S : Nat → Int32) (T : Nat) (k : Nat) : ∀ e, e ≤ rnn S T e k ∧ (rnn S T e k ≤ T ∨ rnn S T e k = e) ∧ rnn S T e k ≤ e + k := by
  induction k with
  | zero => intro e; exact ⟨Nat.le_refl _, Or.inr rfl, Nat.le_refl _⟩
  | succ k ih =>
    intro e
    rw [rnn]
    by_cases h : dgt S T e
    · rw [if_pos h]
      obtain ⟨a, b, d⟩ := ih (e + 1)
      have := h.1
      omega
    · rw [if_neg h]
      exact ⟨Nat.le_refl _, Or.inr rfl, by omega⟩
theorem eon_b (S : Nat → Int32) (T a m : Nat) : a ≤ eon S T a m ∧ (eon S T a m ≤ T ∨ eon S T a m = a) := ⟨(rnn_b S T _ a).1, (rnn_b S T _ a).2.1⟩
/-- the number of the digits from a on -/
def nmF (S : Nat → Int32) (a : Nat) : Nat → Int32
  | 0 => nI 0
  | k + 1 => nmF S a k * nI 10 + (S (a + k) - nI 48)
def mxF (C : Nat → Int32) : Nat → Int32
  | 0 => nI 0
  | k + 1 => if mxF C k < C k then C k else mxF C k
set_option maxHeartbeats 4000000 in
set_option maxRecDepth 100000 in
theorem c_X5_add (l : Launch) {D : va_G} {τ : Nat → ClassId} {ad : Nat → Nat} (hI : kInj ad) {G : Nat → Nat → Int32} {T q : Nat} (hT : G 10 1 = nI T) (hT6 : T < 60) (hq : q < 65536) : kMv l yX5_add cX5_add 2 { frames := 0, cells := 0, slots := 0, locals := 0 } D τ ad [.ref (ad 10), .int (nI q)] G (fun G' => G' = gs (gs G 11 T (nI q)) 10 1 (nI (T + 1))) := by
  refine kMetV (own := RX5) (by decide) rfl (Nat.le_of_ble_eq_true rfl) ?_
  intro p9 e9 s9 m9 args9 below9 meth9 c9 Q9 X hx hb hP hS hret ls hl
  have hPs := hP
  have hl : lv_has ls 2 [(0, .ref (ad 10)), (1, .int (nI q))] := hl
  refine lv_aload_n hx hb dX5_add_0 rfl (lv_at hl 0 rfl) ?_
  refine kget X hP oT g_X5_22 (congrArg (fun z => some (Value.int z)) hT) dX5_add_1 ?_
  refine lv_bipush (v := nI 60) hx hb dX5_add_4 (by decide) ?_
  first
    | refine kic_ge (tgt := 29) hx hb dX5_add_6 (by decide) (by with_reducible rfl) (by with_reducible rfl) (by omega) (by omega) (fun c_6 => ?_) (fun c_6 => ?_)
    | refine lv_icmp_ge (tgt := 29) hx hb dX5_add_6 (by decide) (fun c_6 => ?_) (fun c_6 => ?_)
  · skip
    exact absurd c_6 (by omega)
  · skip
    refine lv_aload_n hx hb dX5_add_9 rfl (lv_at hl 0 rfl) ?_
    refine kget X hP oT g_X5_9 rfl dX5_add_10 ?_
    refine lv_aload_n hx hb dX5_add_13 rfl (lv_at hl 0 rfl) ?_
    refine kget X hP oT g_X5_22 (congrArg (fun z => some (Value.int z)) hT) dX5_add_14 ?_
    refine lv_iload_n hx hb dX5_add_17 rfl (lv_at hl 1 rfl) ?_
    refine kcast X hI hP hS aT hT6 (by unfold vp_nar; rw [(pk_charN hq).1]) dX5_add_18 (fun H locs hP hS => ?_)
    refine lv_aload_n hx hb dX5_add_19 rfl (lv_at hl 0 rfl) ?_
    refine lv_dup hx hb dX5_add_20 rfl ?_
    refine kget X hP oT g_X5_22 (congrArg (fun z => some (Value.int z)) (by simp [gs, hT] : _ = nI T)) dX5_add_21 ?_
    refine lv_iconst (v := nI 1) hx hb dX5_add_24 (by decide) ?_
    first
      | refine kadd hx hb dX5_add_25 (by with_reducible rfl) (by with_reducible rfl) ?_
      | refine lv_iadd hx hb dX5_add_25 ?_
    refine kput X hI hP hS oT g_X5_22 (fun _ => rfl) rfl (fun _ => Nat.le_of_ble_eq_true rfl) rfl rfl dX5_add_26 (fun H locs hP hS => ?_)
    exact hret _ _ _ _ _ (rfl) hP hS dX5_add_29

set_option maxHeartbeats 4000000 in
set_option maxRecDepth 100000 in
theorem c_X5_isSign (l : Launch) {D : va_G} {τ : Nat → ClassId} {ad : Nat → Nat} (hI : kInj ad) {G : Nat → Nat → Int32} {T a b : Nat} (hT : G 10 1 = nI T) (hT6 : T ≤ 60) (ha : a < 100) : kM l yX5_isSign cX5_isSign 3 (some .boolean) { frames := 0, cells := 0, slots := 0, locals := 0 } D τ ad [.ref (ad 10), .int (nI a), .int (nI b)] G (fun v G' => v = (if sgn (G 11) T a b then 1 else 0) ∧ G' = G) := by
  refine kMetZ (own := RX5) (by decide) rfl (Nat.le_of_ble_eq_true rfl) ?_
  intro p9 e9 s9 m9 args9 below9 meth9 c9 Q9 X hx hb hP hS hret ls hl
  have hPs := hP
  have hl : lv_has ls 3 [(0, .ref (ad 10)), (1, .int (nI a)), (2, .int (nI b))] := hl
  refine lv_iload_n hx hb dX5_isSign_0 rfl (lv_at hl 1 rfl) ?_
  refine lv_aload_n hx hb dX5_isSign_1 rfl (lv_at hl 0 rfl) ?_
  refine kget X hP oT g_X5_22 (congrArg (fun z => some (Value.int z)) hT) dX5_isSign_2 ?_
  first
    | refine kic_ge (tgt := 22) hx hb dX5_isSign_5 (by decide) (by with_reducible rfl) (by with_reducible rfl) (by omega) (by omega) (fun c_5 => ?_) (fun c_5 => ?_)
    | refine lv_icmp_ge (tgt := 22) hx hb dX5_isSign_5 (by decide) (fun c_5 => ?_) (fun c_5 => ?_)
  · skip
    refine lv_iconst (v := nI 0) hx hb dX5_isSign_22 (by decide) ?_
    exact hret _ _ _ _ _ _ (by decide) (⟨(if_neg (fun z => absurd z.1 (by omega))).symm, rfl⟩) hP hS dX5_isSign_23
  · skip
    refine lv_aload_n hx hb dX5_isSign_8 rfl (lv_at hl 0 rfl) ?_
    refine kget X hP oT g_X5_9 rfl dX5_isSign_9 ?_
    refine lv_iload_n hx hb dX5_isSign_12 rfl (lv_at hl 1 rfl) ?_
    refine kcald X hP aT (by omega) dX5_isSign_13 ?_
    refine lv_iload_n hx hb dX5_isSign_14 rfl (lv_at hl 2 rfl) ?_
    first
      | refine kic_ne (tgt := 22) hx hb dX5_isSign_15 (by decide) (by with_reducible rfl) (by with_reducible rfl) (by omega) (by omega) (fun c_15 => ?_) (fun c_15 => ?_)
      | refine lv_icmp_ne (tgt := 22) hx hb dX5_isSign_15 (by decide) (fun c_15 => ?_) (fun c_15 => ?_)
    · skip
      refine lv_iconst (v := nI 0) hx hb dX5_isSign_22 (by decide) ?_
      exact hret _ _ _ _ _ _ (by decide) (⟨(if_neg (fun z => c_15 z.2)).symm, rfl⟩) hP hS dX5_isSign_23
    · skip
      refine lv_iconst (v := nI 1) hx hb dX5_isSign_18 (by decide) ?_
      refine lv_goto (tgt := 23) hx hb dX5_isSign_19 (by decide) ?_
      exact hret _ _ _ _ _ _ (by decide) (⟨(if_pos ⟨c_5, c_15⟩).symm, rfl⟩) hP hS dX5_isSign_23

set_option maxHeartbeats 4000000 in
set_option maxRecDepth 100000 in
theorem c_X5_isDigit (l : Launch) {D : va_G} {τ : Nat → ClassId} {ad : Nat → Nat} (hI : kInj ad) {G : Nat → Nat → Int32} {T a : Nat} (hT : G 10 1 = nI T) (hT6 : T ≤ 60) (ha : a < 100) : kM l yX5_isDigit cX5_isDigit 2 (some .boolean) { frames := 0, cells := 0, slots := 0, locals := 0 } D τ ad [.ref (ad 10), .int (nI a)] G (fun v G' => v = (if dgt (G 11) T a then 1 else 0) ∧ G' = G) := by
  refine kMetZ (own := RX5) (by decide) rfl (Nat.le_of_ble_eq_true rfl) ?_
  intro p9 e9 s9 m9 args9 below9 meth9 c9 Q9 X hx hb hP hS hret ls hl
  have hPs := hP
  have hl : lv_has ls 2 [(0, .ref (ad 10)), (1, .int (nI a))] := hl
  refine lv_iload_n hx hb dX5_isDigit_0 rfl (lv_at hl 1 rfl) ?_
  refine lv_aload_n hx hb dX5_isDigit_1 rfl (lv_at hl 0 rfl) ?_
  refine kget X hP oT g_X5_22 (congrArg (fun z => some (Value.int z)) hT) dX5_isDigit_2 ?_
  first
    | refine kic_ge (tgt := 34) hx hb dX5_isDigit_5 (by decide) (by with_reducible rfl) (by with_reducible rfl) (by omega) (by omega) (fun c_5 => ?_) (fun c_5 => ?_)
    | refine lv_icmp_ge (tgt := 34) hx hb dX5_isDigit_5 (by decide) (fun c_5 => ?_) (fun c_5 => ?_)
  · skip
    refine lv_iconst (v := nI 0) hx hb dX5_isDigit_34 (by decide) ?_
    exact hret _ _ _ _ _ _ (by decide) (⟨(if_neg (fun z => absurd z.1 (by omega))).symm, rfl⟩) hP hS dX5_isDigit_35
  · skip
    refine lv_aload_n hx hb dX5_isDigit_8 rfl (lv_at hl 0 rfl) ?_
    refine kget X hP oT g_X5_9 rfl dX5_isDigit_9 ?_
    refine lv_iload_n hx hb dX5_isDigit_12 rfl (lv_at hl 1 rfl) ?_
    refine kcald X hP aT (by omega) dX5_isDigit_13 ?_
    refine lv_bipush (v := nI 48) hx hb dX5_isDigit_14 (by decide) ?_
    first
      | refine kic_lt (tgt := 34) hx hb dX5_isDigit_16 (by decide) (by with_reducible rfl) (by with_reducible rfl) (by omega) (by omega) (fun c_16 => ?_) (fun c_16 => ?_)
      | refine lv_icmp_lt (tgt := 34) hx hb dX5_isDigit_16 (by decide) (fun c_16 => ?_) (fun c_16 => ?_)
    · skip
      refine lv_iconst (v := nI 0) hx hb dX5_isDigit_34 (by decide) ?_
      exact hret _ _ _ _ _ _ (by decide) (⟨(if_neg (fun z => Int32.not_le.mpr c_16 z.2.1)).symm, rfl⟩) hP hS dX5_isDigit_35
    · skip
      refine lv_aload_n hx hb dX5_isDigit_19 rfl (lv_at hl 0 rfl) ?_
      refine kget X hP oT g_X5_9 rfl dX5_isDigit_20 ?_
      refine lv_iload_n hx hb dX5_isDigit_23 rfl (lv_at hl 1 rfl) ?_
      refine kcald X hP aT (by omega) dX5_isDigit_24 ?_
      refine lv_bipush (v := nI 57) hx hb dX5_isDigit_25 (by decide) ?_
      first
        | refine kic_gt (tgt := 34) hx hb dX5_isDigit_27 (by decide) (by with_reducible rfl) (by with_reducible rfl) (by omega) (by omega) (fun c_27 => ?_) (fun c_27 => ?_)
        | refine lv_icmp_gt (tgt := 34) hx hb dX5_isDigit_27 (by decide) (fun c_27 => ?_) (fun c_27 => ?_)
      · skip
        refine lv_iconst (v := nI 0) hx hb dX5_isDigit_34 (by decide) ?_
        exact hret _ _ _ _ _ _ (by decide) (⟨(if_neg (fun z => Int32.not_le.mpr c_27 z.2.2)).symm, rfl⟩) hP hS dX5_isDigit_35
      · skip
        refine lv_iconst (v := nI 1) hx hb dX5_isDigit_30 (by decide) ?_
        refine lv_goto (tgt := 35) hx hb dX5_isDigit_31 (by decide) ?_
        exact hret _ _ _ _ _ _ (by decide) (⟨(if_pos ⟨c_5, Int32.not_lt.mp c_16, Int32.not_lt.mp c_27⟩).symm, rfl⟩) hP hS dX5_isDigit_35

set_option maxHeartbeats 4000000 in
set_option maxRecDepth 100000 in
theorem c_X5_endOfNumber (l : Launch) {D : va_G} {τ : Nat → ClassId} {ad : Nat → Nat} (hI : kInj ad) {G : Nat → Nat → Int32} {T a m : Nat} (hT : G 10 1 = nI T) (hT6 : T ≤ 60) (ha : a < 90) (hm : 1 ≤ m ∧ m ≤ 4) : kM l yX5_endOfNumber cX5_endOfNumber 5 (some .int) { frames := 1, cells := 0, slots := 0, locals := 22 } D τ ad [.ref (ad 10), .int (nI a), .int (nI m)] G (fun v G' => v = nI (eon (G 11) T a m) ∧ G' = G) := by
  refine kMet (own := RX5) (by decide) rfl (Nat.le_of_ble_eq_true rfl) ?_
  intro p9 e9 s9 m9 args9 below9 meth9 c9 Q9 X hx hb hP hS hret ls hl
  have hPs := hP
  have hl : lv_has ls 5 [(0, .ref (ad 10)), (1, .int (nI a)), (2, .int (nI m))] := hl
  refine lv_aload_n hx hb dX5_endOfNumber_0 rfl (lv_at hl 0 rfl) ?_
  refine lv_iload_n hx hb dX5_endOfNumber_1 rfl (lv_at hl 1 rfl) ?_
  refine lv_bipush (v := nI 48) hx hb dX5_endOfNumber_2 (by decide) ?_
  refine kcV X hP hS (c_X5_isSign l hI (b := 48) hT hT6 (by omega)) oT v_X5_33 ⟨Nat.le_of_ble_eq_true rfl, Nat.le_of_ble_eq_true rfl, rfl, rfl⟩ rfl rfl (Nat.le_of_ble_eq_true rfl) hl.1 ⟨Nat.zero_le _, Nat.zero_le _⟩ dX5_endOfNumber_4 (fun r_4 G_4 H locs hR hP hS => ?_)
  obtain ⟨rfl, hG_4⟩ := hR
  rw [hG_4] at hP
  clear hG_4
  first
    | refine kif_eq (tgt := 14) hx hb dX5_endOfNumber_7 (by decide) (fun c_7 => ?_) (fun c_7 => ?_)
    | refine lv_if_eq (tgt := 14) hx hb dX5_endOfNumber_7 (by decide) (fun c_7 => ?_) (fun c_7 => ?_)
  · skip
    have hmo : eon (G 11) T a m = rnn (G 11) T a m := by rw [eon, if_neg c_7]
    have hmo1 : 1 ≤ m ∧ m ≤ 4 := hm
    refine lv_iload_n hx hb dX5_endOfNumber_14 rfl (lv_at hl 2 rfl) ?_
    refine kist hx hb dX5_endOfNumber_15 rfl hl (by decide) (kp_3_3 rfl) (fun ls hl => ?_)
    refine lv_iload_n hx hb dX5_endOfNumber_16 rfl (lv_at hl 1 rfl) ?_
    refine kistW hx hb dX5_endOfNumber_17 hl (by decide) (kp_4_4 rfl) (fun ls hl => ?_)
    have lp_19 : ∀ (d : Nat) (i mo : Nat) (H : Heap) (locs : List Loc) (ls : Array Slot), (mo + a - i) < d → (a ≤ i ∧ i ≤ a + mo) → (1 ≤ mo ∧ mo ≤ 4) → (eon (G 11) T a m = rnn (G 11) T i (mo + a - i)) → va_P D vwCl (kW τ ad G) H → va_S (kAd ad) s9.heap H locs → lv_has ls 5 [(0, .ref (ad 10)), (1, .int (nI a)), (2, .int (nI m)), (3, .int (nI mo)), (4, .int (nI i))] → W p9 l e9 { frames := 1, cells := 0, slots := 0, locals := 22 } s9 m9 args9 below9 meth9 c9 H locs 0 0 Q9 (F0 m9 19 ls []) := by
      intro d
      induction d with
      | zero => exact fun _ _ _ _ _ hd => absurd hd (Nat.not_lt_zero _)
      | succ d ih =>
        intro i mo H locs ls hd iv_0 iv_1 iv_2 hP hS hl
        refine lv_iload hx hb dX5_endOfNumber_19 (lv_at hl 4 rfl) ?_
        refine lv_iload_n hx hb dX5_endOfNumber_21 rfl (lv_at hl 1 rfl) ?_
        first
          | refine ksub hx hb dX5_endOfNumber_22 (by with_reducible rfl) (by with_reducible rfl) (by omega) ?_
          | refine lv_isub hx hb dX5_endOfNumber_22 ?_
        refine lv_iload_n hx hb dX5_endOfNumber_23 rfl (lv_at hl 3 rfl) ?_
        first
          | refine kic_ge (tgt := 42) hx hb dX5_endOfNumber_24 (by decide) (by with_reducible rfl) (by with_reducible rfl) (by omega) (by omega) (fun c_24 => ?_) (fun c_24 => ?_)
          | refine lv_icmp_ge (tgt := 42) hx hb dX5_endOfNumber_24 (by decide) (fun c_24 => ?_) (fun c_24 => ?_)
        · skip
          refine lv_iload hx hb dX5_endOfNumber_42 (lv_at hl 4 rfl) ?_
          exact hret _ _ _ _ _ _ (⟨congrArg nI (iv_2.trans (rnn_z (k := mo + a - i) (Or.inl (by omega)))).symm, rfl⟩) hP hS dX5_endOfNumber_44
        · skip
          refine lv_aload_n hx hb dX5_endOfNumber_27 rfl (lv_at hl 0 rfl) ?_
          refine lv_iload hx hb dX5_endOfNumber_28 (lv_at hl 4 rfl) ?_
          refine kcV X hP hS (c_X5_isDigit l hI hT hT6 (by omega)) oT v_X5_45 ⟨Nat.le_of_ble_eq_true rfl, Nat.le_of_ble_eq_true rfl, rfl, rfl⟩ rfl rfl (Nat.le_of_ble_eq_true rfl) hl.1 ⟨Nat.zero_le _, Nat.zero_le _⟩ dX5_endOfNumber_30 (fun r_30 G_30 H locs hR hP hS => ?_)
          obtain ⟨rfl, hG_30⟩ := hR
          rw [hG_30] at hP
          clear hG_30
          first
            | refine kif_eq (tgt := 42) hx hb dX5_endOfNumber_33 (by decide) (fun c_33 => ?_) (fun c_33 => ?_)
            | refine lv_if_eq (tgt := 42) hx hb dX5_endOfNumber_33 (by decide) (fun c_33 => ?_) (fun c_33 => ?_)
          · skip
            refine lv_iload hx hb dX5_endOfNumber_42 (lv_at hl 4 rfl) ?_
            exact hret _ _ _ _ _ _ (⟨congrArg nI (iv_2.trans (rnn_z (Or.inr c_33))).symm, rfl⟩) hP hS dX5_endOfNumber_44
          · skip
            first
              | refine kinc (q := 4) hx hb dX5_endOfNumber_36 hl rfl (by decide) (kp_5_4 rfl) (fun ls hl => ?_)
              | refine kincG (q := 4) hx hb dX5_endOfNumber_36 hl rfl (by decide) (kp_5_4 rfl) (fun ls hl => ?_)
            refine lv_goto (tgt := 19) hx hb dX5_endOfNumber_39 (by decide) ?_
            exact ih _ _ _ _ _ (by omega) (by omega) (iv_1) (by rw [iv_2, rnn_s (by omega) c_33]; congr 1) hP hS (lv_sub hl [0,1,2,3,4] rfl)
    exact lp_19 _ _ _ _ _ _ (Nat.lt_succ_self _) (⟨Nat.le_refl _, by omega⟩) (hmo1) (by rw [Nat.add_sub_cancel]; exact hmo) hP hS (lv_sub hl [0,1,2,3,4] rfl)
  · skip
    have hmo : eon (G 11) T a m = rnn (G 11) T a 1 := by rw [eon, if_pos c_7]
    have hmo1 : 1 ≤ 1 ∧ 1 ≤ 4 := ⟨by omega, by omega⟩
    refine lv_iconst (v := nI 1) hx hb dX5_endOfNumber_10 (by decide) ?_
    refine lv_goto (tgt := 15) hx hb dX5_endOfNumber_11 (by decide) ?_
    refine kist hx hb dX5_endOfNumber_15 rfl hl (by decide) (kp_3_3 rfl) (fun ls hl => ?_)
    refine lv_iload_n hx hb dX5_endOfNumber_16 rfl (lv_at hl 1 rfl) ?_
    refine kistW hx hb dX5_endOfNumber_17 hl (by decide) (kp_4_4 rfl) (fun ls hl => ?_)
    have lp_19 : ∀ (d : Nat) (i mo : Nat) (H : Heap) (locs : List Loc) (ls : Array Slot), (mo + a - i) < d → (a ≤ i ∧ i ≤ a + mo) → (1 ≤ mo ∧ mo ≤ 4) → (eon (G 11) T a m = rnn (G 11) T i (mo + a - i)) → va_P D vwCl (kW τ ad G) H → va_S (kAd ad) s9.heap H locs → lv_has ls 5 [(0, .ref (ad 10)), (1, .int (nI a)), (2, .int (nI m)), (3, .int (nI mo)), (4, .int (nI i))] → W p9 l e9 { frames := 1, cells := 0, slots := 0, locals := 22 } s9 m9 args9 below9 meth9 c9 H locs 0 0 Q9 (F0 m9 19 ls []) := by
      intro d
      induction d with
      | zero => exact fun _ _ _ _ _ hd => absurd hd (Nat.not_lt_zero _)
      | succ d ih =>
        intro i mo H locs ls hd iv_0 iv_1 iv_2 hP hS hl
        refine lv_iload hx hb dX5_endOfNumber_19 (lv_at hl 4 rfl) ?_
        refine lv_iload_n hx hb dX5_endOfNumber_21 rfl (lv_at hl 1 rfl) ?_
        first
          | refine ksub hx hb dX5_endOfNumber_22 (by with_reducible rfl) (by with_reducible rfl) (by omega) ?_
          | refine lv_isub hx hb dX5_endOfNumber_22 ?_
        refine lv_iload_n hx hb dX5_endOfNumber_23 rfl (lv_at hl 3 rfl) ?_
        first
          | refine kic_ge (tgt := 42) hx hb dX5_endOfNumber_24 (by decide) (by with_reducible rfl) (by with_reducible rfl) (by omega) (by omega) (fun c_24 => ?_) (fun c_24 => ?_)
          | refine lv_icmp_ge (tgt := 42) hx hb dX5_endOfNumber_24 (by decide) (fun c_24 => ?_) (fun c_24 => ?_)
        · skip
          refine lv_iload hx hb dX5_endOfNumber_42 (lv_at hl 4 rfl) ?_
          exact hret _ _ _ _ _ _ (⟨congrArg nI (iv_2.trans (rnn_z (k := mo + a - i) (Or.inl (by omega)))).symm, rfl⟩) hP hS dX5_endOfNumber_44
        · skip
          refine lv_aload_n hx hb dX5_endOfNumber_27 rfl (lv_at hl 0 rfl) ?_
          refine lv_iload hx hb dX5_endOfNumber_28 (lv_at hl 4 rfl) ?_
          refine kcV X hP hS (c_X5_isDigit l hI hT hT6 (by omega)) oT v_X5_45 ⟨Nat.le_of_ble_eq_true rfl, Nat.le_of_ble_eq_true rfl, rfl, rfl⟩ rfl rfl (Nat.le_of_ble_eq_true rfl) hl.1 ⟨Nat.zero_le _, Nat.zero_le _⟩ dX5_endOfNumber_30 (fun r_30 G_30 H locs hR hP hS => ?_)
          obtain ⟨rfl, hG_30⟩ := hR
          rw [hG_30] at hP
          clear hG_30
          first
            | refine kif_eq (tgt := 42) hx hb dX5_endOfNumber_33 (by decide) (fun c_33 => ?_) (fun c_33 => ?_)
            | refine lv_if_eq (tgt := 42) hx hb dX5_endOfNumber_33 (by decide) (fun c_33 => ?_) (fun c_33 => ?_)
          · skip
            refine lv_iload hx hb dX5_endOfNumber_42 (lv_at hl 4 rfl) ?_
            exact hret _ _ _ _ _ _ (⟨congrArg nI (iv_2.trans (rnn_z (Or.inr c_33))).symm, rfl⟩) hP hS dX5_endOfNumber_44
          · skip
            first
              | refine kinc (q := 4) hx hb dX5_endOfNumber_36 hl rfl (by decide) (kp_5_4 rfl) (fun ls hl => ?_)
              | refine kincG (q := 4) hx hb dX5_endOfNumber_36 hl rfl (by decide) (kp_5_4 rfl) (fun ls hl => ?_)
            refine lv_goto (tgt := 19) hx hb dX5_endOfNumber_39 (by decide) ?_
            exact ih _ _ _ _ _ (by omega) (by omega) (iv_1) (by rw [iv_2, rnn_s (by omega) c_33]; congr 1) hP hS (lv_sub hl [0,1,2,3,4] rfl)
    exact lp_19 _ _ _ _ _ _ (Nat.lt_succ_self _) (⟨Nat.le_refl _, by omega⟩) (hmo1) (by rw [Nat.add_sub_cancel]; exact hmo) hP hS (lv_sub hl [0,1,2,3,4] rfl)

set_option maxHeartbeats 4000000 in
set_option maxRecDepth 100000 in
theorem c_X5_number (l : Launch) {D : va_G} {τ : Nat → ClassId} {ad : Nat → Nat} (hI : kInj ad) {G : Nat → Nat → Int32} {T a b : Nat} (hT : G 10 1 = nI T) (hT6 : T ≤ 60) (hab : a ≤ b) (hb : b ≤ T) : kM l yX5_number cX5_number 5 (some .int) { frames := 0, cells := 0, slots := 0, locals := 0 } D τ ad [.ref (ad 10), .int (nI a), .int (nI b)] G (fun v G' => v = nmF (G 11) a (b - a) ∧ G' = G) := by
  refine kMet (own := RX5) (by decide) rfl (Nat.le_of_ble_eq_true rfl) ?_
  intro p9 e9 s9 m9 args9 below9 meth9 c9 Q9 X hx hb hP hS hret ls hl
  have hPs := hP
  have hl : lv_has ls 5 [(0, .ref (ad 10)), (1, .int (nI a)), (2, .int (nI b))] := hl
  refine lv_iconst (v := nI 0) hx hb dX5_number_0 (by decide) ?_
  refine kist hx hb dX5_number_1 rfl hl (by decide) (kp_3_3 rfl) (fun ls hl => ?_)
  refine lv_iload_n hx hb dX5_number_2 rfl (lv_at hl 1 rfl) ?_
  refine kistW hx hb dX5_number_3 hl (by decide) (kp_4_4 rfl) (fun ls hl => ?_)
  have lp_5 : ∀ (d : Nat) (i : Nat) (x : Int32) (H : Heap) (locs : List Loc) (ls : Array Slot), (b - i) < d → (a ≤ i ∧ i ≤ b) → (x = nmF (G 11) a (i - a)) → va_P D vwCl (kW τ ad G) H → va_S (kAd ad) s9.heap H locs → lv_has ls 5 [(0, .ref (ad 10)), (1, .int (nI a)), (2, .int (nI b)), (3, .int x), (4, .int (nI i))] → W p9 l e9 { frames := 0, cells := 0, slots := 0, locals := 0 } s9 m9 args9 below9 meth9 c9 H locs 0 0 Q9 (F0 m9 5 ls []) := by
    intro d
    induction d with
    | zero => exact fun _ _ _ _ _ hd => absurd hd (Nat.not_lt_zero _)
    | succ d ih =>
      intro i x H locs ls hd iv_0 iv_1 hP hS hl
      refine lv_iload hx hb dX5_number_5 (lv_at hl 4 rfl) ?_
      refine lv_iload_n hx hb dX5_number_7 rfl (lv_at hl 2 rfl) ?_
      first
        | refine kic_ge (tgt := 33) hx hb dX5_number_8 (by decide) (by with_reducible rfl) (by with_reducible rfl) (by omega) (by omega) (fun c_8 => ?_) (fun c_8 => ?_)
        | refine lv_icmp_ge (tgt := 33) hx hb dX5_number_8 (by decide) (fun c_8 => ?_) (fun c_8 => ?_)
      · skip
        refine lv_iload_n hx hb dX5_number_33 rfl (lv_at hl 3 rfl) ?_
        exact hret _ _ _ _ _ _ (⟨iv_1.trans (by rw [show i = b by omega]), rfl⟩) hP hS dX5_number_34
      · skip
        refine lv_iload_n hx hb dX5_number_11 rfl (lv_at hl 3 rfl) ?_
        refine lv_bipush (v := nI 10) hx hb dX5_number_12 (by decide) ?_
        first
          | refine kmul hx hb dX5_number_14 (by with_reducible rfl) (by with_reducible rfl) ?_
          | refine lv_imul hx hb dX5_number_14 ?_
        refine lv_aload_n hx hb dX5_number_15 rfl (lv_at hl 0 rfl) ?_
        refine kget X hP oT g_X5_9 rfl dX5_number_16 ?_
        refine lv_iload hx hb dX5_number_19 (lv_at hl 4 rfl) ?_
        refine kcald X hP aT (by omega) dX5_number_21 ?_
        refine lv_bipush (v := nI 48) hx hb dX5_number_22 (by decide) ?_
        first
          | refine ksub hx hb dX5_number_24 (by with_reducible rfl) (by with_reducible rfl) (by omega) ?_
          | refine lv_isub hx hb dX5_number_24 ?_
        first
          | refine kadd hx hb dX5_number_25 (by with_reducible rfl) (by with_reducible rfl) ?_
          | refine lv_iadd hx hb dX5_number_25 ?_
        refine kist hx hb dX5_number_26 rfl hl (by decide) (kp_5_3 rfl) (fun ls hl => ?_)
        first
          | refine kinc (q := 4) hx hb dX5_number_27 hl rfl (by decide) (kp_5_4 rfl) (fun ls hl => ?_)
          | refine kincG (q := 4) hx hb dX5_number_27 hl rfl (by decide) (kp_5_4 rfl) (fun ls hl => ?_)
        refine lv_goto (tgt := 5) hx hb dX5_number_30 (by decide) ?_
        exact ih _ _ _ _ _ (by omega) (by omega) (by rw [show i + 1 - a = (i - a) + 1 by omega, nmF, iv_1, show a + (i - a) = i by omega]) hP hS (lv_sub hl [0,1,2,3,4] rfl)
  exact lp_5 _ _ _ _ _ _ (Nat.lt_succ_self _) (⟨Nat.le_refl _, hab⟩) (by rw [Nat.sub_self]; rfl) hP hS (lv_sub hl [0,1,2,3,4] rfl)

set_option maxHeartbeats 4000000 in
set_option maxRecDepth 100000 in
theorem c_X5_greatestCell (l : Launch) {D : va_G} {τ : Nat → ClassId} {ad : Nat → Nat} (hI : kInj ad) {G : Nat → Nat → Int32} {w : Nat} (hw0 : G 10 4 = nI w) (hw1 : w ≤ 16) : kM l yX5_greatestCell cX5_greatestCell 3 (some .int) { frames := 1, cells := 0, slots := 0, locals := 30 } D τ ad [.ref (ad 10)] G (fun v G' => v = mxF (G 12) w ∧ G' = G) := by
  refine kMet (own := RX5) (by decide) rfl (Nat.le_of_ble_eq_true rfl) ?_
  intro p9 e9 s9 m9 args9 below9 meth9 c9 Q9 X hx hb hP hS hret ls hl
  have hPs := hP
  have hl : lv_has ls 3 [(0, .ref (ad 10))] := hl
  refine lv_iconst (v := nI 0) hx hb dX5_greatestCell_0 (by decide) ?_
  refine kist hx hb dX5_greatestCell_1 rfl hl (by decide) (kp_1_1 rfl) (fun ls hl => ?_)
  refine lv_iconst (v := nI 0) hx hb dX5_greatestCell_2 (by decide) ?_
  refine kist hx hb dX5_greatestCell_3 rfl hl (by decide) (kp_2_2 rfl) (fun ls hl => ?_)
  have lp_4 : ∀ (d : Nat) (i : Nat) (x : Int32) (H : Heap) (locs : List Loc) (ls : Array Slot), (w - i) < d → (i ≤ w) → (x = mxF (G 12) i) → va_P D vwCl (kW τ ad G) H → va_S (kAd ad) s9.heap H locs → lv_has ls 3 [(0, .ref (ad 10)), (1, .int x), (2, .int (nI i))] → W p9 l e9 { frames := 1, cells := 0, slots := 0, locals := 30 } s9 m9 args9 below9 meth9 c9 H locs 0 0 Q9 (F0 m9 4 ls []) := by
    intro d
    induction d with
    | zero => exact fun _ _ _ _ _ hd => absurd hd (Nat.not_lt_zero _)
    | succ d ih =>
      intro i x H locs ls hd iv_0 iv_1 hP hS hl
      refine lv_iload_n hx hb dX5_greatestCell_4 rfl (lv_at hl 2 rfl) ?_
      refine lv_aload_n hx hb dX5_greatestCell_5 rfl (lv_at hl 0 rfl) ?_
      refine kget X hP oT g_X5_26 (congrArg (fun z => some (Value.int z)) hw0) dX5_greatestCell_6 ?_
      first
        | refine kic_ge (tgt := 29) hx hb dX5_greatestCell_9 (by decide) (by with_reducible rfl) (by with_reducible rfl) (by omega) (by omega) (fun c_9 => ?_) (fun c_9 => ?_)
        | refine lv_icmp_ge (tgt := 29) hx hb dX5_greatestCell_9 (by decide) (fun c_9 => ?_) (fun c_9 => ?_)
      · skip
        refine lv_iload_n hx hb dX5_greatestCell_29 rfl (lv_at hl 1 rfl) ?_
        exact hret _ _ _ _ _ _ (⟨iv_1.trans (by rw [show i = w by omega]), rfl⟩) hP hS dX5_greatestCell_30
      · skip
        refine lv_iload_n hx hb dX5_greatestCell_12 rfl (lv_at hl 1 rfl) ?_
        refine lv_aload_n hx hb dX5_greatestCell_13 rfl (lv_at hl 0 rfl) ?_
        refine kget X hP oT g_X5_15 rfl dX5_greatestCell_14 ?_
        refine lv_iload_n hx hb dX5_greatestCell_17 rfl (lv_at hl 2 rfl) ?_
        refine kiald X hP aTc (by omega) dX5_greatestCell_18 ?_
        refine kmax X ⟨kWs_of 498 (by decide +kernel) rfl, kWs_of 499 (by decide +kernel) rfl, kWs_of 11 (by decide +kernel) rfl, kWs_of 500 rfl rfl⟩ ⟨Nat.le_of_ble_eq_true rfl, Nat.le_of_ble_eq_true rfl⟩ (Nat.le_of_ble_eq_true rfl) hl.1 ⟨Nat.zero_le _, Nat.zero_le _⟩ dX5_greatestCell_19 ?_
        refine kist hx hb dX5_greatestCell_22 rfl hl (by decide) (kp_3_1 rfl) (fun ls hl => ?_)
        first
          | refine kinc (q := 2) hx hb dX5_greatestCell_23 hl rfl (by decide) (kp_3_2 rfl) (fun ls hl => ?_)
          | refine kincG (q := 2) hx hb dX5_greatestCell_23 hl rfl (by decide) (kp_3_2 rfl) (fun ls hl => ?_)
        refine lv_goto (tgt := 4) hx hb dX5_greatestCell_26 (by decide) ?_
        exact ih _ _ _ _ _ (by omega) (by omega) (by rw [iv_1]; rfl) hP hS (lv_sub hl [0,1,2] rfl)
  exact lp_4 _ 0 (nI 0) _ _ _ (Nat.lt_succ_self _) (Nat.zero_le _) (rfl) hP hS (lv_sub hl [0,1,2] rfl)
end
section

def cE (S : Nat → Int32) (T a : Nat) : Nat := eon S T a 2
def vE (S : Nat → Int32) (T a : Nat) : Nat := eon S T (cE S T a + 1) 4
/-- where the t-th write of a text begins -/
def pA (S : Nat → Int32) (T : Nat) : Nat → Nat
  | 0 => 0
  | t + 1 => vE S T (pA S T t) + 1
def bad1 (S : Nat → Int32) (T a : Nat) : Prop := cE S T a = a ∨ ¬ sgn S T (cE S T a) 61
def pR (S : Nat → Int32) (T : Nat) : Nat → Nat → Int32
  | 0, _ => nI T
  | k + 1, a => if cE S T a = a ∨ ¬ sgn S T (cE S T a) 61 then nI (cE S T a) else if vE S T a = cE S T a + 1 then nI (vE S T a) else if T ≤ vE S T a then -1 else if ¬ sgn S T (vE S T a) 59 then nI (vE S T a) else pR S T k (vE S T a + 1)
def pW (S : Nat → Int32) (T : Nat) : Nat → Nat → Nat
  | 0, _ => 0
  | k + 1, a => if cE S T a = a ∨ ¬ sgn S T (cE S T a) 61 then 0 else if vE S T a = cE S T a + 1 then 0 else if T ≤ vE S T a then 1 else if ¬ sgn S T (vE S T a) 59 then 0 else pW S T k (vE S T a + 1) + 1
def wc (S : Nat → Int32) (T t : Nat) : Int32 := nmF S (pA S T t) (cE S T (pA S T t) - pA S T t)
def wv (S : Nat → Int32) (T t : Nat) : Int32 := nmF S (cE S T (pA S T t) + 1) (vE S T (pA S T t) - (cE S T (pA S T t) + 1))
set_option maxHeartbeats 4000000 in
set_option maxRecDepth 100000 in
theorem c_X5_parse (l : Launch) {D : va_G} {τ : Nat → ClassId} {ad : Nat → Nat} (hI : kInj ad) {G : Nat → Nat → Int32} {T : Nat} (hT : G 10 1 = nI T) (hT6 : T ≤ 60) : kM l yX5_parse cX5_parse 6 (some .int) { frames := 2, cells := 0, slots := 0, locals := 46 } D τ ad [.ref (ad 10)] G (fun v G' => v = pR (G 11) T 16 0 ∧ (∀ k, k ≠ 10 → k ≠ 12 → k ≠ 13 → G' k = G k) ∧ G' 10 1 = nI T ∧ (v = -1 → G' 10 4 = nI (pW (G 11) T 16 0) ∧ pW (G 11) T 16 0 ≤ 16 ∧ ∀ t, t < pW (G 11) T 16 0 → G' 12 t = wc (G 11) T t ∧ G' 13 t = wv (G 11) T t)) := by
  refine kMet (own := RX5) (by decide) rfl (Nat.le_of_ble_eq_true rfl) ?_
  intro p9 e9 s9 m9 args9 below9 meth9 c9 Q9 X hx hb hP hS hret ls hl
  have hPs := hP
  have hl : lv_has ls 6 [(0, .ref (ad 10))] := hl
  refine lv_aload_n hx hb dX5_parse_0 rfl (lv_at hl 0 rfl) ?_
  refine lv_iconst (v := nI 0) hx hb dX5_parse_1 (by decide) ?_
  refine kput X hI hP hS oT g_X5_26 (fun _ => rfl) rfl (fun _ => Nat.le_of_ble_eq_true rfl) rfl rfl dX5_parse_2 (fun H locs hP hS => ?_)
  refine lv_iconst (v := nI 0) hx hb dX5_parse_5 (by decide) ?_
  refine kist hx hb dX5_parse_6 rfl hl (by decide) (kp_1_1 rfl) (fun ls hl => ?_)
  refine lv_iconst (v := nI 0) hx hb dX5_parse_7 (by decide) ?_
  refine kist hx hb dX5_parse_8 rfl hl (by decide) (kp_2_2 rfl) (fun ls hl => ?_)
  have lp_9 : ∀ (d : Nat) (a i : Nat) (G1 : Nat → Nat → Int32) (H : Heap) (locs : List Loc) (ls : Array Slot), (16 - i) < d → (a ≤ T) → (a = pA (G 11) T i ∧ i ≤ 16) → (pR (G 11) T 16 0 = pR (G 11) T (16 - i) a ∧ pW (G 11) T 16 0 = pW (G 11) T (16 - i) a + i) → (∀ k, k ≠ 10 → k ≠ 12 → k ≠ 13 → G1 k = G k) → (G1 10 1 = nI T) → (∀ t, t < i → G1 12 t = wc (G 11) T t ∧ G1 13 t = wv (G 11) T t) → va_P D vwCl (kW τ ad G1) H → va_S (kAd ad) s9.heap H locs → lv_has ls 6 [(0, .ref (ad 10)), (1, .int (nI a)), (2, .int (nI i))] → W p9 l e9 { frames := 2, cells := 0, slots := 0, locals := 46 } s9 m9 args9 below9 meth9 c9 H locs 0 0 Q9 (F0 m9 9 ls []) := by
    intro d
    induction d with
    | zero => exact fun _ _ _ _ _ _ hd => absurd hd (Nat.not_lt_zero _)
    | succ d ih =>
      intro a i G1 H locs ls hd iv_0 iv_1 iv_2 iv_3 iv_4 iv_5 hP hS hl
      have e11 : G1 11 = G 11 := iv_3 11 (by omega) (by omega) (by omega)
      refine lv_iload_n hx hb dX5_parse_9 rfl (lv_at hl 2 rfl) ?_
      refine lv_bipush (v := nI 16) hx hb dX5_parse_10 (by decide) ?_
      first
        | refine kic_ge (tgt := 132) hx hb dX5_parse_12 (by decide) (by with_reducible rfl) (by with_reducible rfl) (by omega) (by omega) (fun c_12 => ?_) (fun c_12 => ?_)
        | refine lv_icmp_ge (tgt := 132) hx hb dX5_parse_12 (by decide) (fun c_12 => ?_) (fun c_12 => ?_)
      · skip
        refine lv_aload_n hx hb dX5_parse_132 rfl (lv_at hl 0 rfl) ?_
        refine kget X hP oT g_X5_22 (congrArg (fun z => some (Value.int z)) iv_4) dX5_parse_133 ?_
        exact hret _ _ _ _ _ _ (by
                have e : 16 - i = 0 := (by omega)
                have hv : nI T = pR (G 11) T 16 0 := (by rw [iv_2.1, e, pR])
                exact ⟨hv, iv_3, iv_4, fun z => absurd z (nI_m1 (by omega))⟩) hP hS dX5_parse_136
      · skip
        refine lv_aload_n hx hb dX5_parse_15 rfl (lv_at hl 0 rfl) ?_
        refine lv_iload_n hx hb dX5_parse_16 rfl (lv_at hl 1 rfl) ?_
        refine lv_iconst (v := nI 2) hx hb dX5_parse_17 (by decide) ?_
        refine kcV X hP hS (c_X5_endOfNumber l hI (m := 2) iv_4 hT6 (by omega) ⟨by omega, by omega⟩) oT v_X5_29 ⟨Nat.le_of_ble_eq_true rfl, Nat.le_of_ble_eq_true rfl, rfl, rfl⟩ rfl rfl (Nat.le_of_ble_eq_true rfl) hl.1 ⟨Nat.zero_le _, Nat.zero_le _⟩ dX5_parse_18 (fun r_18 G_18 H locs hR hP hS => ?_)
        obtain ⟨rfl, hG_18⟩ := hR
        rw [hG_18] at hP
        clear hG_18
        rw [e11]
        obtain ⟨ce, hce⟩ : ∃ z, z = eon (G 11) T a 2 := ⟨_, rfl⟩
        rw [← hce]
        have b1 := eon_b (G 11) T a 2
        rw [← hce] at b1
        have hcE : cE (G 11) T a = ce := hce.symm
        refine kist hx hb dX5_parse_21 rfl hl (by decide) (kp_3_3 rfl) (fun ls hl => ?_)
        refine lv_iload_n hx hb dX5_parse_22 rfl (lv_at hl 3 rfl) ?_
        refine lv_iload_n hx hb dX5_parse_23 rfl (lv_at hl 1 rfl) ?_
        first
          | refine kic_eq (tgt := 37) hx hb dX5_parse_24 (by decide) (by with_reducible rfl) (by with_reducible rfl) (by omega) (by omega) (fun c_24 => ?_) (fun c_24 => ?_)
          | refine lv_icmp_eq (tgt := 37) hx hb dX5_parse_24 (by decide) (fun c_24 => ?_) (fun c_24 => ?_)
        · skip
          refine lv_iload_n hx hb dX5_parse_37 rfl (lv_at hl 3 rfl) ?_
          exact hret _ _ _ _ _ _ (by
                  have hf : 16 - i = (16 - (i + 1)) + 1 := (by omega)
                  have hb1 : ce = a ∨ ¬ sgn (G 11) T ce 61 := Or.inl c_24
                  have hv : nI ce = pR (G 11) T 16 0 := (by rw [iv_2.1, hf, pR, hcE, if_pos hb1])
                  exact ⟨hv, iv_3, iv_4, fun z => absurd z (nI_m1 (by omega))⟩) hP hS dX5_parse_38
        · skip
          refine lv_aload_n hx hb dX5_parse_27 rfl (lv_at hl 0 rfl) ?_
          refine lv_iload_n hx hb dX5_parse_28 rfl (lv_at hl 3 rfl) ?_
          refine lv_bipush (v := nI 61) hx hb dX5_parse_29 (by decide) ?_
          refine kcV X hP hS (c_X5_isSign l hI (b := 61) iv_4 hT6 (by omega)) oT v_X5_33 ⟨Nat.le_of_ble_eq_true rfl, Nat.le_of_ble_eq_true rfl, rfl, rfl⟩ rfl rfl (Nat.le_of_ble_eq_true rfl) hl.1 ⟨Nat.zero_le _, Nat.zero_le _⟩ dX5_parse_31 (fun r_31 G_31 H locs hR hP hS => ?_)
          obtain ⟨rfl, hG_31⟩ := hR
          rw [hG_31] at hP
          clear hG_31
          rw [e11]
          first
            | refine kif_ne (tgt := 39) hx hb dX5_parse_34 (by decide) (fun c_34 => ?_) (fun c_34 => ?_)
            | refine lv_if_ne (tgt := 39) hx hb dX5_parse_34 (by decide) (fun c_34 => ?_) (fun c_34 => ?_)
          · skip
            refine lv_iload_n hx hb dX5_parse_39 rfl (lv_at hl 3 rfl) ?_
            refine lv_iconst (v := nI 1) hx hb dX5_parse_40 (by decide) ?_
            first
              | refine kadd hx hb dX5_parse_41 (by with_reducible rfl) (by with_reducible rfl) ?_
              | refine lv_iadd hx hb dX5_parse_41 ?_
            refine kistW hx hb dX5_parse_42 hl (by decide) (kp_4_4 rfl) (fun ls hl => ?_)
            refine lv_aload_n hx hb dX5_parse_44 rfl (lv_at hl 0 rfl) ?_
            refine lv_iload hx hb dX5_parse_45 (lv_at hl 4 rfl) ?_
            refine lv_iconst (v := nI 4) hx hb dX5_parse_47 (by decide) ?_
            refine kcV X hP hS (c_X5_endOfNumber l hI (m := 4) iv_4 hT6 (by omega) ⟨by omega, by omega⟩) oT v_X5_29 ⟨Nat.le_of_ble_eq_true rfl, Nat.le_of_ble_eq_true rfl, rfl, rfl⟩ rfl rfl (Nat.le_of_ble_eq_true rfl) hl.1 ⟨Nat.zero_le _, Nat.zero_le _⟩ dX5_parse_48 (fun r_48 G_48 H locs hR hP hS => ?_)
            obtain ⟨rfl, hG_48⟩ := hR
            rw [hG_48] at hP
            clear hG_48
            rw [e11]
            obtain ⟨ve, hve⟩ : ∃ z, z = eon (G 11) T (ce + 1) 4 := ⟨_, rfl⟩
            rw [← hve]
            have b2 := eon_b (G 11) T (ce + 1) 4
            rw [← hve] at b2
            have hvE : vE (G 11) T a = ve := by rw [vE, hcE]; exact hve.symm
            have hb1 : ¬ (ce = a ∨ ¬ sgn (G 11) T ce 61) := fun z => z.elim c_24 (fun q => q c_34)
            have hlt := c_34.1
            refine kistW hx hb dX5_parse_51 hl (by decide) (kp_5_5 rfl) (fun ls hl => ?_)
            refine lv_iload hx hb dX5_parse_53 (lv_at hl 5 rfl) ?_
            refine lv_iload hx hb dX5_parse_55 (lv_at hl 4 rfl) ?_
            first
              | refine kic_ne (tgt := 63) hx hb dX5_parse_57 (by decide) (by with_reducible rfl) (by with_reducible rfl) (by omega) (by omega) (fun c_57 => ?_) (fun c_57 => ?_)
              | refine lv_icmp_ne (tgt := 63) hx hb dX5_parse_57 (by decide) (fun c_57 => ?_) (fun c_57 => ?_)
            · skip
              refine lv_aload_n hx hb dX5_parse_63 rfl (lv_at hl 0 rfl) ?_
              refine kget X hP oT g_X5_15 rfl dX5_parse_64 ?_
              refine lv_iload_n hx hb dX5_parse_67 rfl (lv_at hl 2 rfl) ?_
              refine lv_aload_n hx hb dX5_parse_68 rfl (lv_at hl 0 rfl) ?_
              refine lv_iload_n hx hb dX5_parse_69 rfl (lv_at hl 1 rfl) ?_
              refine lv_iload_n hx hb dX5_parse_70 rfl (lv_at hl 3 rfl) ?_
              refine kcV X hP hS (c_X5_number l hI iv_4 hT6 b1.1 (by have := c_34.1; omega)) oT v_X5_37 ⟨Nat.le_of_ble_eq_true rfl, Nat.le_of_ble_eq_true rfl, rfl, rfl⟩ rfl rfl (Nat.le_of_ble_eq_true rfl) hl.1 ⟨Nat.zero_le _, Nat.zero_le _⟩ dX5_parse_71 (fun r_71 G_71 H locs hR hP hS => ?_)
              obtain ⟨rfl, hG_71⟩ := hR
              rw [hG_71] at hP
              clear hG_71
              rw [e11]
              refine kiast X hI hP hS aTc (by omega) dX5_parse_74 (fun H locs hP hS => ?_)
              refine lv_aload_n hx hb dX5_parse_75 rfl (lv_at hl 0 rfl) ?_
              refine kget X hP oT g_X5_19 rfl dX5_parse_76 ?_
              refine lv_iload_n hx hb dX5_parse_79 rfl (lv_at hl 2 rfl) ?_
              refine lv_aload_n hx hb dX5_parse_80 rfl (lv_at hl 0 rfl) ?_
              refine lv_iload hx hb dX5_parse_81 (lv_at hl 4 rfl) ?_
              refine lv_iload hx hb dX5_parse_83 (lv_at hl 5 rfl) ?_
              refine kcV X hP hS (c_X5_number l hI (T := T) (by simp [gs, iv_4]) hT6 b2.1 (by omega)) oT v_X5_37 ⟨Nat.le_of_ble_eq_true rfl, Nat.le_of_ble_eq_true rfl, rfl, rfl⟩ rfl rfl (Nat.le_of_ble_eq_true rfl) hl.1 ⟨Nat.zero_le _, Nat.zero_le _⟩ dX5_parse_85 (fun r_85 G_85 H locs hR hP hS => ?_)
              obtain ⟨rfl, hG_85⟩ := hR
              rw [hG_85] at hP
              clear hG_85
              rw [gs_other (show (11 : Nat) ≠ 12 by omega), e11]
              refine kiast X hI hP hS aTv (by omega) dX5_parse_88 (fun H locs hP hS => ?_)
              refine lv_aload_n hx hb dX5_parse_89 rfl (lv_at hl 0 rfl) ?_
              refine lv_iload_n hx hb dX5_parse_90 rfl (lv_at hl 2 rfl) ?_
              refine lv_iconst (v := nI 1) hx hb dX5_parse_91 (by decide) ?_
              first
                | refine kadd hx hb dX5_parse_92 (by with_reducible rfl) (by with_reducible rfl) ?_
                | refine lv_iadd hx hb dX5_parse_92 ?_
              refine kput X hI hP hS oT g_X5_26 (fun _ => rfl) rfl (fun _ => Nat.le_of_ble_eq_true rfl) rfl rfl dX5_parse_93 (fun H locs hP hS => ?_)
              refine lv_iload hx hb dX5_parse_96 (lv_at hl 5 rfl) ?_
              refine lv_aload_n hx hb dX5_parse_98 rfl (lv_at hl 0 rfl) ?_
              refine kget X hP oT g_X5_22 (congrArg (fun z => some (Value.int z)) (by simp [gs, iv_4] : _ = nI T)) dX5_parse_99 ?_
              first
                | refine kic_lt (tgt := 107) hx hb dX5_parse_102 (by decide) (by with_reducible rfl) (by with_reducible rfl) (by omega) (by omega) (fun c_102 => ?_) (fun c_102 => ?_)
                | refine lv_icmp_lt (tgt := 107) hx hb dX5_parse_102 (by decide) (fun c_102 => ?_) (fun c_102 => ?_)
              · skip
                refine lv_aload_n hx hb dX5_parse_107 rfl (lv_at hl 0 rfl) ?_
                refine lv_iload hx hb dX5_parse_108 (lv_at hl 5 rfl) ?_
                refine lv_bipush (v := nI 59) hx hb dX5_parse_110 (by decide) ?_
                refine kcV X hP hS (c_X5_isSign l hI (T := T) (b := 59) (by simp [gs, iv_4]) hT6 (by omega)) oT v_X5_33 ⟨Nat.le_of_ble_eq_true rfl, Nat.le_of_ble_eq_true rfl, rfl, rfl⟩ rfl rfl (Nat.le_of_ble_eq_true rfl) hl.1 ⟨Nat.zero_le _, Nat.zero_le _⟩ dX5_parse_112 (fun r_112 G_112 H locs hR hP hS => ?_)
                obtain ⟨rfl, hG_112⟩ := hR
                rw [hG_112] at hP
                clear hG_112
                rw [gs_other (show (11 : Nat) ≠ 10 by omega), gs_other (show (11 : Nat) ≠ 13 by omega), gs_other (show (11 : Nat) ≠ 12 by omega), e11]
                first
                  | refine kif_ne (tgt := 121) hx hb dX5_parse_115 (by decide) (fun c_115 => ?_) (fun c_115 => ?_)
                  | refine lv_if_ne (tgt := 121) hx hb dX5_parse_115 (by decide) (fun c_115 => ?_) (fun c_115 => ?_)
                · skip
                  refine lv_iload hx hb dX5_parse_121 (lv_at hl 5 rfl) ?_
                  refine lv_iconst (v := nI 1) hx hb dX5_parse_123 (by decide) ?_
                  first
                    | refine kadd hx hb dX5_parse_124 (by with_reducible rfl) (by with_reducible rfl) ?_
                    | refine lv_iadd hx hb dX5_parse_124 ?_
                  refine kist hx hb dX5_parse_125 rfl hl (by decide) (kp_6_1 rfl) (fun ls hl => ?_)
                  first
                    | refine kinc (q := 2) hx hb dX5_parse_126 hl rfl (by decide) (kp_6_2 rfl) (fun ls hl => ?_)
                    | refine kincG (q := 2) hx hb dX5_parse_126 hl rfl (by decide) (kp_6_2 rfl) (fun ls hl => ?_)
                  refine lv_goto (tgt := 9) hx hb dX5_parse_129 (by decide) ?_
                  exact ih _ _ _ _ _ _ (by omega) (by have := c_115.1; omega) (⟨by rw [pA, ← iv_1.1, hvE], by omega⟩) (by
                         have hf : 16 - i = (16 - (i + 1)) + 1 := (by omega)
                         have hn1 : ¬ (T ≤ ve) := (by have := c_115.1; omega)
                         have hn2 : ¬ (ve = ce + 1) := c_57
                         have hn3 : ¬ ¬ sgn (G 11) T ve 59 := fun z => z c_115
                         refine ⟨iv_2.1.trans ?_, iv_2.2.trans ?_⟩
                         · rw [hf, pR, hcE, hvE, if_neg hb1, if_neg hn2, if_neg hn1, if_neg hn3]
                         · rw [hf, pW, hcE, hvE, if_neg hb1, if_neg hn2, if_neg hn1, if_neg hn3]; omega) (fun k h1 h2 h3 => by rw [gs_other h1, gs_other h3, gs_other h2]; exact iv_3 k h1 h2 h3) (by simp [gs, iv_4]) (fun t ht => by
                          by_cases e : t = i
                          · subst e
                            refine ⟨?_, ?_⟩
                            · rw [wc, ← iv_1.1, hcE]; simp [gs]
                            · rw [wv, ← iv_1.1, hcE, hvE]; simp [gs]
                          · have q := iv_5 t (by omega)
                            refine ⟨?_, ?_⟩
                            · simp [gs, e]; exact q.1
                            · simp [gs, e]; exact q.2) hP hS (lv_sub hl [0,1,2] rfl)
                · skip
                  refine lv_iload hx hb dX5_parse_118 (lv_at hl 5 rfl) ?_
                  exact hret _ _ _ _ _ _ (by
                          have hf : 16 - i = (16 - (i + 1)) + 1 := (by omega)
                          have hn2 : ¬ (ve = ce + 1) := c_57
                          have hn1 : ¬ (T ≤ ve) := (by omega)
                          have hv : nI ve = pR (G 11) T 16 0 := (by rw [iv_2.1, hf, pR, hcE, hvE, if_neg hb1, if_neg hn2, if_neg hn1, if_pos c_115])
                          exact ⟨hv, fun k h1 h2 h3 => by rw [gs_other h1, gs_other h3, gs_other h2]; exact iv_3 k h1 h2 h3, by simp [gs, iv_4], fun z => absurd z (nI_m1 (by omega))⟩) hP hS dX5_parse_120
              · skip
                refine lv_iconst (v := (-1)) hx hb dX5_parse_105 (by decide) ?_
                exact hret _ _ _ _ _ _ (by
                        have hf : 16 - i = (16 - (i + 1)) + 1 := (by omega)
                        have hn2 : ¬ (ve = ce + 1) := c_57
                        have hv : (-1 : Int32) = pR (G 11) T 16 0 := (by rw [iv_2.1, hf, pR, hcE, hvE, if_neg hb1, if_neg hn2, if_pos c_102])
                        have hw : pW (G 11) T 16 0 = i + 1 := (by rw [iv_2.2, hf, pW, hcE, hvE, if_neg hb1, if_neg hn2, if_pos c_102]; omega)
                        refine ⟨hv, fun k h1 h2 h3 => by rw [gs_other h1, gs_other h3, gs_other h2]; exact iv_3 k h1 h2 h3, by simp [gs, iv_4], fun _ => ⟨by rw [hw]; simp [gs], by omega, fun t ht => ?_⟩⟩
                        by_cases e : t = i
                        · subst e
                          refine ⟨?_, ?_⟩
                          · rw [wc, ← iv_1.1, hcE]; simp [gs]
                          · rw [wv, ← iv_1.1, hcE, hvE]; simp [gs]
                        · have q := iv_5 t (by omega)
                          refine ⟨?_, ?_⟩
                          · simp [gs, e]; exact q.1
                          · simp [gs, e]; exact q.2) hP hS dX5_parse_106
            · skip
              refine lv_iload hx hb dX5_parse_60 (lv_at hl 5 rfl) ?_
              exact hret _ _ _ _ _ _ (by
                      have hf : 16 - i = (16 - (i + 1)) + 1 := (by omega)
                      have hv : nI ve = pR (G 11) T 16 0 := (by rw [iv_2.1, hf, pR, hcE, hvE, if_neg hb1, if_pos c_57])
                      exact ⟨hv, iv_3, iv_4, fun z => absurd z (nI_m1 (by omega))⟩) hP hS dX5_parse_62
          · skip
            refine lv_iload_n hx hb dX5_parse_37 rfl (lv_at hl 3 rfl) ?_
            exact hret _ _ _ _ _ _ (by
                    have hf : 16 - i = (16 - (i + 1)) + 1 := (by omega)
                    have hb1 : ce = a ∨ ¬ sgn (G 11) T ce 61 := Or.inr c_34
                    have hv : nI ce = pR (G 11) T 16 0 := (by rw [iv_2.1, hf, pR, hcE, if_pos hb1])
                    exact ⟨hv, iv_3, iv_4, fun z => absurd z (nI_m1 (by omega))⟩) hP hS dX5_parse_38
  exact lp_9 _ 0 0 (gs G 10 4 (nI 0)) _ _ _ (Nat.lt_succ_self _) (Nat.zero_le _) (⟨rfl, by omega⟩) (⟨rfl, rfl⟩) (fun k h1 h2 h3 => gs_other h1) (by simp [gs, hT]) (fun t h => absurd h (by omega)) hP hS (lv_sub hl [0,1,2] rfl)
end
section
theorem zz_end : True := trivial
end
