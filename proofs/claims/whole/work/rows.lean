section
-- ===== PART A: goes FIRST, ahead of the names: the tables' words, and 'selects' of the private methods out of them =====
/-- a private method of a class that the tables say can be made, by its rows of tables_1 -/
def lw_okq (q : MethodName × Nat) : Prop := (q.1.cls ≠ "java/lang/invoke/MethodHandle" ∧ q.1.cls ≠ "java/lang/invoke/VarHandle") ∧ Cond.instantiable q.1.cls q.2 ∈ tables_1 ∧ Cond.privateMethod q.1 ∈ tables_1 ∧ Cond.instanceMethod q.1 ∈ tables_1
theorem lw_p0 : lw_okq (⟨"DeedNames$Scroll", "readItem", "(LDeedNames$Hill;)Z"⟩, 4) := ⟨⟨by decide +kernel, by decide +kernel⟩, List.mem_of_getElem? (i := 21) (by decide +kernel), List.mem_of_getElem? (i := 278) (by decide +kernel), List.mem_of_getElem? (i := 279) (by decide +kernel)⟩
theorem lw_p1 : lw_okq (⟨"DeedNames$Scroll", "here", "()I"⟩, 4) := ⟨⟨by decide +kernel, by decide +kernel⟩, List.mem_of_getElem? (i := 21) (by decide +kernel), List.mem_of_getElem? (i := 282) (by decide +kernel), List.mem_of_getElem? (i := 283) (by decide +kernel)⟩
theorem lw_p2 : lw_okq (⟨"DeedNames$Scroll", "readPerson", "(LDeedNames$Hill;)Z"⟩, 4) := ⟨⟨by decide +kernel, by decide +kernel⟩, List.mem_of_getElem? (i := 21) (by decide +kernel), List.mem_of_getElem? (i := 287) (by decide +kernel), List.mem_of_getElem? (i := 288) (by decide +kernel)⟩
theorem lw_p3 : lw_okq (⟨"DeedNames$Scroll", "number", "(III)I"⟩, 4) := ⟨⟨by decide +kernel, by decide +kernel⟩, List.mem_of_getElem? (i := 21) (by decide +kernel), List.mem_of_getElem? (i := 291) (by decide +kernel), List.mem_of_getElem? (i := 292) (by decide +kernel)⟩
theorem lw_p4 : lw_okq (⟨"DeedNames$Scroll", "readName", "()I"⟩, 4) := ⟨⟨by decide +kernel, by decide +kernel⟩, List.mem_of_getElem? (i := 21) (by decide +kernel), List.mem_of_getElem? (i := 295) (by decide +kernel), List.mem_of_getElem? (i := 296) (by decide +kernel)⟩
theorem lw_p5 : lw_okq (⟨"DeedNames$Scroll", "readWorth", "(LDeedNames$Hill;)Z"⟩, 4) := ⟨⟨by decide +kernel, by decide +kernel⟩, List.mem_of_getElem? (i := 21) (by decide +kernel), List.mem_of_getElem? (i := 300) (by decide +kernel), List.mem_of_getElem? (i := 301) (by decide +kernel)⟩
theorem lw_p6 : lw_okq (⟨"DeedNames$Scroll", "readShame", "(LDeedNames$Hill;)Z"⟩, 4) := ⟨⟨by decide +kernel, by decide +kernel⟩, List.mem_of_getElem? (i := 21) (by decide +kernel), List.mem_of_getElem? (i := 304) (by decide +kernel), List.mem_of_getElem? (i := 305) (by decide +kernel)⟩
theorem lw_p7 : lw_okq (⟨"DeedNames$Scroll", "readBeats", "(LDeedNames$Hill;)Z"⟩, 4) := ⟨⟨by decide +kernel, by decide +kernel⟩, List.mem_of_getElem? (i := 21) (by decide +kernel), List.mem_of_getElem? (i := 308) (by decide +kernel), List.mem_of_getElem? (i := 309) (by decide +kernel)⟩
theorem lw_p8 : lw_okq (⟨"DeedNames$Scroll", "readBreath", "(LDeedNames$Hill;)Z"⟩, 4) := ⟨⟨by decide +kernel, by decide +kernel⟩, List.mem_of_getElem? (i := 21) (by decide +kernel), List.mem_of_getElem? (i := 312) (by decide +kernel), List.mem_of_getElem? (i := 313) (by decide +kernel)⟩
theorem lw_p9 : lw_okq (⟨"DeedNames$Scroll", "readMisheard", "(LDeedNames$Hill;)Z"⟩, 4) := ⟨⟨by decide +kernel, by decide +kernel⟩, List.mem_of_getElem? (i := 21) (by decide +kernel), List.mem_of_getElem? (i := 316) (by decide +kernel), List.mem_of_getElem? (i := 317) (by decide +kernel)⟩
theorem lw_p10 : lw_okq (⟨"DeedNames", "isSet", "(I)Z"⟩, 9) := ⟨⟨by decide +kernel, by decide +kernel⟩, List.mem_of_getElem? (i := 13) (by decide +kernel), List.mem_of_getElem? (i := 401) (by decide +kernel), List.mem_of_getElem? (i := 402) (by decide +kernel)⟩
theorem lw_p11 : lw_okq (⟨"DeedNames", "everyone", "()I"⟩, 9) := ⟨⟨by decide +kernel, by decide +kernel⟩, List.mem_of_getElem? (i := 13) (by decide +kernel), List.mem_of_getElem? (i := 405) (by decide +kernel), List.mem_of_getElem? (i := 406) (by decide +kernel)⟩
theorem lw_p12 : lw_okq (⟨"DeedNames$Herald", "breathsFor", "(I)I"⟩, 13) := ⟨⟨by decide +kernel, by decide +kernel⟩, List.mem_of_getElem? (i := 147) (by decide +kernel), List.mem_of_getElem? (i := 427) (by decide +kernel), List.mem_of_getElem? (i := 428) (by decide +kernel)⟩
theorem lw_p13 : lw_okq (⟨"DeedNames$Herald", "someoneCanBeLast", "(II)Z"⟩, 13) := ⟨⟨by decide +kernel, by decide +kernel⟩, List.mem_of_getElem? (i := 147) (by decide +kernel), List.mem_of_getElem? (i := 440) (by decide +kernel), List.mem_of_getElem? (i := 441) (by decide +kernel)⟩
theorem lw_p14 : lw_okq (⟨"DeedNames$Herald", "nextSaved", "(III)I"⟩, 13) := ⟨⟨by decide +kernel, by decide +kernel⟩, List.mem_of_getElem? (i := 147) (by decide +kernel), List.mem_of_getElem? (i := 459) (by decide +kernel), List.mem_of_getElem? (i := 460) (by decide +kernel)⟩
theorem lw_p15 : lw_okq (⟨"DeedNames$Herald", "rankAll", "(I)V"⟩, 13) := ⟨⟨by decide +kernel, by decide +kernel⟩, List.mem_of_getElem? (i := 147) (by decide +kernel), List.mem_of_getElem? (i := 476) (by decide +kernel), List.mem_of_getElem? (i := 477) (by decide +kernel)⟩
def lw_privs_1 : List (MethodName × Nat) := [(⟨"DeedNames$Scroll", "readItem", "(LDeedNames$Hill;)Z"⟩, 4), (⟨"DeedNames$Scroll", "here", "()I"⟩, 4), (⟨"DeedNames$Scroll", "readPerson", "(LDeedNames$Hill;)Z"⟩, 4), (⟨"DeedNames$Scroll", "number", "(III)I"⟩, 4), (⟨"DeedNames$Scroll", "readName", "()I"⟩, 4), (⟨"DeedNames$Scroll", "readWorth", "(LDeedNames$Hill;)Z"⟩, 4), (⟨"DeedNames$Scroll", "readShame", "(LDeedNames$Hill;)Z"⟩, 4), (⟨"DeedNames$Scroll", "readBeats", "(LDeedNames$Hill;)Z"⟩, 4), (⟨"DeedNames$Scroll", "readBreath", "(LDeedNames$Hill;)Z"⟩, 4), (⟨"DeedNames$Scroll", "readMisheard", "(LDeedNames$Hill;)Z"⟩, 4), (⟨"DeedNames", "isSet", "(I)Z"⟩, 9), (⟨"DeedNames", "everyone", "()I"⟩, 9), (⟨"DeedNames$Herald", "breathsFor", "(I)I"⟩, 13), (⟨"DeedNames$Herald", "someoneCanBeLast", "(II)Z"⟩, 13), (⟨"DeedNames$Herald", "nextSaved", "(III)I"⟩, 13), (⟨"DeedNames$Herald", "rankAll", "(I)V"⟩, 13)]
theorem lw_r1 : ∀ q ∈ lw_privs_1, lw_okq q := List.forall_mem_cons.mpr ⟨lw_p0, List.forall_mem_cons.mpr ⟨lw_p1, List.forall_mem_cons.mpr ⟨lw_p2, List.forall_mem_cons.mpr ⟨lw_p3, List.forall_mem_cons.mpr ⟨lw_p4, List.forall_mem_cons.mpr ⟨lw_p5, List.forall_mem_cons.mpr ⟨lw_p6, List.forall_mem_cons.mpr ⟨lw_p7, List.forall_mem_cons.mpr ⟨lw_p8, List.forall_mem_cons.mpr ⟨lw_p9, List.forall_mem_cons.mpr ⟨lw_p10, List.forall_mem_cons.mpr ⟨lw_p11, List.forall_mem_cons.mpr ⟨lw_p12, List.forall_mem_cons.mpr ⟨lw_p13, List.forall_mem_cons.mpr ⟨lw_p14, List.forall_mem_cons.mpr ⟨lw_p15, fun _ h => absurd h List.not_mem_nil⟩⟩⟩⟩⟩⟩⟩⟩⟩⟩⟩⟩⟩⟩⟩⟩
theorem lw_p16 : lw_okq (⟨"DeedNames$Herald", "nothingPacked", "()I"⟩, 13) := ⟨⟨by decide +kernel, by decide +kernel⟩, List.mem_of_getElem? (i := 147) (by decide +kernel), List.mem_of_getElem? (i := 480) (by decide +kernel), List.mem_of_getElem? (i := 481) (by decide +kernel)⟩
theorem lw_p17 : lw_okq (⟨"DeedNames$Herald", "leastPacking", "(I)I"⟩, 13) := ⟨⟨by decide +kernel, by decide +kernel⟩, List.mem_of_getElem? (i := 147) (by decide +kernel), List.mem_of_getElem? (i := 484) (by decide +kernel), List.mem_of_getElem? (i := 485) (by decide +kernel)⟩
theorem lw_p18 : lw_okq (⟨"DeedNames$Herald", "mayBeFirst", "(II)Z"⟩, 13) := ⟨⟨by decide +kernel, by decide +kernel⟩, List.mem_of_getElem? (i := 147) (by decide +kernel), List.mem_of_getElem? (i := 488) (by decide +kernel), List.mem_of_getElem? (i := 489) (by decide +kernel)⟩
theorem lw_p19 : lw_okq (⟨"DeedNames$Herald", "packed", "(II)I"⟩, 13) := ⟨⟨by decide +kernel, by decide +kernel⟩, List.mem_of_getElem? (i := 147) (by decide +kernel), List.mem_of_getElem? (i := 492) (by decide +kernel), List.mem_of_getElem? (i := 493) (by decide +kernel)⟩
theorem lw_p20 : lw_okq (⟨"DeedNames$Herald", "nextGreeted", "(III)I"⟩, 13) := ⟨⟨by decide +kernel, by decide +kernel⟩, List.mem_of_getElem? (i := 147) (by decide +kernel), List.mem_of_getElem? (i := 500) (by decide +kernel), List.mem_of_getElem? (i := 501) (by decide +kernel)⟩
theorem lw_p21 : lw_okq (⟨"DeedNames$Herald", "joined", "(II)I"⟩, 13) := ⟨⟨by decide +kernel, by decide +kernel⟩, List.mem_of_getElem? (i := 147) (by decide +kernel), List.mem_of_getElem? (i := 504) (by decide +kernel), List.mem_of_getElem? (i := 505) (by decide +kernel)⟩
theorem lw_p22 : lw_okq (⟨"DeedNames$Names", "alike", "(II)I"⟩, 4) := ⟨⟨by decide +kernel, by decide +kernel⟩, List.mem_of_getElem? (i := 49) (by decide +kernel), List.mem_of_getElem? (i := 518) (by decide +kernel), List.mem_of_getElem? (i := 519) (by decide +kernel)⟩
theorem lw_p23 : lw_okq (⟨"DeedNames", "weightOf", "(I)J"⟩, 9) := ⟨⟨by decide +kernel, by decide +kernel⟩, List.mem_of_getElem? (i := 13) (by decide +kernel), List.mem_of_getElem? (i := 559) (by decide +kernel), List.mem_of_getElem? (i := 560) (by decide +kernel)⟩
theorem lw_p24 : lw_okq (⟨"DeedNames", "keptPlace", "(I)LDeedNames$Memory;"⟩, 9) := ⟨⟨by decide +kernel, by decide +kernel⟩, List.mem_of_getElem? (i := 13) (by decide +kernel), List.mem_of_getElem? (i := 616) (by decide +kernel), List.mem_of_getElem? (i := 617) (by decide +kernel)⟩
theorem lw_p25 : lw_okq (⟨"DeedNamesModel", "noHill", "(I)V"⟩, 26) := ⟨⟨by decide +kernel, by decide +kernel⟩, List.mem_of_getElem? (i := 638) (by decide +kernel), List.mem_of_getElem? (i := 644) (by decide +kernel), List.mem_of_getElem? (i := 645) (by decide +kernel)⟩
theorem lw_p26 : lw_okq (⟨"DeedNamesModel", "layHill", "()V"⟩, 26) := ⟨⟨by decide +kernel, by decide +kernel⟩, List.mem_of_getElem? (i := 638) (by decide +kernel), List.mem_of_getElem? (i := 648) (by decide +kernel), List.mem_of_getElem? (i := 649) (by decide +kernel)⟩
theorem lw_p27 : lw_okq (⟨"DeedNamesModel", "readAll", "()I"⟩, 26) := ⟨⟨by decide +kernel, by decide +kernel⟩, List.mem_of_getElem? (i := 638) (by decide +kernel), List.mem_of_getElem? (i := 748) (by decide +kernel), List.mem_of_getElem? (i := 749) (by decide +kernel)⟩
theorem lw_p28 : lw_okq (⟨"DeedNamesModel", "item", "()Z"⟩, 26) := ⟨⟨by decide +kernel, by decide +kernel⟩, List.mem_of_getElem? (i := 638) (by decide +kernel), List.mem_of_getElem? (i := 752) (by decide +kernel), List.mem_of_getElem? (i := 753) (by decide +kernel)⟩
theorem lw_p29 : lw_okq (⟨"DeedNamesModel", "byteAt", "(I)I"⟩, 26) := ⟨⟨by decide +kernel, by decide +kernel⟩, List.mem_of_getElem? (i := 638) (by decide +kernel), List.mem_of_getElem? (i := 756) (by decide +kernel), List.mem_of_getElem? (i := 757) (by decide +kernel)⟩
theorem lw_p30 : lw_okq (⟨"DeedNamesModel", "personItem", "()Z"⟩, 26) := ⟨⟨by decide +kernel, by decide +kernel⟩, List.mem_of_getElem? (i := 638) (by decide +kernel), List.mem_of_getElem? (i := 760) (by decide +kernel), List.mem_of_getElem? (i := 761) (by decide +kernel)⟩
theorem lw_p31 : lw_okq (⟨"DeedNamesModel", "figures", "(II)Z"⟩, 26) := ⟨⟨by decide +kernel, by decide +kernel⟩, List.mem_of_getElem? (i := 638) (by decide +kernel), List.mem_of_getElem? (i := 764) (by decide +kernel), List.mem_of_getElem? (i := 765) (by decide +kernel)⟩
def lw_privs_2 : List (MethodName × Nat) := [(⟨"DeedNames$Herald", "nothingPacked", "()I"⟩, 13), (⟨"DeedNames$Herald", "leastPacking", "(I)I"⟩, 13), (⟨"DeedNames$Herald", "mayBeFirst", "(II)Z"⟩, 13), (⟨"DeedNames$Herald", "packed", "(II)I"⟩, 13), (⟨"DeedNames$Herald", "nextGreeted", "(III)I"⟩, 13), (⟨"DeedNames$Herald", "joined", "(II)I"⟩, 13), (⟨"DeedNames$Names", "alike", "(II)I"⟩, 4), (⟨"DeedNames", "weightOf", "(I)J"⟩, 9), (⟨"DeedNames", "keptPlace", "(I)LDeedNames$Memory;"⟩, 9), (⟨"DeedNamesModel", "noHill", "(I)V"⟩, 26), (⟨"DeedNamesModel", "layHill", "()V"⟩, 26), (⟨"DeedNamesModel", "readAll", "()I"⟩, 26), (⟨"DeedNamesModel", "item", "()Z"⟩, 26), (⟨"DeedNamesModel", "byteAt", "(I)I"⟩, 26), (⟨"DeedNamesModel", "personItem", "()Z"⟩, 26), (⟨"DeedNamesModel", "figures", "(II)Z"⟩, 26)]
theorem lw_r2 : ∀ q ∈ lw_privs_2, lw_okq q := List.forall_mem_cons.mpr ⟨lw_p16, List.forall_mem_cons.mpr ⟨lw_p17, List.forall_mem_cons.mpr ⟨lw_p18, List.forall_mem_cons.mpr ⟨lw_p19, List.forall_mem_cons.mpr ⟨lw_p20, List.forall_mem_cons.mpr ⟨lw_p21, List.forall_mem_cons.mpr ⟨lw_p22, List.forall_mem_cons.mpr ⟨lw_p23, List.forall_mem_cons.mpr ⟨lw_p24, List.forall_mem_cons.mpr ⟨lw_p25, List.forall_mem_cons.mpr ⟨lw_p26, List.forall_mem_cons.mpr ⟨lw_p27, List.forall_mem_cons.mpr ⟨lw_p28, List.forall_mem_cons.mpr ⟨lw_p29, List.forall_mem_cons.mpr ⟨lw_p30, List.forall_mem_cons.mpr ⟨lw_p31, fun _ h => absurd h List.not_mem_nil⟩⟩⟩⟩⟩⟩⟩⟩⟩⟩⟩⟩⟩⟩⟩⟩
theorem lw_p32 : lw_okq (⟨"DeedNamesModel", "isPerson", "(I)Z"⟩, 26) := ⟨⟨by decide +kernel, by decide +kernel⟩, List.mem_of_getElem? (i := 638) (by decide +kernel), List.mem_of_getElem? (i := 782) (by decide +kernel), List.mem_of_getElem? (i := 783) (by decide +kernel)⟩
theorem lw_p33 : lw_okq (⟨"DeedNamesModel", "sayNow", "()V"⟩, 26) := ⟨⟨by decide +kernel, by decide +kernel⟩, List.mem_of_getElem? (i := 638) (by decide +kernel), List.mem_of_getElem? (i := 787) (by decide +kernel), List.mem_of_getElem? (i := 788) (by decide +kernel)⟩
theorem lw_p34 : lw_okq (⟨"DeedNamesModel", "laySaid", "(III)V"⟩, 26) := ⟨⟨by decide +kernel, by decide +kernel⟩, List.mem_of_getElem? (i := 638) (by decide +kernel), List.mem_of_getElem? (i := 791) (by decide +kernel), List.mem_of_getElem? (i := 792) (by decide +kernel)⟩
theorem lw_p35 : lw_okq (⟨"DeedNamesModel", "doDeed", "(II)Z"⟩, 26) := ⟨⟨by decide +kernel, by decide +kernel⟩, List.mem_of_getElem? (i := 638) (by decide +kernel), List.mem_of_getElem? (i := 804) (by decide +kernel), List.mem_of_getElem? (i := 805) (by decide +kernel)⟩
theorem lw_p36 : lw_okq (⟨"DeedNamesModel", "isSet", "(I)Z"⟩, 26) := ⟨⟨by decide +kernel, by decide +kernel⟩, List.mem_of_getElem? (i := 638) (by decide +kernel), List.mem_of_getElem? (i := 816) (by decide +kernel), List.mem_of_getElem? (i := 817) (by decide +kernel)⟩
theorem lw_p37 : lw_okq (⟨"DeedNamesModel", "cryOf", "(I)I"⟩, 26) := ⟨⟨by decide +kernel, by decide +kernel⟩, List.mem_of_getElem? (i := 638) (by decide +kernel), List.mem_of_getElem? (i := 820) (by decide +kernel), List.mem_of_getElem? (i := 821) (by decide +kernel)⟩
theorem lw_p38 : lw_okq (⟨"DeedNamesModel", "layWarning", "(I)I"⟩, 26) := ⟨⟨by decide +kernel, by decide +kernel⟩, List.mem_of_getElem? (i := 638) (by decide +kernel), List.mem_of_getElem? (i := 832) (by decide +kernel), List.mem_of_getElem? (i := 833) (by decide +kernel)⟩
theorem lw_p39 : lw_okq (⟨"DeedNamesModel", "isInTime", "(III)Z"⟩, 26) := ⟨⟨by decide +kernel, by decide +kernel⟩, List.mem_of_getElem? (i := 638) (by decide +kernel), List.mem_of_getElem? (i := 836) (by decide +kernel), List.mem_of_getElem? (i := 837) (by decide +kernel)⟩
theorem lw_p40 : lw_okq (⟨"DeedNamesModel", "layFollows", "(II)V"⟩, 26) := ⟨⟨by decide +kernel, by decide +kernel⟩, List.mem_of_getElem? (i := 638) (by decide +kernel), List.mem_of_getElem? (i := 848) (by decide +kernel), List.mem_of_getElem? (i := 849) (by decide +kernel)⟩
theorem lw_p41 : lw_okq (⟨"DeedNamesModel", "layNeeds", "(I)V"⟩, 26) := ⟨⟨by decide +kernel, by decide +kernel⟩, List.mem_of_getElem? (i := 638) (by decide +kernel), List.mem_of_getElem? (i := 857) (by decide +kernel), List.mem_of_getElem? (i := 858) (by decide +kernel)⟩
theorem lw_p42 : lw_okq (⟨"DeedNamesModel", "mayGreet", "(III)Z"⟩, 26) := ⟨⟨by decide +kernel, by decide +kernel⟩, List.mem_of_getElem? (i := 638) (by decide +kernel), List.mem_of_getElem? (i := 861) (by decide +kernel), List.mem_of_getElem? (i := 862) (by decide +kernel)⟩
theorem lw_p43 : lw_okq (⟨"DeedNamesModel", "breathsFor", "(II)I"⟩, 26) := ⟨⟨by decide +kernel, by decide +kernel⟩, List.mem_of_getElem? (i := 638) (by decide +kernel), List.mem_of_getElem? (i := 865) (by decide +kernel), List.mem_of_getElem? (i := 866) (by decide +kernel)⟩
theorem lw_p44 : lw_okq (⟨"DeedNamesModel", "roomBehind", "(II)I"⟩, 26) := ⟨⟨by decide +kernel, by decide +kernel⟩, List.mem_of_getElem? (i := 638) (by decide +kernel), List.mem_of_getElem? (i := 869) (by decide +kernel), List.mem_of_getElem? (i := 870) (by decide +kernel)⟩
theorem lw_p45 : lw_okq (⟨"DeedNamesModel", "shortOf", "(III)I"⟩, 26) := ⟨⟨by decide +kernel, by decide +kernel⟩, List.mem_of_getElem? (i := 638) (by decide +kernel), List.mem_of_getElem? (i := 877) (by decide +kernel), List.mem_of_getElem? (i := 878) (by decide +kernel)⟩
theorem lw_p46 : lw_okq (⟨"DeedNamesModel", "answers", "(III)Z"⟩, 26) := ⟨⟨by decide +kernel, by decide +kernel⟩, List.mem_of_getElem? (i := 638) (by decide +kernel), List.mem_of_getElem? (i := 881) (by decide +kernel), List.mem_of_getElem? (i := 882) (by decide +kernel)⟩
theorem lw_p47 : lw_okq (⟨"DeedNamesModel", "allShortOf", "(II)I"⟩, 26) := ⟨⟨by decide +kernel, by decide +kernel⟩, List.mem_of_getElem? (i := 638) (by decide +kernel), List.mem_of_getElem? (i := 889) (by decide +kernel), List.mem_of_getElem? (i := 890) (by decide +kernel)⟩
def lw_privs_3 : List (MethodName × Nat) := [(⟨"DeedNamesModel", "isPerson", "(I)Z"⟩, 26), (⟨"DeedNamesModel", "sayNow", "()V"⟩, 26), (⟨"DeedNamesModel", "laySaid", "(III)V"⟩, 26), (⟨"DeedNamesModel", "doDeed", "(II)Z"⟩, 26), (⟨"DeedNamesModel", "isSet", "(I)Z"⟩, 26), (⟨"DeedNamesModel", "cryOf", "(I)I"⟩, 26), (⟨"DeedNamesModel", "layWarning", "(I)I"⟩, 26), (⟨"DeedNamesModel", "isInTime", "(III)Z"⟩, 26), (⟨"DeedNamesModel", "layFollows", "(II)V"⟩, 26), (⟨"DeedNamesModel", "layNeeds", "(I)V"⟩, 26), (⟨"DeedNamesModel", "mayGreet", "(III)Z"⟩, 26), (⟨"DeedNamesModel", "breathsFor", "(II)I"⟩, 26), (⟨"DeedNamesModel", "roomBehind", "(II)I"⟩, 26), (⟨"DeedNamesModel", "shortOf", "(III)I"⟩, 26), (⟨"DeedNamesModel", "answers", "(III)Z"⟩, 26), (⟨"DeedNamesModel", "allShortOf", "(II)I"⟩, 26)]
theorem lw_r3 : ∀ q ∈ lw_privs_3, lw_okq q := List.forall_mem_cons.mpr ⟨lw_p32, List.forall_mem_cons.mpr ⟨lw_p33, List.forall_mem_cons.mpr ⟨lw_p34, List.forall_mem_cons.mpr ⟨lw_p35, List.forall_mem_cons.mpr ⟨lw_p36, List.forall_mem_cons.mpr ⟨lw_p37, List.forall_mem_cons.mpr ⟨lw_p38, List.forall_mem_cons.mpr ⟨lw_p39, List.forall_mem_cons.mpr ⟨lw_p40, List.forall_mem_cons.mpr ⟨lw_p41, List.forall_mem_cons.mpr ⟨lw_p42, List.forall_mem_cons.mpr ⟨lw_p43, List.forall_mem_cons.mpr ⟨lw_p44, List.forall_mem_cons.mpr ⟨lw_p45, List.forall_mem_cons.mpr ⟨lw_p46, List.forall_mem_cons.mpr ⟨lw_p47, fun _ h => absurd h List.not_mem_nil⟩⟩⟩⟩⟩⟩⟩⟩⟩⟩⟩⟩⟩⟩⟩⟩
theorem lw_p48 : lw_okq (⟨"DeedNamesModel", "weightOf", "(I)J"⟩, 26) := ⟨⟨by decide +kernel, by decide +kernel⟩, List.mem_of_getElem? (i := 638) (by decide +kernel), List.mem_of_getElem? (i := 909) (by decide +kernel), List.mem_of_getElem? (i := 910) (by decide +kernel)⟩
theorem lw_p49 : lw_okq (⟨"DeedNamesModel", "goYears", "(II)V"⟩, 26) := ⟨⟨by decide +kernel, by decide +kernel⟩, List.mem_of_getElem? (i := 638) (by decide +kernel), List.mem_of_getElem? (i := 929) (by decide +kernel), List.mem_of_getElem? (i := 930) (by decide +kernel)⟩
theorem lw_p50 : lw_okq (⟨"DeedNamesModel", "copy", "(II)V"⟩, 26) := ⟨⟨by decide +kernel, by decide +kernel⟩, List.mem_of_getElem? (i := 638) (by decide +kernel), List.mem_of_getElem? (i := 933) (by decide +kernel), List.mem_of_getElem? (i := 934) (by decide +kernel)⟩
theorem lw_p51 : lw_okq (⟨"DeedNamesModel", "copyHeard", "(II)V"⟩, 26) := ⟨⟨by decide +kernel, by decide +kernel⟩, List.mem_of_getElem? (i := 638) (by decide +kernel), List.mem_of_getElem? (i := 949) (by decide +kernel), List.mem_of_getElem? (i := 950) (by decide +kernel)⟩
def lw_privs_4 : List (MethodName × Nat) := [(⟨"DeedNamesModel", "weightOf", "(I)J"⟩, 26), (⟨"DeedNamesModel", "goYears", "(II)V"⟩, 26), (⟨"DeedNamesModel", "copy", "(II)V"⟩, 26), (⟨"DeedNamesModel", "copyHeard", "(II)V"⟩, 26)]
theorem lw_r4 : ∀ q ∈ lw_privs_4, lw_okq q := List.forall_mem_cons.mpr ⟨lw_p48, List.forall_mem_cons.mpr ⟨lw_p49, List.forall_mem_cons.mpr ⟨lw_p50, List.forall_mem_cons.mpr ⟨lw_p51, fun _ h => absurd h List.not_mem_nil⟩⟩⟩⟩
def lw_privs : List (MethodName × Nat) := lw_privs_1 ++ (lw_privs_2 ++ (lw_privs_3 ++ (lw_privs_4)))
def lw_tbl : List Cond := k2_sels lw_privs ++ tables_1
theorem lw_privs_ok : ∀ q ∈ lw_privs, lw_okq q := by
  show ∀ q ∈ lw_privs_1 ++ (lw_privs_2 ++ (lw_privs_3 ++ (lw_privs_4))), lw_okq q
  exact List.forall_mem_append.mpr ⟨lw_r1, List.forall_mem_append.mpr ⟨lw_r2, List.forall_mem_append.mpr ⟨lw_r3, lw_r4⟩⟩⟩
end
section
def RX0 : String := "DeedNames$Ear"
def TX0 : u_T := fun k => match k with
  | 0 => ("DeedNames$Ear", "syllables", "[I", true)
  | _ => ("DeedNames$Ear", "size", "I", false)
def tyX0 : Nat → FieldType := fun k => match k with
  | 0 => .array .int
  | _ => .int
abbrev wsX00 : List Cond := u_ws RX0 TX0 2
theorem nmX0 : ∀ a, a < 2 → ∀ b, b < 2 → a ≠ b → (TX0 a).2.1 ≠ (TX0 b).2.1 := by decide +kernel
theorem tyX0_ok : ∀ k, k < 2 → parseFieldDescriptor (TX0 k).2.2.1 = some (tyX0 k) := by decide +kernel
abbrev cX0_init : ByteArray := prog_2_method_1_code
def yX0_init : MethodName := ⟨RX0, "<init>", "()V"⟩
abbrev cX0_empty : ByteArray := prog_2_method_2_code
def yX0_empty : MethodName := ⟨RX0, "empty", "()V"⟩
abbrev cX0_copyFrom : ByteArray := prog_2_method_3_code
def yX0_copyFrom : MethodName := ⟨RX0, "copyFrom", "(LDeedNames$Ear;)V"⟩
abbrev cX0_take : ByteArray := prog_2_method_4_code
def yX0_take : MethodName := ⟨RX0, "take", "(I)Z"⟩
abbrev cX0_likeness : ByteArray := prog_2_method_5_code
def yX0_likeness : MethodName := ⟨RX0, "likeness", "(LDeedNames$Names;II)J"⟩
def RX1 : String := "DeedNames$Herald"
def TX1 : u_T := fun k => match k with
  | 0 => ("DeedNames$Herald", "people", "I", false)
  | 1 => ("DeedNames$Herald", "inBreath", "I", false)
  | 2 => ("DeedNames$Herald", "toDraw", "I", false)
  | 3 => ("DeedNames$Herald", "longs", "[I", true)
  | 4 => ("DeedNames$Herald", "beats", "[I", true)
  | 5 => ("DeedNames$Herald", "paces", "[I", true)
  | 6 => ("DeedNames$Herald", "ranks", "[I", true)
  | 7 => ("DeedNames$Herald", "times", "[I", true)
  | 8 => ("DeedNames$Herald", "works", "[Z", true)
  | 9 => ("DeedNames$Herald", "higher", "[I", true)
  | 10 => ("DeedNames$Herald", "packings", "[I", true)
  | 11 => ("DeedNames$Herald", "order", "[I", true)
  | _ => ("DeedNames$Herald", "ordered", "I", false)
def tyX1 : Nat → FieldType := fun k => match k with
  | 0 => .int
  | 1 => .int
  | 2 => .int
  | 3 => .array .int
  | 4 => .array .int
  | 5 => .array .int
  | 6 => .array .int
  | 7 => .array .int
  | 8 => .array .boolean
  | 9 => .array .int
  | 10 => .array .int
  | 11 => .array .int
  | _ => .int
abbrev wsX10 : List Cond := u_ws RX1 TX1 13
theorem nmX1 : ∀ a, a < 13 → ∀ b, b < 13 → a ≠ b → (TX1 a).2.1 ≠ (TX1 b).2.1 := by decide +kernel
theorem tyX1_ok : ∀ k, k < 13 → parseFieldDescriptor (TX1 k).2.2.1 = some (tyX1 k) := by decide +kernel
abbrev cX1_init : ByteArray := prog_3_method_1_code
def yX1_init : MethodName := ⟨RX1, "<init>", "()V"⟩
abbrev cX1_learn : ByteArray := prog_3_method_2_code
def yX1_learn : MethodName := ⟨RX1, "learn", "(LDeedNames$Hill;LDeedNames$Names;)V"⟩
abbrev cX1_inOrder : ByteArray := prog_3_method_3_code
def yX1_inOrder : MethodName := ⟨RX1, "inOrder", "(I)I"⟩
abbrev cX1_breathsFor : ByteArray := prog_3_method_4_code
def yX1_breathsFor : MethodName := ⟨RX1, "breathsFor", "(I)I"⟩
abbrev cX1_beatsToCall : ByteArray := prog_3_method_5_code
def yX1_beatsToCall : MethodName := ⟨RX1, "beatsToCall", "(I)I"⟩
abbrev cX1_mostSaved : ByteArray := prog_3_method_6_code
def yX1_mostSaved : MethodName := ⟨RX1, "mostSaved", "(I)I"⟩
abbrev cX1_someoneCanBeLast : ByteArray := prog_3_method_7_code
def yX1_someoneCanBeLast : MethodName := ⟨RX1, "someoneCanBeLast", "(II)Z"⟩
abbrev cX1_orderWarning : ByteArray := prog_3_method_8_code
def yX1_orderWarning : MethodName := ⟨RX1, "orderWarning", "(II)V"⟩
abbrev cX1_nextSaved : ByteArray := prog_3_method_9_code
def yX1_nextSaved : MethodName := ⟨RX1, "nextSaved", "(III)I"⟩
abbrev cX1_fewestBreaths : ByteArray := prog_3_method_10_code
def yX1_fewestBreaths : MethodName := ⟨RX1, "fewestBreaths", "(I)I"⟩
abbrev cX1_rankAll : ByteArray := prog_3_method_11_code
def yX1_rankAll : MethodName := ⟨RX1, "rankAll", "(I)V"⟩
abbrev cX1_mayBeFirst : ByteArray := prog_3_method_12_code
def yX1_mayBeFirst : MethodName := ⟨RX1, "mayBeFirst", "(II)Z"⟩
abbrev cX1_leastPacking : ByteArray := prog_3_method_13_code
def yX1_leastPacking : MethodName := ⟨RX1, "leastPacking", "(I)I"⟩
abbrev cX1_nothingPacked : ByteArray := prog_3_method_14_code
def yX1_nothingPacked : MethodName := ⟨RX1, "nothingPacked", "()I"⟩
abbrev cX1_packed : ByteArray := prog_3_method_15_code
def yX1_packed : MethodName := ⟨RX1, "packed", "(II)I"⟩
abbrev cX1_joined : ByteArray := prog_3_method_16_code
def yX1_joined : MethodName := ⟨RX1, "joined", "(II)I"⟩
abbrev cX1_orderCouncil : ByteArray := prog_3_method_17_code
def yX1_orderCouncil : MethodName := ⟨RX1, "orderCouncil", "(II)V"⟩
abbrev cX1_nextGreeted : ByteArray := prog_3_method_18_code
def yX1_nextGreeted : MethodName := ⟨RX1, "nextGreeted", "(III)I"⟩
def RX2 : String := "DeedNames$Hill"
def TX2 : u_T := fun k => match k with
  | 0 => ("DeedNames$Hill", "names", "LDeedNames$Names;", true)
  | 1 => ("DeedNames$Hill", "paces", "[I", true)
  | 2 => ("DeedNames$Hill", "ranks", "[I", true)
  | 3 => ("DeedNames$Hill", "worth", "[I", true)
  | 4 => ("DeedNames$Hill", "shame", "[Z", true)
  | 5 => ("DeedNames$Hill", "beats", "[I", true)
  | 6 => ("DeedNames$Hill", "inBreath", "I", false)
  | 7 => ("DeedNames$Hill", "toDraw", "I", false)
  | _ => ("DeedNames$Hill", "misheard", "I", false)
def tyX2 : Nat → FieldType := fun k => match k with
  | 0 => .object "DeedNames$Names"
  | 1 => .array .int
  | 2 => .array .int
  | 3 => .array .int
  | 4 => .array .boolean
  | 5 => .array .int
  | 6 => .int
  | 7 => .int
  | _ => .int
abbrev wsX20 : List Cond := u_ws RX2 TX2 9
theorem nmX2 : ∀ a, a < 9 → ∀ b, b < 9 → a ≠ b → (TX2 a).2.1 ≠ (TX2 b).2.1 := by decide +kernel
theorem tyX2_ok : ∀ k, k < 9 → parseFieldDescriptor (TX2 k).2.2.1 = some (tyX2 k) := by decide +kernel
abbrev cX2_init : ByteArray := prog_4_method_1_code
def yX2_init : MethodName := ⟨RX2, "<init>", "()V"⟩
abbrev cX2_empty : ByteArray := prog_4_method_2_code
def yX2_empty : MethodName := ⟨RX2, "empty", "()V"⟩
abbrev cX2_settle : ByteArray := prog_4_method_3_code
def yX2_settle : MethodName := ⟨RX2, "settle", "(I[IIII)Z"⟩
abbrev cX2_pacesOf : ByteArray := prog_4_method_4_code
def yX2_pacesOf : MethodName := ⟨RX2, "pacesOf", "(I)I"⟩
abbrev cX2_rankOf : ByteArray := prog_4_method_5_code
def yX2_rankOf : MethodName := ⟨RX2, "rankOf", "(I)I"⟩
abbrev cX2_beatsOf : ByteArray := prog_4_method_6_code
def yX2_beatsOf : MethodName := ⟨RX2, "beatsOf", "(LDeedNames$Names;I)I"⟩
abbrev cX2_doDeed : ByteArray := prog_4_method_7_code
def yX2_doDeed : MethodName := ⟨RX2, "doDeed", "(LDeedNames$Names;II)Z"⟩
abbrev cX2_liveYears : ByteArray := prog_4_method_8_code
def yX2_liveYears : MethodName := ⟨RX2, "liveYears", "(LDeedNames$Names;LDeedNames$Names;II)V"⟩
abbrev cX2_drawnDeed : ByteArray := prog_4_method_9_code
def yX2_drawnDeed : MethodName := ⟨RX2, "drawnDeed", "(III)I"⟩
def RX3 : String := "DeedNames$Memory"
def TX3 : u_T := fun k => match k with
  | 0 => ("DeedNames$Memory", "names", "LDeedNames$Names;", true)
  | _ => ("DeedNames$Memory", "ear", "LDeedNames$Ear;", true)
def tyX3 : Nat → FieldType := fun k => match k with
  | 0 => .object "DeedNames$Names"
  | _ => .object "DeedNames$Ear"
abbrev wsX30 : List Cond := u_ws RX3 TX3 2
theorem nmX3 : ∀ a, a < 2 → ∀ b, b < 2 → a ≠ b → (TX3 a).2.1 ≠ (TX3 b).2.1 := by decide +kernel
theorem tyX3_ok : ∀ k, k < 2 → parseFieldDescriptor (TX3 k).2.2.1 = some (tyX3 k) := by decide +kernel
abbrev cX3_init : ByteArray := prog_5_method_1_code
def yX3_init : MethodName := ⟨RX3, "<init>", "()V"⟩
abbrev cX3_copyFrom : ByteArray := prog_5_method_2_code
def yX3_copyFrom : MethodName := ⟨RX3, "copyFrom", "(LDeedNames$Memory;)V"⟩
def RX4 : String := "DeedNames$Names"
def TX4 : u_T := fun k => match k with
  | 0 => ("DeedNames$Names", "kinds", "[I", true)
  | 1 => ("DeedNames$Names", "sizes", "[I", true)
  | 2 => ("DeedNames$Names", "syllables", "[I", true)
  | _ => ("DeedNames$Names", "people", "I", false)
def tyX4 : Nat → FieldType := fun k => match k with
  | 0 => .array .int
  | 1 => .array .int
  | 2 => .array .int
  | _ => .int
abbrev wsX40 : List Cond := u_ws RX4 TX4 4
theorem nmX4 : ∀ a, a < 4 → ∀ b, b < 4 → a ≠ b → (TX4 a).2.1 ≠ (TX4 b).2.1 := by decide +kernel
theorem tyX4_ok : ∀ k, k < 4 → parseFieldDescriptor (TX4 k).2.2.1 = some (tyX4 k) := by decide +kernel
abbrev cX4_init : ByteArray := prog_6_method_1_code
def yX4_init : MethodName := ⟨RX4, "<init>", "()V"⟩
abbrev cX4_copyFrom : ByteArray := prog_6_method_2_code
def yX4_copyFrom : MethodName := ⟨RX4, "copyFrom", "(LDeedNames$Names;)V"⟩
abbrev cX4_has : ByteArray := prog_6_method_3_code
def yX4_has : MethodName := ⟨RX4, "has", "(I)Z"⟩
abbrev cX4_enter : ByteArray := prog_6_method_4_code
def yX4_enter : MethodName := ⟨RX4, "enter", "(I[II)Z"⟩
abbrev cX4_kindOf : ByteArray := prog_6_method_5_code
def yX4_kindOf : MethodName := ⟨RX4, "kindOf", "(I)I"⟩
abbrev cX4_changeKind : ByteArray := prog_6_method_6_code
def yX4_changeKind : MethodName := ⟨RX4, "changeKind", "(II)I"⟩
abbrev cX4_sizeOf : ByteArray := prog_6_method_7_code
def yX4_sizeOf : MethodName := ⟨RX4, "sizeOf", "(I)I"⟩
abbrev cX4_longOf : ByteArray := prog_6_method_8_code
def yX4_longOf : MethodName := ⟨RX4, "longOf", "(I)I"⟩
abbrev cX4_longest : ByteArray := prog_6_method_9_code
def yX4_longest : MethodName := ⟨RX4, "longest", "()I"⟩
abbrev cX4_syllableAt : ByteArray := prog_6_method_10_code
def yX4_syllableAt : MethodName := ⟨RX4, "syllableAt", "(II)I"⟩
abbrev cX4_saidAt : ByteArray := prog_6_method_11_code
def yX4_saidAt : MethodName := ⟨RX4, "saidAt", "(II)I"⟩
abbrev cX4_gain : ByteArray := prog_6_method_12_code
def yX4_gain : MethodName := ⟨RX4, "gain", "(II)Z"⟩
abbrev cX4_lose : ByteArray := prog_6_method_13_code
def yX4_lose : MethodName := ⟨RX4, "lose", "(I)V"⟩
abbrev cX4_alike : ByteArray := prog_6_method_14_code
def yX4_alike : MethodName := ⟨RX4, "alike", "(II)I"⟩
abbrev cX4_shortest : ByteArray := prog_6_method_15_code
def yX4_shortest : MethodName := ⟨RX4, "shortest", "(II)I"⟩
abbrev cX4_sumOfShortest : ByteArray := prog_6_method_16_code
def yX4_sumOfShortest : MethodName := ⟨RX4, "sumOfShortest", "(I)I"⟩
abbrev cX4_numberOfShort : ByteArray := prog_6_method_17_code
def yX4_numberOfShort : MethodName := ⟨RX4, "numberOfShort", "(I)I"⟩
def RX5 : String := "DeedNames$Scroll"
def TX5 : u_T := fun k => match k with
  | 0 => ("DeedNames$Scroll", "bytes", "[B", true)
  | 1 => ("DeedNames$Scroll", "length", "I", false)
  | 2 => ("DeedNames$Scroll", "place", "I", false)
  | _ => ("DeedNames$Scroll", "name", "[I", true)
def tyX5 : Nat → FieldType := fun k => match k with
  | 0 => .array .byte
  | 1 => .int
  | 2 => .int
  | _ => .array .int
abbrev wsX50 : List Cond := u_ws RX5 TX5 4
theorem nmX5 : ∀ a, a < 4 → ∀ b, b < 4 → a ≠ b → (TX5 a).2.1 ≠ (TX5 b).2.1 := by decide +kernel
theorem tyX5_ok : ∀ k, k < 4 → parseFieldDescriptor (TX5 k).2.2.1 = some (tyX5 k) := by decide +kernel
abbrev cX5_init : ByteArray := prog_7_method_1_code
def yX5_init : MethodName := ⟨RX5, "<init>", "()V"⟩
abbrev cX5_hasRoom : ByteArray := prog_7_method_2_code
def yX5_hasRoom : MethodName := ⟨RX5, "hasRoom", "(I)Z"⟩
abbrev cX5_put : ByteArray := prog_7_method_3_code
def yX5_put : MethodName := ⟨RX5, "put", "(IJ)V"⟩
abbrev cX5_readInto : ByteArray := prog_7_method_4_code
def yX5_readInto : MethodName := ⟨RX5, "readInto", "(LDeedNames$Hill;)I"⟩
abbrev cX5_readItem : ByteArray := prog_7_method_5_code
def yX5_readItem : MethodName := ⟨RX5, "readItem", "(LDeedNames$Hill;)Z"⟩
abbrev cX5_readPerson : ByteArray := prog_7_method_6_code
def yX5_readPerson : MethodName := ⟨RX5, "readPerson", "(LDeedNames$Hill;)Z"⟩
abbrev cX5_readWorth : ByteArray := prog_7_method_7_code
def yX5_readWorth : MethodName := ⟨RX5, "readWorth", "(LDeedNames$Hill;)Z"⟩
abbrev cX5_readShame : ByteArray := prog_7_method_8_code
def yX5_readShame : MethodName := ⟨RX5, "readShame", "(LDeedNames$Hill;)Z"⟩
abbrev cX5_readBeats : ByteArray := prog_7_method_9_code
def yX5_readBeats : MethodName := ⟨RX5, "readBeats", "(LDeedNames$Hill;)Z"⟩
abbrev cX5_readBreath : ByteArray := prog_7_method_10_code
def yX5_readBreath : MethodName := ⟨RX5, "readBreath", "(LDeedNames$Hill;)Z"⟩
abbrev cX5_readMisheard : ByteArray := prog_7_method_11_code
def yX5_readMisheard : MethodName := ⟨RX5, "readMisheard", "(LDeedNames$Hill;)Z"⟩
abbrev cX5_here : ByteArray := prog_7_method_12_code
def yX5_here : MethodName := ⟨RX5, "here", "()I"⟩
abbrev cX5_number : ByteArray := prog_7_method_13_code
def yX5_number : MethodName := ⟨RX5, "number", "(III)I"⟩
abbrev cX5_readName : ByteArray := prog_7_method_14_code
def yX5_readName : MethodName := ⟨RX5, "readName", "()I"⟩
def RX6 : String := "DeedNames"
def TX6 : u_T := fun k => match k with
  | 0 => ("DeedNames", "scroll", "LDeedNames$Scroll;", true)
  | 1 => ("DeedNames", "hill", "LDeedNames$Hill;", false)
  | 2 => ("DeedNames", "draft", "LDeedNames$Hill;", false)
  | 3 => ("DeedNames", "now", "LDeedNames$Memory;", true)
  | 4 => ("DeedNames", "keptFirst", "LDeedNames$Memory;", true)
  | 5 => ("DeedNames", "keptSecond", "LDeedNames$Memory;", true)
  | 6 => ("DeedNames", "keptNumber", "I", false)
  | 7 => ("DeedNames", "herald", "LDeedNames$Herald;", true)
  | _ => ("DeedNames", "trial", "LDeedNames$Names;", true)
def tyX6 : Nat → FieldType := fun k => match k with
  | 0 => .object "DeedNames$Scroll"
  | 1 => .object "DeedNames$Hill"
  | 2 => .object "DeedNames$Hill"
  | 3 => .object "DeedNames$Memory"
  | 4 => .object "DeedNames$Memory"
  | 5 => .object "DeedNames$Memory"
  | 6 => .int
  | 7 => .object "DeedNames$Herald"
  | _ => .object "DeedNames$Names"
abbrev wsX60 : List Cond := u_ws RX6 TX6 9
theorem nmX6 : ∀ a, a < 9 → ∀ b, b < 9 → a ≠ b → (TX6 a).2.1 ≠ (TX6 b).2.1 := by decide +kernel
theorem tyX6_ok : ∀ k, k < 9 → parseFieldDescriptor (TX6 k).2.2.1 = some (tyX6 k) := by decide +kernel
abbrev cX6_init : ByteArray := prog_1_method_1_code
def yX6_init : MethodName := ⟨RX6, "<init>", "()V"⟩
abbrev cX6_write : ByteArray := prog_1_method_2_code
def yX6_write : MethodName := ⟨RX6, "write", "(IJ)I"⟩
abbrev cX6_wipe : ByteArray := prog_1_method_3_code
def yX6_wipe : MethodName := ⟨RX6, "wipe", "()I"⟩
abbrev cX6_fault : ByteArray := prog_1_method_4_code
def yX6_fault : MethodName := ⟨RX6, "fault", "()I"⟩
abbrev cX6_lay : ByteArray := prog_1_method_5_code
def yX6_lay : MethodName := ⟨RX6, "lay", "()I"⟩
abbrev cX6_person : ByteArray := prog_1_method_6_code
def yX6_person : MethodName := ⟨RX6, "person", "(II)I"⟩
abbrev cX6_said : ByteArray := prog_1_method_7_code
def yX6_said : MethodName := ⟨RX6, "said", "(II)I"⟩
abbrev cX6_deed : ByteArray := prog_1_method_8_code
def yX6_deed : MethodName := ⟨RX6, "deed", "(II)I"⟩
abbrev cX6_kind : ByteArray := prog_1_method_9_code
def yX6_kind : MethodName := ⟨RX6, "kind", "(II)I"⟩
abbrev cX6_cry : ByteArray := prog_1_method_10_code
def yX6_cry : MethodName := ⟨RX6, "cry", "(I)I"⟩
abbrev cX6_warn : ByteArray := prog_1_method_11_code
def yX6_warn : MethodName := ⟨RX6, "warn", "(II)I"⟩
abbrev cX6_called : ByteArray := prog_1_method_12_code
def yX6_called : MethodName := ⟨RX6, "called", "(II)I"⟩
abbrev cX6_greet : ByteArray := prog_1_method_13_code
def yX6_greet : MethodName := ⟨RX6, "greet", "(II)I"⟩
abbrev cX6_shortCall : ByteArray := prog_1_method_14_code
def yX6_shortCall : MethodName := ⟨RX6, "shortCall", "(II)I"⟩
abbrev cX6_allShort : ByteArray := prog_1_method_15_code
def yX6_allShort : MethodName := ⟨RX6, "allShort", "(I)I"⟩
abbrev cX6_apart : ByteArray := prog_1_method_16_code
def yX6_apart : MethodName := ⟨RX6, "apart", "(III)I"⟩
abbrev cX6_hear : ByteArray := prog_1_method_17_code
def yX6_hear : MethodName := ⟨RX6, "hear", "(I)I"⟩
abbrev cX6_forget : ByteArray := prog_1_method_18_code
def yX6_forget : MethodName := ⟨RX6, "forget", "()I"⟩
abbrev cX6_odds : ByteArray := prog_1_method_19_code
def yX6_odds : MethodName := ⟨RX6, "odds", "(II)J"⟩
abbrev cX6_meant : ByteArray := prog_1_method_20_code
def yX6_meant : MethodName := ⟨RX6, "meant", "()I"⟩
abbrev cX6_years : ByteArray := prog_1_method_21_code
def yX6_years : MethodName := ⟨RX6, "years", "(III)I"⟩
abbrev cX6_then : ByteArray := prog_1_method_22_code
def yX6_then : MethodName := ⟨RX6, "then", "(IIII)I"⟩
abbrev cX6_keep : ByteArray := prog_1_method_23_code
def yX6_keep : MethodName := ⟨RX6, "keep", "()I"⟩
abbrev cX6_back : ByteArray := prog_1_method_24_code
def yX6_back : MethodName := ⟨RX6, "back", "()I"⟩
abbrev cX6_count : ByteArray := prog_1_method_25_code
def yX6_count : MethodName := ⟨RX6, "count", "(I)I"⟩
abbrev cX6_within : ByteArray := prog_1_method_26_code
def yX6_within : MethodName := ⟨RX6, "within", "(III)Z"⟩
abbrev cX6_isOf : ByteArray := prog_1_method_27_code
def yX6_isOf : MethodName := ⟨RX6, "isOf", "(II)Z"⟩
abbrev cX6_isHillTime : ByteArray := prog_1_method_28_code
def yX6_isHillTime : MethodName := ⟨RX6, "isHillTime", "(II)Z"⟩
abbrev cX6_commonDivisor : ByteArray := prog_1_method_29_code
def yX6_commonDivisor : MethodName := ⟨RX6, "commonDivisor", "(JJ)J"⟩
abbrev cX6_everyone : ByteArray := prog_1_method_30_code
def yX6_everyone : MethodName := ⟨RX6, "everyone", "()I"⟩
abbrev cX6_isSet : ByteArray := prog_1_method_31_code
def yX6_isSet : MethodName := ⟨RX6, "isSet", "(I)Z"⟩
abbrev cX6_weightOf : ByteArray := prog_1_method_32_code
def yX6_weightOf : MethodName := ⟨RX6, "weightOf", "(I)J"⟩
abbrev cX6_keptPlace : ByteArray := prog_1_method_33_code
def yX6_keptPlace : MethodName := ⟨RX6, "keptPlace", "(I)LDeedNames$Memory;"⟩
def RX7 : String := "DeedNamesModel"
def TX7 : u_T := fun k => match k with
  | 0 => ("DeedNamesModel", "length", "I", false)
  | 1 => ("DeedNamesModel", "text", "[I", true)
  | 2 => ("DeedNamesModel", "personMany", "[I", true)
  | 3 => ("DeedNamesModel", "toldKind", "[I", true)
  | 4 => ("DeedNamesModel", "toldMany", "[I", true)
  | 5 => ("DeedNamesModel", "toldName", "[I", true)
  | 6 => ("DeedNamesModel", "paces", "[I", true)
  | 7 => ("DeedNamesModel", "ranks", "[I", true)
  | 8 => ("DeedNamesModel", "worths", "[I", true)
  | 9 => ("DeedNamesModel", "shames", "[I", true)
  | 10 => ("DeedNamesModel", "beats", "[I", true)
  | 11 => ("DeedNamesModel", "numbers", "[I", true)
  | 12 => ("DeedNamesModel", "kinds", "[I", true)
  | 13 => ("DeedNamesModel", "many", "[I", true)
  | 14 => ("DeedNamesModel", "names", "[I", true)
  | 15 => ("DeedNamesModel", "heardMany", "[I", true)
  | 16 => ("DeedNamesModel", "heard", "[I", true)
  | 17 => ("DeedNamesModel", "keptMany", "I", false)
  | 18 => ("DeedNamesModel", "place", "I", false)
  | 19 => ("DeedNamesModel", "told", "[I", true)
  | 20 => ("DeedNamesModel", "says", "[I", true)
  | 21 => ("DeedNamesModel", "longs", "[I", true)
  | 22 => ("DeedNamesModel", "takes", "[I", true)
  | 23 => ("DeedNamesModel", "saved", "[I", true)
  | 24 => ("DeedNamesModel", "follows", "[I", true)
  | _ => ("DeedNamesModel", "needs", "[I", true)
def tyX7 : Nat → FieldType := fun k => match k with
  | 0 => .int
  | 1 => .array .int
  | 2 => .array .int
  | 3 => .array .int
  | 4 => .array .int
  | 5 => .array .int
  | 6 => .array .int
  | 7 => .array .int
  | 8 => .array .int
  | 9 => .array .int
  | 10 => .array .int
  | 11 => .array .int
  | 12 => .array .int
  | 13 => .array .int
  | 14 => .array .int
  | 15 => .array .int
  | 16 => .array .int
  | 17 => .int
  | 18 => .int
  | 19 => .array .int
  | 20 => .array .int
  | 21 => .array .int
  | 22 => .array .int
  | 23 => .array .int
  | 24 => .array .int
  | _ => .array .int
abbrev wsX70 : List Cond := u_ws RX7 TX7 26
theorem nmX7 : ∀ a, a < 26 → ∀ b, b < 26 → a ≠ b → (TX7 a).2.1 ≠ (TX7 b).2.1 := by decide +kernel
theorem tyX7_ok : ∀ k, k < 26 → parseFieldDescriptor (TX7 k).2.2.1 = some (tyX7 k) := by decide +kernel
abbrev cX7_init : ByteArray := prog_9_method_1_code
def yX7_init : MethodName := ⟨RX7, "<init>", "()V"⟩
abbrev cX7_in : ByteArray := prog_9_method_2_code
def yX7_in : MethodName := ⟨RX7, "in", "(JJJ)Z"⟩
abbrev cX7_has : ByteArray := prog_9_method_3_code
def yX7_has : MethodName := ⟨RX7, "has", "(II)Z"⟩
abbrev cX7_noHill : ByteArray := prog_9_method_4_code
def yX7_noHill : MethodName := ⟨RX7, "noHill", "(I)V"⟩
abbrev cX7_write : ByteArray := prog_9_method_5_code
def yX7_write : MethodName := ⟨RX7, "write", "(IJ)I"⟩
abbrev cX7_wipe : ByteArray := prog_9_method_6_code
def yX7_wipe : MethodName := ⟨RX7, "wipe", "()I"⟩
abbrev cX7_byteAt : ByteArray := prog_9_method_7_code
def yX7_byteAt : MethodName := ⟨RX7, "byteAt", "(I)I"⟩
abbrev cX7_figures : ByteArray := prog_9_method_8_code
def yX7_figures : MethodName := ⟨RX7, "figures", "(II)Z"⟩
abbrev cX7_personItem : ByteArray := prog_9_method_9_code
def yX7_personItem : MethodName := ⟨RX7, "personItem", "()Z"⟩
abbrev cX7_item : ByteArray := prog_9_method_10_code
def yX7_item : MethodName := ⟨RX7, "item", "()Z"⟩
abbrev cX7_readAll : ByteArray := prog_9_method_11_code
def yX7_readAll : MethodName := ⟨RX7, "readAll", "()I"⟩
abbrev cX7_fault : ByteArray := prog_9_method_12_code
def yX7_fault : MethodName := ⟨RX7, "fault", "()I"⟩
abbrev cX7_layHill : ByteArray := prog_9_method_13_code
def yX7_layHill : MethodName := ⟨RX7, "layHill", "()V"⟩
abbrev cX7_lay : ByteArray := prog_9_method_14_code
def yX7_lay : MethodName := ⟨RX7, "lay", "()I"⟩
abbrev cX7_isPerson : ByteArray := prog_9_method_15_code
def yX7_isPerson : MethodName := ⟨RX7, "isPerson", "(I)Z"⟩
abbrev cX7_isSet : ByteArray := prog_9_method_16_code
def yX7_isSet : MethodName := ⟨RX7, "isSet", "(I)Z"⟩
abbrev cX7_laySaid : ByteArray := prog_9_method_17_code
def yX7_laySaid : MethodName := ⟨RX7, "laySaid", "(III)V"⟩
abbrev cX7_sayNow : ByteArray := prog_9_method_18_code
def yX7_sayNow : MethodName := ⟨RX7, "sayNow", "()V"⟩
abbrev cX7_person : ByteArray := prog_9_method_19_code
def yX7_person : MethodName := ⟨RX7, "person", "(II)I"⟩
abbrev cX7_said : ByteArray := prog_9_method_20_code
def yX7_said : MethodName := ⟨RX7, "said", "(II)I"⟩
abbrev cX7_doDeed : ByteArray := prog_9_method_21_code
def yX7_doDeed : MethodName := ⟨RX7, "doDeed", "(II)Z"⟩
abbrev cX7_deed : ByteArray := prog_9_method_22_code
def yX7_deed : MethodName := ⟨RX7, "deed", "(II)I"⟩
abbrev cX7_kind : ByteArray := prog_9_method_23_code
def yX7_kind : MethodName := ⟨RX7, "kind", "(II)I"⟩
abbrev cX7_cryOf : ByteArray := prog_9_method_24_code
def yX7_cryOf : MethodName := ⟨RX7, "cryOf", "(I)I"⟩
abbrev cX7_cry : ByteArray := prog_9_method_25_code
def yX7_cry : MethodName := ⟨RX7, "cry", "(I)I"⟩
abbrev cX7_isInTime : ByteArray := prog_9_method_26_code
def yX7_isInTime : MethodName := ⟨RX7, "isInTime", "(III)Z"⟩
abbrev cX7_bits : ByteArray := prog_9_method_27_code
def yX7_bits : MethodName := ⟨RX7, "bits", "(I)I"⟩
abbrev cX7_layWarning : ByteArray := prog_9_method_28_code
def yX7_layWarning : MethodName := ⟨RX7, "layWarning", "(I)I"⟩
abbrev cX7_warn : ByteArray := prog_9_method_29_code
def yX7_warn : MethodName := ⟨RX7, "warn", "(II)I"⟩
abbrev cX7_layFollows : ByteArray := prog_9_method_30_code
def yX7_layFollows : MethodName := ⟨RX7, "layFollows", "(II)V"⟩
abbrev cX7_called : ByteArray := prog_9_method_31_code
def yX7_called : MethodName := ⟨RX7, "called", "(II)I"⟩
abbrev cX7_breathsFor : ByteArray := prog_9_method_32_code
def yX7_breathsFor : MethodName := ⟨RX7, "breathsFor", "(II)I"⟩
abbrev cX7_roomBehind : ByteArray := prog_9_method_33_code
def yX7_roomBehind : MethodName := ⟨RX7, "roomBehind", "(II)I"⟩
abbrev cX7_mayGreet : ByteArray := prog_9_method_34_code
def yX7_mayGreet : MethodName := ⟨RX7, "mayGreet", "(III)Z"⟩
abbrev cX7_layNeeds : ByteArray := prog_9_method_35_code
def yX7_layNeeds : MethodName := ⟨RX7, "layNeeds", "(I)V"⟩
abbrev cX7_greet : ByteArray := prog_9_method_36_code
def yX7_greet : MethodName := ⟨RX7, "greet", "(II)I"⟩
abbrev cX7_answers : ByteArray := prog_9_method_37_code
def yX7_answers : MethodName := ⟨RX7, "answers", "(III)Z"⟩
abbrev cX7_shortOf : ByteArray := prog_9_method_38_code
def yX7_shortOf : MethodName := ⟨RX7, "shortOf", "(III)I"⟩
abbrev cX7_allShortOf : ByteArray := prog_9_method_39_code
def yX7_allShortOf : MethodName := ⟨RX7, "allShortOf", "(II)I"⟩
abbrev cX7_shortCall : ByteArray := prog_9_method_40_code
def yX7_shortCall : MethodName := ⟨RX7, "shortCall", "(II)I"⟩
abbrev cX7_allShort : ByteArray := prog_9_method_41_code
def yX7_allShort : MethodName := ⟨RX7, "allShort", "(I)I"⟩
abbrev cX7_apart : ByteArray := prog_9_method_42_code
def yX7_apart : MethodName := ⟨RX7, "apart", "(III)I"⟩
abbrev cX7_hear : ByteArray := prog_9_method_43_code
def yX7_hear : MethodName := ⟨RX7, "hear", "(I)I"⟩
abbrev cX7_forget : ByteArray := prog_9_method_44_code
def yX7_forget : MethodName := ⟨RX7, "forget", "()I"⟩
abbrev cX7_weightOf : ByteArray := prog_9_method_45_code
def yX7_weightOf : MethodName := ⟨RX7, "weightOf", "(I)J"⟩
abbrev cX7_odds : ByteArray := prog_9_method_46_code
def yX7_odds : MethodName := ⟨RX7, "odds", "(II)J"⟩
abbrev cX7_meant : ByteArray := prog_9_method_47_code
def yX7_meant : MethodName := ⟨RX7, "meant", "()I"⟩
abbrev cX7_copy : ByteArray := prog_9_method_48_code
def yX7_copy : MethodName := ⟨RX7, "copy", "(II)V"⟩
abbrev cX7_goYears : ByteArray := prog_9_method_49_code
def yX7_goYears : MethodName := ⟨RX7, "goYears", "(II)V"⟩
abbrev cX7_isHill : ByteArray := prog_9_method_50_code
def yX7_isHill : MethodName := ⟨RX7, "isHill", "(II)Z"⟩
abbrev cX7_years : ByteArray := prog_9_method_51_code
def yX7_years : MethodName := ⟨RX7, "years", "(III)I"⟩
abbrev cX7_then : ByteArray := prog_9_method_52_code
def yX7_then : MethodName := ⟨RX7, "then", "(IIII)I"⟩
abbrev cX7_copyHeard : ByteArray := prog_9_method_53_code
def yX7_copyHeard : MethodName := ⟨RX7, "copyHeard", "(II)V"⟩
abbrev cX7_keep : ByteArray := prog_9_method_54_code
def yX7_keep : MethodName := ⟨RX7, "keep", "()I"⟩
abbrev cX7_back : ByteArray := prog_9_method_55_code
def yX7_back : MethodName := ⟨RX7, "back", "()I"⟩
abbrev cX7_count : ByteArray := prog_9_method_56_code
def yX7_count : MethodName := ⟨RX7, "count", "(I)I"⟩
def RJ6 : String := "java/lang/Integer"
def TJ6 : u_T := fun k => match k with
  | _ => ("", "", "", false)
def tyJ6 : Nat → FieldType := fun k => match k with
  | _ => .int
abbrev wsJ60 : List Cond := u_ws RJ6 TJ6 0
theorem nmJ6 : ∀ a, a < 0 → ∀ b, b < 0 → a ≠ b → (TJ6 a).2.1 ≠ (TJ6 b).2.1 := by decide +kernel
theorem tyJ6_ok : ∀ k, k < 0 → parseFieldDescriptor (TJ6 k).2.2.1 = some (tyJ6 k) := by decide +kernel
abbrev cJ6_bitCount_0f7a4 : ByteArray := prog_10_method_49_code
def yJ6_bitCount_0f7a4 : MethodName := ⟨RJ6, "bitCount", "(I)I"⟩
def RJ9 : String := "java/lang/Math"
def TJ9 : u_T := fun k => match k with
  | _ => ("", "", "", false)
def tyJ9 : Nat → FieldType := fun k => match k with
  | _ => .int
abbrev wsJ90 : List Cond := u_ws RJ9 TJ9 0
theorem nmJ9 : ∀ a, a < 0 → ∀ b, b < 0 → a ≠ b → (TJ9 a).2.1 ≠ (TJ9 b).2.1 := by decide +kernel
theorem tyJ9_ok : ∀ k, k < 0 → parseFieldDescriptor (TJ9 k).2.2.1 = some (tyJ9 k) := by decide +kernel
abbrev cJ9_max_7cf53 : ByteArray := prog_11_method_65_code
def yJ9_max_7cf53 : MethodName := ⟨RJ9, "max", "(II)I"⟩
abbrev cJ9_min_7cf53 : ByteArray := prog_11_method_69_code
def yJ9_min_7cf53 : MethodName := ⟨RJ9, "min", "(II)I"⟩
def RJ10 : String := "java/lang/System"
def TJ10 : u_T := fun k => match k with
  | _ => ("", "", "", false)
def tyJ10 : Nat → FieldType := fun k => match k with
  | _ => .int
abbrev wsJ100 : List Cond := u_ws RJ10 TJ10 0
theorem nmJ10 : ∀ a, a < 0 → ∀ b, b < 0 → a ≠ b → (TJ10 a).2.1 ≠ (TJ10 b).2.1 := by decide +kernel
theorem tyJ10_ok : ∀ k, k < 0 → parseFieldDescriptor (TJ10 k).2.2.1 = some (tyJ10 k) := by decide +kernel
def RL : String := "DeedNamesLaw"
abbrev cL_law : ByteArray := code
def yL_law : MethodName := ⟨RL, "law", "([I)Z"⟩
end
section
theorem dX0_init_0 : decode cX0_init 0 = .ok (.aload_n 0, 1) := by decide +kernel
theorem dX0_init_1 : decode cX0_init 1 = .ok (.invokespecial 3, 3) := by decide +kernel
theorem dX0_init_4 : decode cX0_init 4 = .ok (.aload_n 0, 1) := by decide +kernel
theorem dX0_init_5 : decode cX0_init 5 = .ok (.bipush 12, 2) := by decide +kernel
theorem dX0_init_7 : decode cX0_init 7 = .ok (.newarray .int, 2) := by decide +kernel
theorem dX0_init_9 : decode cX0_init 9 = .ok (.putfield 9, 3) := by decide +kernel
theorem dX0_init_12 : decode cX0_init 12 = .ok (.aload_n 0, 1) := by decide +kernel
theorem dX0_init_13 : decode cX0_init 13 = .ok (.iconst 0, 1) := by decide +kernel
theorem dX0_init_14 : decode cX0_init 14 = .ok (.putfield 15, 3) := by decide +kernel
theorem dX0_init_17 : decode cX0_init 17 = .ok (.return_, 1) := by decide +kernel
theorem dX0_empty_0 : decode cX0_empty 0 = .ok (.aload_n 0, 1) := by decide +kernel
theorem dX0_empty_1 : decode cX0_empty 1 = .ok (.iconst 0, 1) := by decide +kernel
theorem dX0_empty_2 : decode cX0_empty 2 = .ok (.putfield 15, 3) := by decide +kernel
theorem dX0_empty_5 : decode cX0_empty 5 = .ok (.return_, 1) := by decide +kernel
theorem dX0_copyFrom_0 : decode cX0_copyFrom 0 = .ok (.aload_n 1, 1) := by decide +kernel
theorem dX0_copyFrom_1 : decode cX0_copyFrom 1 = .ok (.getfield 9, 3) := by decide +kernel
theorem dX0_copyFrom_4 : decode cX0_copyFrom 4 = .ok (.iconst 0, 1) := by decide +kernel
theorem dX0_copyFrom_5 : decode cX0_copyFrom 5 = .ok (.aload_n 0, 1) := by decide +kernel
theorem dX0_copyFrom_6 : decode cX0_copyFrom 6 = .ok (.getfield 9, 3) := by decide +kernel
theorem dX0_copyFrom_9 : decode cX0_copyFrom 9 = .ok (.iconst 0, 1) := by decide +kernel
theorem dX0_copyFrom_10 : decode cX0_copyFrom 10 = .ok (.bipush 12, 2) := by decide +kernel
theorem dX0_copyFrom_12 : decode cX0_copyFrom 12 = .ok (.invokestatic 19, 3) := by decide +kernel
theorem dX0_copyFrom_15 : decode cX0_copyFrom 15 = .ok (.aload_n 0, 1) := by decide +kernel
theorem dX0_copyFrom_16 : decode cX0_copyFrom 16 = .ok (.aload_n 1, 1) := by decide +kernel
theorem dX0_copyFrom_17 : decode cX0_copyFrom 17 = .ok (.getfield 15, 3) := by decide +kernel
theorem dX0_copyFrom_20 : decode cX0_copyFrom 20 = .ok (.putfield 15, 3) := by decide +kernel
theorem dX0_copyFrom_23 : decode cX0_copyFrom 23 = .ok (.return_, 1) := by decide +kernel
theorem dX0_take_0 : decode cX0_take 0 = .ok (.aload_n 0, 1) := by decide +kernel
theorem dX0_take_1 : decode cX0_take 1 = .ok (.getfield 15, 3) := by decide +kernel
theorem dX0_take_4 : decode cX0_take 4 = .ok (.bipush 12, 2) := by decide +kernel
theorem dX0_take_6 : decode cX0_take 6 = .ok (.if_icmp .lt 5, 3) := by decide +kernel
theorem dX0_take_9 : decode cX0_take 9 = .ok (.iconst 0, 1) := by decide +kernel
theorem dX0_take_10 : decode cX0_take 10 = .ok (.ireturn, 1) := by decide +kernel
theorem dX0_take_11 : decode cX0_take 11 = .ok (.aload_n 0, 1) := by decide +kernel
theorem dX0_take_12 : decode cX0_take 12 = .ok (.getfield 9, 3) := by decide +kernel
theorem dX0_take_15 : decode cX0_take 15 = .ok (.aload_n 0, 1) := by decide +kernel
theorem dX0_take_16 : decode cX0_take 16 = .ok (.getfield 15, 3) := by decide +kernel
theorem dX0_take_19 : decode cX0_take 19 = .ok (.iload_n 1, 1) := by decide +kernel
theorem dX0_take_20 : decode cX0_take 20 = .ok (.iastore, 1) := by decide +kernel
theorem dX0_take_21 : decode cX0_take 21 = .ok (.aload_n 0, 1) := by decide +kernel
theorem dX0_take_22 : decode cX0_take 22 = .ok (.dup, 1) := by decide +kernel
theorem dX0_take_23 : decode cX0_take 23 = .ok (.getfield 15, 3) := by decide +kernel
theorem dX0_take_26 : decode cX0_take 26 = .ok (.iconst 1, 1) := by decide +kernel
theorem dX0_take_27 : decode cX0_take 27 = .ok (.iadd, 1) := by decide +kernel
theorem dX0_take_28 : decode cX0_take 28 = .ok (.putfield 15, 3) := by decide +kernel
theorem dX0_take_31 : decode cX0_take 31 = .ok (.iconst 1, 1) := by decide +kernel
theorem dX0_take_32 : decode cX0_take 32 = .ok (.ireturn, 1) := by decide +kernel
theorem dX0_likeness_0 : decode cX0_likeness 0 = .ok (.aload_n 1, 1) := by decide +kernel
theorem dX0_likeness_1 : decode cX0_likeness 1 = .ok (.iload_n 2, 1) := by decide +kernel
theorem dX0_likeness_2 : decode cX0_likeness 2 = .ok (.invokevirtual 25, 3) := by decide +kernel
theorem dX0_likeness_5 : decode cX0_likeness 5 = .ok (.aload_n 0, 1) := by decide +kernel
theorem dX0_likeness_6 : decode cX0_likeness 6 = .ok (.getfield 15, 3) := by decide +kernel
theorem dX0_likeness_9 : decode cX0_likeness 9 = .ok (.if_icmp .eq 5, 3) := by decide +kernel
theorem dX0_likeness_12 : decode cX0_likeness 12 = .ok (.lconst 0, 1) := by decide +kernel
theorem dX0_likeness_13 : decode cX0_likeness 13 = .ok (.lreturn, 1) := by decide +kernel
theorem dX0_likeness_14 : decode cX0_likeness 14 = .ok (.lconst 1, 1) := by decide +kernel
theorem dX0_likeness_15 : decode cX0_likeness 15 = .ok (.lstore 4, 2) := by decide +kernel
theorem dX0_likeness_17 : decode cX0_likeness 17 = .ok (.iconst 0, 1) := by decide +kernel
theorem dX0_likeness_18 : decode cX0_likeness 18 = .ok (.istore 6, 2) := by decide +kernel
theorem dX0_likeness_20 : decode cX0_likeness 20 = .ok (.iload 6, 2) := by decide +kernel
theorem dX0_likeness_22 : decode cX0_likeness 22 = .ok (.aload_n 0, 1) := by decide +kernel
theorem dX0_likeness_23 : decode cX0_likeness 23 = .ok (.getfield 15, 3) := by decide +kernel
theorem dX0_likeness_26 : decode cX0_likeness 26 = .ok (.if_icmp .ge 71, 3) := by decide +kernel
theorem dX0_likeness_29 : decode cX0_likeness 29 = .ok (.iload 6, 2) := by decide +kernel
theorem dX0_likeness_31 : decode cX0_likeness 31 = .ok (.bipush 12, 2) := by decide +kernel
theorem dX0_likeness_33 : decode cX0_likeness 33 = .ok (.if_icmp .ge 64, 3) := by decide +kernel
theorem dX0_likeness_36 : decode cX0_likeness 36 = .ok (.aload_n 0, 1) := by decide +kernel
theorem dX0_likeness_37 : decode cX0_likeness 37 = .ok (.getfield 9, 3) := by decide +kernel
theorem dX0_likeness_40 : decode cX0_likeness 40 = .ok (.iload 6, 2) := by decide +kernel
theorem dX0_likeness_42 : decode cX0_likeness 42 = .ok (.iaload, 1) := by decide +kernel
theorem dX0_likeness_43 : decode cX0_likeness 43 = .ok (.bipush 9, 2) := by decide +kernel
theorem dX0_likeness_45 : decode cX0_likeness 45 = .ok (.if_icmp .ne 14, 3) := by decide +kernel
theorem dX0_likeness_48 : decode cX0_likeness 48 = .ok (.lload 4, 2) := by decide +kernel
theorem dX0_likeness_50 : decode cX0_likeness 50 = .ok (.ldc2_w 31, 3) := by decide +kernel
theorem dX0_likeness_53 : decode cX0_likeness 53 = .ok (.lmul, 1) := by decide +kernel
theorem dX0_likeness_54 : decode cX0_likeness 54 = .ok (.lstore 4, 2) := by decide +kernel
theorem dX0_likeness_56 : decode cX0_likeness 56 = .ok (.goto 35, 3) := by decide +kernel
theorem dX0_likeness_59 : decode cX0_likeness 59 = .ok (.lload 4, 2) := by decide +kernel
theorem dX0_likeness_61 : decode cX0_likeness 61 = .ok (.aload_n 0, 1) := by decide +kernel
theorem dX0_likeness_62 : decode cX0_likeness 62 = .ok (.getfield 9, 3) := by decide +kernel
theorem dX0_likeness_65 : decode cX0_likeness 65 = .ok (.iload 6, 2) := by decide +kernel
theorem dX0_likeness_67 : decode cX0_likeness 67 = .ok (.iaload, 1) := by decide +kernel
theorem dX0_likeness_68 : decode cX0_likeness 68 = .ok (.aload_n 1, 1) := by decide +kernel
theorem dX0_likeness_69 : decode cX0_likeness 69 = .ok (.iload_n 2, 1) := by decide +kernel
theorem dX0_likeness_70 : decode cX0_likeness 70 = .ok (.iload 6, 2) := by decide +kernel
theorem dX0_likeness_72 : decode cX0_likeness 72 = .ok (.invokevirtual 33, 3) := by decide +kernel
theorem dX0_likeness_75 : decode cX0_likeness 75 = .ok (.if_icmp .ne 11, 3) := by decide +kernel
theorem dX0_likeness_78 : decode cX0_likeness 78 = .ok (.bipush 10, 2) := by decide +kernel
theorem dX0_likeness_80 : decode cX0_likeness 80 = .ok (.iload_n 3, 1) := by decide +kernel
theorem dX0_likeness_81 : decode cX0_likeness 81 = .ok (.isub, 1) := by decide +kernel
theorem dX0_likeness_82 : decode cX0_likeness 82 = .ok (.i2l, 1) := by decide +kernel
theorem dX0_likeness_83 : decode cX0_likeness 83 = .ok (.goto 5, 3) := by decide +kernel
theorem dX0_likeness_86 : decode cX0_likeness 86 = .ok (.iload_n 3, 1) := by decide +kernel
theorem dX0_likeness_87 : decode cX0_likeness 87 = .ok (.i2l, 1) := by decide +kernel
theorem dX0_likeness_88 : decode cX0_likeness 88 = .ok (.lmul, 1) := by decide +kernel
theorem dX0_likeness_89 : decode cX0_likeness 89 = .ok (.lstore 4, 2) := by decide +kernel
theorem dX0_likeness_91 : decode cX0_likeness 91 = .ok (.iinc 6 1, 3) := by decide +kernel
theorem dX0_likeness_94 : decode cX0_likeness 94 = .ok (.goto (-74), 3) := by decide +kernel
theorem dX0_likeness_97 : decode cX0_likeness 97 = .ok (.lload 4, 2) := by decide +kernel
theorem dX0_likeness_99 : decode cX0_likeness 99 = .ok (.lreturn, 1) := by decide +kernel
theorem dX1_init_0 : decode cX1_init 0 = .ok (.aload_n 0, 1) := by decide +kernel
theorem dX1_init_1 : decode cX1_init 1 = .ok (.invokespecial 3, 3) := by decide +kernel
theorem dX1_init_4 : decode cX1_init 4 = .ok (.aload_n 0, 1) := by decide +kernel
theorem dX1_init_5 : decode cX1_init 5 = .ok (.iconst 0, 1) := by decide +kernel
theorem dX1_init_6 : decode cX1_init 6 = .ok (.putfield 9, 3) := by decide +kernel
theorem dX1_init_9 : decode cX1_init 9 = .ok (.aload_n 0, 1) := by decide +kernel
theorem dX1_init_10 : decode cX1_init 10 = .ok (.iconst 1, 1) := by decide +kernel
theorem dX1_init_11 : decode cX1_init 11 = .ok (.putfield 15, 3) := by decide +kernel
theorem dX1_init_14 : decode cX1_init 14 = .ok (.aload_n 0, 1) := by decide +kernel
theorem dX1_init_15 : decode cX1_init 15 = .ok (.iconst 0, 1) := by decide +kernel
theorem dX1_init_16 : decode cX1_init 16 = .ok (.putfield 18, 3) := by decide +kernel
theorem dX1_init_19 : decode cX1_init 19 = .ok (.aload_n 0, 1) := by decide +kernel
theorem dX1_init_20 : decode cX1_init 20 = .ok (.bipush 8, 2) := by decide +kernel
theorem dX1_init_22 : decode cX1_init 22 = .ok (.newarray .int, 2) := by decide +kernel
theorem dX1_init_24 : decode cX1_init 24 = .ok (.putfield 21, 3) := by decide +kernel
theorem dX1_init_27 : decode cX1_init 27 = .ok (.aload_n 0, 1) := by decide +kernel
theorem dX1_init_28 : decode cX1_init 28 = .ok (.bipush 8, 2) := by decide +kernel
theorem dX1_init_30 : decode cX1_init 30 = .ok (.newarray .int, 2) := by decide +kernel
theorem dX1_init_32 : decode cX1_init 32 = .ok (.putfield 25, 3) := by decide +kernel
theorem dX1_init_35 : decode cX1_init 35 = .ok (.aload_n 0, 1) := by decide +kernel
theorem dX1_init_36 : decode cX1_init 36 = .ok (.bipush 8, 2) := by decide +kernel
theorem dX1_init_38 : decode cX1_init 38 = .ok (.newarray .int, 2) := by decide +kernel
theorem dX1_init_40 : decode cX1_init 40 = .ok (.putfield 28, 3) := by decide +kernel
theorem dX1_init_43 : decode cX1_init 43 = .ok (.aload_n 0, 1) := by decide +kernel
theorem dX1_init_44 : decode cX1_init 44 = .ok (.bipush 8, 2) := by decide +kernel
theorem dX1_init_46 : decode cX1_init 46 = .ok (.newarray .int, 2) := by decide +kernel
theorem dX1_init_48 : decode cX1_init 48 = .ok (.putfield 31, 3) := by decide +kernel
theorem dX1_init_51 : decode cX1_init 51 = .ok (.aload_n 0, 1) := by decide +kernel
theorem dX1_init_52 : decode cX1_init 52 = .ok (.sipush 256, 3) := by decide +kernel
theorem dX1_init_55 : decode cX1_init 55 = .ok (.newarray .int, 2) := by decide +kernel
theorem dX1_init_57 : decode cX1_init 57 = .ok (.putfield 34, 3) := by decide +kernel
theorem dX1_init_60 : decode cX1_init 60 = .ok (.aload_n 0, 1) := by decide +kernel
theorem dX1_init_61 : decode cX1_init 61 = .ok (.sipush 256, 3) := by decide +kernel
theorem dX1_init_64 : decode cX1_init 64 = .ok (.newarray .boolean, 2) := by decide +kernel
theorem dX1_init_66 : decode cX1_init 66 = .ok (.putfield 37, 3) := by decide +kernel
theorem dX1_init_69 : decode cX1_init 69 = .ok (.aload_n 0, 1) := by decide +kernel
theorem dX1_init_70 : decode cX1_init 70 = .ok (.bipush 8, 2) := by decide +kernel
theorem dX1_init_72 : decode cX1_init 72 = .ok (.newarray .int, 2) := by decide +kernel
theorem dX1_init_74 : decode cX1_init 74 = .ok (.putfield 41, 3) := by decide +kernel
theorem dX1_init_77 : decode cX1_init 77 = .ok (.aload_n 0, 1) := by decide +kernel
theorem dX1_init_78 : decode cX1_init 78 = .ok (.sipush 256, 3) := by decide +kernel
theorem dX1_init_81 : decode cX1_init 81 = .ok (.newarray .int, 2) := by decide +kernel
theorem dX1_init_83 : decode cX1_init 83 = .ok (.putfield 44, 3) := by decide +kernel
theorem dX1_init_86 : decode cX1_init 86 = .ok (.aload_n 0, 1) := by decide +kernel
theorem dX1_init_87 : decode cX1_init 87 = .ok (.bipush 8, 2) := by decide +kernel
theorem dX1_init_89 : decode cX1_init 89 = .ok (.newarray .int, 2) := by decide +kernel
theorem dX1_init_91 : decode cX1_init 91 = .ok (.putfield 47, 3) := by decide +kernel
theorem dX1_init_94 : decode cX1_init 94 = .ok (.aload_n 0, 1) := by decide +kernel
theorem dX1_init_95 : decode cX1_init 95 = .ok (.iconst 0, 1) := by decide +kernel
theorem dX1_init_96 : decode cX1_init 96 = .ok (.putfield 50, 3) := by decide +kernel
theorem dX1_init_99 : decode cX1_init 99 = .ok (.return_, 1) := by decide +kernel
theorem dX1_learn_0 : decode cX1_learn 0 = .ok (.aload_n 0, 1) := by decide +kernel
theorem dX1_learn_1 : decode cX1_learn 1 = .ok (.aload_n 2, 1) := by decide +kernel
theorem dX1_learn_2 : decode cX1_learn 2 = .ok (.getfield 53, 3) := by decide +kernel
theorem dX1_learn_5 : decode cX1_learn 5 = .ok (.bipush 8, 2) := by decide +kernel
theorem dX1_learn_7 : decode cX1_learn 7 = .ok (.invokestatic 56, 3) := by decide +kernel
theorem dX1_learn_10 : decode cX1_learn 10 = .ok (.putfield 9, 3) := by decide +kernel
theorem dX1_learn_13 : decode cX1_learn 13 = .ok (.aload_n 0, 1) := by decide +kernel
theorem dX1_learn_14 : decode cX1_learn 14 = .ok (.aload_n 1, 1) := by decide +kernel
theorem dX1_learn_15 : decode cX1_learn 15 = .ok (.getfield 62, 3) := by decide +kernel
theorem dX1_learn_18 : decode cX1_learn 18 = .ok (.putfield 15, 3) := by decide +kernel
theorem dX1_learn_21 : decode cX1_learn 21 = .ok (.aload_n 0, 1) := by decide +kernel
theorem dX1_learn_22 : decode cX1_learn 22 = .ok (.aload_n 1, 1) := by decide +kernel
theorem dX1_learn_23 : decode cX1_learn 23 = .ok (.getfield 65, 3) := by decide +kernel
theorem dX1_learn_26 : decode cX1_learn 26 = .ok (.putfield 18, 3) := by decide +kernel
theorem dX1_learn_29 : decode cX1_learn 29 = .ok (.iconst 0, 1) := by decide +kernel
theorem dX1_learn_30 : decode cX1_learn 30 = .ok (.istore_n 3, 1) := by decide +kernel
theorem dX1_learn_31 : decode cX1_learn 31 = .ok (.iload_n 3, 1) := by decide +kernel
theorem dX1_learn_32 : decode cX1_learn 32 = .ok (.aload_n 0, 1) := by decide +kernel
theorem dX1_learn_33 : decode cX1_learn 33 = .ok (.getfield 9, 3) := by decide +kernel
theorem dX1_learn_36 : decode cX1_learn 36 = .ok (.if_icmp .ge 54, 3) := by decide +kernel
theorem dX1_learn_39 : decode cX1_learn 39 = .ok (.aload_n 0, 1) := by decide +kernel
theorem dX1_learn_40 : decode cX1_learn 40 = .ok (.getfield 21, 3) := by decide +kernel
theorem dX1_learn_43 : decode cX1_learn 43 = .ok (.iload_n 3, 1) := by decide +kernel
theorem dX1_learn_44 : decode cX1_learn 44 = .ok (.aload_n 2, 1) := by decide +kernel
theorem dX1_learn_45 : decode cX1_learn 45 = .ok (.iload_n 3, 1) := by decide +kernel
theorem dX1_learn_46 : decode cX1_learn 46 = .ok (.invokevirtual 66, 3) := by decide +kernel
theorem dX1_learn_49 : decode cX1_learn 49 = .ok (.iastore, 1) := by decide +kernel
theorem dX1_learn_50 : decode cX1_learn 50 = .ok (.aload_n 0, 1) := by decide +kernel
theorem dX1_learn_51 : decode cX1_learn 51 = .ok (.getfield 25, 3) := by decide +kernel
theorem dX1_learn_54 : decode cX1_learn 54 = .ok (.iload_n 3, 1) := by decide +kernel
theorem dX1_learn_55 : decode cX1_learn 55 = .ok (.aload_n 1, 1) := by decide +kernel
theorem dX1_learn_56 : decode cX1_learn 56 = .ok (.aload_n 2, 1) := by decide +kernel
theorem dX1_learn_57 : decode cX1_learn 57 = .ok (.iload_n 3, 1) := by decide +kernel
theorem dX1_learn_58 : decode cX1_learn 58 = .ok (.invokevirtual 70, 3) := by decide +kernel
theorem dX1_learn_61 : decode cX1_learn 61 = .ok (.iastore, 1) := by decide +kernel
theorem dX1_learn_62 : decode cX1_learn 62 = .ok (.aload_n 0, 1) := by decide +kernel
theorem dX1_learn_63 : decode cX1_learn 63 = .ok (.getfield 28, 3) := by decide +kernel
theorem dX1_learn_66 : decode cX1_learn 66 = .ok (.iload_n 3, 1) := by decide +kernel
theorem dX1_learn_67 : decode cX1_learn 67 = .ok (.aload_n 1, 1) := by decide +kernel
theorem dX1_learn_68 : decode cX1_learn 68 = .ok (.iload_n 3, 1) := by decide +kernel
theorem dX1_learn_69 : decode cX1_learn 69 = .ok (.invokevirtual 74, 3) := by decide +kernel
theorem dX1_learn_72 : decode cX1_learn 72 = .ok (.iastore, 1) := by decide +kernel
theorem dX1_learn_73 : decode cX1_learn 73 = .ok (.aload_n 0, 1) := by decide +kernel
theorem dX1_learn_74 : decode cX1_learn 74 = .ok (.getfield 31, 3) := by decide +kernel
theorem dX1_learn_77 : decode cX1_learn 77 = .ok (.iload_n 3, 1) := by decide +kernel
theorem dX1_learn_78 : decode cX1_learn 78 = .ok (.aload_n 1, 1) := by decide +kernel
theorem dX1_learn_79 : decode cX1_learn 79 = .ok (.iload_n 3, 1) := by decide +kernel
theorem dX1_learn_80 : decode cX1_learn 80 = .ok (.invokevirtual 77, 3) := by decide +kernel
theorem dX1_learn_83 : decode cX1_learn 83 = .ok (.iastore, 1) := by decide +kernel
theorem dX1_learn_84 : decode cX1_learn 84 = .ok (.iinc 3 1, 3) := by decide +kernel
theorem dX1_learn_87 : decode cX1_learn 87 = .ok (.goto (-56), 3) := by decide +kernel
theorem dX1_learn_90 : decode cX1_learn 90 = .ok (.return_, 1) := by decide +kernel
theorem dX1_inOrder_0 : decode cX1_inOrder 0 = .ok (.iload_n 1, 1) := by decide +kernel
theorem dX1_inOrder_1 : decode cX1_inOrder 1 = .ok (.iconst 0, 1) := by decide +kernel
theorem dX1_inOrder_2 : decode cX1_inOrder 2 = .ok (.aload_n 0, 1) := by decide +kernel
theorem dX1_inOrder_3 : decode cX1_inOrder 3 = .ok (.getfield 50, 3) := by decide +kernel
theorem dX1_inOrder_6 : decode cX1_inOrder 6 = .ok (.iconst 1, 1) := by decide +kernel
theorem dX1_inOrder_7 : decode cX1_inOrder 7 = .ok (.isub, 1) := by decide +kernel
theorem dX1_inOrder_8 : decode cX1_inOrder 8 = .ok (.invokestatic 80, 3) := by decide +kernel
theorem dX1_inOrder_11 : decode cX1_inOrder 11 = .ok (.ifCond .eq 18, 3) := by decide +kernel
theorem dX1_inOrder_14 : decode cX1_inOrder 14 = .ok (.iload_n 1, 1) := by decide +kernel
theorem dX1_inOrder_15 : decode cX1_inOrder 15 = .ok (.bipush 8, 2) := by decide +kernel
theorem dX1_inOrder_17 : decode cX1_inOrder 17 = .ok (.if_icmp .ge 12, 3) := by decide +kernel
theorem dX1_inOrder_20 : decode cX1_inOrder 20 = .ok (.aload_n 0, 1) := by decide +kernel
theorem dX1_inOrder_21 : decode cX1_inOrder 21 = .ok (.getfield 47, 3) := by decide +kernel
theorem dX1_inOrder_24 : decode cX1_inOrder 24 = .ok (.iload_n 1, 1) := by decide +kernel
theorem dX1_inOrder_25 : decode cX1_inOrder 25 = .ok (.iaload, 1) := by decide +kernel
theorem dX1_inOrder_26 : decode cX1_inOrder 26 = .ok (.goto 5, 3) := by decide +kernel
theorem dX1_inOrder_29 : decode cX1_inOrder 29 = .ok (.bipush (-4), 2) := by decide +kernel
theorem dX1_inOrder_31 : decode cX1_inOrder 31 = .ok (.ireturn, 1) := by decide +kernel
theorem dX1_breathsFor_0 : decode cX1_breathsFor 0 = .ok (.aload_n 0, 1) := by decide +kernel
theorem dX1_breathsFor_1 : decode cX1_breathsFor 1 = .ok (.getfield 15, 3) := by decide +kernel
theorem dX1_breathsFor_4 : decode cX1_breathsFor 4 = .ok (.iconst 1, 1) := by decide +kernel
theorem dX1_breathsFor_5 : decode cX1_breathsFor 5 = .ok (.if_icmp .ge 7, 3) := by decide +kernel
theorem dX1_breathsFor_8 : decode cX1_breathsFor 8 = .ok (.iconst 0, 1) := by decide +kernel
theorem dX1_breathsFor_9 : decode cX1_breathsFor 9 = .ok (.goto 16, 3) := by decide +kernel
theorem dX1_breathsFor_12 : decode cX1_breathsFor 12 = .ok (.iload_n 1, 1) := by decide +kernel
theorem dX1_breathsFor_13 : decode cX1_breathsFor 13 = .ok (.aload_n 0, 1) := by decide +kernel
theorem dX1_breathsFor_14 : decode cX1_breathsFor 14 = .ok (.getfield 15, 3) := by decide +kernel
theorem dX1_breathsFor_17 : decode cX1_breathsFor 17 = .ok (.iadd, 1) := by decide +kernel
theorem dX1_breathsFor_18 : decode cX1_breathsFor 18 = .ok (.iconst 1, 1) := by decide +kernel
theorem dX1_breathsFor_19 : decode cX1_breathsFor 19 = .ok (.isub, 1) := by decide +kernel
theorem dX1_breathsFor_20 : decode cX1_breathsFor 20 = .ok (.aload_n 0, 1) := by decide +kernel
theorem dX1_breathsFor_21 : decode cX1_breathsFor 21 = .ok (.getfield 15, 3) := by decide +kernel
theorem dX1_breathsFor_24 : decode cX1_breathsFor 24 = .ok (.idiv, 1) := by decide +kernel
theorem dX1_breathsFor_25 : decode cX1_breathsFor 25 = .ok (.ireturn, 1) := by decide +kernel
theorem dX1_beatsToCall_0 : decode cX1_beatsToCall 0 = .ok (.iconst 0, 1) := by decide +kernel
theorem dX1_beatsToCall_1 : decode cX1_beatsToCall 1 = .ok (.istore_n 2, 1) := by decide +kernel
theorem dX1_beatsToCall_2 : decode cX1_beatsToCall 2 = .ok (.iconst 0, 1) := by decide +kernel
theorem dX1_beatsToCall_3 : decode cX1_beatsToCall 3 = .ok (.istore_n 3, 1) := by decide +kernel
theorem dX1_beatsToCall_4 : decode cX1_beatsToCall 4 = .ok (.iconst 0, 1) := by decide +kernel
theorem dX1_beatsToCall_5 : decode cX1_beatsToCall 5 = .ok (.istore 4, 2) := by decide +kernel
theorem dX1_beatsToCall_7 : decode cX1_beatsToCall 7 = .ok (.iload 4, 2) := by decide +kernel
theorem dX1_beatsToCall_9 : decode cX1_beatsToCall 9 = .ok (.aload_n 0, 1) := by decide +kernel
theorem dX1_beatsToCall_10 : decode cX1_beatsToCall 10 = .ok (.getfield 9, 3) := by decide +kernel
theorem dX1_beatsToCall_13 : decode cX1_beatsToCall 13 = .ok (.if_icmp .ge 38, 3) := by decide +kernel
theorem dX1_beatsToCall_16 : decode cX1_beatsToCall 16 = .ok (.iload 4, 2) := by decide +kernel
theorem dX1_beatsToCall_18 : decode cX1_beatsToCall 18 = .ok (.iload_n 1, 1) := by decide +kernel
theorem dX1_beatsToCall_19 : decode cX1_beatsToCall 19 = .ok (.invokestatic 84, 3) := by decide +kernel
theorem dX1_beatsToCall_22 : decode cX1_beatsToCall 22 = .ok (.ifCond .eq 23, 3) := by decide +kernel
theorem dX1_beatsToCall_25 : decode cX1_beatsToCall 25 = .ok (.iload_n 2, 1) := by decide +kernel
theorem dX1_beatsToCall_26 : decode cX1_beatsToCall 26 = .ok (.aload_n 0, 1) := by decide +kernel
theorem dX1_beatsToCall_27 : decode cX1_beatsToCall 27 = .ok (.getfield 25, 3) := by decide +kernel
theorem dX1_beatsToCall_30 : decode cX1_beatsToCall 30 = .ok (.iload 4, 2) := by decide +kernel
theorem dX1_beatsToCall_32 : decode cX1_beatsToCall 32 = .ok (.iaload, 1) := by decide +kernel
theorem dX1_beatsToCall_33 : decode cX1_beatsToCall 33 = .ok (.iadd, 1) := by decide +kernel
theorem dX1_beatsToCall_34 : decode cX1_beatsToCall 34 = .ok (.istore_n 2, 1) := by decide +kernel
theorem dX1_beatsToCall_35 : decode cX1_beatsToCall 35 = .ok (.iload_n 3, 1) := by decide +kernel
theorem dX1_beatsToCall_36 : decode cX1_beatsToCall 36 = .ok (.aload_n 0, 1) := by decide +kernel
theorem dX1_beatsToCall_37 : decode cX1_beatsToCall 37 = .ok (.getfield 21, 3) := by decide +kernel
theorem dX1_beatsToCall_40 : decode cX1_beatsToCall 40 = .ok (.iload 4, 2) := by decide +kernel
theorem dX1_beatsToCall_42 : decode cX1_beatsToCall 42 = .ok (.iaload, 1) := by decide +kernel
theorem dX1_beatsToCall_43 : decode cX1_beatsToCall 43 = .ok (.iadd, 1) := by decide +kernel
theorem dX1_beatsToCall_44 : decode cX1_beatsToCall 44 = .ok (.istore_n 3, 1) := by decide +kernel
theorem dX1_beatsToCall_45 : decode cX1_beatsToCall 45 = .ok (.iinc 4 1, 3) := by decide +kernel
theorem dX1_beatsToCall_48 : decode cX1_beatsToCall 48 = .ok (.goto (-41), 3) := by decide +kernel
theorem dX1_beatsToCall_51 : decode cX1_beatsToCall 51 = .ok (.iload_n 3, 1) := by decide +kernel
theorem dX1_beatsToCall_52 : decode cX1_beatsToCall 52 = .ok (.ifCond .ne 7, 3) := by decide +kernel
theorem dX1_beatsToCall_55 : decode cX1_beatsToCall 55 = .ok (.iload_n 2, 1) := by decide +kernel
theorem dX1_beatsToCall_56 : decode cX1_beatsToCall 56 = .ok (.goto 17, 3) := by decide +kernel
theorem dX1_beatsToCall_59 : decode cX1_beatsToCall 59 = .ok (.iload_n 2, 1) := by decide +kernel
theorem dX1_beatsToCall_60 : decode cX1_beatsToCall 60 = .ok (.aload_n 0, 1) := by decide +kernel
theorem dX1_beatsToCall_61 : decode cX1_beatsToCall 61 = .ok (.getfield 18, 3) := by decide +kernel
theorem dX1_beatsToCall_64 : decode cX1_beatsToCall 64 = .ok (.aload_n 0, 1) := by decide +kernel
theorem dX1_beatsToCall_65 : decode cX1_beatsToCall 65 = .ok (.iload_n 3, 1) := by decide +kernel
theorem dX1_beatsToCall_66 : decode cX1_beatsToCall 66 = .ok (.invokevirtual 88, 3) := by decide +kernel
theorem dX1_beatsToCall_69 : decode cX1_beatsToCall 69 = .ok (.iconst 1, 1) := by decide +kernel
theorem dX1_beatsToCall_70 : decode cX1_beatsToCall 70 = .ok (.isub, 1) := by decide +kernel
theorem dX1_beatsToCall_71 : decode cX1_beatsToCall 71 = .ok (.imul, 1) := by decide +kernel
theorem dX1_beatsToCall_72 : decode cX1_beatsToCall 72 = .ok (.iadd, 1) := by decide +kernel
theorem dX1_beatsToCall_73 : decode cX1_beatsToCall 73 = .ok (.ireturn, 1) := by decide +kernel
theorem dX1_mostSaved_0 : decode cX1_mostSaved 0 = .ok (.iconst 0, 1) := by decide +kernel
theorem dX1_mostSaved_1 : decode cX1_mostSaved 1 = .ok (.istore_n 2, 1) := by decide +kernel
theorem dX1_mostSaved_2 : decode cX1_mostSaved 2 = .ok (.aload_n 0, 1) := by decide +kernel
theorem dX1_mostSaved_3 : decode cX1_mostSaved 3 = .ok (.getfield 34, 3) := by decide +kernel
theorem dX1_mostSaved_6 : decode cX1_mostSaved 6 = .ok (.iconst 0, 1) := by decide +kernel
theorem dX1_mostSaved_7 : decode cX1_mostSaved 7 = .ok (.iconst 0, 1) := by decide +kernel
theorem dX1_mostSaved_8 : decode cX1_mostSaved 8 = .ok (.iastore, 1) := by decide +kernel
theorem dX1_mostSaved_9 : decode cX1_mostSaved 9 = .ok (.aload_n 0, 1) := by decide +kernel
theorem dX1_mostSaved_10 : decode cX1_mostSaved 10 = .ok (.getfield 37, 3) := by decide +kernel
theorem dX1_mostSaved_13 : decode cX1_mostSaved 13 = .ok (.iconst 0, 1) := by decide +kernel
theorem dX1_mostSaved_14 : decode cX1_mostSaved 14 = .ok (.iconst 1, 1) := by decide +kernel
theorem dX1_mostSaved_15 : decode cX1_mostSaved 15 = .ok (.bastore, 1) := by decide +kernel
theorem dX1_mostSaved_16 : decode cX1_mostSaved 16 = .ok (.iconst 1, 1) := by decide +kernel
theorem dX1_mostSaved_17 : decode cX1_mostSaved 17 = .ok (.istore_n 3, 1) := by decide +kernel
theorem dX1_mostSaved_18 : decode cX1_mostSaved 18 = .ok (.iload_n 3, 1) := by decide +kernel
theorem dX1_mostSaved_19 : decode cX1_mostSaved 19 = .ok (.iconst 1, 1) := by decide +kernel
theorem dX1_mostSaved_20 : decode cX1_mostSaved 20 = .ok (.aload_n 0, 1) := by decide +kernel
theorem dX1_mostSaved_21 : decode cX1_mostSaved 21 = .ok (.getfield 9, 3) := by decide +kernel
theorem dX1_mostSaved_24 : decode cX1_mostSaved 24 = .ok (.ishl, 1) := by decide +kernel
theorem dX1_mostSaved_25 : decode cX1_mostSaved 25 = .ok (.if_icmp .ge 54, 3) := by decide +kernel
theorem dX1_mostSaved_28 : decode cX1_mostSaved 28 = .ok (.aload_n 0, 1) := by decide +kernel
theorem dX1_mostSaved_29 : decode cX1_mostSaved 29 = .ok (.getfield 34, 3) := by decide +kernel
theorem dX1_mostSaved_32 : decode cX1_mostSaved 32 = .ok (.iload_n 3, 1) := by decide +kernel
theorem dX1_mostSaved_33 : decode cX1_mostSaved 33 = .ok (.aload_n 0, 1) := by decide +kernel
theorem dX1_mostSaved_34 : decode cX1_mostSaved 34 = .ok (.iload_n 3, 1) := by decide +kernel
theorem dX1_mostSaved_35 : decode cX1_mostSaved 35 = .ok (.invokevirtual 91, 3) := by decide +kernel
theorem dX1_mostSaved_38 : decode cX1_mostSaved 38 = .ok (.iastore, 1) := by decide +kernel
theorem dX1_mostSaved_39 : decode cX1_mostSaved 39 = .ok (.aload_n 0, 1) := by decide +kernel
theorem dX1_mostSaved_40 : decode cX1_mostSaved 40 = .ok (.getfield 37, 3) := by decide +kernel
theorem dX1_mostSaved_43 : decode cX1_mostSaved 43 = .ok (.iload_n 3, 1) := by decide +kernel
theorem dX1_mostSaved_44 : decode cX1_mostSaved 44 = .ok (.aload_n 0, 1) := by decide +kernel
theorem dX1_mostSaved_45 : decode cX1_mostSaved 45 = .ok (.iload_n 3, 1) := by decide +kernel
theorem dX1_mostSaved_46 : decode cX1_mostSaved 46 = .ok (.iload_n 1, 1) := by decide +kernel
theorem dX1_mostSaved_47 : decode cX1_mostSaved 47 = .ok (.invokevirtual 94, 3) := by decide +kernel
theorem dX1_mostSaved_50 : decode cX1_mostSaved 50 = .ok (.bastore, 1) := by decide +kernel
theorem dX1_mostSaved_51 : decode cX1_mostSaved 51 = .ok (.aload_n 0, 1) := by decide +kernel
theorem dX1_mostSaved_52 : decode cX1_mostSaved 52 = .ok (.getfield 37, 3) := by decide +kernel
theorem dX1_mostSaved_55 : decode cX1_mostSaved 55 = .ok (.iload_n 3, 1) := by decide +kernel
theorem dX1_mostSaved_56 : decode cX1_mostSaved 56 = .ok (.baload, 1) := by decide +kernel
theorem dX1_mostSaved_57 : decode cX1_mostSaved 57 = .ok (.ifCond .eq 16, 3) := by decide +kernel
theorem dX1_mostSaved_60 : decode cX1_mostSaved 60 = .ok (.iload_n 3, 1) := by decide +kernel
theorem dX1_mostSaved_61 : decode cX1_mostSaved 61 = .ok (.invokestatic 97, 3) := by decide +kernel
theorem dX1_mostSaved_64 : decode cX1_mostSaved 64 = .ok (.iload_n 2, 1) := by decide +kernel
theorem dX1_mostSaved_65 : decode cX1_mostSaved 65 = .ok (.invokestatic 97, 3) := by decide +kernel
theorem dX1_mostSaved_68 : decode cX1_mostSaved 68 = .ok (.if_icmp .le 5, 3) := by decide +kernel
theorem dX1_mostSaved_71 : decode cX1_mostSaved 71 = .ok (.iload_n 3, 1) := by decide +kernel
theorem dX1_mostSaved_72 : decode cX1_mostSaved 72 = .ok (.istore_n 2, 1) := by decide +kernel
theorem dX1_mostSaved_73 : decode cX1_mostSaved 73 = .ok (.iinc 3 1, 3) := by decide +kernel
theorem dX1_mostSaved_76 : decode cX1_mostSaved 76 = .ok (.goto (-58), 3) := by decide +kernel
theorem dX1_mostSaved_79 : decode cX1_mostSaved 79 = .ok (.iload_n 2, 1) := by decide +kernel
theorem dX1_mostSaved_80 : decode cX1_mostSaved 80 = .ok (.ireturn, 1) := by decide +kernel
theorem dX1_someoneCanBeLast_0 : decode cX1_someoneCanBeLast 0 = .ok (.iconst 0, 1) := by decide +kernel
theorem dX1_someoneCanBeLast_1 : decode cX1_someoneCanBeLast 1 = .ok (.istore_n 3, 1) := by decide +kernel
theorem dX1_someoneCanBeLast_2 : decode cX1_someoneCanBeLast 2 = .ok (.iload_n 3, 1) := by decide +kernel
theorem dX1_someoneCanBeLast_3 : decode cX1_someoneCanBeLast 3 = .ok (.aload_n 0, 1) := by decide +kernel
theorem dX1_someoneCanBeLast_4 : decode cX1_someoneCanBeLast 4 = .ok (.getfield 9, 3) := by decide +kernel
theorem dX1_someoneCanBeLast_7 : decode cX1_someoneCanBeLast 7 = .ok (.if_icmp .ge 49, 3) := by decide +kernel
theorem dX1_someoneCanBeLast_10 : decode cX1_someoneCanBeLast 10 = .ok (.iload_n 3, 1) := by decide +kernel
theorem dX1_someoneCanBeLast_11 : decode cX1_someoneCanBeLast 11 = .ok (.iload_n 1, 1) := by decide +kernel
theorem dX1_someoneCanBeLast_12 : decode cX1_someoneCanBeLast 12 = .ok (.invokestatic 84, 3) := by decide +kernel
theorem dX1_someoneCanBeLast_15 : decode cX1_someoneCanBeLast 15 = .ok (.ifCond .eq 35, 3) := by decide +kernel
theorem dX1_someoneCanBeLast_18 : decode cX1_someoneCanBeLast 18 = .ok (.aload_n 0, 1) := by decide +kernel
theorem dX1_someoneCanBeLast_19 : decode cX1_someoneCanBeLast 19 = .ok (.getfield 37, 3) := by decide +kernel
theorem dX1_someoneCanBeLast_22 : decode cX1_someoneCanBeLast 22 = .ok (.iload_n 1, 1) := by decide +kernel
theorem dX1_someoneCanBeLast_23 : decode cX1_someoneCanBeLast 23 = .ok (.iconst 1, 1) := by decide +kernel
theorem dX1_someoneCanBeLast_24 : decode cX1_someoneCanBeLast 24 = .ok (.iload_n 3, 1) := by decide +kernel
theorem dX1_someoneCanBeLast_25 : decode cX1_someoneCanBeLast 25 = .ok (.ishl, 1) := by decide +kernel
theorem dX1_someoneCanBeLast_26 : decode cX1_someoneCanBeLast 26 = .ok (.ixor, 1) := by decide +kernel
theorem dX1_someoneCanBeLast_27 : decode cX1_someoneCanBeLast 27 = .ok (.baload, 1) := by decide +kernel
theorem dX1_someoneCanBeLast_28 : decode cX1_someoneCanBeLast 28 = .ok (.ifCond .eq 22, 3) := by decide +kernel
theorem dX1_someoneCanBeLast_31 : decode cX1_someoneCanBeLast 31 = .ok (.aload_n 0, 1) := by decide +kernel
theorem dX1_someoneCanBeLast_32 : decode cX1_someoneCanBeLast 32 = .ok (.getfield 34, 3) := by decide +kernel
theorem dX1_someoneCanBeLast_35 : decode cX1_someoneCanBeLast 35 = .ok (.iload_n 1, 1) := by decide +kernel
theorem dX1_someoneCanBeLast_36 : decode cX1_someoneCanBeLast 36 = .ok (.iaload, 1) := by decide +kernel
theorem dX1_someoneCanBeLast_37 : decode cX1_someoneCanBeLast 37 = .ok (.aload_n 0, 1) := by decide +kernel
theorem dX1_someoneCanBeLast_38 : decode cX1_someoneCanBeLast 38 = .ok (.getfield 28, 3) := by decide +kernel
theorem dX1_someoneCanBeLast_41 : decode cX1_someoneCanBeLast 41 = .ok (.iload_n 3, 1) := by decide +kernel
theorem dX1_someoneCanBeLast_42 : decode cX1_someoneCanBeLast 42 = .ok (.iaload, 1) := by decide +kernel
theorem dX1_someoneCanBeLast_43 : decode cX1_someoneCanBeLast 43 = .ok (.iadd, 1) := by decide +kernel
theorem dX1_someoneCanBeLast_44 : decode cX1_someoneCanBeLast 44 = .ok (.iload_n 2, 1) := by decide +kernel
theorem dX1_someoneCanBeLast_45 : decode cX1_someoneCanBeLast 45 = .ok (.if_icmp .gt 5, 3) := by decide +kernel
theorem dX1_someoneCanBeLast_48 : decode cX1_someoneCanBeLast 48 = .ok (.iconst 1, 1) := by decide +kernel
theorem dX1_someoneCanBeLast_49 : decode cX1_someoneCanBeLast 49 = .ok (.ireturn, 1) := by decide +kernel
theorem dX1_someoneCanBeLast_50 : decode cX1_someoneCanBeLast 50 = .ok (.iinc 3 1, 3) := by decide +kernel
theorem dX1_someoneCanBeLast_53 : decode cX1_someoneCanBeLast 53 = .ok (.goto (-51), 3) := by decide +kernel
theorem dX1_someoneCanBeLast_56 : decode cX1_someoneCanBeLast 56 = .ok (.iconst 0, 1) := by decide +kernel
theorem dX1_someoneCanBeLast_57 : decode cX1_someoneCanBeLast 57 = .ok (.ireturn, 1) := by decide +kernel
theorem dX1_orderWarning_0 : decode cX1_orderWarning 0 = .ok (.iload_n 1, 1) := by decide +kernel
theorem dX1_orderWarning_1 : decode cX1_orderWarning 1 = .ok (.istore_n 3, 1) := by decide +kernel
theorem dX1_orderWarning_2 : decode cX1_orderWarning 2 = .ok (.iload_n 3, 1) := by decide +kernel
theorem dX1_orderWarning_3 : decode cX1_orderWarning 3 = .ok (.ifCond .lt 56, 3) := by decide +kernel
theorem dX1_orderWarning_6 : decode cX1_orderWarning 6 = .ok (.iload_n 3, 1) := by decide +kernel
theorem dX1_orderWarning_7 : decode cX1_orderWarning 7 = .ok (.iload_n 1, 1) := by decide +kernel
theorem dX1_orderWarning_8 : decode cX1_orderWarning 8 = .ok (.iand, 1) := by decide +kernel
theorem dX1_orderWarning_9 : decode cX1_orderWarning 9 = .ok (.iload_n 3, 1) := by decide +kernel
theorem dX1_orderWarning_10 : decode cX1_orderWarning 10 = .ok (.if_icmp .ne 7, 3) := by decide +kernel
theorem dX1_orderWarning_13 : decode cX1_orderWarning 13 = .ok (.iconst 1, 1) := by decide +kernel
theorem dX1_orderWarning_14 : decode cX1_orderWarning 14 = .ok (.goto 4, 3) := by decide +kernel
theorem dX1_orderWarning_17 : decode cX1_orderWarning 17 = .ok (.iconst 0, 1) := by decide +kernel
theorem dX1_orderWarning_18 : decode cX1_orderWarning 18 = .ok (.istore 4, 2) := by decide +kernel
theorem dX1_orderWarning_20 : decode cX1_orderWarning 20 = .ok (.aload_n 0, 1) := by decide +kernel
theorem dX1_orderWarning_21 : decode cX1_orderWarning 21 = .ok (.getfield 37, 3) := by decide +kernel
theorem dX1_orderWarning_24 : decode cX1_orderWarning 24 = .ok (.iload_n 3, 1) := by decide +kernel
theorem dX1_orderWarning_25 : decode cX1_orderWarning 25 = .ok (.iload 4, 2) := by decide +kernel
theorem dX1_orderWarning_27 : decode cX1_orderWarning 27 = .ok (.ifCond .eq 24, 3) := by decide +kernel
theorem dX1_orderWarning_30 : decode cX1_orderWarning 30 = .ok (.iload_n 3, 1) := by decide +kernel
theorem dX1_orderWarning_31 : decode cX1_orderWarning 31 = .ok (.iload_n 1, 1) := by decide +kernel
theorem dX1_orderWarning_32 : decode cX1_orderWarning 32 = .ok (.if_icmp .eq 15, 3) := by decide +kernel
theorem dX1_orderWarning_35 : decode cX1_orderWarning 35 = .ok (.aload_n 0, 1) := by decide +kernel
theorem dX1_orderWarning_36 : decode cX1_orderWarning 36 = .ok (.iload_n 3, 1) := by decide +kernel
theorem dX1_orderWarning_37 : decode cX1_orderWarning 37 = .ok (.iload_n 1, 1) := by decide +kernel
theorem dX1_orderWarning_38 : decode cX1_orderWarning 38 = .ok (.iload_n 2, 1) := by decide +kernel
theorem dX1_orderWarning_39 : decode cX1_orderWarning 39 = .ok (.invokevirtual 102, 3) := by decide +kernel
theorem dX1_orderWarning_42 : decode cX1_orderWarning 42 = .ok (.bipush (-4), 2) := by decide +kernel
theorem dX1_orderWarning_44 : decode cX1_orderWarning 44 = .ok (.if_icmp .eq 7, 3) := by decide +kernel
theorem dX1_orderWarning_47 : decode cX1_orderWarning 47 = .ok (.iconst 1, 1) := by decide +kernel
theorem dX1_orderWarning_48 : decode cX1_orderWarning 48 = .ok (.goto 4, 3) := by decide +kernel
theorem dX1_orderWarning_51 : decode cX1_orderWarning 51 = .ok (.iconst 0, 1) := by decide +kernel
theorem dX1_orderWarning_52 : decode cX1_orderWarning 52 = .ok (.bastore, 1) := by decide +kernel
theorem dX1_orderWarning_53 : decode cX1_orderWarning 53 = .ok (.iinc 3 (-1), 3) := by decide +kernel
theorem dX1_orderWarning_56 : decode cX1_orderWarning 56 = .ok (.goto (-54), 3) := by decide +kernel
theorem dX1_orderWarning_59 : decode cX1_orderWarning 59 = .ok (.aload_n 0, 1) := by decide +kernel
theorem dX1_orderWarning_60 : decode cX1_orderWarning 60 = .ok (.iconst 0, 1) := by decide +kernel
theorem dX1_orderWarning_61 : decode cX1_orderWarning 61 = .ok (.putfield 50, 3) := by decide +kernel
theorem dX1_orderWarning_64 : decode cX1_orderWarning 64 = .ok (.iconst 0, 1) := by decide +kernel
theorem dX1_orderWarning_65 : decode cX1_orderWarning 65 = .ok (.istore_n 3, 1) := by decide +kernel
theorem dX1_orderWarning_66 : decode cX1_orderWarning 66 = .ok (.iconst 0, 1) := by decide +kernel
theorem dX1_orderWarning_67 : decode cX1_orderWarning 67 = .ok (.istore 4, 2) := by decide +kernel
theorem dX1_orderWarning_69 : decode cX1_orderWarning 69 = .ok (.iload 4, 2) := by decide +kernel
theorem dX1_orderWarning_71 : decode cX1_orderWarning 71 = .ok (.bipush 8, 2) := by decide +kernel
theorem dX1_orderWarning_73 : decode cX1_orderWarning 73 = .ok (.if_icmp .ge 57, 3) := by decide +kernel
theorem dX1_orderWarning_76 : decode cX1_orderWarning 76 = .ok (.iload_n 3, 1) := by decide +kernel
theorem dX1_orderWarning_77 : decode cX1_orderWarning 77 = .ok (.iload_n 1, 1) := by decide +kernel
theorem dX1_orderWarning_78 : decode cX1_orderWarning 78 = .ok (.if_icmp .eq 52, 3) := by decide +kernel
theorem dX1_orderWarning_81 : decode cX1_orderWarning 81 = .ok (.aload_n 0, 1) := by decide +kernel
theorem dX1_orderWarning_82 : decode cX1_orderWarning 82 = .ok (.iload_n 3, 1) := by decide +kernel
theorem dX1_orderWarning_83 : decode cX1_orderWarning 83 = .ok (.iload_n 1, 1) := by decide +kernel
theorem dX1_orderWarning_84 : decode cX1_orderWarning 84 = .ok (.iload_n 2, 1) := by decide +kernel
theorem dX1_orderWarning_85 : decode cX1_orderWarning 85 = .ok (.invokevirtual 102, 3) := by decide +kernel
theorem dX1_orderWarning_88 : decode cX1_orderWarning 88 = .ok (.istore 5, 2) := by decide +kernel
theorem dX1_orderWarning_90 : decode cX1_orderWarning 90 = .ok (.iload 5, 2) := by decide +kernel
theorem dX1_orderWarning_92 : decode cX1_orderWarning 92 = .ok (.bipush (-4), 2) := by decide +kernel
theorem dX1_orderWarning_94 : decode cX1_orderWarning 94 = .ok (.if_icmp .ne 4, 3) := by decide +kernel
theorem dX1_orderWarning_97 : decode cX1_orderWarning 97 = .ok (.return_, 1) := by decide +kernel
theorem dX1_orderWarning_98 : decode cX1_orderWarning 98 = .ok (.aload_n 0, 1) := by decide +kernel
theorem dX1_orderWarning_99 : decode cX1_orderWarning 99 = .ok (.getfield 47, 3) := by decide +kernel
theorem dX1_orderWarning_102 : decode cX1_orderWarning 102 = .ok (.iload 4, 2) := by decide +kernel
theorem dX1_orderWarning_104 : decode cX1_orderWarning 104 = .ok (.iload 5, 2) := by decide +kernel
theorem dX1_orderWarning_106 : decode cX1_orderWarning 106 = .ok (.iastore, 1) := by decide +kernel
theorem dX1_orderWarning_107 : decode cX1_orderWarning 107 = .ok (.aload_n 0, 1) := by decide +kernel
theorem dX1_orderWarning_108 : decode cX1_orderWarning 108 = .ok (.dup, 1) := by decide +kernel
theorem dX1_orderWarning_109 : decode cX1_orderWarning 109 = .ok (.getfield 50, 3) := by decide +kernel
theorem dX1_orderWarning_112 : decode cX1_orderWarning 112 = .ok (.iconst 1, 1) := by decide +kernel
theorem dX1_orderWarning_113 : decode cX1_orderWarning 113 = .ok (.iadd, 1) := by decide +kernel
theorem dX1_orderWarning_114 : decode cX1_orderWarning 114 = .ok (.putfield 50, 3) := by decide +kernel
theorem dX1_orderWarning_117 : decode cX1_orderWarning 117 = .ok (.iload_n 3, 1) := by decide +kernel
theorem dX1_orderWarning_118 : decode cX1_orderWarning 118 = .ok (.iconst 1, 1) := by decide +kernel
theorem dX1_orderWarning_119 : decode cX1_orderWarning 119 = .ok (.iload 5, 2) := by decide +kernel
theorem dX1_orderWarning_121 : decode cX1_orderWarning 121 = .ok (.ishl, 1) := by decide +kernel
theorem dX1_orderWarning_122 : decode cX1_orderWarning 122 = .ok (.ior, 1) := by decide +kernel
theorem dX1_orderWarning_123 : decode cX1_orderWarning 123 = .ok (.istore_n 3, 1) := by decide +kernel
theorem dX1_orderWarning_124 : decode cX1_orderWarning 124 = .ok (.iinc 4 1, 3) := by decide +kernel
theorem dX1_orderWarning_127 : decode cX1_orderWarning 127 = .ok (.goto (-58), 3) := by decide +kernel
theorem dX1_orderWarning_130 : decode cX1_orderWarning 130 = .ok (.return_, 1) := by decide +kernel
theorem dX1_nextSaved_0 : decode cX1_nextSaved 0 = .ok (.iconst 0, 1) := by decide +kernel
theorem dX1_nextSaved_1 : decode cX1_nextSaved 1 = .ok (.istore 4, 2) := by decide +kernel
theorem dX1_nextSaved_3 : decode cX1_nextSaved 3 = .ok (.iload 4, 2) := by decide +kernel
theorem dX1_nextSaved_5 : decode cX1_nextSaved 5 = .ok (.aload_n 0, 1) := by decide +kernel
theorem dX1_nextSaved_6 : decode cX1_nextSaved 6 = .ok (.getfield 9, 3) := by decide +kernel
theorem dX1_nextSaved_9 : decode cX1_nextSaved 9 = .ok (.if_icmp .ge 62, 3) := by decide +kernel
theorem dX1_nextSaved_12 : decode cX1_nextSaved 12 = .ok (.iload_n 1, 1) := by decide +kernel
theorem dX1_nextSaved_13 : decode cX1_nextSaved 13 = .ok (.iconst 1, 1) := by decide +kernel
theorem dX1_nextSaved_14 : decode cX1_nextSaved 14 = .ok (.iload 4, 2) := by decide +kernel
theorem dX1_nextSaved_16 : decode cX1_nextSaved 16 = .ok (.ishl, 1) := by decide +kernel
theorem dX1_nextSaved_17 : decode cX1_nextSaved 17 = .ok (.ior, 1) := by decide +kernel
theorem dX1_nextSaved_18 : decode cX1_nextSaved 18 = .ok (.istore 5, 2) := by decide +kernel
theorem dX1_nextSaved_20 : decode cX1_nextSaved 20 = .ok (.iload 4, 2) := by decide +kernel
theorem dX1_nextSaved_22 : decode cX1_nextSaved 22 = .ok (.iload_n 2, 1) := by decide +kernel
theorem dX1_nextSaved_23 : decode cX1_nextSaved 23 = .ok (.iload_n 1, 1) := by decide +kernel
theorem dX1_nextSaved_24 : decode cX1_nextSaved 24 = .ok (.iconst (-1), 1) := by decide +kernel
theorem dX1_nextSaved_25 : decode cX1_nextSaved 25 = .ok (.ixor, 1) := by decide +kernel
theorem dX1_nextSaved_26 : decode cX1_nextSaved 26 = .ok (.iand, 1) := by decide +kernel
theorem dX1_nextSaved_27 : decode cX1_nextSaved 27 = .ok (.invokestatic 84, 3) := by decide +kernel
theorem dX1_nextSaved_30 : decode cX1_nextSaved 30 = .ok (.ifCond .eq 35, 3) := by decide +kernel
theorem dX1_nextSaved_33 : decode cX1_nextSaved 33 = .ok (.aload_n 0, 1) := by decide +kernel
theorem dX1_nextSaved_34 : decode cX1_nextSaved 34 = .ok (.getfield 37, 3) := by decide +kernel
theorem dX1_nextSaved_37 : decode cX1_nextSaved 37 = .ok (.iload 5, 2) := by decide +kernel
theorem dX1_nextSaved_39 : decode cX1_nextSaved 39 = .ok (.baload, 1) := by decide +kernel
theorem dX1_nextSaved_40 : decode cX1_nextSaved 40 = .ok (.ifCond .eq 25, 3) := by decide +kernel
theorem dX1_nextSaved_43 : decode cX1_nextSaved 43 = .ok (.aload_n 0, 1) := by decide +kernel
theorem dX1_nextSaved_44 : decode cX1_nextSaved 44 = .ok (.getfield 34, 3) := by decide +kernel
theorem dX1_nextSaved_47 : decode cX1_nextSaved 47 = .ok (.iload 5, 2) := by decide +kernel
theorem dX1_nextSaved_49 : decode cX1_nextSaved 49 = .ok (.iaload, 1) := by decide +kernel
theorem dX1_nextSaved_50 : decode cX1_nextSaved 50 = .ok (.aload_n 0, 1) := by decide +kernel
theorem dX1_nextSaved_51 : decode cX1_nextSaved 51 = .ok (.getfield 28, 3) := by decide +kernel
theorem dX1_nextSaved_54 : decode cX1_nextSaved 54 = .ok (.iload 4, 2) := by decide +kernel
theorem dX1_nextSaved_56 : decode cX1_nextSaved 56 = .ok (.iaload, 1) := by decide +kernel
theorem dX1_nextSaved_57 : decode cX1_nextSaved 57 = .ok (.iadd, 1) := by decide +kernel
theorem dX1_nextSaved_58 : decode cX1_nextSaved 58 = .ok (.iload_n 3, 1) := by decide +kernel
theorem dX1_nextSaved_59 : decode cX1_nextSaved 59 = .ok (.if_icmp .gt 6, 3) := by decide +kernel
theorem dX1_nextSaved_62 : decode cX1_nextSaved 62 = .ok (.iload 4, 2) := by decide +kernel
theorem dX1_nextSaved_64 : decode cX1_nextSaved 64 = .ok (.ireturn, 1) := by decide +kernel
theorem dX1_nextSaved_65 : decode cX1_nextSaved 65 = .ok (.iinc 4 1, 3) := by decide +kernel
theorem dX1_nextSaved_68 : decode cX1_nextSaved 68 = .ok (.goto (-65), 3) := by decide +kernel
theorem dX1_nextSaved_71 : decode cX1_nextSaved 71 = .ok (.bipush (-4), 2) := by decide +kernel
theorem dX1_nextSaved_73 : decode cX1_nextSaved 73 = .ok (.ireturn, 1) := by decide +kernel
theorem dX1_fewestBreaths_0 : decode cX1_fewestBreaths 0 = .ok (.aload_n 0, 1) := by decide +kernel
theorem dX1_fewestBreaths_1 : decode cX1_fewestBreaths 1 = .ok (.iload_n 1, 1) := by decide +kernel
theorem dX1_fewestBreaths_2 : decode cX1_fewestBreaths 2 = .ok (.invokevirtual 106, 3) := by decide +kernel
theorem dX1_fewestBreaths_5 : decode cX1_fewestBreaths 5 = .ok (.aload_n 0, 1) := by decide +kernel
theorem dX1_fewestBreaths_6 : decode cX1_fewestBreaths 6 = .ok (.getfield 44, 3) := by decide +kernel
theorem dX1_fewestBreaths_9 : decode cX1_fewestBreaths 9 = .ok (.iconst 0, 1) := by decide +kernel
theorem dX1_fewestBreaths_10 : decode cX1_fewestBreaths 10 = .ok (.aload_n 0, 1) := by decide +kernel
theorem dX1_fewestBreaths_11 : decode cX1_fewestBreaths 11 = .ok (.invokevirtual 110, 3) := by decide +kernel
theorem dX1_fewestBreaths_14 : decode cX1_fewestBreaths 14 = .ok (.iastore, 1) := by decide +kernel
theorem dX1_fewestBreaths_15 : decode cX1_fewestBreaths 15 = .ok (.iconst 1, 1) := by decide +kernel
theorem dX1_fewestBreaths_16 : decode cX1_fewestBreaths 16 = .ok (.istore_n 2, 1) := by decide +kernel
theorem dX1_fewestBreaths_17 : decode cX1_fewestBreaths 17 = .ok (.iload_n 2, 1) := by decide +kernel
theorem dX1_fewestBreaths_18 : decode cX1_fewestBreaths 18 = .ok (.iload_n 1, 1) := by decide +kernel
theorem dX1_fewestBreaths_19 : decode cX1_fewestBreaths 19 = .ok (.if_icmp .gt 32, 3) := by decide +kernel
theorem dX1_fewestBreaths_22 : decode cX1_fewestBreaths 22 = .ok (.aload_n 0, 1) := by decide +kernel
theorem dX1_fewestBreaths_23 : decode cX1_fewestBreaths 23 = .ok (.getfield 44, 3) := by decide +kernel
theorem dX1_fewestBreaths_26 : decode cX1_fewestBreaths 26 = .ok (.iload_n 2, 1) := by decide +kernel
theorem dX1_fewestBreaths_27 : decode cX1_fewestBreaths 27 = .ok (.iload_n 2, 1) := by decide +kernel
theorem dX1_fewestBreaths_28 : decode cX1_fewestBreaths 28 = .ok (.iload_n 1, 1) := by decide +kernel
theorem dX1_fewestBreaths_29 : decode cX1_fewestBreaths 29 = .ok (.iand, 1) := by decide +kernel
theorem dX1_fewestBreaths_30 : decode cX1_fewestBreaths 30 = .ok (.iload_n 2, 1) := by decide +kernel
theorem dX1_fewestBreaths_31 : decode cX1_fewestBreaths 31 = .ok (.if_icmp .ne 11, 3) := by decide +kernel
theorem dX1_fewestBreaths_34 : decode cX1_fewestBreaths 34 = .ok (.aload_n 0, 1) := by decide +kernel
theorem dX1_fewestBreaths_35 : decode cX1_fewestBreaths 35 = .ok (.iload_n 2, 1) := by decide +kernel
theorem dX1_fewestBreaths_36 : decode cX1_fewestBreaths 36 = .ok (.invokevirtual 114, 3) := by decide +kernel
theorem dX1_fewestBreaths_39 : decode cX1_fewestBreaths 39 = .ok (.goto 5, 3) := by decide +kernel
theorem dX1_fewestBreaths_42 : decode cX1_fewestBreaths 42 = .ok (.bipush (-4), 2) := by decide +kernel
theorem dX1_fewestBreaths_44 : decode cX1_fewestBreaths 44 = .ok (.iastore, 1) := by decide +kernel
theorem dX1_fewestBreaths_45 : decode cX1_fewestBreaths 45 = .ok (.iinc 2 1, 3) := by decide +kernel
theorem dX1_fewestBreaths_48 : decode cX1_fewestBreaths 48 = .ok (.goto (-31), 3) := by decide +kernel
theorem dX1_fewestBreaths_51 : decode cX1_fewestBreaths 51 = .ok (.aload_n 0, 1) := by decide +kernel
theorem dX1_fewestBreaths_52 : decode cX1_fewestBreaths 52 = .ok (.getfield 44, 3) := by decide +kernel
theorem dX1_fewestBreaths_55 : decode cX1_fewestBreaths 55 = .ok (.iload_n 1, 1) := by decide +kernel
theorem dX1_fewestBreaths_56 : decode cX1_fewestBreaths 56 = .ok (.iaload, 1) := by decide +kernel
theorem dX1_fewestBreaths_57 : decode cX1_fewestBreaths 57 = .ok (.bipush 16, 2) := by decide +kernel
theorem dX1_fewestBreaths_59 : decode cX1_fewestBreaths 59 = .ok (.idiv, 1) := by decide +kernel
theorem dX1_fewestBreaths_60 : decode cX1_fewestBreaths 60 = .ok (.ireturn, 1) := by decide +kernel
theorem dX1_rankAll_0 : decode cX1_rankAll 0 = .ok (.iconst 0, 1) := by decide +kernel
theorem dX1_rankAll_1 : decode cX1_rankAll 1 = .ok (.istore_n 2, 1) := by decide +kernel
theorem dX1_rankAll_2 : decode cX1_rankAll 2 = .ok (.iload_n 2, 1) := by decide +kernel
theorem dX1_rankAll_3 : decode cX1_rankAll 3 = .ok (.aload_n 0, 1) := by decide +kernel
theorem dX1_rankAll_4 : decode cX1_rankAll 4 = .ok (.getfield 9, 3) := by decide +kernel
theorem dX1_rankAll_7 : decode cX1_rankAll 7 = .ok (.if_icmp .ge 67, 3) := by decide +kernel
theorem dX1_rankAll_10 : decode cX1_rankAll 10 = .ok (.aload_n 0, 1) := by decide +kernel
theorem dX1_rankAll_11 : decode cX1_rankAll 11 = .ok (.getfield 41, 3) := by decide +kernel
theorem dX1_rankAll_14 : decode cX1_rankAll 14 = .ok (.iload_n 2, 1) := by decide +kernel
theorem dX1_rankAll_15 : decode cX1_rankAll 15 = .ok (.iconst 0, 1) := by decide +kernel
theorem dX1_rankAll_16 : decode cX1_rankAll 16 = .ok (.iastore, 1) := by decide +kernel
theorem dX1_rankAll_17 : decode cX1_rankAll 17 = .ok (.iconst 0, 1) := by decide +kernel
theorem dX1_rankAll_18 : decode cX1_rankAll 18 = .ok (.istore_n 3, 1) := by decide +kernel
theorem dX1_rankAll_19 : decode cX1_rankAll 19 = .ok (.iload_n 3, 1) := by decide +kernel
theorem dX1_rankAll_20 : decode cX1_rankAll 20 = .ok (.aload_n 0, 1) := by decide +kernel
theorem dX1_rankAll_21 : decode cX1_rankAll 21 = .ok (.getfield 9, 3) := by decide +kernel
theorem dX1_rankAll_24 : decode cX1_rankAll 24 = .ok (.if_icmp .ge 44, 3) := by decide +kernel
theorem dX1_rankAll_27 : decode cX1_rankAll 27 = .ok (.iload_n 3, 1) := by decide +kernel
theorem dX1_rankAll_28 : decode cX1_rankAll 28 = .ok (.iload_n 1, 1) := by decide +kernel
theorem dX1_rankAll_29 : decode cX1_rankAll 29 = .ok (.invokestatic 84, 3) := by decide +kernel
theorem dX1_rankAll_32 : decode cX1_rankAll 32 = .ok (.ifCond .eq 30, 3) := by decide +kernel
theorem dX1_rankAll_35 : decode cX1_rankAll 35 = .ok (.aload_n 0, 1) := by decide +kernel
theorem dX1_rankAll_36 : decode cX1_rankAll 36 = .ok (.getfield 31, 3) := by decide +kernel
theorem dX1_rankAll_39 : decode cX1_rankAll 39 = .ok (.iload_n 3, 1) := by decide +kernel
theorem dX1_rankAll_40 : decode cX1_rankAll 40 = .ok (.iaload, 1) := by decide +kernel
theorem dX1_rankAll_41 : decode cX1_rankAll 41 = .ok (.aload_n 0, 1) := by decide +kernel
theorem dX1_rankAll_42 : decode cX1_rankAll 42 = .ok (.getfield 31, 3) := by decide +kernel
theorem dX1_rankAll_45 : decode cX1_rankAll 45 = .ok (.iload_n 2, 1) := by decide +kernel
theorem dX1_rankAll_46 : decode cX1_rankAll 46 = .ok (.iaload, 1) := by decide +kernel
theorem dX1_rankAll_47 : decode cX1_rankAll 47 = .ok (.if_icmp .le 15, 3) := by decide +kernel
theorem dX1_rankAll_50 : decode cX1_rankAll 50 = .ok (.aload_n 0, 1) := by decide +kernel
theorem dX1_rankAll_51 : decode cX1_rankAll 51 = .ok (.getfield 41, 3) := by decide +kernel
theorem dX1_rankAll_54 : decode cX1_rankAll 54 = .ok (.iload_n 2, 1) := by decide +kernel
theorem dX1_rankAll_55 : decode cX1_rankAll 55 = .ok (.dup2, 1) := by decide +kernel
theorem dX1_rankAll_56 : decode cX1_rankAll 56 = .ok (.iaload, 1) := by decide +kernel
theorem dX1_rankAll_57 : decode cX1_rankAll 57 = .ok (.iconst 1, 1) := by decide +kernel
theorem dX1_rankAll_58 : decode cX1_rankAll 58 = .ok (.iload_n 3, 1) := by decide +kernel
theorem dX1_rankAll_59 : decode cX1_rankAll 59 = .ok (.ishl, 1) := by decide +kernel
theorem dX1_rankAll_60 : decode cX1_rankAll 60 = .ok (.ior, 1) := by decide +kernel
theorem dX1_rankAll_61 : decode cX1_rankAll 61 = .ok (.iastore, 1) := by decide +kernel
theorem dX1_rankAll_62 : decode cX1_rankAll 62 = .ok (.iinc 3 1, 3) := by decide +kernel
theorem dX1_rankAll_65 : decode cX1_rankAll 65 = .ok (.goto (-46), 3) := by decide +kernel
theorem dX1_rankAll_68 : decode cX1_rankAll 68 = .ok (.iinc 2 1, 3) := by decide +kernel
theorem dX1_rankAll_71 : decode cX1_rankAll 71 = .ok (.goto (-69), 3) := by decide +kernel
theorem dX1_rankAll_74 : decode cX1_rankAll 74 = .ok (.return_, 1) := by decide +kernel
theorem dX1_mayBeFirst_0 : decode cX1_mayBeFirst 0 = .ok (.iload_n 1, 1) := by decide +kernel
theorem dX1_mayBeFirst_1 : decode cX1_mayBeFirst 1 = .ok (.iload_n 2, 1) := by decide +kernel
theorem dX1_mayBeFirst_2 : decode cX1_mayBeFirst 2 = .ok (.invokestatic 84, 3) := by decide +kernel
theorem dX1_mayBeFirst_5 : decode cX1_mayBeFirst 5 = .ok (.ifCond .eq 18, 3) := by decide +kernel
theorem dX1_mayBeFirst_8 : decode cX1_mayBeFirst 8 = .ok (.aload_n 0, 1) := by decide +kernel
theorem dX1_mayBeFirst_9 : decode cX1_mayBeFirst 9 = .ok (.getfield 41, 3) := by decide +kernel
theorem dX1_mayBeFirst_12 : decode cX1_mayBeFirst 12 = .ok (.iload_n 1, 1) := by decide +kernel
theorem dX1_mayBeFirst_13 : decode cX1_mayBeFirst 13 = .ok (.iaload, 1) := by decide +kernel
theorem dX1_mayBeFirst_14 : decode cX1_mayBeFirst 14 = .ok (.iload_n 2, 1) := by decide +kernel
theorem dX1_mayBeFirst_15 : decode cX1_mayBeFirst 15 = .ok (.iand, 1) := by decide +kernel
theorem dX1_mayBeFirst_16 : decode cX1_mayBeFirst 16 = .ok (.ifCond .ne 7, 3) := by decide +kernel
theorem dX1_mayBeFirst_19 : decode cX1_mayBeFirst 19 = .ok (.iconst 1, 1) := by decide +kernel
theorem dX1_mayBeFirst_20 : decode cX1_mayBeFirst 20 = .ok (.goto 4, 3) := by decide +kernel
theorem dX1_mayBeFirst_23 : decode cX1_mayBeFirst 23 = .ok (.iconst 0, 1) := by decide +kernel
theorem dX1_mayBeFirst_24 : decode cX1_mayBeFirst 24 = .ok (.ireturn, 1) := by decide +kernel
theorem dX1_leastPacking_0 : decode cX1_leastPacking 0 = .ok (.bipush (-4), 2) := by decide +kernel
theorem dX1_leastPacking_2 : decode cX1_leastPacking 2 = .ok (.istore_n 2, 1) := by decide +kernel
theorem dX1_leastPacking_3 : decode cX1_leastPacking 3 = .ok (.iconst 0, 1) := by decide +kernel
theorem dX1_leastPacking_4 : decode cX1_leastPacking 4 = .ok (.istore_n 3, 1) := by decide +kernel
theorem dX1_leastPacking_5 : decode cX1_leastPacking 5 = .ok (.iload_n 3, 1) := by decide +kernel
theorem dX1_leastPacking_6 : decode cX1_leastPacking 6 = .ok (.aload_n 0, 1) := by decide +kernel
theorem dX1_leastPacking_7 : decode cX1_leastPacking 7 = .ok (.getfield 9, 3) := by decide +kernel
theorem dX1_leastPacking_10 : decode cX1_leastPacking 10 = .ok (.if_icmp .ge 53, 3) := by decide +kernel
theorem dX1_leastPacking_13 : decode cX1_leastPacking 13 = .ok (.aload_n 0, 1) := by decide +kernel
theorem dX1_leastPacking_14 : decode cX1_leastPacking 14 = .ok (.iload_n 3, 1) := by decide +kernel
theorem dX1_leastPacking_15 : decode cX1_leastPacking 15 = .ok (.iload_n 1, 1) := by decide +kernel
theorem dX1_leastPacking_16 : decode cX1_leastPacking 16 = .ok (.invokevirtual 117, 3) := by decide +kernel
theorem dX1_leastPacking_19 : decode cX1_leastPacking 19 = .ok (.ifCond .eq 38, 3) := by decide +kernel
theorem dX1_leastPacking_22 : decode cX1_leastPacking 22 = .ok (.aload_n 0, 1) := by decide +kernel
theorem dX1_leastPacking_23 : decode cX1_leastPacking 23 = .ok (.aload_n 0, 1) := by decide +kernel
theorem dX1_leastPacking_24 : decode cX1_leastPacking 24 = .ok (.getfield 44, 3) := by decide +kernel
theorem dX1_leastPacking_27 : decode cX1_leastPacking 27 = .ok (.iload_n 1, 1) := by decide +kernel
theorem dX1_leastPacking_28 : decode cX1_leastPacking 28 = .ok (.iconst 1, 1) := by decide +kernel
theorem dX1_leastPacking_29 : decode cX1_leastPacking 29 = .ok (.iload_n 3, 1) := by decide +kernel
theorem dX1_leastPacking_30 : decode cX1_leastPacking 30 = .ok (.ishl, 1) := by decide +kernel
theorem dX1_leastPacking_31 : decode cX1_leastPacking 31 = .ok (.ixor, 1) := by decide +kernel
theorem dX1_leastPacking_32 : decode cX1_leastPacking 32 = .ok (.iaload, 1) := by decide +kernel
theorem dX1_leastPacking_33 : decode cX1_leastPacking 33 = .ok (.iload_n 3, 1) := by decide +kernel
theorem dX1_leastPacking_34 : decode cX1_leastPacking 34 = .ok (.invokevirtual 120, 3) := by decide +kernel
theorem dX1_leastPacking_37 : decode cX1_leastPacking 37 = .ok (.istore 4, 2) := by decide +kernel
theorem dX1_leastPacking_39 : decode cX1_leastPacking 39 = .ok (.iload_n 2, 1) := by decide +kernel
theorem dX1_leastPacking_40 : decode cX1_leastPacking 40 = .ok (.bipush (-4), 2) := by decide +kernel
theorem dX1_leastPacking_42 : decode cX1_leastPacking 42 = .ok (.if_icmp .ne 8, 3) := by decide +kernel
theorem dX1_leastPacking_45 : decode cX1_leastPacking 45 = .ok (.iload 4, 2) := by decide +kernel
theorem dX1_leastPacking_47 : decode cX1_leastPacking 47 = .ok (.goto 9, 3) := by decide +kernel
theorem dX1_leastPacking_50 : decode cX1_leastPacking 50 = .ok (.iload_n 2, 1) := by decide +kernel
theorem dX1_leastPacking_51 : decode cX1_leastPacking 51 = .ok (.iload 4, 2) := by decide +kernel
theorem dX1_leastPacking_53 : decode cX1_leastPacking 53 = .ok (.invokestatic 56, 3) := by decide +kernel
theorem dX1_leastPacking_56 : decode cX1_leastPacking 56 = .ok (.istore_n 2, 1) := by decide +kernel
theorem dX1_leastPacking_57 : decode cX1_leastPacking 57 = .ok (.iinc 3 1, 3) := by decide +kernel
theorem dX1_leastPacking_60 : decode cX1_leastPacking 60 = .ok (.goto (-55), 3) := by decide +kernel
theorem dX1_leastPacking_63 : decode cX1_leastPacking 63 = .ok (.iload_n 2, 1) := by decide +kernel
theorem dX1_leastPacking_64 : decode cX1_leastPacking 64 = .ok (.ireturn, 1) := by decide +kernel
theorem dX1_nothingPacked_0 : decode cX1_nothingPacked 0 = .ok (.aload_n 0, 1) := by decide +kernel
theorem dX1_nothingPacked_1 : decode cX1_nothingPacked 1 = .ok (.getfield 15, 3) := by decide +kernel
theorem dX1_nothingPacked_4 : decode cX1_nothingPacked 4 = .ok (.ireturn, 1) := by decide +kernel
theorem dX1_packed_0 : decode cX1_packed 0 = .ok (.iload_n 1, 1) := by decide +kernel
theorem dX1_packed_1 : decode cX1_packed 1 = .ok (.bipush 16, 2) := by decide +kernel
theorem dX1_packed_3 : decode cX1_packed 3 = .ok (.idiv, 1) := by decide +kernel
theorem dX1_packed_4 : decode cX1_packed 4 = .ok (.istore_n 3, 1) := by decide +kernel
theorem dX1_packed_5 : decode cX1_packed 5 = .ok (.iload_n 1, 1) := by decide +kernel
theorem dX1_packed_6 : decode cX1_packed 6 = .ok (.bipush 16, 2) := by decide +kernel
theorem dX1_packed_8 : decode cX1_packed 8 = .ok (.irem, 1) := by decide +kernel
theorem dX1_packed_9 : decode cX1_packed 9 = .ok (.istore 4, 2) := by decide +kernel
theorem dX1_packed_11 : decode cX1_packed 11 = .ok (.aload_n 0, 1) := by decide +kernel
theorem dX1_packed_12 : decode cX1_packed 12 = .ok (.getfield 21, 3) := by decide +kernel
theorem dX1_packed_15 : decode cX1_packed 15 = .ok (.iload_n 2, 1) := by decide +kernel
theorem dX1_packed_16 : decode cX1_packed 16 = .ok (.iaload, 1) := by decide +kernel
theorem dX1_packed_17 : decode cX1_packed 17 = .ok (.aload_n 0, 1) := by decide +kernel
theorem dX1_packed_18 : decode cX1_packed 18 = .ok (.getfield 15, 3) := by decide +kernel
theorem dX1_packed_21 : decode cX1_packed 21 = .ok (.if_icmp .le 24, 3) := by decide +kernel
theorem dX1_packed_24 : decode cX1_packed 24 = .ok (.iload_n 3, 1) := by decide +kernel
theorem dX1_packed_25 : decode cX1_packed 25 = .ok (.aload_n 0, 1) := by decide +kernel
theorem dX1_packed_26 : decode cX1_packed 26 = .ok (.aload_n 0, 1) := by decide +kernel
theorem dX1_packed_27 : decode cX1_packed 27 = .ok (.getfield 21, 3) := by decide +kernel
theorem dX1_packed_30 : decode cX1_packed 30 = .ok (.iload_n 2, 1) := by decide +kernel
theorem dX1_packed_31 : decode cX1_packed 31 = .ok (.iaload, 1) := by decide +kernel
theorem dX1_packed_32 : decode cX1_packed 32 = .ok (.invokevirtual 88, 3) := by decide +kernel
theorem dX1_packed_35 : decode cX1_packed 35 = .ok (.iadd, 1) := by decide +kernel
theorem dX1_packed_36 : decode cX1_packed 36 = .ok (.bipush 16, 2) := by decide +kernel
theorem dX1_packed_38 : decode cX1_packed 38 = .ok (.imul, 1) := by decide +kernel
theorem dX1_packed_39 : decode cX1_packed 39 = .ok (.aload_n 0, 1) := by decide +kernel
theorem dX1_packed_40 : decode cX1_packed 40 = .ok (.getfield 15, 3) := by decide +kernel
theorem dX1_packed_43 : decode cX1_packed 43 = .ok (.iadd, 1) := by decide +kernel
theorem dX1_packed_44 : decode cX1_packed 44 = .ok (.ireturn, 1) := by decide +kernel
theorem dX1_packed_45 : decode cX1_packed 45 = .ok (.iload 4, 2) := by decide +kernel
theorem dX1_packed_47 : decode cX1_packed 47 = .ok (.aload_n 0, 1) := by decide +kernel
theorem dX1_packed_48 : decode cX1_packed 48 = .ok (.getfield 21, 3) := by decide +kernel
theorem dX1_packed_51 : decode cX1_packed 51 = .ok (.iload_n 2, 1) := by decide +kernel
theorem dX1_packed_52 : decode cX1_packed 52 = .ok (.iaload, 1) := by decide +kernel
theorem dX1_packed_53 : decode cX1_packed 53 = .ok (.iadd, 1) := by decide +kernel
theorem dX1_packed_54 : decode cX1_packed 54 = .ok (.aload_n 0, 1) := by decide +kernel
theorem dX1_packed_55 : decode cX1_packed 55 = .ok (.getfield 15, 3) := by decide +kernel
theorem dX1_packed_58 : decode cX1_packed 58 = .ok (.if_icmp .le 17, 3) := by decide +kernel
theorem dX1_packed_61 : decode cX1_packed 61 = .ok (.iload_n 3, 1) := by decide +kernel
theorem dX1_packed_62 : decode cX1_packed 62 = .ok (.iconst 1, 1) := by decide +kernel
theorem dX1_packed_63 : decode cX1_packed 63 = .ok (.iadd, 1) := by decide +kernel
theorem dX1_packed_64 : decode cX1_packed 64 = .ok (.bipush 16, 2) := by decide +kernel
theorem dX1_packed_66 : decode cX1_packed 66 = .ok (.imul, 1) := by decide +kernel
theorem dX1_packed_67 : decode cX1_packed 67 = .ok (.aload_n 0, 1) := by decide +kernel
theorem dX1_packed_68 : decode cX1_packed 68 = .ok (.getfield 21, 3) := by decide +kernel
theorem dX1_packed_71 : decode cX1_packed 71 = .ok (.iload_n 2, 1) := by decide +kernel
theorem dX1_packed_72 : decode cX1_packed 72 = .ok (.iaload, 1) := by decide +kernel
theorem dX1_packed_73 : decode cX1_packed 73 = .ok (.iadd, 1) := by decide +kernel
theorem dX1_packed_74 : decode cX1_packed 74 = .ok (.ireturn, 1) := by decide +kernel
theorem dX1_packed_75 : decode cX1_packed 75 = .ok (.iload_n 1, 1) := by decide +kernel
theorem dX1_packed_76 : decode cX1_packed 76 = .ok (.aload_n 0, 1) := by decide +kernel
theorem dX1_packed_77 : decode cX1_packed 77 = .ok (.getfield 21, 3) := by decide +kernel
theorem dX1_packed_80 : decode cX1_packed 80 = .ok (.iload_n 2, 1) := by decide +kernel
theorem dX1_packed_81 : decode cX1_packed 81 = .ok (.iaload, 1) := by decide +kernel
theorem dX1_packed_82 : decode cX1_packed 82 = .ok (.iadd, 1) := by decide +kernel
theorem dX1_packed_83 : decode cX1_packed 83 = .ok (.ireturn, 1) := by decide +kernel
theorem dX1_joined_0 : decode cX1_joined 0 = .ok (.iload_n 1, 1) := by decide +kernel
theorem dX1_joined_1 : decode cX1_joined 1 = .ok (.bipush 16, 2) := by decide +kernel
theorem dX1_joined_3 : decode cX1_joined 3 = .ok (.idiv, 1) := by decide +kernel
theorem dX1_joined_4 : decode cX1_joined 4 = .ok (.iload_n 2, 1) := by decide +kernel
theorem dX1_joined_5 : decode cX1_joined 5 = .ok (.bipush 16, 2) := by decide +kernel
theorem dX1_joined_7 : decode cX1_joined 7 = .ok (.idiv, 1) := by decide +kernel
theorem dX1_joined_8 : decode cX1_joined 8 = .ok (.iadd, 1) := by decide +kernel
theorem dX1_joined_9 : decode cX1_joined 9 = .ok (.istore_n 3, 1) := by decide +kernel
theorem dX1_joined_10 : decode cX1_joined 10 = .ok (.iload_n 1, 1) := by decide +kernel
theorem dX1_joined_11 : decode cX1_joined 11 = .ok (.bipush 16, 2) := by decide +kernel
theorem dX1_joined_13 : decode cX1_joined 13 = .ok (.irem, 1) := by decide +kernel
theorem dX1_joined_14 : decode cX1_joined 14 = .ok (.iload_n 2, 1) := by decide +kernel
theorem dX1_joined_15 : decode cX1_joined 15 = .ok (.bipush 16, 2) := by decide +kernel
theorem dX1_joined_17 : decode cX1_joined 17 = .ok (.irem, 1) := by decide +kernel
theorem dX1_joined_18 : decode cX1_joined 18 = .ok (.iadd, 1) := by decide +kernel
theorem dX1_joined_19 : decode cX1_joined 19 = .ok (.aload_n 0, 1) := by decide +kernel
theorem dX1_joined_20 : decode cX1_joined 20 = .ok (.getfield 15, 3) := by decide +kernel
theorem dX1_joined_23 : decode cX1_joined 23 = .ok (.if_icmp .gt 9, 3) := by decide +kernel
theorem dX1_joined_26 : decode cX1_joined 26 = .ok (.iload_n 3, 1) := by decide +kernel
theorem dX1_joined_27 : decode cX1_joined 27 = .ok (.iconst 1, 1) := by decide +kernel
theorem dX1_joined_28 : decode cX1_joined 28 = .ok (.isub, 1) := by decide +kernel
theorem dX1_joined_29 : decode cX1_joined 29 = .ok (.goto 4, 3) := by decide +kernel
theorem dX1_joined_32 : decode cX1_joined 32 = .ok (.iload_n 3, 1) := by decide +kernel
theorem dX1_joined_33 : decode cX1_joined 33 = .ok (.ireturn, 1) := by decide +kernel
theorem dX1_orderCouncil_0 : decode cX1_orderCouncil 0 = .ok (.aload_n 0, 1) := by decide +kernel
theorem dX1_orderCouncil_1 : decode cX1_orderCouncil 1 = .ok (.iconst 0, 1) := by decide +kernel
theorem dX1_orderCouncil_2 : decode cX1_orderCouncil 2 = .ok (.putfield 50, 3) := by decide +kernel
theorem dX1_orderCouncil_5 : decode cX1_orderCouncil 5 = .ok (.iload_n 1, 1) := by decide +kernel
theorem dX1_orderCouncil_6 : decode cX1_orderCouncil 6 = .ok (.istore_n 3, 1) := by decide +kernel
theorem dX1_orderCouncil_7 : decode cX1_orderCouncil 7 = .ok (.aload_n 0, 1) := by decide +kernel
theorem dX1_orderCouncil_8 : decode cX1_orderCouncil 8 = .ok (.invokevirtual 110, 3) := by decide +kernel
theorem dX1_orderCouncil_11 : decode cX1_orderCouncil 11 = .ok (.istore 4, 2) := by decide +kernel
theorem dX1_orderCouncil_13 : decode cX1_orderCouncil 13 = .ok (.iconst 0, 1) := by decide +kernel
theorem dX1_orderCouncil_14 : decode cX1_orderCouncil 14 = .ok (.istore 5, 2) := by decide +kernel
theorem dX1_orderCouncil_16 : decode cX1_orderCouncil 16 = .ok (.iload 5, 2) := by decide +kernel
theorem dX1_orderCouncil_18 : decode cX1_orderCouncil 18 = .ok (.bipush 8, 2) := by decide +kernel
theorem dX1_orderCouncil_20 : decode cX1_orderCouncil 20 = .ok (.if_icmp .ge 67, 3) := by decide +kernel
theorem dX1_orderCouncil_23 : decode cX1_orderCouncil 23 = .ok (.iload_n 3, 1) := by decide +kernel
theorem dX1_orderCouncil_24 : decode cX1_orderCouncil 24 = .ok (.ifCond .eq 63, 3) := by decide +kernel
theorem dX1_orderCouncil_27 : decode cX1_orderCouncil 27 = .ok (.aload_n 0, 1) := by decide +kernel
theorem dX1_orderCouncil_28 : decode cX1_orderCouncil 28 = .ok (.iload_n 3, 1) := by decide +kernel
theorem dX1_orderCouncil_29 : decode cX1_orderCouncil 29 = .ok (.iload 4, 2) := by decide +kernel
theorem dX1_orderCouncil_31 : decode cX1_orderCouncil 31 = .ok (.iload_n 2, 1) := by decide +kernel
theorem dX1_orderCouncil_32 : decode cX1_orderCouncil 32 = .ok (.invokevirtual 123, 3) := by decide +kernel
theorem dX1_orderCouncil_35 : decode cX1_orderCouncil 35 = .ok (.istore 6, 2) := by decide +kernel
theorem dX1_orderCouncil_37 : decode cX1_orderCouncil 37 = .ok (.iload 6, 2) := by decide +kernel
theorem dX1_orderCouncil_39 : decode cX1_orderCouncil 39 = .ok (.bipush (-4), 2) := by decide +kernel
theorem dX1_orderCouncil_41 : decode cX1_orderCouncil 41 = .ok (.if_icmp .ne 4, 3) := by decide +kernel
theorem dX1_orderCouncil_44 : decode cX1_orderCouncil 44 = .ok (.return_, 1) := by decide +kernel
theorem dX1_orderCouncil_45 : decode cX1_orderCouncil 45 = .ok (.aload_n 0, 1) := by decide +kernel
theorem dX1_orderCouncil_46 : decode cX1_orderCouncil 46 = .ok (.getfield 47, 3) := by decide +kernel
theorem dX1_orderCouncil_49 : decode cX1_orderCouncil 49 = .ok (.iload 5, 2) := by decide +kernel
theorem dX1_orderCouncil_51 : decode cX1_orderCouncil 51 = .ok (.iload 6, 2) := by decide +kernel
theorem dX1_orderCouncil_53 : decode cX1_orderCouncil 53 = .ok (.iastore, 1) := by decide +kernel
theorem dX1_orderCouncil_54 : decode cX1_orderCouncil 54 = .ok (.aload_n 0, 1) := by decide +kernel
theorem dX1_orderCouncil_55 : decode cX1_orderCouncil 55 = .ok (.dup, 1) := by decide +kernel
theorem dX1_orderCouncil_56 : decode cX1_orderCouncil 56 = .ok (.getfield 50, 3) := by decide +kernel
theorem dX1_orderCouncil_59 : decode cX1_orderCouncil 59 = .ok (.iconst 1, 1) := by decide +kernel
theorem dX1_orderCouncil_60 : decode cX1_orderCouncil 60 = .ok (.iadd, 1) := by decide +kernel
theorem dX1_orderCouncil_61 : decode cX1_orderCouncil 61 = .ok (.putfield 50, 3) := by decide +kernel
theorem dX1_orderCouncil_64 : decode cX1_orderCouncil 64 = .ok (.aload_n 0, 1) := by decide +kernel
theorem dX1_orderCouncil_65 : decode cX1_orderCouncil 65 = .ok (.iload 4, 2) := by decide +kernel
theorem dX1_orderCouncil_67 : decode cX1_orderCouncil 67 = .ok (.iload 6, 2) := by decide +kernel
theorem dX1_orderCouncil_69 : decode cX1_orderCouncil 69 = .ok (.invokevirtual 120, 3) := by decide +kernel
theorem dX1_orderCouncil_72 : decode cX1_orderCouncil 72 = .ok (.istore 4, 2) := by decide +kernel
theorem dX1_orderCouncil_74 : decode cX1_orderCouncil 74 = .ok (.iload_n 3, 1) := by decide +kernel
theorem dX1_orderCouncil_75 : decode cX1_orderCouncil 75 = .ok (.iconst 1, 1) := by decide +kernel
theorem dX1_orderCouncil_76 : decode cX1_orderCouncil 76 = .ok (.iload 6, 2) := by decide +kernel
theorem dX1_orderCouncil_78 : decode cX1_orderCouncil 78 = .ok (.ishl, 1) := by decide +kernel
theorem dX1_orderCouncil_79 : decode cX1_orderCouncil 79 = .ok (.ixor, 1) := by decide +kernel
theorem dX1_orderCouncil_80 : decode cX1_orderCouncil 80 = .ok (.istore_n 3, 1) := by decide +kernel
theorem dX1_orderCouncil_81 : decode cX1_orderCouncil 81 = .ok (.iinc 5 1, 3) := by decide +kernel
theorem dX1_orderCouncil_84 : decode cX1_orderCouncil 84 = .ok (.goto (-68), 3) := by decide +kernel
theorem dX1_orderCouncil_87 : decode cX1_orderCouncil 87 = .ok (.return_, 1) := by decide +kernel
theorem dX1_nextGreeted_0 : decode cX1_nextGreeted 0 = .ok (.iconst 0, 1) := by decide +kernel
theorem dX1_nextGreeted_1 : decode cX1_nextGreeted 1 = .ok (.istore 4, 2) := by decide +kernel
theorem dX1_nextGreeted_3 : decode cX1_nextGreeted 3 = .ok (.iload 4, 2) := by decide +kernel
theorem dX1_nextGreeted_5 : decode cX1_nextGreeted 5 = .ok (.aload_n 0, 1) := by decide +kernel
theorem dX1_nextGreeted_6 : decode cX1_nextGreeted 6 = .ok (.getfield 9, 3) := by decide +kernel
theorem dX1_nextGreeted_9 : decode cX1_nextGreeted 9 = .ok (.if_icmp .ge 48, 3) := by decide +kernel
theorem dX1_nextGreeted_12 : decode cX1_nextGreeted 12 = .ok (.aload_n 0, 1) := by decide +kernel
theorem dX1_nextGreeted_13 : decode cX1_nextGreeted 13 = .ok (.iload 4, 2) := by decide +kernel
theorem dX1_nextGreeted_15 : decode cX1_nextGreeted 15 = .ok (.iload_n 1, 1) := by decide +kernel
theorem dX1_nextGreeted_16 : decode cX1_nextGreeted 16 = .ok (.invokevirtual 117, 3) := by decide +kernel
theorem dX1_nextGreeted_19 : decode cX1_nextGreeted 19 = .ok (.ifCond .eq 32, 3) := by decide +kernel
theorem dX1_nextGreeted_22 : decode cX1_nextGreeted 22 = .ok (.aload_n 0, 1) := by decide +kernel
theorem dX1_nextGreeted_23 : decode cX1_nextGreeted 23 = .ok (.aload_n 0, 1) := by decide +kernel
theorem dX1_nextGreeted_24 : decode cX1_nextGreeted 24 = .ok (.iload_n 2, 1) := by decide +kernel
theorem dX1_nextGreeted_25 : decode cX1_nextGreeted 25 = .ok (.iload 4, 2) := by decide +kernel
theorem dX1_nextGreeted_27 : decode cX1_nextGreeted 27 = .ok (.invokevirtual 120, 3) := by decide +kernel
theorem dX1_nextGreeted_30 : decode cX1_nextGreeted 30 = .ok (.aload_n 0, 1) := by decide +kernel
theorem dX1_nextGreeted_31 : decode cX1_nextGreeted 31 = .ok (.getfield 44, 3) := by decide +kernel
theorem dX1_nextGreeted_34 : decode cX1_nextGreeted 34 = .ok (.iload_n 1, 1) := by decide +kernel
theorem dX1_nextGreeted_35 : decode cX1_nextGreeted 35 = .ok (.iconst 1, 1) := by decide +kernel
theorem dX1_nextGreeted_36 : decode cX1_nextGreeted 36 = .ok (.iload 4, 2) := by decide +kernel
theorem dX1_nextGreeted_38 : decode cX1_nextGreeted 38 = .ok (.ishl, 1) := by decide +kernel
theorem dX1_nextGreeted_39 : decode cX1_nextGreeted 39 = .ok (.ixor, 1) := by decide +kernel
theorem dX1_nextGreeted_40 : decode cX1_nextGreeted 40 = .ok (.iaload, 1) := by decide +kernel
theorem dX1_nextGreeted_41 : decode cX1_nextGreeted 41 = .ok (.invokevirtual 126, 3) := by decide +kernel
theorem dX1_nextGreeted_44 : decode cX1_nextGreeted 44 = .ok (.iload_n 3, 1) := by decide +kernel
theorem dX1_nextGreeted_45 : decode cX1_nextGreeted 45 = .ok (.if_icmp .ne 6, 3) := by decide +kernel
theorem dX1_nextGreeted_48 : decode cX1_nextGreeted 48 = .ok (.iload 4, 2) := by decide +kernel
theorem dX1_nextGreeted_50 : decode cX1_nextGreeted 50 = .ok (.ireturn, 1) := by decide +kernel
theorem dX1_nextGreeted_51 : decode cX1_nextGreeted 51 = .ok (.iinc 4 1, 3) := by decide +kernel
theorem dX1_nextGreeted_54 : decode cX1_nextGreeted 54 = .ok (.goto (-51), 3) := by decide +kernel
theorem dX1_nextGreeted_57 : decode cX1_nextGreeted 57 = .ok (.bipush (-4), 2) := by decide +kernel
theorem dX1_nextGreeted_59 : decode cX1_nextGreeted 59 = .ok (.ireturn, 1) := by decide +kernel
theorem dX2_init_0 : decode cX2_init 0 = .ok (.aload_n 0, 1) := by decide +kernel
theorem dX2_init_1 : decode cX2_init 1 = .ok (.invokespecial 3, 3) := by decide +kernel
theorem dX2_init_4 : decode cX2_init 4 = .ok (.aload_n 0, 1) := by decide +kernel
theorem dX2_init_5 : decode cX2_init 5 = .ok (.new 9, 3) := by decide +kernel
theorem dX2_init_8 : decode cX2_init 8 = .ok (.dup, 1) := by decide +kernel
theorem dX2_init_9 : decode cX2_init 9 = .ok (.invokespecial 11, 3) := by decide +kernel
theorem dX2_init_12 : decode cX2_init 12 = .ok (.putfield 12, 3) := by decide +kernel
theorem dX2_init_15 : decode cX2_init 15 = .ok (.aload_n 0, 1) := by decide +kernel
theorem dX2_init_16 : decode cX2_init 16 = .ok (.bipush 8, 2) := by decide +kernel
theorem dX2_init_18 : decode cX2_init 18 = .ok (.newarray .int, 2) := by decide +kernel
theorem dX2_init_20 : decode cX2_init 20 = .ok (.putfield 18, 3) := by decide +kernel
theorem dX2_init_23 : decode cX2_init 23 = .ok (.aload_n 0, 1) := by decide +kernel
theorem dX2_init_24 : decode cX2_init 24 = .ok (.bipush 8, 2) := by decide +kernel
theorem dX2_init_26 : decode cX2_init 26 = .ok (.newarray .int, 2) := by decide +kernel
theorem dX2_init_28 : decode cX2_init 28 = .ok (.putfield 22, 3) := by decide +kernel
theorem dX2_init_31 : decode cX2_init 31 = .ok (.aload_n 0, 1) := by decide +kernel
theorem dX2_init_32 : decode cX2_init 32 = .ok (.bipush 6, 2) := by decide +kernel
theorem dX2_init_34 : decode cX2_init 34 = .ok (.newarray .int, 2) := by decide +kernel
theorem dX2_init_36 : decode cX2_init 36 = .ok (.putfield 25, 3) := by decide +kernel
theorem dX2_init_39 : decode cX2_init 39 = .ok (.aload_n 0, 1) := by decide +kernel
theorem dX2_init_40 : decode cX2_init 40 = .ok (.bipush 6, 2) := by decide +kernel
theorem dX2_init_42 : decode cX2_init 42 = .ok (.newarray .boolean, 2) := by decide +kernel
theorem dX2_init_44 : decode cX2_init 44 = .ok (.putfield 28, 3) := by decide +kernel
theorem dX2_init_47 : decode cX2_init 47 = .ok (.aload_n 0, 1) := by decide +kernel
theorem dX2_init_48 : decode cX2_init 48 = .ok (.bipush 6, 2) := by decide +kernel
theorem dX2_init_50 : decode cX2_init 50 = .ok (.newarray .int, 2) := by decide +kernel
theorem dX2_init_52 : decode cX2_init 52 = .ok (.putfield 32, 3) := by decide +kernel
theorem dX2_init_55 : decode cX2_init 55 = .ok (.aload_n 0, 1) := by decide +kernel
theorem dX2_init_56 : decode cX2_init 56 = .ok (.invokevirtual 35, 3) := by decide +kernel
theorem dX2_init_59 : decode cX2_init 59 = .ok (.return_, 1) := by decide +kernel
theorem dX2_empty_0 : decode cX2_empty 0 = .ok (.aload_n 0, 1) := by decide +kernel
theorem dX2_empty_1 : decode cX2_empty 1 = .ok (.getfield 12, 3) := by decide +kernel
theorem dX2_empty_4 : decode cX2_empty 4 = .ok (.iconst 0, 1) := by decide +kernel
theorem dX2_empty_5 : decode cX2_empty 5 = .ok (.putfield 38, 3) := by decide +kernel
theorem dX2_empty_8 : decode cX2_empty 8 = .ok (.iconst 0, 1) := by decide +kernel
theorem dX2_empty_9 : decode cX2_empty 9 = .ok (.istore_n 1, 1) := by decide +kernel
theorem dX2_empty_10 : decode cX2_empty 10 = .ok (.iload_n 1, 1) := by decide +kernel
theorem dX2_empty_11 : decode cX2_empty 11 = .ok (.bipush 6, 2) := by decide +kernel
theorem dX2_empty_13 : decode cX2_empty 13 = .ok (.if_icmp .ge 30, 3) := by decide +kernel
theorem dX2_empty_16 : decode cX2_empty 16 = .ok (.aload_n 0, 1) := by decide +kernel
theorem dX2_empty_17 : decode cX2_empty 17 = .ok (.getfield 25, 3) := by decide +kernel
theorem dX2_empty_20 : decode cX2_empty 20 = .ok (.iload_n 1, 1) := by decide +kernel
theorem dX2_empty_21 : decode cX2_empty 21 = .ok (.iload_n 1, 1) := by decide +kernel
theorem dX2_empty_22 : decode cX2_empty 22 = .ok (.iastore, 1) := by decide +kernel
theorem dX2_empty_23 : decode cX2_empty 23 = .ok (.aload_n 0, 1) := by decide +kernel
theorem dX2_empty_24 : decode cX2_empty 24 = .ok (.getfield 28, 3) := by decide +kernel
theorem dX2_empty_27 : decode cX2_empty 27 = .ok (.iload_n 1, 1) := by decide +kernel
theorem dX2_empty_28 : decode cX2_empty 28 = .ok (.iconst 0, 1) := by decide +kernel
theorem dX2_empty_29 : decode cX2_empty 29 = .ok (.bastore, 1) := by decide +kernel
theorem dX2_empty_30 : decode cX2_empty 30 = .ok (.aload_n 0, 1) := by decide +kernel
theorem dX2_empty_31 : decode cX2_empty 31 = .ok (.getfield 32, 3) := by decide +kernel
theorem dX2_empty_34 : decode cX2_empty 34 = .ok (.iload_n 1, 1) := by decide +kernel
theorem dX2_empty_35 : decode cX2_empty 35 = .ok (.iconst 1, 1) := by decide +kernel
theorem dX2_empty_36 : decode cX2_empty 36 = .ok (.iastore, 1) := by decide +kernel
theorem dX2_empty_37 : decode cX2_empty 37 = .ok (.iinc 1 1, 3) := by decide +kernel
theorem dX2_empty_40 : decode cX2_empty 40 = .ok (.goto (-30), 3) := by decide +kernel
theorem dX2_empty_43 : decode cX2_empty 43 = .ok (.aload_n 0, 1) := by decide +kernel
theorem dX2_empty_44 : decode cX2_empty 44 = .ok (.iconst 4, 1) := by decide +kernel
theorem dX2_empty_45 : decode cX2_empty 45 = .ok (.putfield 42, 3) := by decide +kernel
theorem dX2_empty_48 : decode cX2_empty 48 = .ok (.aload_n 0, 1) := by decide +kernel
theorem dX2_empty_49 : decode cX2_empty 49 = .ok (.iconst 3, 1) := by decide +kernel
theorem dX2_empty_50 : decode cX2_empty 50 = .ok (.putfield 45, 3) := by decide +kernel
theorem dX2_empty_53 : decode cX2_empty 53 = .ok (.aload_n 0, 1) := by decide +kernel
theorem dX2_empty_54 : decode cX2_empty 54 = .ok (.iconst 1, 1) := by decide +kernel
theorem dX2_empty_55 : decode cX2_empty 55 = .ok (.putfield 48, 3) := by decide +kernel
theorem dX2_empty_58 : decode cX2_empty 58 = .ok (.return_, 1) := by decide +kernel
theorem dX2_settle_0 : decode cX2_settle 0 = .ok (.aload_n 0, 1) := by decide +kernel
theorem dX2_settle_1 : decode cX2_settle 1 = .ok (.getfield 12, 3) := by decide +kernel
theorem dX2_settle_4 : decode cX2_settle 4 = .ok (.getfield 38, 3) := by decide +kernel
theorem dX2_settle_7 : decode cX2_settle 7 = .ok (.istore 6, 2) := by decide +kernel
theorem dX2_settle_9 : decode cX2_settle 9 = .ok (.iload 6, 2) := by decide +kernel
theorem dX2_settle_11 : decode cX2_settle 11 = .ok (.iconst 0, 1) := by decide +kernel
theorem dX2_settle_12 : decode cX2_settle 12 = .ok (.bipush 7, 2) := by decide +kernel
theorem dX2_settle_14 : decode cX2_settle 14 = .ok (.invokestatic 51, 3) := by decide +kernel
theorem dX2_settle_17 : decode cX2_settle 17 = .ok (.ifCond .eq 16, 3) := by decide +kernel
theorem dX2_settle_20 : decode cX2_settle 20 = .ok (.aload_n 0, 1) := by decide +kernel
theorem dX2_settle_21 : decode cX2_settle 21 = .ok (.getfield 12, 3) := by decide +kernel
theorem dX2_settle_24 : decode cX2_settle 24 = .ok (.iload_n 1, 1) := by decide +kernel
theorem dX2_settle_25 : decode cX2_settle 25 = .ok (.aload_n 2, 1) := by decide +kernel
theorem dX2_settle_26 : decode cX2_settle 26 = .ok (.iload_n 3, 1) := by decide +kernel
theorem dX2_settle_27 : decode cX2_settle 27 = .ok (.invokevirtual 55, 3) := by decide +kernel
theorem dX2_settle_30 : decode cX2_settle 30 = .ok (.ifCond .ne 5, 3) := by decide +kernel
theorem dX2_settle_33 : decode cX2_settle 33 = .ok (.iconst 0, 1) := by decide +kernel
theorem dX2_settle_34 : decode cX2_settle 34 = .ok (.ireturn, 1) := by decide +kernel
theorem dX2_settle_35 : decode cX2_settle 35 = .ok (.aload_n 0, 1) := by decide +kernel
theorem dX2_settle_36 : decode cX2_settle 36 = .ok (.getfield 18, 3) := by decide +kernel
theorem dX2_settle_39 : decode cX2_settle 39 = .ok (.iload 6, 2) := by decide +kernel
theorem dX2_settle_41 : decode cX2_settle 41 = .ok (.iload 4, 2) := by decide +kernel
theorem dX2_settle_43 : decode cX2_settle 43 = .ok (.iastore, 1) := by decide +kernel
theorem dX2_settle_44 : decode cX2_settle 44 = .ok (.aload_n 0, 1) := by decide +kernel
theorem dX2_settle_45 : decode cX2_settle 45 = .ok (.getfield 22, 3) := by decide +kernel
theorem dX2_settle_48 : decode cX2_settle 48 = .ok (.iload 6, 2) := by decide +kernel
theorem dX2_settle_50 : decode cX2_settle 50 = .ok (.iload 5, 2) := by decide +kernel
theorem dX2_settle_52 : decode cX2_settle 52 = .ok (.iastore, 1) := by decide +kernel
theorem dX2_settle_53 : decode cX2_settle 53 = .ok (.iconst 1, 1) := by decide +kernel
theorem dX2_settle_54 : decode cX2_settle 54 = .ok (.ireturn, 1) := by decide +kernel
theorem dX2_pacesOf_0 : decode cX2_pacesOf 0 = .ok (.aload_n 0, 1) := by decide +kernel
theorem dX2_pacesOf_1 : decode cX2_pacesOf 1 = .ok (.getfield 12, 3) := by decide +kernel
theorem dX2_pacesOf_4 : decode cX2_pacesOf 4 = .ok (.iload_n 1, 1) := by decide +kernel
theorem dX2_pacesOf_5 : decode cX2_pacesOf 5 = .ok (.invokevirtual 59, 3) := by decide +kernel
theorem dX2_pacesOf_8 : decode cX2_pacesOf 8 = .ok (.ifCond .eq 12, 3) := by decide +kernel
theorem dX2_pacesOf_11 : decode cX2_pacesOf 11 = .ok (.aload_n 0, 1) := by decide +kernel
theorem dX2_pacesOf_12 : decode cX2_pacesOf 12 = .ok (.getfield 18, 3) := by decide +kernel
theorem dX2_pacesOf_15 : decode cX2_pacesOf 15 = .ok (.iload_n 1, 1) := by decide +kernel
theorem dX2_pacesOf_16 : decode cX2_pacesOf 16 = .ok (.iaload, 1) := by decide +kernel
theorem dX2_pacesOf_17 : decode cX2_pacesOf 17 = .ok (.goto 4, 3) := by decide +kernel
theorem dX2_pacesOf_20 : decode cX2_pacesOf 20 = .ok (.iconst 0, 1) := by decide +kernel
theorem dX2_pacesOf_21 : decode cX2_pacesOf 21 = .ok (.ireturn, 1) := by decide +kernel
theorem dX2_rankOf_0 : decode cX2_rankOf 0 = .ok (.aload_n 0, 1) := by decide +kernel
theorem dX2_rankOf_1 : decode cX2_rankOf 1 = .ok (.getfield 12, 3) := by decide +kernel
theorem dX2_rankOf_4 : decode cX2_rankOf 4 = .ok (.iload_n 1, 1) := by decide +kernel
theorem dX2_rankOf_5 : decode cX2_rankOf 5 = .ok (.invokevirtual 59, 3) := by decide +kernel
theorem dX2_rankOf_8 : decode cX2_rankOf 8 = .ok (.ifCond .eq 12, 3) := by decide +kernel
theorem dX2_rankOf_11 : decode cX2_rankOf 11 = .ok (.aload_n 0, 1) := by decide +kernel
theorem dX2_rankOf_12 : decode cX2_rankOf 12 = .ok (.getfield 22, 3) := by decide +kernel
theorem dX2_rankOf_15 : decode cX2_rankOf 15 = .ok (.iload_n 1, 1) := by decide +kernel
theorem dX2_rankOf_16 : decode cX2_rankOf 16 = .ok (.iaload, 1) := by decide +kernel
theorem dX2_rankOf_17 : decode cX2_rankOf 17 = .ok (.goto 4, 3) := by decide +kernel
theorem dX2_rankOf_20 : decode cX2_rankOf 20 = .ok (.iconst 0, 1) := by decide +kernel
theorem dX2_rankOf_21 : decode cX2_rankOf 21 = .ok (.ireturn, 1) := by decide +kernel
theorem dX2_beatsOf_0 : decode cX2_beatsOf 0 = .ok (.iconst 0, 1) := by decide +kernel
theorem dX2_beatsOf_1 : decode cX2_beatsOf 1 = .ok (.istore_n 3, 1) := by decide +kernel
theorem dX2_beatsOf_2 : decode cX2_beatsOf 2 = .ok (.aload_n 1, 1) := by decide +kernel
theorem dX2_beatsOf_3 : decode cX2_beatsOf 3 = .ok (.iload_n 2, 1) := by decide +kernel
theorem dX2_beatsOf_4 : decode cX2_beatsOf 4 = .ok (.invokevirtual 63, 3) := by decide +kernel
theorem dX2_beatsOf_7 : decode cX2_beatsOf 7 = .ok (.istore 4, 2) := by decide +kernel
theorem dX2_beatsOf_9 : decode cX2_beatsOf 9 = .ok (.iconst 0, 1) := by decide +kernel
theorem dX2_beatsOf_10 : decode cX2_beatsOf 10 = .ok (.istore 5, 2) := by decide +kernel
theorem dX2_beatsOf_12 : decode cX2_beatsOf 12 = .ok (.iload 5, 2) := by decide +kernel
theorem dX2_beatsOf_14 : decode cX2_beatsOf 14 = .ok (.iload 4, 2) := by decide +kernel
theorem dX2_beatsOf_16 : decode cX2_beatsOf 16 = .ok (.if_icmp .ge 42, 3) := by decide +kernel
theorem dX2_beatsOf_19 : decode cX2_beatsOf 19 = .ok (.aload_n 1, 1) := by decide +kernel
theorem dX2_beatsOf_20 : decode cX2_beatsOf 20 = .ok (.iload_n 2, 1) := by decide +kernel
theorem dX2_beatsOf_21 : decode cX2_beatsOf 21 = .ok (.iload 5, 2) := by decide +kernel
theorem dX2_beatsOf_23 : decode cX2_beatsOf 23 = .ok (.invokevirtual 67, 3) := by decide +kernel
theorem dX2_beatsOf_26 : decode cX2_beatsOf 26 = .ok (.istore 6, 2) := by decide +kernel
theorem dX2_beatsOf_28 : decode cX2_beatsOf 28 = .ok (.iload_n 3, 1) := by decide +kernel
theorem dX2_beatsOf_29 : decode cX2_beatsOf 29 = .ok (.iload 6, 2) := by decide +kernel
theorem dX2_beatsOf_31 : decode cX2_beatsOf 31 = .ok (.iconst 0, 1) := by decide +kernel
theorem dX2_beatsOf_32 : decode cX2_beatsOf 32 = .ok (.iconst 5, 1) := by decide +kernel
theorem dX2_beatsOf_33 : decode cX2_beatsOf 33 = .ok (.invokestatic 51, 3) := by decide +kernel
theorem dX2_beatsOf_36 : decode cX2_beatsOf 36 = .ok (.ifCond .eq 13, 3) := by decide +kernel
theorem dX2_beatsOf_39 : decode cX2_beatsOf 39 = .ok (.aload_n 0, 1) := by decide +kernel
theorem dX2_beatsOf_40 : decode cX2_beatsOf 40 = .ok (.getfield 32, 3) := by decide +kernel
theorem dX2_beatsOf_43 : decode cX2_beatsOf 43 = .ok (.iload 6, 2) := by decide +kernel
theorem dX2_beatsOf_45 : decode cX2_beatsOf 45 = .ok (.iaload, 1) := by decide +kernel
theorem dX2_beatsOf_46 : decode cX2_beatsOf 46 = .ok (.goto 4, 3) := by decide +kernel
theorem dX2_beatsOf_49 : decode cX2_beatsOf 49 = .ok (.iconst 0, 1) := by decide +kernel
theorem dX2_beatsOf_50 : decode cX2_beatsOf 50 = .ok (.iadd, 1) := by decide +kernel
theorem dX2_beatsOf_51 : decode cX2_beatsOf 51 = .ok (.istore_n 3, 1) := by decide +kernel
theorem dX2_beatsOf_52 : decode cX2_beatsOf 52 = .ok (.iinc 5 1, 3) := by decide +kernel
theorem dX2_beatsOf_55 : decode cX2_beatsOf 55 = .ok (.goto (-43), 3) := by decide +kernel
theorem dX2_beatsOf_58 : decode cX2_beatsOf 58 = .ok (.aload_n 1, 1) := by decide +kernel
theorem dX2_beatsOf_59 : decode cX2_beatsOf 59 = .ok (.iload_n 2, 1) := by decide +kernel
theorem dX2_beatsOf_60 : decode cX2_beatsOf 60 = .ok (.invokevirtual 71, 3) := by decide +kernel
theorem dX2_beatsOf_63 : decode cX2_beatsOf 63 = .ok (.iconst 3, 1) := by decide +kernel
theorem dX2_beatsOf_64 : decode cX2_beatsOf 64 = .ok (.if_icmp .ne 9, 3) := by decide +kernel
theorem dX2_beatsOf_67 : decode cX2_beatsOf 67 = .ok (.iconst 2, 1) := by decide +kernel
theorem dX2_beatsOf_68 : decode cX2_beatsOf 68 = .ok (.iload_n 3, 1) := by decide +kernel
theorem dX2_beatsOf_69 : decode cX2_beatsOf 69 = .ok (.imul, 1) := by decide +kernel
theorem dX2_beatsOf_70 : decode cX2_beatsOf 70 = .ok (.goto 4, 3) := by decide +kernel
theorem dX2_beatsOf_73 : decode cX2_beatsOf 73 = .ok (.iload_n 3, 1) := by decide +kernel
theorem dX2_beatsOf_74 : decode cX2_beatsOf 74 = .ok (.ireturn, 1) := by decide +kernel
theorem dX2_doDeed_0 : decode cX2_doDeed 0 = .ok (.iload_n 3, 1) := by decide +kernel
theorem dX2_doDeed_1 : decode cX2_doDeed 1 = .ok (.iconst 0, 1) := by decide +kernel
theorem dX2_doDeed_2 : decode cX2_doDeed 2 = .ok (.iconst 5, 1) := by decide +kernel
theorem dX2_doDeed_3 : decode cX2_doDeed 3 = .ok (.invokestatic 51, 3) := by decide +kernel
theorem dX2_doDeed_6 : decode cX2_doDeed 6 = .ok (.ifCond .ne 5, 3) := by decide +kernel
theorem dX2_doDeed_9 : decode cX2_doDeed 9 = .ok (.iconst 0, 1) := by decide +kernel
theorem dX2_doDeed_10 : decode cX2_doDeed 10 = .ok (.ireturn, 1) := by decide +kernel
theorem dX2_doDeed_11 : decode cX2_doDeed 11 = .ok (.aload_n 0, 1) := by decide +kernel
theorem dX2_doDeed_12 : decode cX2_doDeed 12 = .ok (.getfield 28, 3) := by decide +kernel
theorem dX2_doDeed_15 : decode cX2_doDeed 15 = .ok (.iload_n 3, 1) := by decide +kernel
theorem dX2_doDeed_16 : decode cX2_doDeed 16 = .ok (.baload, 1) := by decide +kernel
theorem dX2_doDeed_17 : decode cX2_doDeed 17 = .ok (.ifCond .eq 10, 3) := by decide +kernel
theorem dX2_doDeed_20 : decode cX2_doDeed 20 = .ok (.aload_n 1, 1) := by decide +kernel
theorem dX2_doDeed_21 : decode cX2_doDeed 21 = .ok (.iload_n 2, 1) := by decide +kernel
theorem dX2_doDeed_22 : decode cX2_doDeed 22 = .ok (.invokevirtual 74, 3) := by decide +kernel
theorem dX2_doDeed_25 : decode cX2_doDeed 25 = .ok (.iconst 1, 1) := by decide +kernel
theorem dX2_doDeed_26 : decode cX2_doDeed 26 = .ok (.ireturn, 1) := by decide +kernel
theorem dX2_doDeed_27 : decode cX2_doDeed 27 = .ok (.aload_n 1, 1) := by decide +kernel
theorem dX2_doDeed_28 : decode cX2_doDeed 28 = .ok (.iload_n 2, 1) := by decide +kernel
theorem dX2_doDeed_29 : decode cX2_doDeed 29 = .ok (.aload_n 0, 1) := by decide +kernel
theorem dX2_doDeed_30 : decode cX2_doDeed 30 = .ok (.getfield 25, 3) := by decide +kernel
theorem dX2_doDeed_33 : decode cX2_doDeed 33 = .ok (.iload_n 3, 1) := by decide +kernel
theorem dX2_doDeed_34 : decode cX2_doDeed 34 = .ok (.iaload, 1) := by decide +kernel
theorem dX2_doDeed_35 : decode cX2_doDeed 35 = .ok (.invokevirtual 78, 3) := by decide +kernel
theorem dX2_doDeed_38 : decode cX2_doDeed 38 = .ok (.ireturn, 1) := by decide +kernel
theorem dX2_liveYears_0 : decode cX2_liveYears 0 = .ok (.aload_n 1, 1) := by decide +kernel
theorem dX2_liveYears_1 : decode cX2_liveYears 1 = .ok (.aload_n 2, 1) := by decide +kernel
theorem dX2_liveYears_2 : decode cX2_liveYears 2 = .ok (.invokevirtual 82, 3) := by decide +kernel
theorem dX2_liveYears_5 : decode cX2_liveYears 5 = .ok (.iconst 0, 1) := by decide +kernel
theorem dX2_liveYears_6 : decode cX2_liveYears 6 = .ok (.istore 5, 2) := by decide +kernel
theorem dX2_liveYears_8 : decode cX2_liveYears 8 = .ok (.iload 5, 2) := by decide +kernel
theorem dX2_liveYears_10 : decode cX2_liveYears 10 = .ok (.iload 4, 2) := by decide +kernel
theorem dX2_liveYears_12 : decode cX2_liveYears 12 = .ok (.if_icmp .ge 50, 3) := by decide +kernel
theorem dX2_liveYears_15 : decode cX2_liveYears 15 = .ok (.iload 5, 2) := by decide +kernel
theorem dX2_liveYears_17 : decode cX2_liveYears 17 = .ok (.bipush 60, 2) := by decide +kernel
theorem dX2_liveYears_19 : decode cX2_liveYears 19 = .ok (.if_icmp .ge 43, 3) := by decide +kernel
theorem dX2_liveYears_22 : decode cX2_liveYears 22 = .ok (.iconst 0, 1) := by decide +kernel
theorem dX2_liveYears_23 : decode cX2_liveYears 23 = .ok (.istore 6, 2) := by decide +kernel
theorem dX2_liveYears_25 : decode cX2_liveYears 25 = .ok (.iload 6, 2) := by decide +kernel
theorem dX2_liveYears_27 : decode cX2_liveYears 27 = .ok (.aload_n 1, 1) := by decide +kernel
theorem dX2_liveYears_28 : decode cX2_liveYears 28 = .ok (.getfield 38, 3) := by decide +kernel
theorem dX2_liveYears_31 : decode cX2_liveYears 31 = .ok (.if_icmp .ge 25, 3) := by decide +kernel
theorem dX2_liveYears_34 : decode cX2_liveYears 34 = .ok (.aload_n 0, 1) := by decide +kernel
theorem dX2_liveYears_35 : decode cX2_liveYears 35 = .ok (.aload_n 1, 1) := by decide +kernel
theorem dX2_liveYears_36 : decode cX2_liveYears 36 = .ok (.iload 6, 2) := by decide +kernel
theorem dX2_liveYears_38 : decode cX2_liveYears 38 = .ok (.iload_n 3, 1) := by decide +kernel
theorem dX2_liveYears_39 : decode cX2_liveYears 39 = .ok (.iload 6, 2) := by decide +kernel
theorem dX2_liveYears_41 : decode cX2_liveYears 41 = .ok (.iload 5, 2) := by decide +kernel
theorem dX2_liveYears_43 : decode cX2_liveYears 43 = .ok (.invokestatic 86, 3) := by decide +kernel
theorem dX2_liveYears_46 : decode cX2_liveYears 46 = .ok (.invokevirtual 90, 3) := by decide +kernel
theorem dX2_liveYears_49 : decode cX2_liveYears 49 = .ok (.pop, 1) := by decide +kernel
theorem dX2_liveYears_50 : decode cX2_liveYears 50 = .ok (.iinc 6 1, 3) := by decide +kernel
theorem dX2_liveYears_53 : decode cX2_liveYears 53 = .ok (.goto (-28), 3) := by decide +kernel
theorem dX2_liveYears_56 : decode cX2_liveYears 56 = .ok (.iinc 5 1, 3) := by decide +kernel
theorem dX2_liveYears_59 : decode cX2_liveYears 59 = .ok (.goto (-51), 3) := by decide +kernel
theorem dX2_liveYears_62 : decode cX2_liveYears 62 = .ok (.return_, 1) := by decide +kernel
theorem dX2_drawnDeed_0 : decode cX2_drawnDeed 0 = .ok (.ldc2_w 94, 3) := by decide +kernel
theorem dX2_drawnDeed_3 : decode cX2_drawnDeed 3 = .ok (.iload_n 0, 1) := by decide +kernel
theorem dX2_drawnDeed_4 : decode cX2_drawnDeed 4 = .ok (.i2l, 1) := by decide +kernel
theorem dX2_drawnDeed_5 : decode cX2_drawnDeed 5 = .ok (.lmul, 1) := by decide +kernel
theorem dX2_drawnDeed_6 : decode cX2_drawnDeed 6 = .ok (.ldc2_w 96, 3) := by decide +kernel
theorem dX2_drawnDeed_9 : decode cX2_drawnDeed 9 = .ok (.iload_n 1, 1) := by decide +kernel
theorem dX2_drawnDeed_10 : decode cX2_drawnDeed 10 = .ok (.i2l, 1) := by decide +kernel
theorem dX2_drawnDeed_11 : decode cX2_drawnDeed 11 = .ok (.lmul, 1) := by decide +kernel
theorem dX2_drawnDeed_12 : decode cX2_drawnDeed 12 = .ok (.ladd, 1) := by decide +kernel
theorem dX2_drawnDeed_13 : decode cX2_drawnDeed 13 = .ok (.ldc2_w 98, 3) := by decide +kernel
theorem dX2_drawnDeed_16 : decode cX2_drawnDeed 16 = .ok (.iload_n 2, 1) := by decide +kernel
theorem dX2_drawnDeed_17 : decode cX2_drawnDeed 17 = .ok (.i2l, 1) := by decide +kernel
theorem dX2_drawnDeed_18 : decode cX2_drawnDeed 18 = .ok (.lmul, 1) := by decide +kernel
theorem dX2_drawnDeed_19 : decode cX2_drawnDeed 19 = .ok (.ladd, 1) := by decide +kernel
theorem dX2_drawnDeed_20 : decode cX2_drawnDeed 20 = .ok (.lconst 1, 1) := by decide +kernel
theorem dX2_drawnDeed_21 : decode cX2_drawnDeed 21 = .ok (.ladd, 1) := by decide +kernel
theorem dX2_drawnDeed_22 : decode cX2_drawnDeed 22 = .ok (.lstore_n 3, 1) := by decide +kernel
theorem dX2_drawnDeed_23 : decode cX2_drawnDeed 23 = .ok (.lload_n 3, 1) := by decide +kernel
theorem dX2_drawnDeed_24 : decode cX2_drawnDeed 24 = .ok (.lload_n 3, 1) := by decide +kernel
theorem dX2_drawnDeed_25 : decode cX2_drawnDeed 25 = .ok (.lmul, 1) := by decide +kernel
theorem dX2_drawnDeed_26 : decode cX2_drawnDeed 26 = .ok (.ldc2_w 100, 3) := by decide +kernel
theorem dX2_drawnDeed_29 : decode cX2_drawnDeed 29 = .ok (.lrem, 1) := by decide +kernel
theorem dX2_drawnDeed_30 : decode cX2_drawnDeed 30 = .ok (.ldc2_w 102, 3) := by decide +kernel
theorem dX2_drawnDeed_33 : decode cX2_drawnDeed 33 = .ok (.lrem, 1) := by decide +kernel
theorem dX2_drawnDeed_34 : decode cX2_drawnDeed 34 = .ok (.l2i, 1) := by decide +kernel
theorem dX2_drawnDeed_35 : decode cX2_drawnDeed 35 = .ok (.ireturn, 1) := by decide +kernel
theorem dX3_init_0 : decode cX3_init 0 = .ok (.aload_n 0, 1) := by decide +kernel
theorem dX3_init_1 : decode cX3_init 1 = .ok (.invokespecial 1, 3) := by decide +kernel
theorem dX3_init_4 : decode cX3_init 4 = .ok (.aload_n 0, 1) := by decide +kernel
theorem dX3_init_5 : decode cX3_init 5 = .ok (.new 7, 3) := by decide +kernel
theorem dX3_init_8 : decode cX3_init 8 = .ok (.dup, 1) := by decide +kernel
theorem dX3_init_9 : decode cX3_init 9 = .ok (.invokespecial 9, 3) := by decide +kernel
theorem dX3_init_12 : decode cX3_init 12 = .ok (.putfield 10, 3) := by decide +kernel
theorem dX3_init_15 : decode cX3_init 15 = .ok (.aload_n 0, 1) := by decide +kernel
theorem dX3_init_16 : decode cX3_init 16 = .ok (.new 16, 3) := by decide +kernel
theorem dX3_init_19 : decode cX3_init 19 = .ok (.dup, 1) := by decide +kernel
theorem dX3_init_20 : decode cX3_init 20 = .ok (.invokespecial 18, 3) := by decide +kernel
theorem dX3_init_23 : decode cX3_init 23 = .ok (.putfield 19, 3) := by decide +kernel
theorem dX3_init_26 : decode cX3_init 26 = .ok (.return_, 1) := by decide +kernel
theorem dX3_copyFrom_0 : decode cX3_copyFrom 0 = .ok (.aload_n 0, 1) := by decide +kernel
theorem dX3_copyFrom_1 : decode cX3_copyFrom 1 = .ok (.getfield 10, 3) := by decide +kernel
theorem dX3_copyFrom_4 : decode cX3_copyFrom 4 = .ok (.aload_n 1, 1) := by decide +kernel
theorem dX3_copyFrom_5 : decode cX3_copyFrom 5 = .ok (.getfield 10, 3) := by decide +kernel
theorem dX3_copyFrom_8 : decode cX3_copyFrom 8 = .ok (.invokevirtual 23, 3) := by decide +kernel
theorem dX3_copyFrom_11 : decode cX3_copyFrom 11 = .ok (.aload_n 0, 1) := by decide +kernel
theorem dX3_copyFrom_12 : decode cX3_copyFrom 12 = .ok (.getfield 19, 3) := by decide +kernel
theorem dX3_copyFrom_15 : decode cX3_copyFrom 15 = .ok (.aload_n 1, 1) := by decide +kernel
theorem dX3_copyFrom_16 : decode cX3_copyFrom 16 = .ok (.getfield 19, 3) := by decide +kernel
theorem dX3_copyFrom_19 : decode cX3_copyFrom 19 = .ok (.invokevirtual 27, 3) := by decide +kernel
theorem dX3_copyFrom_22 : decode cX3_copyFrom 22 = .ok (.return_, 1) := by decide +kernel
theorem dX4_init_0 : decode cX4_init 0 = .ok (.aload_n 0, 1) := by decide +kernel
theorem dX4_init_1 : decode cX4_init 1 = .ok (.invokespecial 3, 3) := by decide +kernel
theorem dX4_init_4 : decode cX4_init 4 = .ok (.aload_n 0, 1) := by decide +kernel
theorem dX4_init_5 : decode cX4_init 5 = .ok (.bipush 8, 2) := by decide +kernel
theorem dX4_init_7 : decode cX4_init 7 = .ok (.newarray .int, 2) := by decide +kernel
theorem dX4_init_9 : decode cX4_init 9 = .ok (.putfield 9, 3) := by decide +kernel
theorem dX4_init_12 : decode cX4_init 12 = .ok (.aload_n 0, 1) := by decide +kernel
theorem dX4_init_13 : decode cX4_init 13 = .ok (.bipush 8, 2) := by decide +kernel
theorem dX4_init_15 : decode cX4_init 15 = .ok (.newarray .int, 2) := by decide +kernel
theorem dX4_init_17 : decode cX4_init 17 = .ok (.putfield 15, 3) := by decide +kernel
theorem dX4_init_20 : decode cX4_init 20 = .ok (.aload_n 0, 1) := by decide +kernel
theorem dX4_init_21 : decode cX4_init 21 = .ok (.bipush 80, 2) := by decide +kernel
theorem dX4_init_23 : decode cX4_init 23 = .ok (.newarray .int, 2) := by decide +kernel
theorem dX4_init_25 : decode cX4_init 25 = .ok (.putfield 18, 3) := by decide +kernel
theorem dX4_init_28 : decode cX4_init 28 = .ok (.aload_n 0, 1) := by decide +kernel
theorem dX4_init_29 : decode cX4_init 29 = .ok (.iconst 0, 1) := by decide +kernel
theorem dX4_init_30 : decode cX4_init 30 = .ok (.putfield 21, 3) := by decide +kernel
theorem dX4_init_33 : decode cX4_init 33 = .ok (.return_, 1) := by decide +kernel
theorem dX4_copyFrom_0 : decode cX4_copyFrom 0 = .ok (.aload_n 1, 1) := by decide +kernel
theorem dX4_copyFrom_1 : decode cX4_copyFrom 1 = .ok (.getfield 9, 3) := by decide +kernel
theorem dX4_copyFrom_4 : decode cX4_copyFrom 4 = .ok (.iconst 0, 1) := by decide +kernel
theorem dX4_copyFrom_5 : decode cX4_copyFrom 5 = .ok (.aload_n 0, 1) := by decide +kernel
theorem dX4_copyFrom_6 : decode cX4_copyFrom 6 = .ok (.getfield 9, 3) := by decide +kernel
theorem dX4_copyFrom_9 : decode cX4_copyFrom 9 = .ok (.iconst 0, 1) := by decide +kernel
theorem dX4_copyFrom_10 : decode cX4_copyFrom 10 = .ok (.bipush 8, 2) := by decide +kernel
theorem dX4_copyFrom_12 : decode cX4_copyFrom 12 = .ok (.invokestatic 25, 3) := by decide +kernel
theorem dX4_copyFrom_15 : decode cX4_copyFrom 15 = .ok (.aload_n 1, 1) := by decide +kernel
theorem dX4_copyFrom_16 : decode cX4_copyFrom 16 = .ok (.getfield 15, 3) := by decide +kernel
theorem dX4_copyFrom_19 : decode cX4_copyFrom 19 = .ok (.iconst 0, 1) := by decide +kernel
theorem dX4_copyFrom_20 : decode cX4_copyFrom 20 = .ok (.aload_n 0, 1) := by decide +kernel
theorem dX4_copyFrom_21 : decode cX4_copyFrom 21 = .ok (.getfield 15, 3) := by decide +kernel
theorem dX4_copyFrom_24 : decode cX4_copyFrom 24 = .ok (.iconst 0, 1) := by decide +kernel
theorem dX4_copyFrom_25 : decode cX4_copyFrom 25 = .ok (.bipush 8, 2) := by decide +kernel
theorem dX4_copyFrom_27 : decode cX4_copyFrom 27 = .ok (.invokestatic 25, 3) := by decide +kernel
theorem dX4_copyFrom_30 : decode cX4_copyFrom 30 = .ok (.aload_n 1, 1) := by decide +kernel
theorem dX4_copyFrom_31 : decode cX4_copyFrom 31 = .ok (.getfield 18, 3) := by decide +kernel
theorem dX4_copyFrom_34 : decode cX4_copyFrom 34 = .ok (.iconst 0, 1) := by decide +kernel
theorem dX4_copyFrom_35 : decode cX4_copyFrom 35 = .ok (.aload_n 0, 1) := by decide +kernel
theorem dX4_copyFrom_36 : decode cX4_copyFrom 36 = .ok (.getfield 18, 3) := by decide +kernel
theorem dX4_copyFrom_39 : decode cX4_copyFrom 39 = .ok (.iconst 0, 1) := by decide +kernel
theorem dX4_copyFrom_40 : decode cX4_copyFrom 40 = .ok (.bipush 80, 2) := by decide +kernel
theorem dX4_copyFrom_42 : decode cX4_copyFrom 42 = .ok (.invokestatic 25, 3) := by decide +kernel
theorem dX4_copyFrom_45 : decode cX4_copyFrom 45 = .ok (.aload_n 0, 1) := by decide +kernel
theorem dX4_copyFrom_46 : decode cX4_copyFrom 46 = .ok (.aload_n 1, 1) := by decide +kernel
theorem dX4_copyFrom_47 : decode cX4_copyFrom 47 = .ok (.getfield 21, 3) := by decide +kernel
theorem dX4_copyFrom_50 : decode cX4_copyFrom 50 = .ok (.putfield 21, 3) := by decide +kernel
theorem dX4_copyFrom_53 : decode cX4_copyFrom 53 = .ok (.return_, 1) := by decide +kernel
theorem dX4_has_0 : decode cX4_has 0 = .ok (.iload_n 1, 1) := by decide +kernel
theorem dX4_has_1 : decode cX4_has 1 = .ok (.iconst 0, 1) := by decide +kernel
theorem dX4_has_2 : decode cX4_has 2 = .ok (.aload_n 0, 1) := by decide +kernel
theorem dX4_has_3 : decode cX4_has 3 = .ok (.getfield 21, 3) := by decide +kernel
theorem dX4_has_6 : decode cX4_has 6 = .ok (.iconst 1, 1) := by decide +kernel
theorem dX4_has_7 : decode cX4_has 7 = .ok (.isub, 1) := by decide +kernel
theorem dX4_has_8 : decode cX4_has 8 = .ok (.invokestatic 31, 3) := by decide +kernel
theorem dX4_has_11 : decode cX4_has 11 = .ok (.ireturn, 1) := by decide +kernel
theorem dX4_enter_0 : decode cX4_enter 0 = .ok (.aload_n 0, 1) := by decide +kernel
theorem dX4_enter_1 : decode cX4_enter 1 = .ok (.getfield 21, 3) := by decide +kernel
theorem dX4_enter_4 : decode cX4_enter 4 = .ok (.bipush 8, 2) := by decide +kernel
theorem dX4_enter_6 : decode cX4_enter 6 = .ok (.if_icmp .lt 5, 3) := by decide +kernel
theorem dX4_enter_9 : decode cX4_enter 9 = .ok (.iconst 0, 1) := by decide +kernel
theorem dX4_enter_10 : decode cX4_enter 10 = .ok (.ireturn, 1) := by decide +kernel
theorem dX4_enter_11 : decode cX4_enter 11 = .ok (.aload_n 0, 1) := by decide +kernel
theorem dX4_enter_12 : decode cX4_enter 12 = .ok (.getfield 21, 3) := by decide +kernel
theorem dX4_enter_15 : decode cX4_enter 15 = .ok (.istore 4, 2) := by decide +kernel
theorem dX4_enter_17 : decode cX4_enter 17 = .ok (.aload_n 0, 1) := by decide +kernel
theorem dX4_enter_18 : decode cX4_enter 18 = .ok (.dup, 1) := by decide +kernel
theorem dX4_enter_19 : decode cX4_enter 19 = .ok (.getfield 21, 3) := by decide +kernel
theorem dX4_enter_22 : decode cX4_enter 22 = .ok (.iconst 1, 1) := by decide +kernel
theorem dX4_enter_23 : decode cX4_enter 23 = .ok (.iadd, 1) := by decide +kernel
theorem dX4_enter_24 : decode cX4_enter 24 = .ok (.putfield 21, 3) := by decide +kernel
theorem dX4_enter_27 : decode cX4_enter 27 = .ok (.aload_n 0, 1) := by decide +kernel
theorem dX4_enter_28 : decode cX4_enter 28 = .ok (.getfield 9, 3) := by decide +kernel
theorem dX4_enter_31 : decode cX4_enter 31 = .ok (.iload 4, 2) := by decide +kernel
theorem dX4_enter_33 : decode cX4_enter 33 = .ok (.iload_n 1, 1) := by decide +kernel
theorem dX4_enter_34 : decode cX4_enter 34 = .ok (.iastore, 1) := by decide +kernel
theorem dX4_enter_35 : decode cX4_enter 35 = .ok (.aload_n 0, 1) := by decide +kernel
theorem dX4_enter_36 : decode cX4_enter 36 = .ok (.getfield 15, 3) := by decide +kernel
theorem dX4_enter_39 : decode cX4_enter 39 = .ok (.iload 4, 2) := by decide +kernel
theorem dX4_enter_41 : decode cX4_enter 41 = .ok (.iconst 0, 1) := by decide +kernel
theorem dX4_enter_42 : decode cX4_enter 42 = .ok (.iastore, 1) := by decide +kernel
theorem dX4_enter_43 : decode cX4_enter 43 = .ok (.iconst 0, 1) := by decide +kernel
theorem dX4_enter_44 : decode cX4_enter 44 = .ok (.istore 5, 2) := by decide +kernel
theorem dX4_enter_46 : decode cX4_enter 46 = .ok (.iload 5, 2) := by decide +kernel
theorem dX4_enter_48 : decode cX4_enter 48 = .ok (.iload_n 3, 1) := by decide +kernel
theorem dX4_enter_49 : decode cX4_enter 49 = .ok (.if_icmp .ge 27, 3) := by decide +kernel
theorem dX4_enter_52 : decode cX4_enter 52 = .ok (.iload 5, 2) := by decide +kernel
theorem dX4_enter_54 : decode cX4_enter 54 = .ok (.aload_n 2, 1) := by decide +kernel
theorem dX4_enter_55 : decode cX4_enter 55 = .ok (.arraylength, 1) := by decide +kernel
theorem dX4_enter_56 : decode cX4_enter 56 = .ok (.if_icmp .ge 20, 3) := by decide +kernel
theorem dX4_enter_59 : decode cX4_enter 59 = .ok (.aload_n 0, 1) := by decide +kernel
theorem dX4_enter_60 : decode cX4_enter 60 = .ok (.iload 4, 2) := by decide +kernel
theorem dX4_enter_62 : decode cX4_enter 62 = .ok (.aload_n 2, 1) := by decide +kernel
theorem dX4_enter_63 : decode cX4_enter 63 = .ok (.iload 5, 2) := by decide +kernel
theorem dX4_enter_65 : decode cX4_enter 65 = .ok (.iaload, 1) := by decide +kernel
theorem dX4_enter_66 : decode cX4_enter 66 = .ok (.invokevirtual 35, 3) := by decide +kernel
theorem dX4_enter_69 : decode cX4_enter 69 = .ok (.pop, 1) := by decide +kernel
theorem dX4_enter_70 : decode cX4_enter 70 = .ok (.iinc 5 1, 3) := by decide +kernel
theorem dX4_enter_73 : decode cX4_enter 73 = .ok (.goto (-27), 3) := by decide +kernel
theorem dX4_enter_76 : decode cX4_enter 76 = .ok (.iconst 1, 1) := by decide +kernel
theorem dX4_enter_77 : decode cX4_enter 77 = .ok (.ireturn, 1) := by decide +kernel
theorem dX4_kindOf_0 : decode cX4_kindOf 0 = .ok (.aload_n 0, 1) := by decide +kernel
theorem dX4_kindOf_1 : decode cX4_kindOf 1 = .ok (.iload_n 1, 1) := by decide +kernel
theorem dX4_kindOf_2 : decode cX4_kindOf 2 = .ok (.invokevirtual 39, 3) := by decide +kernel
theorem dX4_kindOf_5 : decode cX4_kindOf 5 = .ok (.ifCond .eq 12, 3) := by decide +kernel
theorem dX4_kindOf_8 : decode cX4_kindOf 8 = .ok (.aload_n 0, 1) := by decide +kernel
theorem dX4_kindOf_9 : decode cX4_kindOf 9 = .ok (.getfield 9, 3) := by decide +kernel
theorem dX4_kindOf_12 : decode cX4_kindOf 12 = .ok (.iload_n 1, 1) := by decide +kernel
theorem dX4_kindOf_13 : decode cX4_kindOf 13 = .ok (.iaload, 1) := by decide +kernel
theorem dX4_kindOf_14 : decode cX4_kindOf 14 = .ok (.goto 4, 3) := by decide +kernel
theorem dX4_kindOf_17 : decode cX4_kindOf 17 = .ok (.iconst 0, 1) := by decide +kernel
theorem dX4_kindOf_18 : decode cX4_kindOf 18 = .ok (.ireturn, 1) := by decide +kernel
theorem dX4_changeKind_0 : decode cX4_changeKind 0 = .ok (.aload_n 0, 1) := by decide +kernel
theorem dX4_changeKind_1 : decode cX4_changeKind 1 = .ok (.iload_n 1, 1) := by decide +kernel
theorem dX4_changeKind_2 : decode cX4_changeKind 2 = .ok (.invokevirtual 43, 3) := by decide +kernel
theorem dX4_changeKind_5 : decode cX4_changeKind 5 = .ok (.istore_n 3, 1) := by decide +kernel
theorem dX4_changeKind_6 : decode cX4_changeKind 6 = .ok (.aload_n 0, 1) := by decide +kernel
theorem dX4_changeKind_7 : decode cX4_changeKind 7 = .ok (.iload_n 1, 1) := by decide +kernel
theorem dX4_changeKind_8 : decode cX4_changeKind 8 = .ok (.invokevirtual 39, 3) := by decide +kernel
theorem dX4_changeKind_11 : decode cX4_changeKind 11 = .ok (.ifCond .eq 10, 3) := by decide +kernel
theorem dX4_changeKind_14 : decode cX4_changeKind 14 = .ok (.aload_n 0, 1) := by decide +kernel
theorem dX4_changeKind_15 : decode cX4_changeKind 15 = .ok (.getfield 9, 3) := by decide +kernel
theorem dX4_changeKind_18 : decode cX4_changeKind 18 = .ok (.iload_n 1, 1) := by decide +kernel
theorem dX4_changeKind_19 : decode cX4_changeKind 19 = .ok (.iload_n 2, 1) := by decide +kernel
theorem dX4_changeKind_20 : decode cX4_changeKind 20 = .ok (.iastore, 1) := by decide +kernel
theorem dX4_changeKind_21 : decode cX4_changeKind 21 = .ok (.iload_n 3, 1) := by decide +kernel
theorem dX4_changeKind_22 : decode cX4_changeKind 22 = .ok (.ireturn, 1) := by decide +kernel
theorem dX4_sizeOf_0 : decode cX4_sizeOf 0 = .ok (.aload_n 0, 1) := by decide +kernel
theorem dX4_sizeOf_1 : decode cX4_sizeOf 1 = .ok (.iload_n 1, 1) := by decide +kernel
theorem dX4_sizeOf_2 : decode cX4_sizeOf 2 = .ok (.invokevirtual 39, 3) := by decide +kernel
theorem dX4_sizeOf_5 : decode cX4_sizeOf 5 = .ok (.ifCond .eq 12, 3) := by decide +kernel
theorem dX4_sizeOf_8 : decode cX4_sizeOf 8 = .ok (.aload_n 0, 1) := by decide +kernel
theorem dX4_sizeOf_9 : decode cX4_sizeOf 9 = .ok (.getfield 15, 3) := by decide +kernel
theorem dX4_sizeOf_12 : decode cX4_sizeOf 12 = .ok (.iload_n 1, 1) := by decide +kernel
theorem dX4_sizeOf_13 : decode cX4_sizeOf 13 = .ok (.iaload, 1) := by decide +kernel
theorem dX4_sizeOf_14 : decode cX4_sizeOf 14 = .ok (.goto 4, 3) := by decide +kernel
theorem dX4_sizeOf_17 : decode cX4_sizeOf 17 = .ok (.iconst 0, 1) := by decide +kernel
theorem dX4_sizeOf_18 : decode cX4_sizeOf 18 = .ok (.ireturn, 1) := by decide +kernel
theorem dX4_longOf_0 : decode cX4_longOf 0 = .ok (.aload_n 0, 1) := by decide +kernel
theorem dX4_longOf_1 : decode cX4_longOf 1 = .ok (.iload_n 1, 1) := by decide +kernel
theorem dX4_longOf_2 : decode cX4_longOf 2 = .ok (.invokevirtual 47, 3) := by decide +kernel
theorem dX4_longOf_5 : decode cX4_longOf 5 = .ok (.istore_n 2, 1) := by decide +kernel
theorem dX4_longOf_6 : decode cX4_longOf 6 = .ok (.aload_n 0, 1) := by decide +kernel
theorem dX4_longOf_7 : decode cX4_longOf 7 = .ok (.iload_n 1, 1) := by decide +kernel
theorem dX4_longOf_8 : decode cX4_longOf 8 = .ok (.invokevirtual 43, 3) := by decide +kernel
theorem dX4_longOf_11 : decode cX4_longOf 11 = .ok (.tableswitch 42 1 3 #[25, 38, 38], 25) := by decide +kernel
theorem dX4_longOf_36 : decode cX4_longOf 36 = .ok (.iload_n 2, 1) := by decide +kernel
theorem dX4_longOf_37 : decode cX4_longOf 37 = .ok (.iconst 2, 1) := by decide +kernel
theorem dX4_longOf_38 : decode cX4_longOf 38 = .ok (.if_icmp .lt 9, 3) := by decide +kernel
theorem dX4_longOf_41 : decode cX4_longOf 41 = .ok (.iload_n 2, 1) := by decide +kernel
theorem dX4_longOf_42 : decode cX4_longOf 42 = .ok (.iconst 1, 1) := by decide +kernel
theorem dX4_longOf_43 : decode cX4_longOf 43 = .ok (.isub, 1) := by decide +kernel
theorem dX4_longOf_44 : decode cX4_longOf 44 = .ok (.goto 4, 3) := by decide +kernel
theorem dX4_longOf_47 : decode cX4_longOf 47 = .ok (.iload_n 2, 1) := by decide +kernel
theorem dX4_longOf_48 : decode cX4_longOf 48 = .ok (.ireturn, 1) := by decide +kernel
theorem dX4_longOf_49 : decode cX4_longOf 49 = .ok (.iconst 2, 1) := by decide +kernel
theorem dX4_longOf_50 : decode cX4_longOf 50 = .ok (.iload_n 2, 1) := by decide +kernel
theorem dX4_longOf_51 : decode cX4_longOf 51 = .ok (.imul, 1) := by decide +kernel
theorem dX4_longOf_52 : decode cX4_longOf 52 = .ok (.ireturn, 1) := by decide +kernel
theorem dX4_longOf_53 : decode cX4_longOf 53 = .ok (.iload_n 2, 1) := by decide +kernel
theorem dX4_longOf_54 : decode cX4_longOf 54 = .ok (.ireturn, 1) := by decide +kernel
theorem dX4_longest_0 : decode cX4_longest 0 = .ok (.iconst 0, 1) := by decide +kernel
theorem dX4_longest_1 : decode cX4_longest 1 = .ok (.istore_n 1, 1) := by decide +kernel
theorem dX4_longest_2 : decode cX4_longest 2 = .ok (.iconst 0, 1) := by decide +kernel
theorem dX4_longest_3 : decode cX4_longest 3 = .ok (.istore_n 2, 1) := by decide +kernel
theorem dX4_longest_4 : decode cX4_longest 4 = .ok (.iload_n 2, 1) := by decide +kernel
theorem dX4_longest_5 : decode cX4_longest 5 = .ok (.aload_n 0, 1) := by decide +kernel
theorem dX4_longest_6 : decode cX4_longest 6 = .ok (.getfield 21, 3) := by decide +kernel
theorem dX4_longest_9 : decode cX4_longest 9 = .ok (.if_icmp .ge 19, 3) := by decide +kernel
theorem dX4_longest_12 : decode cX4_longest 12 = .ok (.iload_n 1, 1) := by decide +kernel
theorem dX4_longest_13 : decode cX4_longest 13 = .ok (.aload_n 0, 1) := by decide +kernel
theorem dX4_longest_14 : decode cX4_longest 14 = .ok (.iload_n 2, 1) := by decide +kernel
theorem dX4_longest_15 : decode cX4_longest 15 = .ok (.invokevirtual 50, 3) := by decide +kernel
theorem dX4_longest_18 : decode cX4_longest 18 = .ok (.invokestatic 53, 3) := by decide +kernel
theorem dX4_longest_21 : decode cX4_longest 21 = .ok (.istore_n 1, 1) := by decide +kernel
theorem dX4_longest_22 : decode cX4_longest 22 = .ok (.iinc 2 1, 3) := by decide +kernel
theorem dX4_longest_25 : decode cX4_longest 25 = .ok (.goto (-21), 3) := by decide +kernel
theorem dX4_longest_28 : decode cX4_longest 28 = .ok (.iload_n 1, 1) := by decide +kernel
theorem dX4_longest_29 : decode cX4_longest 29 = .ok (.ireturn, 1) := by decide +kernel
theorem dX4_syllableAt_0 : decode cX4_syllableAt 0 = .ok (.iload_n 2, 1) := by decide +kernel
theorem dX4_syllableAt_1 : decode cX4_syllableAt 1 = .ok (.iconst 0, 1) := by decide +kernel
theorem dX4_syllableAt_2 : decode cX4_syllableAt 2 = .ok (.aload_n 0, 1) := by decide +kernel
theorem dX4_syllableAt_3 : decode cX4_syllableAt 3 = .ok (.iload_n 1, 1) := by decide +kernel
theorem dX4_syllableAt_4 : decode cX4_syllableAt 4 = .ok (.invokevirtual 47, 3) := by decide +kernel
theorem dX4_syllableAt_7 : decode cX4_syllableAt 7 = .ok (.iconst 1, 1) := by decide +kernel
theorem dX4_syllableAt_8 : decode cX4_syllableAt 8 = .ok (.isub, 1) := by decide +kernel
theorem dX4_syllableAt_9 : decode cX4_syllableAt 9 = .ok (.invokestatic 31, 3) := by decide +kernel
theorem dX4_syllableAt_12 : decode cX4_syllableAt 12 = .ok (.ifCond .eq 17, 3) := by decide +kernel
theorem dX4_syllableAt_15 : decode cX4_syllableAt 15 = .ok (.aload_n 0, 1) := by decide +kernel
theorem dX4_syllableAt_16 : decode cX4_syllableAt 16 = .ok (.getfield 18, 3) := by decide +kernel
theorem dX4_syllableAt_19 : decode cX4_syllableAt 19 = .ok (.iload_n 1, 1) := by decide +kernel
theorem dX4_syllableAt_20 : decode cX4_syllableAt 20 = .ok (.bipush 10, 2) := by decide +kernel
theorem dX4_syllableAt_22 : decode cX4_syllableAt 22 = .ok (.imul, 1) := by decide +kernel
theorem dX4_syllableAt_23 : decode cX4_syllableAt 23 = .ok (.iload_n 2, 1) := by decide +kernel
theorem dX4_syllableAt_24 : decode cX4_syllableAt 24 = .ok (.iadd, 1) := by decide +kernel
theorem dX4_syllableAt_25 : decode cX4_syllableAt 25 = .ok (.iaload, 1) := by decide +kernel
theorem dX4_syllableAt_26 : decode cX4_syllableAt 26 = .ok (.goto 5, 3) := by decide +kernel
theorem dX4_syllableAt_29 : decode cX4_syllableAt 29 = .ok (.bipush (-4), 2) := by decide +kernel
theorem dX4_syllableAt_31 : decode cX4_syllableAt 31 = .ok (.ireturn, 1) := by decide +kernel
theorem dX4_saidAt_0 : decode cX4_saidAt 0 = .ok (.iload_n 2, 1) := by decide +kernel
theorem dX4_saidAt_1 : decode cX4_saidAt 1 = .ok (.iconst 0, 1) := by decide +kernel
theorem dX4_saidAt_2 : decode cX4_saidAt 2 = .ok (.aload_n 0, 1) := by decide +kernel
theorem dX4_saidAt_3 : decode cX4_saidAt 3 = .ok (.iload_n 1, 1) := by decide +kernel
theorem dX4_saidAt_4 : decode cX4_saidAt 4 = .ok (.invokevirtual 50, 3) := by decide +kernel
theorem dX4_saidAt_7 : decode cX4_saidAt 7 = .ok (.iconst 1, 1) := by decide +kernel
theorem dX4_saidAt_8 : decode cX4_saidAt 8 = .ok (.isub, 1) := by decide +kernel
theorem dX4_saidAt_9 : decode cX4_saidAt 9 = .ok (.invokestatic 31, 3) := by decide +kernel
theorem dX4_saidAt_12 : decode cX4_saidAt 12 = .ok (.ifCond .ne 6, 3) := by decide +kernel
theorem dX4_saidAt_15 : decode cX4_saidAt 15 = .ok (.bipush (-4), 2) := by decide +kernel
theorem dX4_saidAt_17 : decode cX4_saidAt 17 = .ok (.ireturn, 1) := by decide +kernel
theorem dX4_saidAt_18 : decode cX4_saidAt 18 = .ok (.aload_n 0, 1) := by decide +kernel
theorem dX4_saidAt_19 : decode cX4_saidAt 19 = .ok (.iload_n 1, 1) := by decide +kernel
theorem dX4_saidAt_20 : decode cX4_saidAt 20 = .ok (.invokevirtual 47, 3) := by decide +kernel
theorem dX4_saidAt_23 : decode cX4_saidAt 23 = .ok (.istore_n 3, 1) := by decide +kernel
theorem dX4_saidAt_24 : decode cX4_saidAt 24 = .ok (.aload_n 0, 1) := by decide +kernel
theorem dX4_saidAt_25 : decode cX4_saidAt 25 = .ok (.iload_n 1, 1) := by decide +kernel
theorem dX4_saidAt_26 : decode cX4_saidAt 26 = .ok (.iload_n 2, 1) := by decide +kernel
theorem dX4_saidAt_27 : decode cX4_saidAt 27 = .ok (.iload_n 3, 1) := by decide +kernel
theorem dX4_saidAt_28 : decode cX4_saidAt 28 = .ok (.if_icmp .ge 7, 3) := by decide +kernel
theorem dX4_saidAt_31 : decode cX4_saidAt 31 = .ok (.iload_n 2, 1) := by decide +kernel
theorem dX4_saidAt_32 : decode cX4_saidAt 32 = .ok (.goto 6, 3) := by decide +kernel
theorem dX4_saidAt_35 : decode cX4_saidAt 35 = .ok (.iload_n 2, 1) := by decide +kernel
theorem dX4_saidAt_36 : decode cX4_saidAt 36 = .ok (.iload_n 3, 1) := by decide +kernel
theorem dX4_saidAt_37 : decode cX4_saidAt 37 = .ok (.isub, 1) := by decide +kernel
theorem dX4_saidAt_38 : decode cX4_saidAt 38 = .ok (.invokevirtual 59, 3) := by decide +kernel
theorem dX4_saidAt_41 : decode cX4_saidAt 41 = .ok (.ireturn, 1) := by decide +kernel
theorem dX4_gain_0 : decode cX4_gain 0 = .ok (.aload_n 0, 1) := by decide +kernel
theorem dX4_gain_1 : decode cX4_gain 1 = .ok (.iload_n 1, 1) := by decide +kernel
theorem dX4_gain_2 : decode cX4_gain 2 = .ok (.invokevirtual 39, 3) := by decide +kernel
theorem dX4_gain_5 : decode cX4_gain 5 = .ok (.ifCond .eq 14, 3) := by decide +kernel
theorem dX4_gain_8 : decode cX4_gain 8 = .ok (.aload_n 0, 1) := by decide +kernel
theorem dX4_gain_9 : decode cX4_gain 9 = .ok (.getfield 15, 3) := by decide +kernel
theorem dX4_gain_12 : decode cX4_gain 12 = .ok (.iload_n 1, 1) := by decide +kernel
theorem dX4_gain_13 : decode cX4_gain 13 = .ok (.iaload, 1) := by decide +kernel
theorem dX4_gain_14 : decode cX4_gain 14 = .ok (.bipush 10, 2) := by decide +kernel
theorem dX4_gain_16 : decode cX4_gain 16 = .ok (.if_icmp .lt 5, 3) := by decide +kernel
theorem dX4_gain_19 : decode cX4_gain 19 = .ok (.iconst 0, 1) := by decide +kernel
theorem dX4_gain_20 : decode cX4_gain 20 = .ok (.ireturn, 1) := by decide +kernel
theorem dX4_gain_21 : decode cX4_gain 21 = .ok (.aload_n 0, 1) := by decide +kernel
theorem dX4_gain_22 : decode cX4_gain 22 = .ok (.getfield 18, 3) := by decide +kernel
theorem dX4_gain_25 : decode cX4_gain 25 = .ok (.iload_n 1, 1) := by decide +kernel
theorem dX4_gain_26 : decode cX4_gain 26 = .ok (.bipush 10, 2) := by decide +kernel
theorem dX4_gain_28 : decode cX4_gain 28 = .ok (.imul, 1) := by decide +kernel
theorem dX4_gain_29 : decode cX4_gain 29 = .ok (.aload_n 0, 1) := by decide +kernel
theorem dX4_gain_30 : decode cX4_gain 30 = .ok (.getfield 15, 3) := by decide +kernel
theorem dX4_gain_33 : decode cX4_gain 33 = .ok (.iload_n 1, 1) := by decide +kernel
theorem dX4_gain_34 : decode cX4_gain 34 = .ok (.iaload, 1) := by decide +kernel
theorem dX4_gain_35 : decode cX4_gain 35 = .ok (.iadd, 1) := by decide +kernel
theorem dX4_gain_36 : decode cX4_gain 36 = .ok (.iload_n 2, 1) := by decide +kernel
theorem dX4_gain_37 : decode cX4_gain 37 = .ok (.iastore, 1) := by decide +kernel
theorem dX4_gain_38 : decode cX4_gain 38 = .ok (.aload_n 0, 1) := by decide +kernel
theorem dX4_gain_39 : decode cX4_gain 39 = .ok (.getfield 15, 3) := by decide +kernel
theorem dX4_gain_42 : decode cX4_gain 42 = .ok (.iload_n 1, 1) := by decide +kernel
theorem dX4_gain_43 : decode cX4_gain 43 = .ok (.dup2, 1) := by decide +kernel
theorem dX4_gain_44 : decode cX4_gain 44 = .ok (.iaload, 1) := by decide +kernel
theorem dX4_gain_45 : decode cX4_gain 45 = .ok (.iconst 1, 1) := by decide +kernel
theorem dX4_gain_46 : decode cX4_gain 46 = .ok (.iadd, 1) := by decide +kernel
theorem dX4_gain_47 : decode cX4_gain 47 = .ok (.iastore, 1) := by decide +kernel
theorem dX4_gain_48 : decode cX4_gain 48 = .ok (.iconst 1, 1) := by decide +kernel
theorem dX4_gain_49 : decode cX4_gain 49 = .ok (.ireturn, 1) := by decide +kernel
theorem dX4_lose_0 : decode cX4_lose 0 = .ok (.aload_n 0, 1) := by decide +kernel
theorem dX4_lose_1 : decode cX4_lose 1 = .ok (.iload_n 1, 1) := by decide +kernel
theorem dX4_lose_2 : decode cX4_lose 2 = .ok (.invokevirtual 39, 3) := by decide +kernel
theorem dX4_lose_5 : decode cX4_lose 5 = .ok (.ifCond .eq 23, 3) := by decide +kernel
theorem dX4_lose_8 : decode cX4_lose 8 = .ok (.aload_n 0, 1) := by decide +kernel
theorem dX4_lose_9 : decode cX4_lose 9 = .ok (.getfield 15, 3) := by decide +kernel
theorem dX4_lose_12 : decode cX4_lose 12 = .ok (.iload_n 1, 1) := by decide +kernel
theorem dX4_lose_13 : decode cX4_lose 13 = .ok (.iaload, 1) := by decide +kernel
theorem dX4_lose_14 : decode cX4_lose 14 = .ok (.iconst 2, 1) := by decide +kernel
theorem dX4_lose_15 : decode cX4_lose 15 = .ok (.if_icmp .lt 13, 3) := by decide +kernel
theorem dX4_lose_18 : decode cX4_lose 18 = .ok (.aload_n 0, 1) := by decide +kernel
theorem dX4_lose_19 : decode cX4_lose 19 = .ok (.getfield 15, 3) := by decide +kernel
theorem dX4_lose_22 : decode cX4_lose 22 = .ok (.iload_n 1, 1) := by decide +kernel
theorem dX4_lose_23 : decode cX4_lose 23 = .ok (.dup2, 1) := by decide +kernel
theorem dX4_lose_24 : decode cX4_lose 24 = .ok (.iaload, 1) := by decide +kernel
theorem dX4_lose_25 : decode cX4_lose 25 = .ok (.iconst 1, 1) := by decide +kernel
theorem dX4_lose_26 : decode cX4_lose 26 = .ok (.isub, 1) := by decide +kernel
theorem dX4_lose_27 : decode cX4_lose 27 = .ok (.iastore, 1) := by decide +kernel
theorem dX4_lose_28 : decode cX4_lose 28 = .ok (.return_, 1) := by decide +kernel
theorem dX4_alike_0 : decode cX4_alike 0 = .ok (.aload_n 0, 1) := by decide +kernel
theorem dX4_alike_1 : decode cX4_alike 1 = .ok (.iload_n 1, 1) := by decide +kernel
theorem dX4_alike_2 : decode cX4_alike 2 = .ok (.invokevirtual 50, 3) := by decide +kernel
theorem dX4_alike_5 : decode cX4_alike 5 = .ok (.aload_n 0, 1) := by decide +kernel
theorem dX4_alike_6 : decode cX4_alike 6 = .ok (.iload_n 2, 1) := by decide +kernel
theorem dX4_alike_7 : decode cX4_alike 7 = .ok (.invokevirtual 50, 3) := by decide +kernel
theorem dX4_alike_10 : decode cX4_alike 10 = .ok (.invokestatic 62, 3) := by decide +kernel
theorem dX4_alike_13 : decode cX4_alike 13 = .ok (.istore_n 3, 1) := by decide +kernel
theorem dX4_alike_14 : decode cX4_alike 14 = .ok (.iconst 0, 1) := by decide +kernel
theorem dX4_alike_15 : decode cX4_alike 15 = .ok (.istore 4, 2) := by decide +kernel
theorem dX4_alike_17 : decode cX4_alike 17 = .ok (.iload 4, 2) := by decide +kernel
theorem dX4_alike_19 : decode cX4_alike 19 = .ok (.iload_n 3, 1) := by decide +kernel
theorem dX4_alike_20 : decode cX4_alike 20 = .ok (.if_icmp .ge 26, 3) := by decide +kernel
theorem dX4_alike_23 : decode cX4_alike 23 = .ok (.aload_n 0, 1) := by decide +kernel
theorem dX4_alike_24 : decode cX4_alike 24 = .ok (.iload_n 1, 1) := by decide +kernel
theorem dX4_alike_25 : decode cX4_alike 25 = .ok (.iload 4, 2) := by decide +kernel
theorem dX4_alike_27 : decode cX4_alike 27 = .ok (.invokevirtual 65, 3) := by decide +kernel
theorem dX4_alike_30 : decode cX4_alike 30 = .ok (.aload_n 0, 1) := by decide +kernel
theorem dX4_alike_31 : decode cX4_alike 31 = .ok (.iload_n 2, 1) := by decide +kernel
theorem dX4_alike_32 : decode cX4_alike 32 = .ok (.iload 4, 2) := by decide +kernel
theorem dX4_alike_34 : decode cX4_alike 34 = .ok (.invokevirtual 65, 3) := by decide +kernel
theorem dX4_alike_37 : decode cX4_alike 37 = .ok (.if_icmp .ne 9, 3) := by decide +kernel
theorem dX4_alike_40 : decode cX4_alike 40 = .ok (.iinc 4 1, 3) := by decide +kernel
theorem dX4_alike_43 : decode cX4_alike 43 = .ok (.goto (-26), 3) := by decide +kernel
theorem dX4_alike_46 : decode cX4_alike 46 = .ok (.iload 4, 2) := by decide +kernel
theorem dX4_alike_48 : decode cX4_alike 48 = .ok (.ireturn, 1) := by decide +kernel
theorem dX4_shortest_0 : decode cX4_shortest 0 = .ok (.iconst 0, 1) := by decide +kernel
theorem dX4_shortest_1 : decode cX4_shortest 1 = .ok (.istore_n 3, 1) := by decide +kernel
theorem dX4_shortest_2 : decode cX4_shortest 2 = .ok (.iconst 0, 1) := by decide +kernel
theorem dX4_shortest_3 : decode cX4_shortest 3 = .ok (.istore 4, 2) := by decide +kernel
theorem dX4_shortest_5 : decode cX4_shortest 5 = .ok (.iload 4, 2) := by decide +kernel
theorem dX4_shortest_7 : decode cX4_shortest 7 = .ok (.aload_n 0, 1) := by decide +kernel
theorem dX4_shortest_8 : decode cX4_shortest 8 = .ok (.getfield 21, 3) := by decide +kernel
theorem dX4_shortest_11 : decode cX4_shortest 11 = .ok (.if_icmp .ge 36, 3) := by decide +kernel
theorem dX4_shortest_14 : decode cX4_shortest 14 = .ok (.iload 4, 2) := by decide +kernel
theorem dX4_shortest_16 : decode cX4_shortest 16 = .ok (.iload_n 1, 1) := by decide +kernel
theorem dX4_shortest_17 : decode cX4_shortest 17 = .ok (.if_icmp .eq 24, 3) := by decide +kernel
theorem dX4_shortest_20 : decode cX4_shortest 20 = .ok (.iload 4, 2) := by decide +kernel
theorem dX4_shortest_22 : decode cX4_shortest 22 = .ok (.iload_n 2, 1) := by decide +kernel
theorem dX4_shortest_23 : decode cX4_shortest 23 = .ok (.invokestatic 68, 3) := by decide +kernel
theorem dX4_shortest_26 : decode cX4_shortest 26 = .ok (.ifCond .eq 15, 3) := by decide +kernel
theorem dX4_shortest_29 : decode cX4_shortest 29 = .ok (.iload_n 3, 1) := by decide +kernel
theorem dX4_shortest_30 : decode cX4_shortest 30 = .ok (.aload_n 0, 1) := by decide +kernel
theorem dX4_shortest_31 : decode cX4_shortest 31 = .ok (.iload_n 1, 1) := by decide +kernel
theorem dX4_shortest_32 : decode cX4_shortest 32 = .ok (.iload 4, 2) := by decide +kernel
theorem dX4_shortest_34 : decode cX4_shortest 34 = .ok (.invokevirtual 71, 3) := by decide +kernel
theorem dX4_shortest_37 : decode cX4_shortest 37 = .ok (.invokestatic 53, 3) := by decide +kernel
theorem dX4_shortest_40 : decode cX4_shortest 40 = .ok (.istore_n 3, 1) := by decide +kernel
theorem dX4_shortest_41 : decode cX4_shortest 41 = .ok (.iinc 4 1, 3) := by decide +kernel
theorem dX4_shortest_44 : decode cX4_shortest 44 = .ok (.goto (-39), 3) := by decide +kernel
theorem dX4_shortest_47 : decode cX4_shortest 47 = .ok (.aload_n 0, 1) := by decide +kernel
theorem dX4_shortest_48 : decode cX4_shortest 48 = .ok (.iload_n 1, 1) := by decide +kernel
theorem dX4_shortest_49 : decode cX4_shortest 49 = .ok (.invokevirtual 50, 3) := by decide +kernel
theorem dX4_shortest_52 : decode cX4_shortest 52 = .ok (.istore 4, 2) := by decide +kernel
theorem dX4_shortest_54 : decode cX4_shortest 54 = .ok (.iload_n 3, 1) := by decide +kernel
theorem dX4_shortest_55 : decode cX4_shortest 55 = .ok (.iload 4, 2) := by decide +kernel
theorem dX4_shortest_57 : decode cX4_shortest 57 = .ok (.if_icmp .lt 6, 3) := by decide +kernel
theorem dX4_shortest_60 : decode cX4_shortest 60 = .ok (.bipush (-4), 2) := by decide +kernel
theorem dX4_shortest_62 : decode cX4_shortest 62 = .ok (.ireturn, 1) := by decide +kernel
theorem dX4_shortest_63 : decode cX4_shortest 63 = .ok (.aload_n 0, 1) := by decide +kernel
theorem dX4_shortest_64 : decode cX4_shortest 64 = .ok (.iload_n 1, 1) := by decide +kernel
theorem dX4_shortest_65 : decode cX4_shortest 65 = .ok (.invokevirtual 43, 3) := by decide +kernel
theorem dX4_shortest_68 : decode cX4_shortest 68 = .ok (.iconst 3, 1) := by decide +kernel
theorem dX4_shortest_69 : decode cX4_shortest 69 = .ok (.if_icmp .ne 8, 3) := by decide +kernel
theorem dX4_shortest_72 : decode cX4_shortest 72 = .ok (.iload 4, 2) := by decide +kernel
theorem dX4_shortest_74 : decode cX4_shortest 74 = .ok (.goto 6, 3) := by decide +kernel
theorem dX4_shortest_77 : decode cX4_shortest 77 = .ok (.iload_n 3, 1) := by decide +kernel
theorem dX4_shortest_78 : decode cX4_shortest 78 = .ok (.iconst 1, 1) := by decide +kernel
theorem dX4_shortest_79 : decode cX4_shortest 79 = .ok (.iadd, 1) := by decide +kernel
theorem dX4_shortest_80 : decode cX4_shortest 80 = .ok (.ireturn, 1) := by decide +kernel
theorem dX4_sumOfShortest_0 : decode cX4_sumOfShortest 0 = .ok (.iconst 0, 1) := by decide +kernel
theorem dX4_sumOfShortest_1 : decode cX4_sumOfShortest 1 = .ok (.istore_n 2, 1) := by decide +kernel
theorem dX4_sumOfShortest_2 : decode cX4_sumOfShortest 2 = .ok (.iconst 0, 1) := by decide +kernel
theorem dX4_sumOfShortest_3 : decode cX4_sumOfShortest 3 = .ok (.istore_n 3, 1) := by decide +kernel
theorem dX4_sumOfShortest_4 : decode cX4_sumOfShortest 4 = .ok (.iload_n 3, 1) := by decide +kernel
theorem dX4_sumOfShortest_5 : decode cX4_sumOfShortest 5 = .ok (.aload_n 0, 1) := by decide +kernel
theorem dX4_sumOfShortest_6 : decode cX4_sumOfShortest 6 = .ok (.getfield 21, 3) := by decide +kernel
theorem dX4_sumOfShortest_9 : decode cX4_sumOfShortest 9 = .ok (.if_icmp .ge 40, 3) := by decide +kernel
theorem dX4_sumOfShortest_12 : decode cX4_sumOfShortest 12 = .ok (.iload_n 3, 1) := by decide +kernel
theorem dX4_sumOfShortest_13 : decode cX4_sumOfShortest 13 = .ok (.iload_n 1, 1) := by decide +kernel
theorem dX4_sumOfShortest_14 : decode cX4_sumOfShortest 14 = .ok (.invokestatic 68, 3) := by decide +kernel
theorem dX4_sumOfShortest_17 : decode cX4_sumOfShortest 17 = .ok (.ifCond .eq 26, 3) := by decide +kernel
theorem dX4_sumOfShortest_20 : decode cX4_sumOfShortest 20 = .ok (.aload_n 0, 1) := by decide +kernel
theorem dX4_sumOfShortest_21 : decode cX4_sumOfShortest 21 = .ok (.iload_n 3, 1) := by decide +kernel
theorem dX4_sumOfShortest_22 : decode cX4_sumOfShortest 22 = .ok (.iload_n 1, 1) := by decide +kernel
theorem dX4_sumOfShortest_23 : decode cX4_sumOfShortest 23 = .ok (.invokevirtual 74, 3) := by decide +kernel
theorem dX4_sumOfShortest_26 : decode cX4_sumOfShortest 26 = .ok (.istore 4, 2) := by decide +kernel
theorem dX4_sumOfShortest_28 : decode cX4_sumOfShortest 28 = .ok (.iload 4, 2) := by decide +kernel
theorem dX4_sumOfShortest_30 : decode cX4_sumOfShortest 30 = .ok (.bipush (-4), 2) := by decide +kernel
theorem dX4_sumOfShortest_32 : decode cX4_sumOfShortest 32 = .ok (.if_icmp .ne 6, 3) := by decide +kernel
theorem dX4_sumOfShortest_35 : decode cX4_sumOfShortest 35 = .ok (.bipush (-4), 2) := by decide +kernel
theorem dX4_sumOfShortest_37 : decode cX4_sumOfShortest 37 = .ok (.ireturn, 1) := by decide +kernel
theorem dX4_sumOfShortest_38 : decode cX4_sumOfShortest 38 = .ok (.iload_n 2, 1) := by decide +kernel
theorem dX4_sumOfShortest_39 : decode cX4_sumOfShortest 39 = .ok (.iload 4, 2) := by decide +kernel
theorem dX4_sumOfShortest_41 : decode cX4_sumOfShortest 41 = .ok (.iadd, 1) := by decide +kernel
theorem dX4_sumOfShortest_42 : decode cX4_sumOfShortest 42 = .ok (.istore_n 2, 1) := by decide +kernel
theorem dX4_sumOfShortest_43 : decode cX4_sumOfShortest 43 = .ok (.iinc 3 1, 3) := by decide +kernel
theorem dX4_sumOfShortest_46 : decode cX4_sumOfShortest 46 = .ok (.goto (-42), 3) := by decide +kernel
theorem dX4_sumOfShortest_49 : decode cX4_sumOfShortest 49 = .ok (.iload_n 2, 1) := by decide +kernel
theorem dX4_sumOfShortest_50 : decode cX4_sumOfShortest 50 = .ok (.ireturn, 1) := by decide +kernel
theorem dX4_numberOfShort_0 : decode cX4_numberOfShort 0 = .ok (.iconst 0, 1) := by decide +kernel
theorem dX4_numberOfShort_1 : decode cX4_numberOfShort 1 = .ok (.istore_n 2, 1) := by decide +kernel
theorem dX4_numberOfShort_2 : decode cX4_numberOfShort 2 = .ok (.iconst 0, 1) := by decide +kernel
theorem dX4_numberOfShort_3 : decode cX4_numberOfShort 3 = .ok (.istore_n 3, 1) := by decide +kernel
theorem dX4_numberOfShort_4 : decode cX4_numberOfShort 4 = .ok (.iload_n 3, 1) := by decide +kernel
theorem dX4_numberOfShort_5 : decode cX4_numberOfShort 5 = .ok (.aload_n 0, 1) := by decide +kernel
theorem dX4_numberOfShort_6 : decode cX4_numberOfShort 6 = .ok (.getfield 21, 3) := by decide +kernel
theorem dX4_numberOfShort_9 : decode cX4_numberOfShort 9 = .ok (.if_icmp .ge 31, 3) := by decide +kernel
theorem dX4_numberOfShort_12 : decode cX4_numberOfShort 12 = .ok (.iload_n 3, 1) := by decide +kernel
theorem dX4_numberOfShort_13 : decode cX4_numberOfShort 13 = .ok (.iload_n 1, 1) := by decide +kernel
theorem dX4_numberOfShort_14 : decode cX4_numberOfShort 14 = .ok (.invokestatic 68, 3) := by decide +kernel
theorem dX4_numberOfShort_17 : decode cX4_numberOfShort 17 = .ok (.ifCond .eq 17, 3) := by decide +kernel
theorem dX4_numberOfShort_20 : decode cX4_numberOfShort 20 = .ok (.aload_n 0, 1) := by decide +kernel
theorem dX4_numberOfShort_21 : decode cX4_numberOfShort 21 = .ok (.iload_n 3, 1) := by decide +kernel
theorem dX4_numberOfShort_22 : decode cX4_numberOfShort 22 = .ok (.iload_n 1, 1) := by decide +kernel
theorem dX4_numberOfShort_23 : decode cX4_numberOfShort 23 = .ok (.invokevirtual 74, 3) := by decide +kernel
theorem dX4_numberOfShort_26 : decode cX4_numberOfShort 26 = .ok (.bipush (-4), 2) := by decide +kernel
theorem dX4_numberOfShort_28 : decode cX4_numberOfShort 28 = .ok (.if_icmp .eq 6, 3) := by decide +kernel
theorem dX4_numberOfShort_31 : decode cX4_numberOfShort 31 = .ok (.iinc 2 1, 3) := by decide +kernel
theorem dX4_numberOfShort_34 : decode cX4_numberOfShort 34 = .ok (.iinc 3 1, 3) := by decide +kernel
theorem dX4_numberOfShort_37 : decode cX4_numberOfShort 37 = .ok (.goto (-33), 3) := by decide +kernel
theorem dX4_numberOfShort_40 : decode cX4_numberOfShort 40 = .ok (.iload_n 2, 1) := by decide +kernel
theorem dX4_numberOfShort_41 : decode cX4_numberOfShort 41 = .ok (.ireturn, 1) := by decide +kernel
theorem dX5_init_0 : decode cX5_init 0 = .ok (.aload_n 0, 1) := by decide +kernel
theorem dX5_init_1 : decode cX5_init 1 = .ok (.invokespecial 3, 3) := by decide +kernel
theorem dX5_init_4 : decode cX5_init 4 = .ok (.aload_n 0, 1) := by decide +kernel
theorem dX5_init_5 : decode cX5_init 5 = .ok (.sipush 400, 3) := by decide +kernel
theorem dX5_init_8 : decode cX5_init 8 = .ok (.newarray .byte, 2) := by decide +kernel
theorem dX5_init_10 : decode cX5_init 10 = .ok (.putfield 9, 3) := by decide +kernel
theorem dX5_init_13 : decode cX5_init 13 = .ok (.aload_n 0, 1) := by decide +kernel
theorem dX5_init_14 : decode cX5_init 14 = .ok (.iconst 0, 1) := by decide +kernel
theorem dX5_init_15 : decode cX5_init 15 = .ok (.putfield 15, 3) := by decide +kernel
theorem dX5_init_18 : decode cX5_init 18 = .ok (.aload_n 0, 1) := by decide +kernel
theorem dX5_init_19 : decode cX5_init 19 = .ok (.iconst 0, 1) := by decide +kernel
theorem dX5_init_20 : decode cX5_init 20 = .ok (.putfield 19, 3) := by decide +kernel
theorem dX5_init_23 : decode cX5_init 23 = .ok (.aload_n 0, 1) := by decide +kernel
theorem dX5_init_24 : decode cX5_init 24 = .ok (.bipush 6, 2) := by decide +kernel
theorem dX5_init_26 : decode cX5_init 26 = .ok (.newarray .int, 2) := by decide +kernel
theorem dX5_init_28 : decode cX5_init 28 = .ok (.putfield 22, 3) := by decide +kernel
theorem dX5_init_31 : decode cX5_init 31 = .ok (.return_, 1) := by decide +kernel
theorem dX5_hasRoom_0 : decode cX5_hasRoom 0 = .ok (.iload_n 1, 1) := by decide +kernel
theorem dX5_hasRoom_1 : decode cX5_hasRoom 1 = .ok (.sipush 400, 3) := by decide +kernel
theorem dX5_hasRoom_4 : decode cX5_hasRoom 4 = .ok (.aload_n 0, 1) := by decide +kernel
theorem dX5_hasRoom_5 : decode cX5_hasRoom 5 = .ok (.getfield 15, 3) := by decide +kernel
theorem dX5_hasRoom_8 : decode cX5_hasRoom 8 = .ok (.isub, 1) := by decide +kernel
theorem dX5_hasRoom_9 : decode cX5_hasRoom 9 = .ok (.if_icmp .gt 7, 3) := by decide +kernel
theorem dX5_hasRoom_12 : decode cX5_hasRoom 12 = .ok (.iconst 1, 1) := by decide +kernel
theorem dX5_hasRoom_13 : decode cX5_hasRoom 13 = .ok (.goto 4, 3) := by decide +kernel
theorem dX5_hasRoom_16 : decode cX5_hasRoom 16 = .ok (.iconst 0, 1) := by decide +kernel
theorem dX5_hasRoom_17 : decode cX5_hasRoom 17 = .ok (.ireturn, 1) := by decide +kernel
theorem dX5_put_0 : decode cX5_put 0 = .ok (.iload_n 1, 1) := by decide +kernel
theorem dX5_put_1 : decode cX5_put 1 = .ok (.iconst 1, 1) := by decide +kernel
theorem dX5_put_2 : decode cX5_put 2 = .ok (.isub, 1) := by decide +kernel
theorem dX5_put_3 : decode cX5_put 3 = .ok (.istore 4, 2) := by decide +kernel
theorem dX5_put_5 : decode cX5_put 5 = .ok (.iload 4, 2) := by decide +kernel
theorem dX5_put_7 : decode cX5_put 7 = .ok (.ifCond .lt 47, 3) := by decide +kernel
theorem dX5_put_10 : decode cX5_put 10 = .ok (.aload_n 0, 1) := by decide +kernel
theorem dX5_put_11 : decode cX5_put 11 = .ok (.getfield 15, 3) := by decide +kernel
theorem dX5_put_14 : decode cX5_put 14 = .ok (.sipush 400, 3) := by decide +kernel
theorem dX5_put_17 : decode cX5_put 17 = .ok (.if_icmp .ge 37, 3) := by decide +kernel
theorem dX5_put_20 : decode cX5_put 20 = .ok (.aload_n 0, 1) := by decide +kernel
theorem dX5_put_21 : decode cX5_put 21 = .ok (.getfield 9, 3) := by decide +kernel
theorem dX5_put_24 : decode cX5_put 24 = .ok (.aload_n 0, 1) := by decide +kernel
theorem dX5_put_25 : decode cX5_put 25 = .ok (.getfield 15, 3) := by decide +kernel
theorem dX5_put_28 : decode cX5_put 28 = .ok (.lload_n 2, 1) := by decide +kernel
theorem dX5_put_29 : decode cX5_put 29 = .ok (.bipush 8, 2) := by decide +kernel
theorem dX5_put_31 : decode cX5_put 31 = .ok (.iload 4, 2) := by decide +kernel
theorem dX5_put_33 : decode cX5_put 33 = .ok (.imul, 1) := by decide +kernel
theorem dX5_put_34 : decode cX5_put 34 = .ok (.lushr, 1) := by decide +kernel
theorem dX5_put_35 : decode cX5_put 35 = .ok (.l2i, 1) := by decide +kernel
theorem dX5_put_36 : decode cX5_put 36 = .ok (.i2b, 1) := by decide +kernel
theorem dX5_put_37 : decode cX5_put 37 = .ok (.bastore, 1) := by decide +kernel
theorem dX5_put_38 : decode cX5_put 38 = .ok (.aload_n 0, 1) := by decide +kernel
theorem dX5_put_39 : decode cX5_put 39 = .ok (.dup, 1) := by decide +kernel
theorem dX5_put_40 : decode cX5_put 40 = .ok (.getfield 15, 3) := by decide +kernel
theorem dX5_put_43 : decode cX5_put 43 = .ok (.iconst 1, 1) := by decide +kernel
theorem dX5_put_44 : decode cX5_put 44 = .ok (.iadd, 1) := by decide +kernel
theorem dX5_put_45 : decode cX5_put 45 = .ok (.putfield 15, 3) := by decide +kernel
theorem dX5_put_48 : decode cX5_put 48 = .ok (.iinc 4 (-1), 3) := by decide +kernel
theorem dX5_put_51 : decode cX5_put 51 = .ok (.goto (-46), 3) := by decide +kernel
theorem dX5_put_54 : decode cX5_put 54 = .ok (.return_, 1) := by decide +kernel
theorem dX5_readInto_0 : decode cX5_readInto 0 = .ok (.aload_n 1, 1) := by decide +kernel
theorem dX5_readInto_1 : decode cX5_readInto 1 = .ok (.invokevirtual 26, 3) := by decide +kernel
theorem dX5_readInto_4 : decode cX5_readInto 4 = .ok (.aload_n 0, 1) := by decide +kernel
theorem dX5_readInto_5 : decode cX5_readInto 5 = .ok (.iconst 0, 1) := by decide +kernel
theorem dX5_readInto_6 : decode cX5_readInto 6 = .ok (.putfield 19, 3) := by decide +kernel
theorem dX5_readInto_9 : decode cX5_readInto 9 = .ok (.iconst 0, 1) := by decide +kernel
theorem dX5_readInto_10 : decode cX5_readInto 10 = .ok (.istore_n 2, 1) := by decide +kernel
end
section
theorem dX5_readInto_11 : decode cX5_readInto 11 = .ok (.iload_n 2, 1) := by decide +kernel
theorem dX5_readInto_12 : decode cX5_readInto 12 = .ok (.sipush 400, 3) := by decide +kernel
theorem dX5_readInto_15 : decode cX5_readInto 15 = .ok (.if_icmp .ge 35, 3) := by decide +kernel
theorem dX5_readInto_18 : decode cX5_readInto 18 = .ok (.aload_n 0, 1) := by decide +kernel
theorem dX5_readInto_19 : decode cX5_readInto 19 = .ok (.getfield 19, 3) := by decide +kernel
theorem dX5_readInto_22 : decode cX5_readInto 22 = .ok (.aload_n 0, 1) := by decide +kernel
theorem dX5_readInto_23 : decode cX5_readInto 23 = .ok (.getfield 15, 3) := by decide +kernel
theorem dX5_readInto_26 : decode cX5_readInto 26 = .ok (.if_icmp .ge 24, 3) := by decide +kernel
theorem dX5_readInto_29 : decode cX5_readInto 29 = .ok (.aload_n 0, 1) := by decide +kernel
theorem dX5_readInto_30 : decode cX5_readInto 30 = .ok (.getfield 19, 3) := by decide +kernel
theorem dX5_readInto_33 : decode cX5_readInto 33 = .ok (.istore_n 3, 1) := by decide +kernel
theorem dX5_readInto_34 : decode cX5_readInto 34 = .ok (.aload_n 0, 1) := by decide +kernel
theorem dX5_readInto_35 : decode cX5_readInto 35 = .ok (.aload_n 1, 1) := by decide +kernel
theorem dX5_readInto_36 : decode cX5_readInto 36 = .ok (.invokevirtual 31, 3) := by decide +kernel
theorem dX5_readInto_39 : decode cX5_readInto 39 = .ok (.ifCond .ne 5, 3) := by decide +kernel
theorem dX5_readInto_42 : decode cX5_readInto 42 = .ok (.iload_n 3, 1) := by decide +kernel
theorem dX5_readInto_43 : decode cX5_readInto 43 = .ok (.ireturn, 1) := by decide +kernel
theorem dX5_readInto_44 : decode cX5_readInto 44 = .ok (.iinc 2 1, 3) := by decide +kernel
theorem dX5_readInto_47 : decode cX5_readInto 47 = .ok (.goto (-36), 3) := by decide +kernel
theorem dX5_readInto_50 : decode cX5_readInto 50 = .ok (.bipush (-4), 2) := by decide +kernel
theorem dX5_readInto_52 : decode cX5_readInto 52 = .ok (.ireturn, 1) := by decide +kernel
theorem dX5_readItem_0 : decode cX5_readItem 0 = .ok (.aload_n 0, 1) := by decide +kernel
theorem dX5_readItem_1 : decode cX5_readItem 1 = .ok (.invokevirtual 35, 3) := by decide +kernel
theorem dX5_readItem_4 : decode cX5_readItem 4 = .ok (.istore_n 2, 1) := by decide +kernel
theorem dX5_readItem_5 : decode cX5_readItem 5 = .ok (.aload_n 0, 1) := by decide +kernel
theorem dX5_readItem_6 : decode cX5_readItem 6 = .ok (.dup, 1) := by decide +kernel
theorem dX5_readItem_7 : decode cX5_readItem 7 = .ok (.getfield 19, 3) := by decide +kernel
theorem dX5_readItem_10 : decode cX5_readItem 10 = .ok (.iconst 1, 1) := by decide +kernel
theorem dX5_readItem_11 : decode cX5_readItem 11 = .ok (.iadd, 1) := by decide +kernel
theorem dX5_readItem_12 : decode cX5_readItem 12 = .ok (.putfield 19, 3) := by decide +kernel
theorem dX5_readItem_15 : decode cX5_readItem 15 = .ok (.iload_n 2, 1) := by decide +kernel
theorem dX5_readItem_16 : decode cX5_readItem 16 = .ok (.tableswitch 124 98 115 #[112, 124, 124, 124, 124, 124, 124, 124, 124, 100, 94, 118, 88, 124, 124, 124, 124, 106], 88) := by decide +kernel
theorem dX5_readItem_104 : decode cX5_readItem 104 = .ok (.aload_n 0, 1) := by decide +kernel
theorem dX5_readItem_105 : decode cX5_readItem 105 = .ok (.aload_n 1, 1) := by decide +kernel
theorem dX5_readItem_106 : decode cX5_readItem 106 = .ok (.invokevirtual 39, 3) := by decide +kernel
theorem dX5_readItem_109 : decode cX5_readItem 109 = .ok (.ireturn, 1) := by decide +kernel
theorem dX5_readItem_110 : decode cX5_readItem 110 = .ok (.aload_n 0, 1) := by decide +kernel
theorem dX5_readItem_111 : decode cX5_readItem 111 = .ok (.aload_n 1, 1) := by decide +kernel
theorem dX5_readItem_112 : decode cX5_readItem 112 = .ok (.invokevirtual 42, 3) := by decide +kernel
theorem dX5_readItem_115 : decode cX5_readItem 115 = .ok (.ireturn, 1) := by decide +kernel
theorem dX5_readItem_116 : decode cX5_readItem 116 = .ok (.aload_n 0, 1) := by decide +kernel
theorem dX5_readItem_117 : decode cX5_readItem 117 = .ok (.aload_n 1, 1) := by decide +kernel
theorem dX5_readItem_118 : decode cX5_readItem 118 = .ok (.invokevirtual 45, 3) := by decide +kernel
theorem dX5_readItem_121 : decode cX5_readItem 121 = .ok (.ireturn, 1) := by decide +kernel
theorem dX5_readItem_122 : decode cX5_readItem 122 = .ok (.aload_n 0, 1) := by decide +kernel
theorem dX5_readItem_123 : decode cX5_readItem 123 = .ok (.aload_n 1, 1) := by decide +kernel
theorem dX5_readItem_124 : decode cX5_readItem 124 = .ok (.invokevirtual 48, 3) := by decide +kernel
theorem dX5_readItem_127 : decode cX5_readItem 127 = .ok (.ireturn, 1) := by decide +kernel
theorem dX5_readItem_128 : decode cX5_readItem 128 = .ok (.aload_n 0, 1) := by decide +kernel
theorem dX5_readItem_129 : decode cX5_readItem 129 = .ok (.aload_n 1, 1) := by decide +kernel
theorem dX5_readItem_130 : decode cX5_readItem 130 = .ok (.invokevirtual 51, 3) := by decide +kernel
theorem dX5_readItem_133 : decode cX5_readItem 133 = .ok (.ireturn, 1) := by decide +kernel
theorem dX5_readItem_134 : decode cX5_readItem 134 = .ok (.aload_n 0, 1) := by decide +kernel
theorem dX5_readItem_135 : decode cX5_readItem 135 = .ok (.aload_n 1, 1) := by decide +kernel
theorem dX5_readItem_136 : decode cX5_readItem 136 = .ok (.invokevirtual 54, 3) := by decide +kernel
theorem dX5_readItem_139 : decode cX5_readItem 139 = .ok (.ireturn, 1) := by decide +kernel
theorem dX5_readItem_140 : decode cX5_readItem 140 = .ok (.iconst 0, 1) := by decide +kernel
theorem dX5_readItem_141 : decode cX5_readItem 141 = .ok (.ireturn, 1) := by decide +kernel
theorem dX5_readPerson_0 : decode cX5_readPerson 0 = .ok (.aload_n 0, 1) := by decide +kernel
theorem dX5_readPerson_1 : decode cX5_readPerson 1 = .ok (.iconst 0, 1) := by decide +kernel
theorem dX5_readPerson_2 : decode cX5_readPerson 2 = .ok (.iconst 3, 1) := by decide +kernel
theorem dX5_readPerson_3 : decode cX5_readPerson 3 = .ok (.bipush 44, 2) := by decide +kernel
theorem dX5_readPerson_5 : decode cX5_readPerson 5 = .ok (.invokevirtual 57, 3) := by decide +kernel
theorem dX5_readPerson_8 : decode cX5_readPerson 8 = .ok (.istore_n 2, 1) := by decide +kernel
theorem dX5_readPerson_9 : decode cX5_readPerson 9 = .ok (.iload_n 2, 1) := by decide +kernel
theorem dX5_readPerson_10 : decode cX5_readPerson 10 = .ok (.iconst (-1), 1) := by decide +kernel
theorem dX5_readPerson_11 : decode cX5_readPerson 11 = .ok (.if_icmp .ne 5, 3) := by decide +kernel
theorem dX5_readPerson_14 : decode cX5_readPerson 14 = .ok (.iconst 0, 1) := by decide +kernel
theorem dX5_readPerson_15 : decode cX5_readPerson 15 = .ok (.ireturn, 1) := by decide +kernel
theorem dX5_readPerson_16 : decode cX5_readPerson 16 = .ok (.aload_n 0, 1) := by decide +kernel
theorem dX5_readPerson_17 : decode cX5_readPerson 17 = .ok (.invokevirtual 61, 3) := by decide +kernel
theorem dX5_readPerson_20 : decode cX5_readPerson 20 = .ok (.istore_n 3, 1) := by decide +kernel
theorem dX5_readPerson_21 : decode cX5_readPerson 21 = .ok (.iload_n 3, 1) := by decide +kernel
theorem dX5_readPerson_22 : decode cX5_readPerson 22 = .ok (.iconst (-1), 1) := by decide +kernel
theorem dX5_readPerson_23 : decode cX5_readPerson 23 = .ok (.if_icmp .ne 5, 3) := by decide +kernel
theorem dX5_readPerson_26 : decode cX5_readPerson 26 = .ok (.iconst 0, 1) := by decide +kernel
theorem dX5_readPerson_27 : decode cX5_readPerson 27 = .ok (.ireturn, 1) := by decide +kernel
theorem dX5_readPerson_28 : decode cX5_readPerson 28 = .ok (.aload_n 0, 1) := by decide +kernel
theorem dX5_readPerson_29 : decode cX5_readPerson 29 = .ok (.iconst 0, 1) := by decide +kernel
theorem dX5_readPerson_30 : decode cX5_readPerson 30 = .ok (.bipush 99, 2) := by decide +kernel
theorem dX5_readPerson_32 : decode cX5_readPerson 32 = .ok (.bipush 44, 2) := by decide +kernel
theorem dX5_readPerson_34 : decode cX5_readPerson 34 = .ok (.invokevirtual 57, 3) := by decide +kernel
theorem dX5_readPerson_37 : decode cX5_readPerson 37 = .ok (.istore 4, 2) := by decide +kernel
theorem dX5_readPerson_39 : decode cX5_readPerson 39 = .ok (.iload 4, 2) := by decide +kernel
theorem dX5_readPerson_41 : decode cX5_readPerson 41 = .ok (.iconst (-1), 1) := by decide +kernel
theorem dX5_readPerson_42 : decode cX5_readPerson 42 = .ok (.if_icmp .ne 5, 3) := by decide +kernel
theorem dX5_readPerson_45 : decode cX5_readPerson 45 = .ok (.iconst 0, 1) := by decide +kernel
theorem dX5_readPerson_46 : decode cX5_readPerson 46 = .ok (.ireturn, 1) := by decide +kernel
theorem dX5_readPerson_47 : decode cX5_readPerson 47 = .ok (.aload_n 0, 1) := by decide +kernel
theorem dX5_readPerson_48 : decode cX5_readPerson 48 = .ok (.iconst 0, 1) := by decide +kernel
theorem dX5_readPerson_49 : decode cX5_readPerson 49 = .ok (.bipush 9, 2) := by decide +kernel
theorem dX5_readPerson_51 : decode cX5_readPerson 51 = .ok (.bipush 59, 2) := by decide +kernel
theorem dX5_readPerson_53 : decode cX5_readPerson 53 = .ok (.invokevirtual 57, 3) := by decide +kernel
theorem dX5_readPerson_56 : decode cX5_readPerson 56 = .ok (.istore 5, 2) := by decide +kernel
theorem dX5_readPerson_58 : decode cX5_readPerson 58 = .ok (.iload 5, 2) := by decide +kernel
theorem dX5_readPerson_60 : decode cX5_readPerson 60 = .ok (.iconst (-1), 1) := by decide +kernel
theorem dX5_readPerson_61 : decode cX5_readPerson 61 = .ok (.if_icmp .eq 24, 3) := by decide +kernel
theorem dX5_readPerson_64 : decode cX5_readPerson 64 = .ok (.aload_n 1, 1) := by decide +kernel
theorem dX5_readPerson_65 : decode cX5_readPerson 65 = .ok (.iload_n 2, 1) := by decide +kernel
theorem dX5_readPerson_66 : decode cX5_readPerson 66 = .ok (.aload_n 0, 1) := by decide +kernel
theorem dX5_readPerson_67 : decode cX5_readPerson 67 = .ok (.getfield 22, 3) := by decide +kernel
theorem dX5_readPerson_70 : decode cX5_readPerson 70 = .ok (.iload_n 3, 1) := by decide +kernel
theorem dX5_readPerson_71 : decode cX5_readPerson 71 = .ok (.iload 4, 2) := by decide +kernel
theorem dX5_readPerson_73 : decode cX5_readPerson 73 = .ok (.iload 5, 2) := by decide +kernel
theorem dX5_readPerson_75 : decode cX5_readPerson 75 = .ok (.invokevirtual 64, 3) := by decide +kernel
theorem dX5_readPerson_78 : decode cX5_readPerson 78 = .ok (.ifCond .eq 7, 3) := by decide +kernel
theorem dX5_readPerson_81 : decode cX5_readPerson 81 = .ok (.iconst 1, 1) := by decide +kernel
theorem dX5_readPerson_82 : decode cX5_readPerson 82 = .ok (.goto 4, 3) := by decide +kernel
theorem dX5_readPerson_85 : decode cX5_readPerson 85 = .ok (.iconst 0, 1) := by decide +kernel
theorem dX5_readPerson_86 : decode cX5_readPerson 86 = .ok (.ireturn, 1) := by decide +kernel
theorem dX5_readWorth_0 : decode cX5_readWorth 0 = .ok (.aload_n 0, 1) := by decide +kernel
theorem dX5_readWorth_1 : decode cX5_readWorth 1 = .ok (.iconst 0, 1) := by decide +kernel
theorem dX5_readWorth_2 : decode cX5_readWorth 2 = .ok (.iconst 5, 1) := by decide +kernel
theorem dX5_readWorth_3 : decode cX5_readWorth 3 = .ok (.bipush 44, 2) := by decide +kernel
theorem dX5_readWorth_5 : decode cX5_readWorth 5 = .ok (.invokevirtual 57, 3) := by decide +kernel
theorem dX5_readWorth_8 : decode cX5_readWorth 8 = .ok (.istore_n 2, 1) := by decide +kernel
theorem dX5_readWorth_9 : decode cX5_readWorth 9 = .ok (.iload_n 2, 1) := by decide +kernel
theorem dX5_readWorth_10 : decode cX5_readWorth 10 = .ok (.iconst (-1), 1) := by decide +kernel
theorem dX5_readWorth_11 : decode cX5_readWorth 11 = .ok (.if_icmp .ne 5, 3) := by decide +kernel
theorem dX5_readWorth_14 : decode cX5_readWorth 14 = .ok (.iconst 0, 1) := by decide +kernel
theorem dX5_readWorth_15 : decode cX5_readWorth 15 = .ok (.ireturn, 1) := by decide +kernel
theorem dX5_readWorth_16 : decode cX5_readWorth 16 = .ok (.aload_n 0, 1) := by decide +kernel
theorem dX5_readWorth_17 : decode cX5_readWorth 17 = .ok (.iconst 0, 1) := by decide +kernel
theorem dX5_readWorth_18 : decode cX5_readWorth 18 = .ok (.iconst 5, 1) := by decide +kernel
theorem dX5_readWorth_19 : decode cX5_readWorth 19 = .ok (.bipush 59, 2) := by decide +kernel
theorem dX5_readWorth_21 : decode cX5_readWorth 21 = .ok (.invokevirtual 57, 3) := by decide +kernel
theorem dX5_readWorth_24 : decode cX5_readWorth 24 = .ok (.istore_n 3, 1) := by decide +kernel
theorem dX5_readWorth_25 : decode cX5_readWorth 25 = .ok (.iload_n 3, 1) := by decide +kernel
theorem dX5_readWorth_26 : decode cX5_readWorth 26 = .ok (.iconst (-1), 1) := by decide +kernel
theorem dX5_readWorth_27 : decode cX5_readWorth 27 = .ok (.if_icmp .ne 5, 3) := by decide +kernel
theorem dX5_readWorth_30 : decode cX5_readWorth 30 = .ok (.iconst 0, 1) := by decide +kernel
theorem dX5_readWorth_31 : decode cX5_readWorth 31 = .ok (.ireturn, 1) := by decide +kernel
theorem dX5_readWorth_32 : decode cX5_readWorth 32 = .ok (.aload_n 1, 1) := by decide +kernel
theorem dX5_readWorth_33 : decode cX5_readWorth 33 = .ok (.getfield 68, 3) := by decide +kernel
theorem dX5_readWorth_36 : decode cX5_readWorth 36 = .ok (.iload_n 2, 1) := by decide +kernel
theorem dX5_readWorth_37 : decode cX5_readWorth 37 = .ok (.iload_n 3, 1) := by decide +kernel
theorem dX5_readWorth_38 : decode cX5_readWorth 38 = .ok (.iastore, 1) := by decide +kernel
theorem dX5_readWorth_39 : decode cX5_readWorth 39 = .ok (.iconst 1, 1) := by decide +kernel
theorem dX5_readWorth_40 : decode cX5_readWorth 40 = .ok (.ireturn, 1) := by decide +kernel
theorem dX5_readShame_0 : decode cX5_readShame 0 = .ok (.aload_n 0, 1) := by decide +kernel
theorem dX5_readShame_1 : decode cX5_readShame 1 = .ok (.iconst 0, 1) := by decide +kernel
theorem dX5_readShame_2 : decode cX5_readShame 2 = .ok (.iconst 5, 1) := by decide +kernel
theorem dX5_readShame_3 : decode cX5_readShame 3 = .ok (.bipush 59, 2) := by decide +kernel
theorem dX5_readShame_5 : decode cX5_readShame 5 = .ok (.invokevirtual 57, 3) := by decide +kernel
theorem dX5_readShame_8 : decode cX5_readShame 8 = .ok (.istore_n 2, 1) := by decide +kernel
theorem dX5_readShame_9 : decode cX5_readShame 9 = .ok (.iload_n 2, 1) := by decide +kernel
theorem dX5_readShame_10 : decode cX5_readShame 10 = .ok (.iconst (-1), 1) := by decide +kernel
theorem dX5_readShame_11 : decode cX5_readShame 11 = .ok (.if_icmp .ne 5, 3) := by decide +kernel
theorem dX5_readShame_14 : decode cX5_readShame 14 = .ok (.iconst 0, 1) := by decide +kernel
theorem dX5_readShame_15 : decode cX5_readShame 15 = .ok (.ireturn, 1) := by decide +kernel
theorem dX5_readShame_16 : decode cX5_readShame 16 = .ok (.aload_n 1, 1) := by decide +kernel
theorem dX5_readShame_17 : decode cX5_readShame 17 = .ok (.getfield 71, 3) := by decide +kernel
theorem dX5_readShame_20 : decode cX5_readShame 20 = .ok (.iload_n 2, 1) := by decide +kernel
theorem dX5_readShame_21 : decode cX5_readShame 21 = .ok (.iconst 1, 1) := by decide +kernel
theorem dX5_readShame_22 : decode cX5_readShame 22 = .ok (.bastore, 1) := by decide +kernel
theorem dX5_readShame_23 : decode cX5_readShame 23 = .ok (.iconst 1, 1) := by decide +kernel
theorem dX5_readShame_24 : decode cX5_readShame 24 = .ok (.ireturn, 1) := by decide +kernel
theorem dX5_readBeats_0 : decode cX5_readBeats 0 = .ok (.aload_n 0, 1) := by decide +kernel
theorem dX5_readBeats_1 : decode cX5_readBeats 1 = .ok (.iconst 0, 1) := by decide +kernel
theorem dX5_readBeats_2 : decode cX5_readBeats 2 = .ok (.iconst 5, 1) := by decide +kernel
theorem dX5_readBeats_3 : decode cX5_readBeats 3 = .ok (.bipush 44, 2) := by decide +kernel
theorem dX5_readBeats_5 : decode cX5_readBeats 5 = .ok (.invokevirtual 57, 3) := by decide +kernel
theorem dX5_readBeats_8 : decode cX5_readBeats 8 = .ok (.istore_n 2, 1) := by decide +kernel
theorem dX5_readBeats_9 : decode cX5_readBeats 9 = .ok (.iload_n 2, 1) := by decide +kernel
theorem dX5_readBeats_10 : decode cX5_readBeats 10 = .ok (.iconst (-1), 1) := by decide +kernel
theorem dX5_readBeats_11 : decode cX5_readBeats 11 = .ok (.if_icmp .ne 5, 3) := by decide +kernel
theorem dX5_readBeats_14 : decode cX5_readBeats 14 = .ok (.iconst 0, 1) := by decide +kernel
theorem dX5_readBeats_15 : decode cX5_readBeats 15 = .ok (.ireturn, 1) := by decide +kernel
theorem dX5_readBeats_16 : decode cX5_readBeats 16 = .ok (.aload_n 0, 1) := by decide +kernel
theorem dX5_readBeats_17 : decode cX5_readBeats 17 = .ok (.iconst 1, 1) := by decide +kernel
theorem dX5_readBeats_18 : decode cX5_readBeats 18 = .ok (.bipush 9, 2) := by decide +kernel
theorem dX5_readBeats_20 : decode cX5_readBeats 20 = .ok (.bipush 59, 2) := by decide +kernel
theorem dX5_readBeats_22 : decode cX5_readBeats 22 = .ok (.invokevirtual 57, 3) := by decide +kernel
theorem dX5_readBeats_25 : decode cX5_readBeats 25 = .ok (.istore_n 3, 1) := by decide +kernel
theorem dX5_readBeats_26 : decode cX5_readBeats 26 = .ok (.iload_n 3, 1) := by decide +kernel
theorem dX5_readBeats_27 : decode cX5_readBeats 27 = .ok (.iconst (-1), 1) := by decide +kernel
theorem dX5_readBeats_28 : decode cX5_readBeats 28 = .ok (.if_icmp .ne 5, 3) := by decide +kernel
theorem dX5_readBeats_31 : decode cX5_readBeats 31 = .ok (.iconst 0, 1) := by decide +kernel
theorem dX5_readBeats_32 : decode cX5_readBeats 32 = .ok (.ireturn, 1) := by decide +kernel
theorem dX5_readBeats_33 : decode cX5_readBeats 33 = .ok (.aload_n 1, 1) := by decide +kernel
theorem dX5_readBeats_34 : decode cX5_readBeats 34 = .ok (.getfield 75, 3) := by decide +kernel
theorem dX5_readBeats_37 : decode cX5_readBeats 37 = .ok (.iload_n 2, 1) := by decide +kernel
theorem dX5_readBeats_38 : decode cX5_readBeats 38 = .ok (.iload_n 3, 1) := by decide +kernel
theorem dX5_readBeats_39 : decode cX5_readBeats 39 = .ok (.iastore, 1) := by decide +kernel
theorem dX5_readBeats_40 : decode cX5_readBeats 40 = .ok (.iconst 1, 1) := by decide +kernel
theorem dX5_readBeats_41 : decode cX5_readBeats 41 = .ok (.ireturn, 1) := by decide +kernel
theorem dX5_readBreath_0 : decode cX5_readBreath 0 = .ok (.aload_n 0, 1) := by decide +kernel
theorem dX5_readBreath_1 : decode cX5_readBreath 1 = .ok (.iconst 1, 1) := by decide +kernel
theorem dX5_readBreath_2 : decode cX5_readBreath 2 = .ok (.bipush 12, 2) := by decide +kernel
theorem dX5_readBreath_4 : decode cX5_readBreath 4 = .ok (.bipush 44, 2) := by decide +kernel
theorem dX5_readBreath_6 : decode cX5_readBreath 6 = .ok (.invokevirtual 57, 3) := by decide +kernel
theorem dX5_readBreath_9 : decode cX5_readBreath 9 = .ok (.istore_n 2, 1) := by decide +kernel
theorem dX5_readBreath_10 : decode cX5_readBreath 10 = .ok (.iload_n 2, 1) := by decide +kernel
theorem dX5_readBreath_11 : decode cX5_readBreath 11 = .ok (.iconst (-1), 1) := by decide +kernel
theorem dX5_readBreath_12 : decode cX5_readBreath 12 = .ok (.if_icmp .ne 5, 3) := by decide +kernel
theorem dX5_readBreath_15 : decode cX5_readBreath 15 = .ok (.iconst 0, 1) := by decide +kernel
theorem dX5_readBreath_16 : decode cX5_readBreath 16 = .ok (.ireturn, 1) := by decide +kernel
theorem dX5_readBreath_17 : decode cX5_readBreath 17 = .ok (.aload_n 0, 1) := by decide +kernel
theorem dX5_readBreath_18 : decode cX5_readBreath 18 = .ok (.iconst 0, 1) := by decide +kernel
theorem dX5_readBreath_19 : decode cX5_readBreath 19 = .ok (.bipush 20, 2) := by decide +kernel
theorem dX5_readBreath_21 : decode cX5_readBreath 21 = .ok (.bipush 59, 2) := by decide +kernel
theorem dX5_readBreath_23 : decode cX5_readBreath 23 = .ok (.invokevirtual 57, 3) := by decide +kernel
theorem dX5_readBreath_26 : decode cX5_readBreath 26 = .ok (.istore_n 3, 1) := by decide +kernel
theorem dX5_readBreath_27 : decode cX5_readBreath 27 = .ok (.iload_n 3, 1) := by decide +kernel
theorem dX5_readBreath_28 : decode cX5_readBreath 28 = .ok (.iconst (-1), 1) := by decide +kernel
theorem dX5_readBreath_29 : decode cX5_readBreath 29 = .ok (.if_icmp .ne 5, 3) := by decide +kernel
theorem dX5_readBreath_32 : decode cX5_readBreath 32 = .ok (.iconst 0, 1) := by decide +kernel
theorem dX5_readBreath_33 : decode cX5_readBreath 33 = .ok (.ireturn, 1) := by decide +kernel
theorem dX5_readBreath_34 : decode cX5_readBreath 34 = .ok (.aload_n 1, 1) := by decide +kernel
theorem dX5_readBreath_35 : decode cX5_readBreath 35 = .ok (.iload_n 2, 1) := by decide +kernel
theorem dX5_readBreath_36 : decode cX5_readBreath 36 = .ok (.putfield 78, 3) := by decide +kernel
theorem dX5_readBreath_39 : decode cX5_readBreath 39 = .ok (.aload_n 1, 1) := by decide +kernel
theorem dX5_readBreath_40 : decode cX5_readBreath 40 = .ok (.iload_n 3, 1) := by decide +kernel
theorem dX5_readBreath_41 : decode cX5_readBreath 41 = .ok (.putfield 81, 3) := by decide +kernel
theorem dX5_readBreath_44 : decode cX5_readBreath 44 = .ok (.iconst 1, 1) := by decide +kernel
theorem dX5_readBreath_45 : decode cX5_readBreath 45 = .ok (.ireturn, 1) := by decide +kernel
theorem dX5_readMisheard_0 : decode cX5_readMisheard 0 = .ok (.aload_n 0, 1) := by decide +kernel
theorem dX5_readMisheard_1 : decode cX5_readMisheard 1 = .ok (.iconst 0, 1) := by decide +kernel
theorem dX5_readMisheard_2 : decode cX5_readMisheard 2 = .ok (.bipush 9, 2) := by decide +kernel
theorem dX5_readMisheard_4 : decode cX5_readMisheard 4 = .ok (.bipush 59, 2) := by decide +kernel
theorem dX5_readMisheard_6 : decode cX5_readMisheard 6 = .ok (.invokevirtual 57, 3) := by decide +kernel
theorem dX5_readMisheard_9 : decode cX5_readMisheard 9 = .ok (.istore_n 2, 1) := by decide +kernel
theorem dX5_readMisheard_10 : decode cX5_readMisheard 10 = .ok (.iload_n 2, 1) := by decide +kernel
theorem dX5_readMisheard_11 : decode cX5_readMisheard 11 = .ok (.iconst (-1), 1) := by decide +kernel
theorem dX5_readMisheard_12 : decode cX5_readMisheard 12 = .ok (.if_icmp .ne 5, 3) := by decide +kernel
theorem dX5_readMisheard_15 : decode cX5_readMisheard 15 = .ok (.iconst 0, 1) := by decide +kernel
theorem dX5_readMisheard_16 : decode cX5_readMisheard 16 = .ok (.ireturn, 1) := by decide +kernel
theorem dX5_readMisheard_17 : decode cX5_readMisheard 17 = .ok (.aload_n 1, 1) := by decide +kernel
theorem dX5_readMisheard_18 : decode cX5_readMisheard 18 = .ok (.iload_n 2, 1) := by decide +kernel
theorem dX5_readMisheard_19 : decode cX5_readMisheard 19 = .ok (.putfield 84, 3) := by decide +kernel
theorem dX5_readMisheard_22 : decode cX5_readMisheard 22 = .ok (.iconst 1, 1) := by decide +kernel
theorem dX5_readMisheard_23 : decode cX5_readMisheard 23 = .ok (.ireturn, 1) := by decide +kernel
theorem dX5_here_0 : decode cX5_here 0 = .ok (.aload_n 0, 1) := by decide +kernel
theorem dX5_here_1 : decode cX5_here 1 = .ok (.getfield 19, 3) := by decide +kernel
theorem dX5_here_4 : decode cX5_here 4 = .ok (.iconst 0, 1) := by decide +kernel
theorem dX5_here_5 : decode cX5_here 5 = .ok (.aload_n 0, 1) := by decide +kernel
theorem dX5_here_6 : decode cX5_here 6 = .ok (.getfield 15, 3) := by decide +kernel
theorem dX5_here_9 : decode cX5_here 9 = .ok (.iconst 1, 1) := by decide +kernel
theorem dX5_here_10 : decode cX5_here 10 = .ok (.isub, 1) := by decide +kernel
theorem dX5_here_11 : decode cX5_here 11 = .ok (.invokestatic 87, 3) := by decide +kernel
theorem dX5_here_14 : decode cX5_here 14 = .ok (.ifCond .eq 19, 3) := by decide +kernel
theorem dX5_here_17 : decode cX5_here 17 = .ok (.aload_n 0, 1) := by decide +kernel
theorem dX5_here_18 : decode cX5_here 18 = .ok (.getfield 9, 3) := by decide +kernel
theorem dX5_here_21 : decode cX5_here 21 = .ok (.aload_n 0, 1) := by decide +kernel
theorem dX5_here_22 : decode cX5_here 22 = .ok (.getfield 19, 3) := by decide +kernel
theorem dX5_here_25 : decode cX5_here 25 = .ok (.baload, 1) := by decide +kernel
theorem dX5_here_26 : decode cX5_here 26 = .ok (.sipush 255, 3) := by decide +kernel
theorem dX5_here_29 : decode cX5_here 29 = .ok (.iand, 1) := by decide +kernel
theorem dX5_here_30 : decode cX5_here 30 = .ok (.goto 4, 3) := by decide +kernel
theorem dX5_here_33 : decode cX5_here 33 = .ok (.iconst (-1), 1) := by decide +kernel
theorem dX5_here_34 : decode cX5_here 34 = .ok (.ireturn, 1) := by decide +kernel
theorem dX5_number_0 : decode cX5_number 0 = .ok (.iconst 0, 1) := by decide +kernel
theorem dX5_number_1 : decode cX5_number 1 = .ok (.istore 4, 2) := by decide +kernel
theorem dX5_number_3 : decode cX5_number 3 = .ok (.iconst 0, 1) := by decide +kernel
theorem dX5_number_4 : decode cX5_number 4 = .ok (.istore 5, 2) := by decide +kernel
theorem dX5_number_6 : decode cX5_number 6 = .ok (.iload 5, 2) := by decide +kernel
theorem dX5_number_8 : decode cX5_number 8 = .ok (.iconst 3, 1) := by decide +kernel
theorem dX5_number_9 : decode cX5_number 9 = .ok (.if_icmp .ge 48, 3) := by decide +kernel
theorem dX5_number_12 : decode cX5_number 12 = .ok (.aload_n 0, 1) := by decide +kernel
theorem dX5_number_13 : decode cX5_number 13 = .ok (.invokevirtual 35, 3) := by decide +kernel
theorem dX5_number_16 : decode cX5_number 16 = .ok (.bipush 48, 2) := by decide +kernel
theorem dX5_number_18 : decode cX5_number 18 = .ok (.bipush 57, 2) := by decide +kernel
theorem dX5_number_20 : decode cX5_number 20 = .ok (.invokestatic 87, 3) := by decide +kernel
theorem dX5_number_23 : decode cX5_number 23 = .ok (.ifCond .eq 34, 3) := by decide +kernel
theorem dX5_number_26 : decode cX5_number 26 = .ok (.iload 4, 2) := by decide +kernel
theorem dX5_number_28 : decode cX5_number 28 = .ok (.bipush 10, 2) := by decide +kernel
theorem dX5_number_30 : decode cX5_number 30 = .ok (.imul, 1) := by decide +kernel
theorem dX5_number_31 : decode cX5_number 31 = .ok (.aload_n 0, 1) := by decide +kernel
theorem dX5_number_32 : decode cX5_number 32 = .ok (.invokevirtual 35, 3) := by decide +kernel
theorem dX5_number_35 : decode cX5_number 35 = .ok (.iadd, 1) := by decide +kernel
theorem dX5_number_36 : decode cX5_number 36 = .ok (.bipush 48, 2) := by decide +kernel
theorem dX5_number_38 : decode cX5_number 38 = .ok (.isub, 1) := by decide +kernel
theorem dX5_number_39 : decode cX5_number 39 = .ok (.istore 4, 2) := by decide +kernel
theorem dX5_number_41 : decode cX5_number 41 = .ok (.iinc 5 1, 3) := by decide +kernel
theorem dX5_number_44 : decode cX5_number 44 = .ok (.aload_n 0, 1) := by decide +kernel
theorem dX5_number_45 : decode cX5_number 45 = .ok (.dup, 1) := by decide +kernel
theorem dX5_number_46 : decode cX5_number 46 = .ok (.getfield 19, 3) := by decide +kernel
theorem dX5_number_49 : decode cX5_number 49 = .ok (.iconst 1, 1) := by decide +kernel
theorem dX5_number_50 : decode cX5_number 50 = .ok (.iadd, 1) := by decide +kernel
theorem dX5_number_51 : decode cX5_number 51 = .ok (.putfield 19, 3) := by decide +kernel
theorem dX5_number_54 : decode cX5_number 54 = .ok (.goto (-48), 3) := by decide +kernel
theorem dX5_number_57 : decode cX5_number 57 = .ok (.iload 5, 2) := by decide +kernel
theorem dX5_number_59 : decode cX5_number 59 = .ok (.ifCond .eq 21, 3) := by decide +kernel
theorem dX5_number_62 : decode cX5_number 62 = .ok (.aload_n 0, 1) := by decide +kernel
theorem dX5_number_63 : decode cX5_number 63 = .ok (.invokevirtual 35, 3) := by decide +kernel
theorem dX5_number_66 : decode cX5_number 66 = .ok (.iload_n 3, 1) := by decide +kernel
theorem dX5_number_67 : decode cX5_number 67 = .ok (.if_icmp .ne 13, 3) := by decide +kernel
theorem dX5_number_70 : decode cX5_number 70 = .ok (.iload 4, 2) := by decide +kernel
theorem dX5_number_72 : decode cX5_number 72 = .ok (.iload_n 1, 1) := by decide +kernel
theorem dX5_number_73 : decode cX5_number 73 = .ok (.iload_n 2, 1) := by decide +kernel
theorem dX5_number_74 : decode cX5_number 74 = .ok (.invokestatic 87, 3) := by decide +kernel
theorem dX5_number_77 : decode cX5_number 77 = .ok (.ifCond .ne 5, 3) := by decide +kernel
theorem dX5_number_80 : decode cX5_number 80 = .ok (.iconst (-1), 1) := by decide +kernel
theorem dX5_number_81 : decode cX5_number 81 = .ok (.ireturn, 1) := by decide +kernel
theorem dX5_number_82 : decode cX5_number 82 = .ok (.aload_n 0, 1) := by decide +kernel
theorem dX5_number_83 : decode cX5_number 83 = .ok (.dup, 1) := by decide +kernel
theorem dX5_number_84 : decode cX5_number 84 = .ok (.getfield 19, 3) := by decide +kernel
theorem dX5_number_87 : decode cX5_number 87 = .ok (.iconst 1, 1) := by decide +kernel
theorem dX5_number_88 : decode cX5_number 88 = .ok (.iadd, 1) := by decide +kernel
theorem dX5_number_89 : decode cX5_number 89 = .ok (.putfield 19, 3) := by decide +kernel
theorem dX5_number_92 : decode cX5_number 92 = .ok (.iload 4, 2) := by decide +kernel
theorem dX5_number_94 : decode cX5_number 94 = .ok (.ireturn, 1) := by decide +kernel
theorem dX5_readName_0 : decode cX5_readName 0 = .ok (.iconst 0, 1) := by decide +kernel
theorem dX5_readName_1 : decode cX5_readName 1 = .ok (.istore_n 1, 1) := by decide +kernel
theorem dX5_readName_2 : decode cX5_readName 2 = .ok (.iload_n 1, 1) := by decide +kernel
theorem dX5_readName_3 : decode cX5_readName 3 = .ok (.bipush 6, 2) := by decide +kernel
theorem dX5_readName_5 : decode cX5_readName 5 = .ok (.if_icmp .ge 46, 3) := by decide +kernel
theorem dX5_readName_8 : decode cX5_readName 8 = .ok (.aload_n 0, 1) := by decide +kernel
theorem dX5_readName_9 : decode cX5_readName 9 = .ok (.invokevirtual 35, 3) := by decide +kernel
theorem dX5_readName_12 : decode cX5_readName 12 = .ok (.bipush 48, 2) := by decide +kernel
theorem dX5_readName_14 : decode cX5_readName 14 = .ok (.bipush 53, 2) := by decide +kernel
theorem dX5_readName_16 : decode cX5_readName 16 = .ok (.invokestatic 87, 3) := by decide +kernel
theorem dX5_readName_19 : decode cX5_readName 19 = .ok (.ifCond .eq 32, 3) := by decide +kernel
theorem dX5_readName_22 : decode cX5_readName 22 = .ok (.aload_n 0, 1) := by decide +kernel
theorem dX5_readName_23 : decode cX5_readName 23 = .ok (.getfield 22, 3) := by decide +kernel
theorem dX5_readName_26 : decode cX5_readName 26 = .ok (.iload_n 1, 1) := by decide +kernel
theorem dX5_readName_27 : decode cX5_readName 27 = .ok (.aload_n 0, 1) := by decide +kernel
theorem dX5_readName_28 : decode cX5_readName 28 = .ok (.invokevirtual 35, 3) := by decide +kernel
theorem dX5_readName_31 : decode cX5_readName 31 = .ok (.bipush 48, 2) := by decide +kernel
theorem dX5_readName_33 : decode cX5_readName 33 = .ok (.isub, 1) := by decide +kernel
theorem dX5_readName_34 : decode cX5_readName 34 = .ok (.iastore, 1) := by decide +kernel
theorem dX5_readName_35 : decode cX5_readName 35 = .ok (.iinc 1 1, 3) := by decide +kernel
theorem dX5_readName_38 : decode cX5_readName 38 = .ok (.aload_n 0, 1) := by decide +kernel
theorem dX5_readName_39 : decode cX5_readName 39 = .ok (.dup, 1) := by decide +kernel
theorem dX5_readName_40 : decode cX5_readName 40 = .ok (.getfield 19, 3) := by decide +kernel
theorem dX5_readName_43 : decode cX5_readName 43 = .ok (.iconst 1, 1) := by decide +kernel
theorem dX5_readName_44 : decode cX5_readName 44 = .ok (.iadd, 1) := by decide +kernel
theorem dX5_readName_45 : decode cX5_readName 45 = .ok (.putfield 19, 3) := by decide +kernel
theorem dX5_readName_48 : decode cX5_readName 48 = .ok (.goto (-46), 3) := by decide +kernel
theorem dX5_readName_51 : decode cX5_readName 51 = .ok (.iload_n 1, 1) := by decide +kernel
theorem dX5_readName_52 : decode cX5_readName 52 = .ok (.ifCond .eq 12, 3) := by decide +kernel
theorem dX5_readName_55 : decode cX5_readName 55 = .ok (.aload_n 0, 1) := by decide +kernel
theorem dX5_readName_56 : decode cX5_readName 56 = .ok (.invokevirtual 35, 3) := by decide +kernel
theorem dX5_readName_59 : decode cX5_readName 59 = .ok (.bipush 44, 2) := by decide +kernel
theorem dX5_readName_61 : decode cX5_readName 61 = .ok (.if_icmp .eq 5, 3) := by decide +kernel
theorem dX5_readName_64 : decode cX5_readName 64 = .ok (.iconst (-1), 1) := by decide +kernel
theorem dX5_readName_65 : decode cX5_readName 65 = .ok (.ireturn, 1) := by decide +kernel
theorem dX5_readName_66 : decode cX5_readName 66 = .ok (.aload_n 0, 1) := by decide +kernel
theorem dX5_readName_67 : decode cX5_readName 67 = .ok (.dup, 1) := by decide +kernel
theorem dX5_readName_68 : decode cX5_readName 68 = .ok (.getfield 19, 3) := by decide +kernel
theorem dX5_readName_71 : decode cX5_readName 71 = .ok (.iconst 1, 1) := by decide +kernel
theorem dX5_readName_72 : decode cX5_readName 72 = .ok (.iadd, 1) := by decide +kernel
theorem dX5_readName_73 : decode cX5_readName 73 = .ok (.putfield 19, 3) := by decide +kernel
theorem dX5_readName_76 : decode cX5_readName 76 = .ok (.iload_n 1, 1) := by decide +kernel
theorem dX5_readName_77 : decode cX5_readName 77 = .ok (.ireturn, 1) := by decide +kernel
theorem dX6_init_0 : decode cX6_init 0 = .ok (.aload_n 0, 1) := by decide +kernel
theorem dX6_init_1 : decode cX6_init 1 = .ok (.invokespecial 1, 3) := by decide +kernel
theorem dX6_init_4 : decode cX6_init 4 = .ok (.aload_n 0, 1) := by decide +kernel
theorem dX6_init_5 : decode cX6_init 5 = .ok (.new 7, 3) := by decide +kernel
theorem dX6_init_8 : decode cX6_init 8 = .ok (.dup, 1) := by decide +kernel
theorem dX6_init_9 : decode cX6_init 9 = .ok (.invokespecial 9, 3) := by decide +kernel
theorem dX6_init_12 : decode cX6_init 12 = .ok (.putfield 10, 3) := by decide +kernel
theorem dX6_init_15 : decode cX6_init 15 = .ok (.aload_n 0, 1) := by decide +kernel
theorem dX6_init_16 : decode cX6_init 16 = .ok (.new 16, 3) := by decide +kernel
theorem dX6_init_19 : decode cX6_init 19 = .ok (.dup, 1) := by decide +kernel
theorem dX6_init_20 : decode cX6_init 20 = .ok (.invokespecial 18, 3) := by decide +kernel
theorem dX6_init_23 : decode cX6_init 23 = .ok (.putfield 19, 3) := by decide +kernel
theorem dX6_init_26 : decode cX6_init 26 = .ok (.aload_n 0, 1) := by decide +kernel
theorem dX6_init_27 : decode cX6_init 27 = .ok (.new 16, 3) := by decide +kernel
theorem dX6_init_30 : decode cX6_init 30 = .ok (.dup, 1) := by decide +kernel
theorem dX6_init_31 : decode cX6_init 31 = .ok (.invokespecial 18, 3) := by decide +kernel
theorem dX6_init_34 : decode cX6_init 34 = .ok (.putfield 23, 3) := by decide +kernel
theorem dX6_init_37 : decode cX6_init 37 = .ok (.aload_n 0, 1) := by decide +kernel
theorem dX6_init_38 : decode cX6_init 38 = .ok (.new 26, 3) := by decide +kernel
theorem dX6_init_41 : decode cX6_init 41 = .ok (.dup, 1) := by decide +kernel
theorem dX6_init_42 : decode cX6_init 42 = .ok (.invokespecial 28, 3) := by decide +kernel
theorem dX6_init_45 : decode cX6_init 45 = .ok (.putfield 29, 3) := by decide +kernel
theorem dX6_init_48 : decode cX6_init 48 = .ok (.aload_n 0, 1) := by decide +kernel
theorem dX6_init_49 : decode cX6_init 49 = .ok (.new 26, 3) := by decide +kernel
theorem dX6_init_52 : decode cX6_init 52 = .ok (.dup, 1) := by decide +kernel
theorem dX6_init_53 : decode cX6_init 53 = .ok (.invokespecial 28, 3) := by decide +kernel
theorem dX6_init_56 : decode cX6_init 56 = .ok (.putfield 33, 3) := by decide +kernel
theorem dX6_init_59 : decode cX6_init 59 = .ok (.aload_n 0, 1) := by decide +kernel
theorem dX6_init_60 : decode cX6_init 60 = .ok (.new 26, 3) := by decide +kernel
theorem dX6_init_63 : decode cX6_init 63 = .ok (.dup, 1) := by decide +kernel
theorem dX6_init_64 : decode cX6_init 64 = .ok (.invokespecial 28, 3) := by decide +kernel
theorem dX6_init_67 : decode cX6_init 67 = .ok (.putfield 36, 3) := by decide +kernel
theorem dX6_init_70 : decode cX6_init 70 = .ok (.aload_n 0, 1) := by decide +kernel
theorem dX6_init_71 : decode cX6_init 71 = .ok (.iconst 0, 1) := by decide +kernel
theorem dX6_init_72 : decode cX6_init 72 = .ok (.putfield 39, 3) := by decide +kernel
theorem dX6_init_75 : decode cX6_init 75 = .ok (.aload_n 0, 1) := by decide +kernel
theorem dX6_init_76 : decode cX6_init 76 = .ok (.new 43, 3) := by decide +kernel
theorem dX6_init_79 : decode cX6_init 79 = .ok (.dup, 1) := by decide +kernel
theorem dX6_init_80 : decode cX6_init 80 = .ok (.invokespecial 45, 3) := by decide +kernel
theorem dX6_init_83 : decode cX6_init 83 = .ok (.putfield 46, 3) := by decide +kernel
theorem dX6_init_86 : decode cX6_init 86 = .ok (.aload_n 0, 1) := by decide +kernel
theorem dX6_init_87 : decode cX6_init 87 = .ok (.new 50, 3) := by decide +kernel
theorem dX6_init_90 : decode cX6_init 90 = .ok (.dup, 1) := by decide +kernel
theorem dX6_init_91 : decode cX6_init 91 = .ok (.invokespecial 52, 3) := by decide +kernel
theorem dX6_init_94 : decode cX6_init 94 = .ok (.putfield 53, 3) := by decide +kernel
theorem dX6_init_97 : decode cX6_init 97 = .ok (.aload_n 0, 1) := by decide +kernel
theorem dX6_init_98 : decode cX6_init 98 = .ok (.getfield 19, 3) := by decide +kernel
theorem dX6_init_101 : decode cX6_init 101 = .ok (.iconst 0, 1) := by decide +kernel
theorem dX6_init_102 : decode cX6_init 102 = .ok (.getstatic 57, 3) := by decide +kernel
theorem dX6_init_105 : decode cX6_init 105 = .ok (.getstatic 57, 3) := by decide +kernel
theorem dX6_init_108 : decode cX6_init 108 = .ok (.arraylength, 1) := by decide +kernel
theorem dX6_init_109 : decode cX6_init 109 = .ok (.iconst 5, 1) := by decide +kernel
theorem dX6_init_110 : decode cX6_init 110 = .ok (.iconst 0, 1) := by decide +kernel
theorem dX6_init_111 : decode cX6_init 111 = .ok (.invokevirtual 61, 3) := by decide +kernel
theorem dX6_init_114 : decode cX6_init 114 = .ok (.pop, 1) := by decide +kernel
theorem dX6_init_115 : decode cX6_init 115 = .ok (.aload_n 0, 1) := by decide +kernel
theorem dX6_init_116 : decode cX6_init 116 = .ok (.getfield 29, 3) := by decide +kernel
theorem dX6_init_119 : decode cX6_init 119 = .ok (.getfield 65, 3) := by decide +kernel
theorem dX6_init_122 : decode cX6_init 122 = .ok (.aload_n 0, 1) := by decide +kernel
theorem dX6_init_123 : decode cX6_init 123 = .ok (.getfield 19, 3) := by decide +kernel
theorem dX6_init_126 : decode cX6_init 126 = .ok (.getfield 68, 3) := by decide +kernel
theorem dX6_init_129 : decode cX6_init 129 = .ok (.invokevirtual 69, 3) := by decide +kernel
theorem dX6_init_132 : decode cX6_init 132 = .ok (.return_, 1) := by decide +kernel
theorem dX6_write_0 : decode cX6_write 0 = .ok (.iload_n 1, 1) := by decide +kernel
theorem dX6_write_1 : decode cX6_write 1 = .ok (.iconst 1, 1) := by decide +kernel
theorem dX6_write_2 : decode cX6_write 2 = .ok (.bipush 8, 2) := by decide +kernel
theorem dX6_write_4 : decode cX6_write 4 = .ok (.invokestatic 73, 3) := by decide +kernel
theorem dX6_write_7 : decode cX6_write 7 = .ok (.ifCond .ne 5, 3) := by decide +kernel
theorem dX6_write_10 : decode cX6_write 10 = .ok (.iconst (-1), 1) := by decide +kernel
theorem dX6_write_11 : decode cX6_write 11 = .ok (.ireturn, 1) := by decide +kernel
theorem dX6_write_12 : decode cX6_write 12 = .ok (.aload_n 0, 1) := by decide +kernel
theorem dX6_write_13 : decode cX6_write 13 = .ok (.getfield 10, 3) := by decide +kernel
theorem dX6_write_16 : decode cX6_write 16 = .ok (.iload_n 1, 1) := by decide +kernel
theorem dX6_write_17 : decode cX6_write 17 = .ok (.invokevirtual 77, 3) := by decide +kernel
theorem dX6_write_20 : decode cX6_write 20 = .ok (.ifCond .ne 6, 3) := by decide +kernel
theorem dX6_write_23 : decode cX6_write 23 = .ok (.bipush (-3), 2) := by decide +kernel
theorem dX6_write_25 : decode cX6_write 25 = .ok (.ireturn, 1) := by decide +kernel
theorem dX6_write_26 : decode cX6_write 26 = .ok (.aload_n 0, 1) := by decide +kernel
theorem dX6_write_27 : decode cX6_write 27 = .ok (.getfield 10, 3) := by decide +kernel
theorem dX6_write_30 : decode cX6_write 30 = .ok (.iload_n 1, 1) := by decide +kernel
theorem dX6_write_31 : decode cX6_write 31 = .ok (.lload_n 2, 1) := by decide +kernel
theorem dX6_write_32 : decode cX6_write 32 = .ok (.invokevirtual 81, 3) := by decide +kernel
theorem dX6_write_35 : decode cX6_write 35 = .ok (.aload_n 0, 1) := by decide +kernel
theorem dX6_write_36 : decode cX6_write 36 = .ok (.getfield 10, 3) := by decide +kernel
theorem dX6_write_39 : decode cX6_write 39 = .ok (.getfield 85, 3) := by decide +kernel
theorem dX6_write_42 : decode cX6_write 42 = .ok (.ireturn, 1) := by decide +kernel
theorem dX6_wipe_0 : decode cX6_wipe 0 = .ok (.aload_n 0, 1) := by decide +kernel
theorem dX6_wipe_1 : decode cX6_wipe 1 = .ok (.getfield 10, 3) := by decide +kernel
theorem dX6_wipe_4 : decode cX6_wipe 4 = .ok (.getfield 85, 3) := by decide +kernel
theorem dX6_wipe_7 : decode cX6_wipe 7 = .ok (.istore_n 1, 1) := by decide +kernel
theorem dX6_wipe_8 : decode cX6_wipe 8 = .ok (.aload_n 0, 1) := by decide +kernel
theorem dX6_wipe_9 : decode cX6_wipe 9 = .ok (.getfield 10, 3) := by decide +kernel
theorem dX6_wipe_12 : decode cX6_wipe 12 = .ok (.iconst 0, 1) := by decide +kernel
theorem dX6_wipe_13 : decode cX6_wipe 13 = .ok (.putfield 85, 3) := by decide +kernel
theorem dX6_wipe_16 : decode cX6_wipe 16 = .ok (.iload_n 1, 1) := by decide +kernel
theorem dX6_wipe_17 : decode cX6_wipe 17 = .ok (.ireturn, 1) := by decide +kernel
theorem dX6_fault_0 : decode cX6_fault 0 = .ok (.aload_n 0, 1) := by decide +kernel
theorem dX6_fault_1 : decode cX6_fault 1 = .ok (.getfield 10, 3) := by decide +kernel
theorem dX6_fault_4 : decode cX6_fault 4 = .ok (.aload_n 0, 1) := by decide +kernel
theorem dX6_fault_5 : decode cX6_fault 5 = .ok (.getfield 23, 3) := by decide +kernel
theorem dX6_fault_8 : decode cX6_fault 8 = .ok (.invokevirtual 88, 3) := by decide +kernel
theorem dX6_fault_11 : decode cX6_fault 11 = .ok (.ireturn, 1) := by decide +kernel
theorem dX6_lay_0 : decode cX6_lay 0 = .ok (.aload_n 0, 1) := by decide +kernel
theorem dX6_lay_1 : decode cX6_lay 1 = .ok (.getfield 10, 3) := by decide +kernel
theorem dX6_lay_4 : decode cX6_lay 4 = .ok (.aload_n 0, 1) := by decide +kernel
theorem dX6_lay_5 : decode cX6_lay 5 = .ok (.getfield 23, 3) := by decide +kernel
theorem dX6_lay_8 : decode cX6_lay 8 = .ok (.invokevirtual 88, 3) := by decide +kernel
theorem dX6_lay_11 : decode cX6_lay 11 = .ok (.bipush (-4), 2) := by decide +kernel
theorem dX6_lay_13 : decode cX6_lay 13 = .ok (.if_icmp .ne 16, 3) := by decide +kernel
theorem dX6_lay_16 : decode cX6_lay 16 = .ok (.aload_n 0, 1) := by decide +kernel
theorem dX6_lay_17 : decode cX6_lay 17 = .ok (.getfield 23, 3) := by decide +kernel
theorem dX6_lay_20 : decode cX6_lay 20 = .ok (.getfield 68, 3) := by decide +kernel
theorem dX6_lay_23 : decode cX6_lay 23 = .ok (.getfield 92, 3) := by decide +kernel
theorem dX6_lay_26 : decode cX6_lay 26 = .ok (.ifCond .ne 6, 3) := by decide +kernel
theorem dX6_lay_29 : decode cX6_lay 29 = .ok (.bipush (-2), 2) := by decide +kernel
theorem dX6_lay_31 : decode cX6_lay 31 = .ok (.ireturn, 1) := by decide +kernel
theorem dX6_lay_32 : decode cX6_lay 32 = .ok (.aload_n 0, 1) := by decide +kernel
theorem dX6_lay_33 : decode cX6_lay 33 = .ok (.getfield 19, 3) := by decide +kernel
theorem dX6_lay_36 : decode cX6_lay 36 = .ok (.astore_n 1, 1) := by decide +kernel
theorem dX6_lay_37 : decode cX6_lay 37 = .ok (.aload_n 0, 1) := by decide +kernel
theorem dX6_lay_38 : decode cX6_lay 38 = .ok (.aload_n 0, 1) := by decide +kernel
theorem dX6_lay_39 : decode cX6_lay 39 = .ok (.getfield 23, 3) := by decide +kernel
theorem dX6_lay_42 : decode cX6_lay 42 = .ok (.putfield 19, 3) := by decide +kernel
theorem dX6_lay_45 : decode cX6_lay 45 = .ok (.aload_n 0, 1) := by decide +kernel
theorem dX6_lay_46 : decode cX6_lay 46 = .ok (.aload_n 1, 1) := by decide +kernel
theorem dX6_lay_47 : decode cX6_lay 47 = .ok (.putfield 23, 3) := by decide +kernel
theorem dX6_lay_50 : decode cX6_lay 50 = .ok (.aload_n 0, 1) := by decide +kernel
theorem dX6_lay_51 : decode cX6_lay 51 = .ok (.getfield 29, 3) := by decide +kernel
theorem dX6_lay_54 : decode cX6_lay 54 = .ok (.getfield 65, 3) := by decide +kernel
theorem dX6_lay_57 : decode cX6_lay 57 = .ok (.aload_n 0, 1) := by decide +kernel
theorem dX6_lay_58 : decode cX6_lay 58 = .ok (.getfield 19, 3) := by decide +kernel
theorem dX6_lay_61 : decode cX6_lay 61 = .ok (.getfield 68, 3) := by decide +kernel
theorem dX6_lay_64 : decode cX6_lay 64 = .ok (.invokevirtual 69, 3) := by decide +kernel
theorem dX6_lay_67 : decode cX6_lay 67 = .ok (.aload_n 0, 1) := by decide +kernel
theorem dX6_lay_68 : decode cX6_lay 68 = .ok (.getfield 29, 3) := by decide +kernel
theorem dX6_lay_71 : decode cX6_lay 71 = .ok (.getfield 95, 3) := by decide +kernel
theorem dX6_lay_74 : decode cX6_lay 74 = .ok (.invokevirtual 99, 3) := by decide +kernel
theorem dX6_lay_77 : decode cX6_lay 77 = .ok (.aload_n 0, 1) := by decide +kernel
theorem dX6_lay_78 : decode cX6_lay 78 = .ok (.iconst 0, 1) := by decide +kernel
theorem dX6_lay_79 : decode cX6_lay 79 = .ok (.putfield 39, 3) := by decide +kernel
theorem dX6_lay_82 : decode cX6_lay 82 = .ok (.aload_n 0, 1) := by decide +kernel
theorem dX6_lay_83 : decode cX6_lay 83 = .ok (.getfield 29, 3) := by decide +kernel
theorem dX6_lay_86 : decode cX6_lay 86 = .ok (.getfield 65, 3) := by decide +kernel
theorem dX6_lay_89 : decode cX6_lay 89 = .ok (.getfield 92, 3) := by decide +kernel
theorem dX6_lay_92 : decode cX6_lay 92 = .ok (.ireturn, 1) := by decide +kernel
theorem dX6_person_0 : decode cX6_person 0 = .ok (.aload_n 0, 1) := by decide +kernel
theorem dX6_person_1 : decode cX6_person 1 = .ok (.getfield 29, 3) := by decide +kernel
theorem dX6_person_4 : decode cX6_person 4 = .ok (.getfield 65, 3) := by decide +kernel
theorem dX6_person_7 : decode cX6_person 7 = .ok (.iload_n 1, 1) := by decide +kernel
theorem dX6_person_8 : decode cX6_person 8 = .ok (.invokevirtual 104, 3) := by decide +kernel
theorem dX6_person_11 : decode cX6_person 11 = .ok (.ifCond .ne 5, 3) := by decide +kernel
theorem dX6_person_14 : decode cX6_person 14 = .ok (.iconst (-1), 1) := by decide +kernel
theorem dX6_person_15 : decode cX6_person 15 = .ok (.ireturn, 1) := by decide +kernel
theorem dX6_person_16 : decode cX6_person 16 = .ok (.iload_n 2, 1) := by decide +kernel
theorem dX6_person_17 : decode cX6_person 17 = .ok (.tableswitch 109 0 5 #[39, 51, 60, 69, 81, 93], 39) := by decide +kernel
theorem dX6_person_56 : decode cX6_person 56 = .ok (.aload_n 0, 1) := by decide +kernel
theorem dX6_person_57 : decode cX6_person 57 = .ok (.getfield 29, 3) := by decide +kernel
theorem dX6_person_60 : decode cX6_person 60 = .ok (.getfield 65, 3) := by decide +kernel
theorem dX6_person_63 : decode cX6_person 63 = .ok (.iload_n 1, 1) := by decide +kernel
theorem dX6_person_64 : decode cX6_person 64 = .ok (.invokevirtual 107, 3) := by decide +kernel
theorem dX6_person_67 : decode cX6_person 67 = .ok (.ireturn, 1) := by decide +kernel
theorem dX6_person_68 : decode cX6_person 68 = .ok (.aload_n 0, 1) := by decide +kernel
theorem dX6_person_69 : decode cX6_person 69 = .ok (.getfield 19, 3) := by decide +kernel
theorem dX6_person_72 : decode cX6_person 72 = .ok (.iload_n 1, 1) := by decide +kernel
theorem dX6_person_73 : decode cX6_person 73 = .ok (.invokevirtual 111, 3) := by decide +kernel
theorem dX6_person_76 : decode cX6_person 76 = .ok (.ireturn, 1) := by decide +kernel
theorem dX6_person_77 : decode cX6_person 77 = .ok (.aload_n 0, 1) := by decide +kernel
theorem dX6_person_78 : decode cX6_person 78 = .ok (.getfield 19, 3) := by decide +kernel
theorem dX6_person_81 : decode cX6_person 81 = .ok (.iload_n 1, 1) := by decide +kernel
theorem dX6_person_82 : decode cX6_person 82 = .ok (.invokevirtual 114, 3) := by decide +kernel
theorem dX6_person_85 : decode cX6_person 85 = .ok (.ireturn, 1) := by decide +kernel
theorem dX6_person_86 : decode cX6_person 86 = .ok (.aload_n 0, 1) := by decide +kernel
theorem dX6_person_87 : decode cX6_person 87 = .ok (.getfield 29, 3) := by decide +kernel
theorem dX6_person_90 : decode cX6_person 90 = .ok (.getfield 65, 3) := by decide +kernel
theorem dX6_person_93 : decode cX6_person 93 = .ok (.iload_n 1, 1) := by decide +kernel
theorem dX6_person_94 : decode cX6_person 94 = .ok (.invokevirtual 117, 3) := by decide +kernel
theorem dX6_person_97 : decode cX6_person 97 = .ok (.ireturn, 1) := by decide +kernel
theorem dX6_person_98 : decode cX6_person 98 = .ok (.aload_n 0, 1) := by decide +kernel
theorem dX6_person_99 : decode cX6_person 99 = .ok (.getfield 29, 3) := by decide +kernel
theorem dX6_person_102 : decode cX6_person 102 = .ok (.getfield 65, 3) := by decide +kernel
theorem dX6_person_105 : decode cX6_person 105 = .ok (.iload_n 1, 1) := by decide +kernel
theorem dX6_person_106 : decode cX6_person 106 = .ok (.invokevirtual 120, 3) := by decide +kernel
theorem dX6_person_109 : decode cX6_person 109 = .ok (.ireturn, 1) := by decide +kernel
theorem dX6_person_110 : decode cX6_person 110 = .ok (.aload_n 0, 1) := by decide +kernel
theorem dX6_person_111 : decode cX6_person 111 = .ok (.getfield 19, 3) := by decide +kernel
theorem dX6_person_114 : decode cX6_person 114 = .ok (.aload_n 0, 1) := by decide +kernel
theorem dX6_person_115 : decode cX6_person 115 = .ok (.getfield 29, 3) := by decide +kernel
theorem dX6_person_118 : decode cX6_person 118 = .ok (.getfield 65, 3) := by decide +kernel
theorem dX6_person_121 : decode cX6_person 121 = .ok (.iload_n 1, 1) := by decide +kernel
theorem dX6_person_122 : decode cX6_person 122 = .ok (.invokevirtual 123, 3) := by decide +kernel
theorem dX6_person_125 : decode cX6_person 125 = .ok (.ireturn, 1) := by decide +kernel
theorem dX6_person_126 : decode cX6_person 126 = .ok (.iconst (-1), 1) := by decide +kernel
theorem dX6_person_127 : decode cX6_person 127 = .ok (.ireturn, 1) := by decide +kernel
theorem dX6_said_0 : decode cX6_said 0 = .ok (.aload_n 0, 1) := by decide +kernel
theorem dX6_said_1 : decode cX6_said 1 = .ok (.getfield 29, 3) := by decide +kernel
theorem dX6_said_4 : decode cX6_said 4 = .ok (.getfield 65, 3) := by decide +kernel
theorem dX6_said_7 : decode cX6_said 7 = .ok (.iload_n 1, 1) := by decide +kernel
theorem dX6_said_8 : decode cX6_said 8 = .ok (.invokevirtual 104, 3) := by decide +kernel
theorem dX6_said_11 : decode cX6_said 11 = .ok (.ifCond .eq 13, 3) := by decide +kernel
theorem dX6_said_14 : decode cX6_said 14 = .ok (.iload_n 2, 1) := by decide +kernel
theorem dX6_said_15 : decode cX6_said 15 = .ok (.iconst 0, 1) := by decide +kernel
theorem dX6_said_16 : decode cX6_said 16 = .ok (.bipush 19, 2) := by decide +kernel
theorem dX6_said_18 : decode cX6_said 18 = .ok (.invokestatic 73, 3) := by decide +kernel
theorem dX6_said_21 : decode cX6_said 21 = .ok (.ifCond .ne 5, 3) := by decide +kernel
theorem dX6_said_24 : decode cX6_said 24 = .ok (.iconst (-1), 1) := by decide +kernel
theorem dX6_said_25 : decode cX6_said 25 = .ok (.ireturn, 1) := by decide +kernel
theorem dX6_said_26 : decode cX6_said 26 = .ok (.aload_n 0, 1) := by decide +kernel
theorem dX6_said_27 : decode cX6_said 27 = .ok (.getfield 29, 3) := by decide +kernel
theorem dX6_said_30 : decode cX6_said 30 = .ok (.getfield 65, 3) := by decide +kernel
theorem dX6_said_33 : decode cX6_said 33 = .ok (.iload_n 1, 1) := by decide +kernel
theorem dX6_said_34 : decode cX6_said 34 = .ok (.iload_n 2, 1) := by decide +kernel
theorem dX6_said_35 : decode cX6_said 35 = .ok (.invokevirtual 127, 3) := by decide +kernel
theorem dX6_said_38 : decode cX6_said 38 = .ok (.ireturn, 1) := by decide +kernel
theorem dX6_deed_0 : decode cX6_deed 0 = .ok (.aload_n 0, 1) := by decide +kernel
theorem dX6_deed_1 : decode cX6_deed 1 = .ok (.getfield 29, 3) := by decide +kernel
theorem dX6_deed_4 : decode cX6_deed 4 = .ok (.getfield 65, 3) := by decide +kernel
theorem dX6_deed_7 : decode cX6_deed 7 = .ok (.iload_n 1, 1) := by decide +kernel
theorem dX6_deed_8 : decode cX6_deed 8 = .ok (.invokevirtual 104, 3) := by decide +kernel
theorem dX6_deed_11 : decode cX6_deed 11 = .ok (.ifCond .eq 12, 3) := by decide +kernel
theorem dX6_deed_14 : decode cX6_deed 14 = .ok (.iload_n 2, 1) := by decide +kernel
theorem dX6_deed_15 : decode cX6_deed 15 = .ok (.iconst 0, 1) := by decide +kernel
theorem dX6_deed_16 : decode cX6_deed 16 = .ok (.iconst 5, 1) := by decide +kernel
theorem dX6_deed_17 : decode cX6_deed 17 = .ok (.invokestatic 73, 3) := by decide +kernel
theorem dX6_deed_20 : decode cX6_deed 20 = .ok (.ifCond .ne 5, 3) := by decide +kernel
theorem dX6_deed_23 : decode cX6_deed 23 = .ok (.iconst (-1), 1) := by decide +kernel
theorem dX6_deed_24 : decode cX6_deed 24 = .ok (.ireturn, 1) := by decide +kernel
theorem dX6_deed_25 : decode cX6_deed 25 = .ok (.aload_n 0, 1) := by decide +kernel
theorem dX6_deed_26 : decode cX6_deed 26 = .ok (.getfield 19, 3) := by decide +kernel
theorem dX6_deed_29 : decode cX6_deed 29 = .ok (.aload_n 0, 1) := by decide +kernel
theorem dX6_deed_30 : decode cX6_deed 30 = .ok (.getfield 29, 3) := by decide +kernel
theorem dX6_deed_33 : decode cX6_deed 33 = .ok (.getfield 65, 3) := by decide +kernel
theorem dX6_deed_36 : decode cX6_deed 36 = .ok (.iload_n 1, 1) := by decide +kernel
theorem dX6_deed_37 : decode cX6_deed 37 = .ok (.iload_n 2, 1) := by decide +kernel
theorem dX6_deed_38 : decode cX6_deed 38 = .ok (.invokevirtual 131, 3) := by decide +kernel
theorem dX6_deed_41 : decode cX6_deed 41 = .ok (.ifCond .eq 17, 3) := by decide +kernel
theorem dX6_deed_44 : decode cX6_deed 44 = .ok (.aload_n 0, 1) := by decide +kernel
theorem dX6_deed_45 : decode cX6_deed 45 = .ok (.getfield 29, 3) := by decide +kernel
theorem dX6_deed_48 : decode cX6_deed 48 = .ok (.getfield 65, 3) := by decide +kernel
theorem dX6_deed_51 : decode cX6_deed 51 = .ok (.iload_n 1, 1) := by decide +kernel
theorem dX6_deed_52 : decode cX6_deed 52 = .ok (.invokevirtual 117, 3) := by decide +kernel
theorem dX6_deed_55 : decode cX6_deed 55 = .ok (.goto 5, 3) := by decide +kernel
theorem dX6_deed_58 : decode cX6_deed 58 = .ok (.bipush (-3), 2) := by decide +kernel
theorem dX6_deed_60 : decode cX6_deed 60 = .ok (.ireturn, 1) := by decide +kernel
theorem dX6_kind_0 : decode cX6_kind 0 = .ok (.aload_n 0, 1) := by decide +kernel
theorem dX6_kind_1 : decode cX6_kind 1 = .ok (.getfield 29, 3) := by decide +kernel
theorem dX6_kind_4 : decode cX6_kind 4 = .ok (.getfield 65, 3) := by decide +kernel
theorem dX6_kind_7 : decode cX6_kind 7 = .ok (.iload_n 1, 1) := by decide +kernel
theorem dX6_kind_8 : decode cX6_kind 8 = .ok (.invokevirtual 104, 3) := by decide +kernel
theorem dX6_kind_11 : decode cX6_kind 11 = .ok (.ifCond .eq 12, 3) := by decide +kernel
theorem dX6_kind_14 : decode cX6_kind 14 = .ok (.iload_n 2, 1) := by decide +kernel
theorem dX6_kind_15 : decode cX6_kind 15 = .ok (.iconst 0, 1) := by decide +kernel
theorem dX6_kind_16 : decode cX6_kind 16 = .ok (.iconst 3, 1) := by decide +kernel
theorem dX6_kind_17 : decode cX6_kind 17 = .ok (.invokestatic 73, 3) := by decide +kernel
theorem dX6_kind_20 : decode cX6_kind 20 = .ok (.ifCond .ne 5, 3) := by decide +kernel
theorem dX6_kind_23 : decode cX6_kind 23 = .ok (.iconst (-1), 1) := by decide +kernel
theorem dX6_kind_24 : decode cX6_kind 24 = .ok (.ireturn, 1) := by decide +kernel
theorem dX6_kind_25 : decode cX6_kind 25 = .ok (.aload_n 0, 1) := by decide +kernel
theorem dX6_kind_26 : decode cX6_kind 26 = .ok (.getfield 29, 3) := by decide +kernel
theorem dX6_kind_29 : decode cX6_kind 29 = .ok (.getfield 65, 3) := by decide +kernel
theorem dX6_kind_32 : decode cX6_kind 32 = .ok (.iload_n 1, 1) := by decide +kernel
theorem dX6_kind_33 : decode cX6_kind 33 = .ok (.iload_n 2, 1) := by decide +kernel
theorem dX6_kind_34 : decode cX6_kind 34 = .ok (.invokevirtual 135, 3) := by decide +kernel
theorem dX6_kind_37 : decode cX6_kind 37 = .ok (.ireturn, 1) := by decide +kernel
theorem dX6_cry_0 : decode cX6_cry 0 = .ok (.aload_n 0, 1) := by decide +kernel
theorem dX6_cry_1 : decode cX6_cry 1 = .ok (.iload_n 1, 1) := by decide +kernel
theorem dX6_cry_2 : decode cX6_cry 2 = .ok (.invokevirtual 138, 3) := by decide +kernel
theorem dX6_cry_5 : decode cX6_cry 5 = .ok (.ifCond .ne 5, 3) := by decide +kernel
theorem dX6_cry_8 : decode cX6_cry 8 = .ok (.iconst (-1), 1) := by decide +kernel
theorem dX6_cry_9 : decode cX6_cry 9 = .ok (.ireturn, 1) := by decide +kernel
theorem dX6_cry_10 : decode cX6_cry 10 = .ok (.aload_n 0, 1) := by decide +kernel
theorem dX6_cry_11 : decode cX6_cry 11 = .ok (.getfield 46, 3) := by decide +kernel
theorem dX6_cry_14 : decode cX6_cry 14 = .ok (.aload_n 0, 1) := by decide +kernel
theorem dX6_cry_15 : decode cX6_cry 15 = .ok (.getfield 19, 3) := by decide +kernel
theorem dX6_cry_18 : decode cX6_cry 18 = .ok (.aload_n 0, 1) := by decide +kernel
theorem dX6_cry_19 : decode cX6_cry 19 = .ok (.getfield 29, 3) := by decide +kernel
theorem dX6_cry_22 : decode cX6_cry 22 = .ok (.getfield 65, 3) := by decide +kernel
theorem dX6_cry_25 : decode cX6_cry 25 = .ok (.invokevirtual 141, 3) := by decide +kernel
theorem dX6_cry_28 : decode cX6_cry 28 = .ok (.aload_n 0, 1) := by decide +kernel
theorem dX6_cry_29 : decode cX6_cry 29 = .ok (.getfield 46, 3) := by decide +kernel
theorem dX6_cry_32 : decode cX6_cry 32 = .ok (.iload_n 1, 1) := by decide +kernel
theorem dX6_cry_33 : decode cX6_cry 33 = .ok (.invokevirtual 145, 3) := by decide +kernel
theorem dX6_cry_36 : decode cX6_cry 36 = .ok (.ireturn, 1) := by decide +kernel
theorem dX6_warn_0 : decode cX6_warn 0 = .ok (.iload_n 1, 1) := by decide +kernel
theorem dX6_warn_1 : decode cX6_warn 1 = .ok (.iconst 0, 1) := by decide +kernel
theorem dX6_warn_2 : decode cX6_warn 2 = .ok (.sipush 999, 3) := by decide +kernel
theorem dX6_warn_5 : decode cX6_warn 5 = .ok (.invokestatic 73, 3) := by decide +kernel
theorem dX6_warn_8 : decode cX6_warn 8 = .ok (.ifCond .eq 12, 3) := by decide +kernel
theorem dX6_warn_11 : decode cX6_warn 11 = .ok (.iload_n 2, 1) := by decide +kernel
theorem dX6_warn_12 : decode cX6_warn 12 = .ok (.iconst 0, 1) := by decide +kernel
theorem dX6_warn_13 : decode cX6_warn 13 = .ok (.iconst 1, 1) := by decide +kernel
theorem dX6_warn_14 : decode cX6_warn 14 = .ok (.invokestatic 73, 3) := by decide +kernel
theorem dX6_warn_17 : decode cX6_warn 17 = .ok (.ifCond .ne 5, 3) := by decide +kernel
theorem dX6_warn_20 : decode cX6_warn 20 = .ok (.iconst (-1), 1) := by decide +kernel
theorem dX6_warn_21 : decode cX6_warn 21 = .ok (.ireturn, 1) := by decide +kernel
theorem dX6_warn_22 : decode cX6_warn 22 = .ok (.aload_n 0, 1) := by decide +kernel
theorem dX6_warn_23 : decode cX6_warn 23 = .ok (.getfield 46, 3) := by decide +kernel
theorem dX6_warn_26 : decode cX6_warn 26 = .ok (.aload_n 0, 1) := by decide +kernel
theorem dX6_warn_27 : decode cX6_warn 27 = .ok (.getfield 19, 3) := by decide +kernel
theorem dX6_warn_30 : decode cX6_warn 30 = .ok (.aload_n 0, 1) := by decide +kernel
theorem dX6_warn_31 : decode cX6_warn 31 = .ok (.getfield 29, 3) := by decide +kernel
theorem dX6_warn_34 : decode cX6_warn 34 = .ok (.getfield 65, 3) := by decide +kernel
theorem dX6_warn_37 : decode cX6_warn 37 = .ok (.invokevirtual 141, 3) := by decide +kernel
theorem dX6_warn_40 : decode cX6_warn 40 = .ok (.aload_n 0, 1) := by decide +kernel
theorem dX6_warn_41 : decode cX6_warn 41 = .ok (.getfield 46, 3) := by decide +kernel
theorem dX6_warn_44 : decode cX6_warn 44 = .ok (.iload_n 1, 1) := by decide +kernel
theorem dX6_warn_45 : decode cX6_warn 45 = .ok (.invokevirtual 148, 3) := by decide +kernel
theorem dX6_warn_48 : decode cX6_warn 48 = .ok (.istore_n 3, 1) := by decide +kernel
theorem dX6_warn_49 : decode cX6_warn 49 = .ok (.iload_n 2, 1) := by decide +kernel
theorem dX6_warn_50 : decode cX6_warn 50 = .ok (.ifCond .ne 10, 3) := by decide +kernel
theorem dX6_warn_53 : decode cX6_warn 53 = .ok (.iload_n 3, 1) := by decide +kernel
theorem dX6_warn_54 : decode cX6_warn 54 = .ok (.invokestatic 151, 3) := by decide +kernel
theorem dX6_warn_57 : decode cX6_warn 57 = .ok (.goto 4, 3) := by decide +kernel
theorem dX6_warn_60 : decode cX6_warn 60 = .ok (.iload_n 3, 1) := by decide +kernel
theorem dX6_warn_61 : decode cX6_warn 61 = .ok (.ireturn, 1) := by decide +kernel
theorem dX6_called_0 : decode cX6_called 0 = .ok (.iload_n 1, 1) := by decide +kernel
theorem dX6_called_1 : decode cX6_called 1 = .ok (.iconst 0, 1) := by decide +kernel
theorem dX6_called_2 : decode cX6_called 2 = .ok (.sipush 999, 3) := by decide +kernel
theorem dX6_called_5 : decode cX6_called 5 = .ok (.invokestatic 73, 3) := by decide +kernel
theorem dX6_called_8 : decode cX6_called 8 = .ok (.ifCond .eq 13, 3) := by decide +kernel
theorem dX6_called_11 : decode cX6_called 11 = .ok (.iload_n 2, 1) := by decide +kernel
theorem dX6_called_12 : decode cX6_called 12 = .ok (.iconst 0, 1) := by decide +kernel
theorem dX6_called_13 : decode cX6_called 13 = .ok (.bipush 7, 2) := by decide +kernel
theorem dX6_called_15 : decode cX6_called 15 = .ok (.invokestatic 73, 3) := by decide +kernel
theorem dX6_called_18 : decode cX6_called 18 = .ok (.ifCond .ne 5, 3) := by decide +kernel
theorem dX6_called_21 : decode cX6_called 21 = .ok (.iconst (-1), 1) := by decide +kernel
theorem dX6_called_22 : decode cX6_called 22 = .ok (.ireturn, 1) := by decide +kernel
theorem dX6_called_23 : decode cX6_called 23 = .ok (.aload_n 0, 1) := by decide +kernel
theorem dX6_called_24 : decode cX6_called 24 = .ok (.getfield 46, 3) := by decide +kernel
theorem dX6_called_27 : decode cX6_called 27 = .ok (.aload_n 0, 1) := by decide +kernel
theorem dX6_called_28 : decode cX6_called 28 = .ok (.getfield 19, 3) := by decide +kernel
theorem dX6_called_31 : decode cX6_called 31 = .ok (.aload_n 0, 1) := by decide +kernel
theorem dX6_called_32 : decode cX6_called 32 = .ok (.getfield 29, 3) := by decide +kernel
theorem dX6_called_35 : decode cX6_called 35 = .ok (.getfield 65, 3) := by decide +kernel
theorem dX6_called_38 : decode cX6_called 38 = .ok (.invokevirtual 141, 3) := by decide +kernel
theorem dX6_called_41 : decode cX6_called 41 = .ok (.aload_n 0, 1) := by decide +kernel
theorem dX6_called_42 : decode cX6_called 42 = .ok (.getfield 46, 3) := by decide +kernel
theorem dX6_called_45 : decode cX6_called 45 = .ok (.aload_n 0, 1) := by decide +kernel
theorem dX6_called_46 : decode cX6_called 46 = .ok (.getfield 46, 3) := by decide +kernel
theorem dX6_called_49 : decode cX6_called 49 = .ok (.iload_n 1, 1) := by decide +kernel
theorem dX6_called_50 : decode cX6_called 50 = .ok (.invokevirtual 148, 3) := by decide +kernel
theorem dX6_called_53 : decode cX6_called 53 = .ok (.iload_n 1, 1) := by decide +kernel
theorem dX6_called_54 : decode cX6_called 54 = .ok (.invokevirtual 156, 3) := by decide +kernel
theorem dX6_called_57 : decode cX6_called 57 = .ok (.aload_n 0, 1) := by decide +kernel
theorem dX6_called_58 : decode cX6_called 58 = .ok (.getfield 46, 3) := by decide +kernel
theorem dX6_called_61 : decode cX6_called 61 = .ok (.iload_n 2, 1) := by decide +kernel
theorem dX6_called_62 : decode cX6_called 62 = .ok (.invokevirtual 160, 3) := by decide +kernel
theorem dX6_called_65 : decode cX6_called 65 = .ok (.ireturn, 1) := by decide +kernel
theorem dX6_greet_0 : decode cX6_greet 0 = .ok (.aload_n 0, 1) := by decide +kernel
theorem dX6_greet_1 : decode cX6_greet 1 = .ok (.iload_n 1, 1) := by decide +kernel
theorem dX6_greet_2 : decode cX6_greet 2 = .ok (.invokevirtual 138, 3) := by decide +kernel
theorem dX6_greet_5 : decode cX6_greet 5 = .ok (.ifCond .eq 13, 3) := by decide +kernel
theorem dX6_greet_8 : decode cX6_greet 8 = .ok (.iload_n 2, 1) := by decide +kernel
theorem dX6_greet_9 : decode cX6_greet 9 = .ok (.iconst (-1), 1) := by decide +kernel
theorem dX6_greet_10 : decode cX6_greet 10 = .ok (.bipush 7, 2) := by decide +kernel
theorem dX6_greet_12 : decode cX6_greet 12 = .ok (.invokestatic 73, 3) := by decide +kernel
theorem dX6_greet_15 : decode cX6_greet 15 = .ok (.ifCond .ne 5, 3) := by decide +kernel
theorem dX6_greet_18 : decode cX6_greet 18 = .ok (.iconst (-1), 1) := by decide +kernel
theorem dX6_greet_19 : decode cX6_greet 19 = .ok (.ireturn, 1) := by decide +kernel
theorem dX6_greet_20 : decode cX6_greet 20 = .ok (.aload_n 0, 1) := by decide +kernel
theorem dX6_greet_21 : decode cX6_greet 21 = .ok (.getfield 46, 3) := by decide +kernel
theorem dX6_greet_24 : decode cX6_greet 24 = .ok (.aload_n 0, 1) := by decide +kernel
theorem dX6_greet_25 : decode cX6_greet 25 = .ok (.getfield 19, 3) := by decide +kernel
theorem dX6_greet_28 : decode cX6_greet 28 = .ok (.aload_n 0, 1) := by decide +kernel
theorem dX6_greet_29 : decode cX6_greet 29 = .ok (.getfield 29, 3) := by decide +kernel
theorem dX6_greet_32 : decode cX6_greet 32 = .ok (.getfield 65, 3) := by decide +kernel
theorem dX6_greet_35 : decode cX6_greet 35 = .ok (.invokevirtual 141, 3) := by decide +kernel
theorem dX6_greet_38 : decode cX6_greet 38 = .ok (.aload_n 0, 1) := by decide +kernel
theorem dX6_greet_39 : decode cX6_greet 39 = .ok (.getfield 46, 3) := by decide +kernel
theorem dX6_greet_42 : decode cX6_greet 42 = .ok (.iload_n 1, 1) := by decide +kernel
theorem dX6_greet_43 : decode cX6_greet 43 = .ok (.invokevirtual 163, 3) := by decide +kernel
theorem dX6_greet_46 : decode cX6_greet 46 = .ok (.istore_n 3, 1) := by decide +kernel
theorem dX6_greet_47 : decode cX6_greet 47 = .ok (.iload_n 2, 1) := by decide +kernel
theorem dX6_greet_48 : decode cX6_greet 48 = .ok (.iconst (-1), 1) := by decide +kernel
theorem dX6_greet_49 : decode cX6_greet 49 = .ok (.if_icmp .ne 5, 3) := by decide +kernel
theorem dX6_greet_52 : decode cX6_greet 52 = .ok (.iload_n 3, 1) := by decide +kernel
theorem dX6_greet_53 : decode cX6_greet 53 = .ok (.ireturn, 1) := by decide +kernel
theorem dX6_greet_54 : decode cX6_greet 54 = .ok (.aload_n 0, 1) := by decide +kernel
theorem dX6_greet_55 : decode cX6_greet 55 = .ok (.getfield 46, 3) := by decide +kernel
theorem dX6_greet_58 : decode cX6_greet 58 = .ok (.iload_n 1, 1) := by decide +kernel
theorem dX6_greet_59 : decode cX6_greet 59 = .ok (.iload_n 3, 1) := by decide +kernel
theorem dX6_greet_60 : decode cX6_greet 60 = .ok (.invokevirtual 166, 3) := by decide +kernel
theorem dX6_greet_63 : decode cX6_greet 63 = .ok (.aload_n 0, 1) := by decide +kernel
theorem dX6_greet_64 : decode cX6_greet 64 = .ok (.getfield 46, 3) := by decide +kernel
theorem dX6_greet_67 : decode cX6_greet 67 = .ok (.iload_n 2, 1) := by decide +kernel
theorem dX6_greet_68 : decode cX6_greet 68 = .ok (.invokevirtual 160, 3) := by decide +kernel
theorem dX6_greet_71 : decode cX6_greet 71 = .ok (.ireturn, 1) := by decide +kernel
theorem dX6_shortCall_0 : decode cX6_shortCall 0 = .ok (.aload_n 0, 1) := by decide +kernel
theorem dX6_shortCall_1 : decode cX6_shortCall 1 = .ok (.iload_n 2, 1) := by decide +kernel
theorem dX6_shortCall_2 : decode cX6_shortCall 2 = .ok (.invokevirtual 138, 3) := by decide +kernel
theorem dX6_shortCall_5 : decode cX6_shortCall 5 = .ok (.ifCond .eq 11, 3) := by decide +kernel
theorem dX6_shortCall_8 : decode cX6_shortCall 8 = .ok (.iload_n 1, 1) := by decide +kernel
theorem dX6_shortCall_9 : decode cX6_shortCall 9 = .ok (.iload_n 2, 1) := by decide +kernel
theorem dX6_shortCall_10 : decode cX6_shortCall 10 = .ok (.invokestatic 169, 3) := by decide +kernel
theorem dX6_shortCall_13 : decode cX6_shortCall 13 = .ok (.ifCond .ne 5, 3) := by decide +kernel
theorem dX6_shortCall_16 : decode cX6_shortCall 16 = .ok (.iconst (-1), 1) := by decide +kernel
theorem dX6_shortCall_17 : decode cX6_shortCall 17 = .ok (.ireturn, 1) := by decide +kernel
theorem dX6_shortCall_18 : decode cX6_shortCall 18 = .ok (.aload_n 0, 1) := by decide +kernel
theorem dX6_shortCall_19 : decode cX6_shortCall 19 = .ok (.getfield 29, 3) := by decide +kernel
theorem dX6_shortCall_22 : decode cX6_shortCall 22 = .ok (.getfield 65, 3) := by decide +kernel
theorem dX6_shortCall_25 : decode cX6_shortCall 25 = .ok (.iload_n 1, 1) := by decide +kernel
theorem dX6_shortCall_26 : decode cX6_shortCall 26 = .ok (.iload_n 2, 1) := by decide +kernel
theorem dX6_shortCall_27 : decode cX6_shortCall 27 = .ok (.invokevirtual 173, 3) := by decide +kernel
theorem dX6_shortCall_30 : decode cX6_shortCall 30 = .ok (.ireturn, 1) := by decide +kernel
theorem dX6_allShort_0 : decode cX6_allShort 0 = .ok (.aload_n 0, 1) := by decide +kernel
theorem dX6_allShort_1 : decode cX6_allShort 1 = .ok (.iload_n 1, 1) := by decide +kernel
theorem dX6_allShort_2 : decode cX6_allShort 2 = .ok (.invokevirtual 138, 3) := by decide +kernel
theorem dX6_allShort_5 : decode cX6_allShort 5 = .ok (.ifCond .ne 5, 3) := by decide +kernel
theorem dX6_allShort_8 : decode cX6_allShort 8 = .ok (.iconst (-1), 1) := by decide +kernel
theorem dX6_allShort_9 : decode cX6_allShort 9 = .ok (.ireturn, 1) := by decide +kernel
theorem dX6_allShort_10 : decode cX6_allShort 10 = .ok (.aload_n 0, 1) := by decide +kernel
theorem dX6_allShort_11 : decode cX6_allShort 11 = .ok (.getfield 29, 3) := by decide +kernel
theorem dX6_allShort_14 : decode cX6_allShort 14 = .ok (.getfield 65, 3) := by decide +kernel
theorem dX6_allShort_17 : decode cX6_allShort 17 = .ok (.iload_n 1, 1) := by decide +kernel
theorem dX6_allShort_18 : decode cX6_allShort 18 = .ok (.invokevirtual 176, 3) := by decide +kernel
theorem dX6_allShort_21 : decode cX6_allShort 21 = .ok (.ireturn, 1) := by decide +kernel
theorem dX6_apart_0 : decode cX6_apart 0 = .ok (.aload_n 0, 1) := by decide +kernel
theorem dX6_apart_1 : decode cX6_apart 1 = .ok (.iload_n 2, 1) := by decide +kernel
theorem dX6_apart_2 : decode cX6_apart 2 = .ok (.invokevirtual 138, 3) := by decide +kernel
theorem dX6_apart_5 : decode cX6_apart 5 = .ok (.ifCond .eq 20, 3) := by decide +kernel
theorem dX6_apart_8 : decode cX6_apart 8 = .ok (.iload_n 1, 1) := by decide +kernel
theorem dX6_apart_9 : decode cX6_apart 9 = .ok (.iload_n 2, 1) := by decide +kernel
theorem dX6_apart_10 : decode cX6_apart 10 = .ok (.invokestatic 169, 3) := by decide +kernel
theorem dX6_apart_13 : decode cX6_apart 13 = .ok (.ifCond .eq 12, 3) := by decide +kernel
theorem dX6_apart_16 : decode cX6_apart 16 = .ok (.iload_n 3, 1) := by decide +kernel
theorem dX6_apart_17 : decode cX6_apart 17 = .ok (.iconst 0, 1) := by decide +kernel
theorem dX6_apart_18 : decode cX6_apart 18 = .ok (.iconst 1, 1) := by decide +kernel
theorem dX6_apart_19 : decode cX6_apart 19 = .ok (.invokestatic 73, 3) := by decide +kernel
theorem dX6_apart_22 : decode cX6_apart 22 = .ok (.ifCond .ne 5, 3) := by decide +kernel
theorem dX6_apart_25 : decode cX6_apart 25 = .ok (.iconst (-1), 1) := by decide +kernel
theorem dX6_apart_26 : decode cX6_apart 26 = .ok (.ireturn, 1) := by decide +kernel
theorem dX6_apart_27 : decode cX6_apart 27 = .ok (.aload_n 0, 1) := by decide +kernel
theorem dX6_apart_28 : decode cX6_apart 28 = .ok (.getfield 29, 3) := by decide +kernel
theorem dX6_apart_31 : decode cX6_apart 31 = .ok (.getfield 65, 3) := by decide +kernel
theorem dX6_apart_34 : decode cX6_apart 34 = .ok (.iload_n 1, 1) := by decide +kernel
theorem dX6_apart_35 : decode cX6_apart 35 = .ok (.invokevirtual 117, 3) := by decide +kernel
theorem dX6_apart_38 : decode cX6_apart 38 = .ok (.bipush 10, 2) := by decide +kernel
theorem dX6_apart_40 : decode cX6_apart 40 = .ok (.if_icmp .lt 6, 3) := by decide +kernel
theorem dX6_apart_43 : decode cX6_apart 43 = .ok (.bipush (-3), 2) := by decide +kernel
theorem dX6_apart_45 : decode cX6_apart 45 = .ok (.ireturn, 1) := by decide +kernel
theorem dX6_apart_46 : decode cX6_apart 46 = .ok (.bipush (-4), 2) := by decide +kernel
theorem dX6_apart_48 : decode cX6_apart 48 = .ok (.istore 4, 2) := by decide +kernel
theorem dX6_apart_50 : decode cX6_apart 50 = .ok (.bipush (-4), 2) := by decide +kernel
theorem dX6_apart_52 : decode cX6_apart 52 = .ok (.istore 5, 2) := by decide +kernel
theorem dX6_apart_54 : decode cX6_apart 54 = .ok (.aload_n 0, 1) := by decide +kernel
theorem dX6_apart_55 : decode cX6_apart 55 = .ok (.getfield 53, 3) := by decide +kernel
theorem dX6_apart_58 : decode cX6_apart 58 = .ok (.aload_n 0, 1) := by decide +kernel
theorem dX6_apart_59 : decode cX6_apart 59 = .ok (.getfield 29, 3) := by decide +kernel
theorem dX6_apart_62 : decode cX6_apart 62 = .ok (.getfield 65, 3) := by decide +kernel
theorem dX6_apart_65 : decode cX6_apart 65 = .ok (.invokevirtual 69, 3) := by decide +kernel
theorem dX6_apart_68 : decode cX6_apart 68 = .ok (.iconst 0, 1) := by decide +kernel
theorem dX6_apart_69 : decode cX6_apart 69 = .ok (.istore 6, 2) := by decide +kernel
theorem dX6_apart_71 : decode cX6_apart 71 = .ok (.iload 6, 2) := by decide +kernel
theorem dX6_apart_73 : decode cX6_apart 73 = .ok (.bipush 6, 2) := by decide +kernel
theorem dX6_apart_75 : decode cX6_apart 75 = .ok (.if_icmp .ge 67, 3) := by decide +kernel
theorem dX6_apart_78 : decode cX6_apart 78 = .ok (.aload_n 0, 1) := by decide +kernel
theorem dX6_apart_79 : decode cX6_apart 79 = .ok (.getfield 53, 3) := by decide +kernel
theorem dX6_apart_82 : decode cX6_apart 82 = .ok (.iload_n 1, 1) := by decide +kernel
theorem dX6_apart_83 : decode cX6_apart 83 = .ok (.iload 6, 2) := by decide +kernel
theorem dX6_apart_85 : decode cX6_apart 85 = .ok (.invokevirtual 179, 3) := by decide +kernel
theorem dX6_apart_88 : decode cX6_apart 88 = .ok (.pop, 1) := by decide +kernel
theorem dX6_apart_89 : decode cX6_apart 89 = .ok (.aload_n 0, 1) := by decide +kernel
theorem dX6_apart_90 : decode cX6_apart 90 = .ok (.getfield 53, 3) := by decide +kernel
theorem dX6_apart_93 : decode cX6_apart 93 = .ok (.iload_n 2, 1) := by decide +kernel
theorem dX6_apart_94 : decode cX6_apart 94 = .ok (.invokevirtual 176, 3) := by decide +kernel
theorem dX6_apart_97 : decode cX6_apart 97 = .ok (.istore 7, 2) := by decide +kernel
theorem dX6_apart_99 : decode cX6_apart 99 = .ok (.aload_n 0, 1) := by decide +kernel
theorem dX6_apart_100 : decode cX6_apart 100 = .ok (.getfield 53, 3) := by decide +kernel
theorem dX6_apart_103 : decode cX6_apart 103 = .ok (.iload_n 1, 1) := by decide +kernel
theorem dX6_apart_104 : decode cX6_apart 104 = .ok (.invokevirtual 182, 3) := by decide +kernel
theorem dX6_apart_107 : decode cX6_apart 107 = .ok (.iload 7, 2) := by decide +kernel
theorem dX6_apart_109 : decode cX6_apart 109 = .ok (.bipush (-4), 2) := by decide +kernel
theorem dX6_apart_111 : decode cX6_apart 111 = .ok (.if_icmp .eq 25, 3) := by decide +kernel
theorem dX6_apart_114 : decode cX6_apart 114 = .ok (.iload 5, 2) := by decide +kernel
theorem dX6_apart_116 : decode cX6_apart 116 = .ok (.bipush (-4), 2) := by decide +kernel
theorem dX6_apart_118 : decode cX6_apart 118 = .ok (.if_icmp .eq 10, 3) := by decide +kernel
theorem dX6_apart_121 : decode cX6_apart 121 = .ok (.iload 7, 2) := by decide +kernel
theorem dX6_apart_123 : decode cX6_apart 123 = .ok (.iload 5, 2) := by decide +kernel
theorem dX6_apart_125 : decode cX6_apart 125 = .ok (.if_icmp .ge 11, 3) := by decide +kernel
theorem dX6_apart_128 : decode cX6_apart 128 = .ok (.iload 6, 2) := by decide +kernel
theorem dX6_apart_130 : decode cX6_apart 130 = .ok (.istore 4, 2) := by decide +kernel
theorem dX6_apart_132 : decode cX6_apart 132 = .ok (.iload 7, 2) := by decide +kernel
theorem dX6_apart_134 : decode cX6_apart 134 = .ok (.istore 5, 2) := by decide +kernel
theorem dX6_apart_136 : decode cX6_apart 136 = .ok (.iinc 6 1, 3) := by decide +kernel
theorem dX6_apart_139 : decode cX6_apart 139 = .ok (.goto (-68), 3) := by decide +kernel
theorem dX6_apart_142 : decode cX6_apart 142 = .ok (.iload_n 3, 1) := by decide +kernel
theorem dX6_apart_143 : decode cX6_apart 143 = .ok (.ifCond .ne 8, 3) := by decide +kernel
theorem dX6_apart_146 : decode cX6_apart 146 = .ok (.iload 4, 2) := by decide +kernel
theorem dX6_apart_148 : decode cX6_apart 148 = .ok (.goto 5, 3) := by decide +kernel
theorem dX6_apart_151 : decode cX6_apart 151 = .ok (.iload 5, 2) := by decide +kernel
theorem dX6_apart_153 : decode cX6_apart 153 = .ok (.ireturn, 1) := by decide +kernel
theorem dX6_hear_0 : decode cX6_hear 0 = .ok (.iload_n 1, 1) := by decide +kernel
theorem dX6_hear_1 : decode cX6_hear 1 = .ok (.iconst 0, 1) := by decide +kernel
theorem dX6_hear_2 : decode cX6_hear 2 = .ok (.iconst 5, 1) := by decide +kernel
theorem dX6_hear_3 : decode cX6_hear 3 = .ok (.invokestatic 73, 3) := by decide +kernel
theorem dX6_hear_6 : decode cX6_hear 6 = .ok (.ifCond .ne 11, 3) := by decide +kernel
theorem dX6_hear_9 : decode cX6_hear 9 = .ok (.iload_n 1, 1) := by decide +kernel
theorem dX6_hear_10 : decode cX6_hear 10 = .ok (.bipush 9, 2) := by decide +kernel
theorem dX6_hear_12 : decode cX6_hear 12 = .ok (.if_icmp .eq 5, 3) := by decide +kernel
theorem dX6_hear_15 : decode cX6_hear 15 = .ok (.iconst (-1), 1) := by decide +kernel
theorem dX6_hear_16 : decode cX6_hear 16 = .ok (.ireturn, 1) := by decide +kernel
theorem dX6_hear_17 : decode cX6_hear 17 = .ok (.aload_n 0, 1) := by decide +kernel
theorem dX6_hear_18 : decode cX6_hear 18 = .ok (.getfield 29, 3) := by decide +kernel
theorem dX6_hear_21 : decode cX6_hear 21 = .ok (.getfield 95, 3) := by decide +kernel
theorem dX6_hear_24 : decode cX6_hear 24 = .ok (.iload_n 1, 1) := by decide +kernel
theorem dX6_hear_25 : decode cX6_hear 25 = .ok (.invokevirtual 186, 3) := by decide +kernel
theorem dX6_hear_28 : decode cX6_hear 28 = .ok (.ifCond .eq 16, 3) := by decide +kernel
theorem dX6_hear_31 : decode cX6_hear 31 = .ok (.aload_n 0, 1) := by decide +kernel
theorem dX6_hear_32 : decode cX6_hear 32 = .ok (.getfield 29, 3) := by decide +kernel
theorem dX6_hear_35 : decode cX6_hear 35 = .ok (.getfield 95, 3) := by decide +kernel
theorem dX6_hear_38 : decode cX6_hear 38 = .ok (.getfield 189, 3) := by decide +kernel
theorem dX6_hear_41 : decode cX6_hear 41 = .ok (.goto 5, 3) := by decide +kernel
theorem dX6_hear_44 : decode cX6_hear 44 = .ok (.bipush (-3), 2) := by decide +kernel
theorem dX6_hear_46 : decode cX6_hear 46 = .ok (.ireturn, 1) := by decide +kernel
theorem dX6_forget_0 : decode cX6_forget 0 = .ok (.aload_n 0, 1) := by decide +kernel
theorem dX6_forget_1 : decode cX6_forget 1 = .ok (.getfield 29, 3) := by decide +kernel
theorem dX6_forget_4 : decode cX6_forget 4 = .ok (.getfield 95, 3) := by decide +kernel
theorem dX6_forget_7 : decode cX6_forget 7 = .ok (.getfield 189, 3) := by decide +kernel
theorem dX6_forget_10 : decode cX6_forget 10 = .ok (.istore_n 1, 1) := by decide +kernel
theorem dX6_forget_11 : decode cX6_forget 11 = .ok (.aload_n 0, 1) := by decide +kernel
theorem dX6_forget_12 : decode cX6_forget 12 = .ok (.getfield 29, 3) := by decide +kernel
theorem dX6_forget_15 : decode cX6_forget 15 = .ok (.getfield 95, 3) := by decide +kernel
theorem dX6_forget_18 : decode cX6_forget 18 = .ok (.invokevirtual 99, 3) := by decide +kernel
theorem dX6_forget_21 : decode cX6_forget 21 = .ok (.iload_n 1, 1) := by decide +kernel
theorem dX6_forget_22 : decode cX6_forget 22 = .ok (.ireturn, 1) := by decide +kernel
theorem dX6_odds_0 : decode cX6_odds 0 = .ok (.aload_n 0, 1) := by decide +kernel
theorem dX6_odds_1 : decode cX6_odds 1 = .ok (.getfield 29, 3) := by decide +kernel
theorem dX6_odds_4 : decode cX6_odds 4 = .ok (.getfield 65, 3) := by decide +kernel
theorem dX6_odds_7 : decode cX6_odds 7 = .ok (.iload_n 1, 1) := by decide +kernel
theorem dX6_odds_8 : decode cX6_odds 8 = .ok (.invokevirtual 104, 3) := by decide +kernel
theorem dX6_odds_11 : decode cX6_odds 11 = .ok (.ifCond .eq 12, 3) := by decide +kernel
theorem dX6_odds_14 : decode cX6_odds 14 = .ok (.iload_n 2, 1) := by decide +kernel
theorem dX6_odds_15 : decode cX6_odds 15 = .ok (.iconst 0, 1) := by decide +kernel
theorem dX6_odds_16 : decode cX6_odds 16 = .ok (.iconst 1, 1) := by decide +kernel
theorem dX6_odds_17 : decode cX6_odds 17 = .ok (.invokestatic 73, 3) := by decide +kernel
theorem dX6_odds_20 : decode cX6_odds 20 = .ok (.ifCond .ne 7, 3) := by decide +kernel
theorem dX6_odds_23 : decode cX6_odds 23 = .ok (.ldc2_w 192, 3) := by decide +kernel
theorem dX6_odds_26 : decode cX6_odds 26 = .ok (.lreturn, 1) := by decide +kernel
theorem dX6_odds_27 : decode cX6_odds 27 = .ok (.lconst 0, 1) := by decide +kernel
theorem dX6_odds_28 : decode cX6_odds 28 = .ok (.lstore_n 3, 1) := by decide +kernel
theorem dX6_odds_29 : decode cX6_odds 29 = .ok (.iconst 0, 1) := by decide +kernel
theorem dX6_odds_30 : decode cX6_odds 30 = .ok (.istore 5, 2) := by decide +kernel
theorem dX6_odds_32 : decode cX6_odds 32 = .ok (.iload 5, 2) := by decide +kernel
theorem dX6_odds_34 : decode cX6_odds 34 = .ok (.aload_n 0, 1) := by decide +kernel
theorem dX6_odds_35 : decode cX6_odds 35 = .ok (.getfield 29, 3) := by decide +kernel
theorem dX6_odds_38 : decode cX6_odds 38 = .ok (.getfield 65, 3) := by decide +kernel
theorem dX6_odds_41 : decode cX6_odds 41 = .ok (.getfield 92, 3) := by decide +kernel
theorem dX6_odds_44 : decode cX6_odds 44 = .ok (.if_icmp .ge 18, 3) := by decide +kernel
theorem dX6_odds_47 : decode cX6_odds 47 = .ok (.lload_n 3, 1) := by decide +kernel
theorem dX6_odds_48 : decode cX6_odds 48 = .ok (.aload_n 0, 1) := by decide +kernel
theorem dX6_odds_49 : decode cX6_odds 49 = .ok (.iload 5, 2) := by decide +kernel
theorem dX6_odds_51 : decode cX6_odds 51 = .ok (.invokevirtual 194, 3) := by decide +kernel
theorem dX6_odds_54 : decode cX6_odds 54 = .ok (.ladd, 1) := by decide +kernel
theorem dX6_odds_55 : decode cX6_odds 55 = .ok (.lstore_n 3, 1) := by decide +kernel
theorem dX6_odds_56 : decode cX6_odds 56 = .ok (.iinc 5 1, 3) := by decide +kernel
theorem dX6_odds_59 : decode cX6_odds 59 = .ok (.goto (-27), 3) := by decide +kernel
theorem dX6_odds_62 : decode cX6_odds 62 = .ok (.aload_n 0, 1) := by decide +kernel
theorem dX6_odds_63 : decode cX6_odds 63 = .ok (.iload_n 1, 1) := by decide +kernel
theorem dX6_odds_64 : decode cX6_odds 64 = .ok (.invokevirtual 194, 3) := by decide +kernel
theorem dX6_odds_67 : decode cX6_odds 67 = .ok (.lstore 5, 2) := by decide +kernel
theorem dX6_odds_69 : decode cX6_odds 69 = .ok (.lload_n 3, 1) := by decide +kernel
theorem dX6_odds_70 : decode cX6_odds 70 = .ok (.lload 5, 2) := by decide +kernel
theorem dX6_odds_72 : decode cX6_odds 72 = .ok (.invokestatic 198, 3) := by decide +kernel
theorem dX6_odds_75 : decode cX6_odds 75 = .ok (.lstore 7, 2) := by decide +kernel
theorem dX6_odds_77 : decode cX6_odds 77 = .ok (.lload_n 3, 1) := by decide +kernel
theorem dX6_odds_78 : decode cX6_odds 78 = .ok (.lconst 1, 1) := by decide +kernel
theorem dX6_odds_79 : decode cX6_odds 79 = .ok (.lcmp, 1) := by decide +kernel
theorem dX6_odds_80 : decode cX6_odds 80 = .ok (.ifCond .lt 10, 3) := by decide +kernel
theorem dX6_odds_83 : decode cX6_odds 83 = .ok (.lload 7, 2) := by decide +kernel
theorem dX6_odds_85 : decode cX6_odds 85 = .ok (.lconst 1, 1) := by decide +kernel
theorem dX6_odds_86 : decode cX6_odds 86 = .ok (.lcmp, 1) := by decide +kernel
theorem dX6_odds_87 : decode cX6_odds 87 = .ok (.ifCond .ge 7, 3) := by decide +kernel
theorem dX6_odds_90 : decode cX6_odds 90 = .ok (.ldc2_w 202, 3) := by decide +kernel
theorem dX6_odds_93 : decode cX6_odds 93 = .ok (.lreturn, 1) := by decide +kernel
theorem dX6_odds_94 : decode cX6_odds 94 = .ok (.iload_n 2, 1) := by decide +kernel
theorem dX6_odds_95 : decode cX6_odds 95 = .ok (.ifCond .ne 11, 3) := by decide +kernel
theorem dX6_odds_98 : decode cX6_odds 98 = .ok (.lload 5, 2) := by decide +kernel
theorem dX6_odds_100 : decode cX6_odds 100 = .ok (.lload 7, 2) := by decide +kernel
theorem dX6_odds_102 : decode cX6_odds 102 = .ok (.ldiv, 1) := by decide +kernel
theorem dX6_odds_103 : decode cX6_odds 103 = .ok (.goto 7, 3) := by decide +kernel
theorem dX6_odds_106 : decode cX6_odds 106 = .ok (.lload_n 3, 1) := by decide +kernel
theorem dX6_odds_107 : decode cX6_odds 107 = .ok (.lload 7, 2) := by decide +kernel
theorem dX6_odds_109 : decode cX6_odds 109 = .ok (.ldiv, 1) := by decide +kernel
theorem dX6_odds_110 : decode cX6_odds 110 = .ok (.lreturn, 1) := by decide +kernel
theorem dX6_meant_0 : decode cX6_meant 0 = .ok (.bipush (-4), 2) := by decide +kernel
theorem dX6_meant_2 : decode cX6_meant 2 = .ok (.istore_n 1, 1) := by decide +kernel
theorem dX6_meant_3 : decode cX6_meant 3 = .ok (.lconst 0, 1) := by decide +kernel
theorem dX6_meant_4 : decode cX6_meant 4 = .ok (.lstore_n 2, 1) := by decide +kernel
theorem dX6_meant_5 : decode cX6_meant 5 = .ok (.iconst 0, 1) := by decide +kernel
theorem dX6_meant_6 : decode cX6_meant 6 = .ok (.istore 4, 2) := by decide +kernel
theorem dX6_meant_8 : decode cX6_meant 8 = .ok (.iload 4, 2) := by decide +kernel
theorem dX6_meant_10 : decode cX6_meant 10 = .ok (.aload_n 0, 1) := by decide +kernel
theorem dX6_meant_11 : decode cX6_meant 11 = .ok (.getfield 29, 3) := by decide +kernel
theorem dX6_meant_14 : decode cX6_meant 14 = .ok (.getfield 65, 3) := by decide +kernel
theorem dX6_meant_17 : decode cX6_meant 17 = .ok (.getfield 92, 3) := by decide +kernel
theorem dX6_meant_20 : decode cX6_meant 20 = .ok (.if_icmp .ge 30, 3) := by decide +kernel
theorem dX6_meant_23 : decode cX6_meant 23 = .ok (.aload_n 0, 1) := by decide +kernel
theorem dX6_meant_24 : decode cX6_meant 24 = .ok (.iload 4, 2) := by decide +kernel
theorem dX6_meant_26 : decode cX6_meant 26 = .ok (.invokevirtual 194, 3) := by decide +kernel
theorem dX6_meant_29 : decode cX6_meant 29 = .ok (.lstore 5, 2) := by decide +kernel
theorem dX6_meant_31 : decode cX6_meant 31 = .ok (.lload 5, 2) := by decide +kernel
theorem dX6_meant_33 : decode cX6_meant 33 = .ok (.lload_n 2, 1) := by decide +kernel
theorem dX6_meant_34 : decode cX6_meant 34 = .ok (.lcmp, 1) := by decide +kernel
theorem dX6_meant_35 : decode cX6_meant 35 = .ok (.ifCond .le 9, 3) := by decide +kernel
theorem dX6_meant_38 : decode cX6_meant 38 = .ok (.iload 4, 2) := by decide +kernel
theorem dX6_meant_40 : decode cX6_meant 40 = .ok (.istore_n 1, 1) := by decide +kernel
theorem dX6_meant_41 : decode cX6_meant 41 = .ok (.lload 5, 2) := by decide +kernel
theorem dX6_meant_43 : decode cX6_meant 43 = .ok (.lstore_n 2, 1) := by decide +kernel
theorem dX6_meant_44 : decode cX6_meant 44 = .ok (.iinc 4 1, 3) := by decide +kernel
theorem dX6_meant_47 : decode cX6_meant 47 = .ok (.goto (-39), 3) := by decide +kernel
theorem dX6_meant_50 : decode cX6_meant 50 = .ok (.iload_n 1, 1) := by decide +kernel
theorem dX6_meant_51 : decode cX6_meant 51 = .ok (.ireturn, 1) := by decide +kernel
theorem dX6_years_0 : decode cX6_years 0 = .ok (.iload_n 1, 1) := by decide +kernel
theorem dX6_years_1 : decode cX6_years 1 = .ok (.iload_n 2, 1) := by decide +kernel
theorem dX6_years_2 : decode cX6_years 2 = .ok (.invokestatic 204, 3) := by decide +kernel
theorem dX6_years_5 : decode cX6_years 5 = .ok (.ifCond .eq 12, 3) := by decide +kernel
theorem dX6_years_8 : decode cX6_years 8 = .ok (.iload_n 3, 1) := by decide +kernel
theorem dX6_years_9 : decode cX6_years 9 = .ok (.iconst 0, 1) := by decide +kernel
theorem dX6_years_10 : decode cX6_years 10 = .ok (.iconst 2, 1) := by decide +kernel
theorem dX6_years_11 : decode cX6_years 11 = .ok (.invokestatic 73, 3) := by decide +kernel
theorem dX6_years_14 : decode cX6_years 14 = .ok (.ifCond .ne 5, 3) := by decide +kernel
theorem dX6_years_17 : decode cX6_years 17 = .ok (.iconst (-1), 1) := by decide +kernel
theorem dX6_years_18 : decode cX6_years 18 = .ok (.ireturn, 1) := by decide +kernel
theorem dX6_years_19 : decode cX6_years 19 = .ok (.aload_n 0, 1) := by decide +kernel
theorem dX6_years_20 : decode cX6_years 20 = .ok (.getfield 19, 3) := by decide +kernel
theorem dX6_years_23 : decode cX6_years 23 = .ok (.aload_n 0, 1) := by decide +kernel
theorem dX6_years_24 : decode cX6_years 24 = .ok (.getfield 53, 3) := by decide +kernel
theorem dX6_years_27 : decode cX6_years 27 = .ok (.aload_n 0, 1) := by decide +kernel
theorem dX6_years_28 : decode cX6_years 28 = .ok (.getfield 29, 3) := by decide +kernel
theorem dX6_years_31 : decode cX6_years 31 = .ok (.getfield 65, 3) := by decide +kernel
theorem dX6_years_34 : decode cX6_years 34 = .ok (.iload_n 1, 1) := by decide +kernel
theorem dX6_years_35 : decode cX6_years 35 = .ok (.iload_n 2, 1) := by decide +kernel
theorem dX6_years_36 : decode cX6_years 36 = .ok (.invokevirtual 207, 3) := by decide +kernel
theorem dX6_years_39 : decode cX6_years 39 = .ok (.iload_n 3, 1) := by decide +kernel
theorem dX6_years_40 : decode cX6_years 40 = .ok (.lookupswitch 63 #[(0, 28), (1, 55)], 28) := by decide +kernel
theorem dX6_years_68 : decode cX6_years 68 = .ok (.aload_n 0, 1) := by decide +kernel
theorem dX6_years_69 : decode cX6_years 69 = .ok (.getfield 46, 3) := by decide +kernel
theorem dX6_years_72 : decode cX6_years 72 = .ok (.aload_n 0, 1) := by decide +kernel
theorem dX6_years_73 : decode cX6_years 73 = .ok (.getfield 19, 3) := by decide +kernel
theorem dX6_years_76 : decode cX6_years 76 = .ok (.aload_n 0, 1) := by decide +kernel
theorem dX6_years_77 : decode cX6_years 77 = .ok (.getfield 53, 3) := by decide +kernel
theorem dX6_years_80 : decode cX6_years 80 = .ok (.invokevirtual 141, 3) := by decide +kernel
theorem dX6_years_83 : decode cX6_years 83 = .ok (.aload_n 0, 1) := by decide +kernel
theorem dX6_years_84 : decode cX6_years 84 = .ok (.getfield 46, 3) := by decide +kernel
theorem dX6_years_87 : decode cX6_years 87 = .ok (.aload_n 0, 1) := by decide +kernel
theorem dX6_years_88 : decode cX6_years 88 = .ok (.invokevirtual 211, 3) := by decide +kernel
theorem dX6_years_91 : decode cX6_years 91 = .ok (.invokevirtual 145, 3) := by decide +kernel
theorem dX6_years_94 : decode cX6_years 94 = .ok (.ireturn, 1) := by decide +kernel
theorem dX6_years_95 : decode cX6_years 95 = .ok (.aload_n 0, 1) := by decide +kernel
theorem dX6_years_96 : decode cX6_years 96 = .ok (.getfield 53, 3) := by decide +kernel
theorem dX6_years_99 : decode cX6_years 99 = .ok (.invokevirtual 215, 3) := by decide +kernel
theorem dX6_years_102 : decode cX6_years 102 = .ok (.ireturn, 1) := by decide +kernel
theorem dX6_years_103 : decode cX6_years 103 = .ok (.aload_n 0, 1) := by decide +kernel
theorem dX6_years_104 : decode cX6_years 104 = .ok (.getfield 53, 3) := by decide +kernel
theorem dX6_years_107 : decode cX6_years 107 = .ok (.aload_n 0, 1) := by decide +kernel
theorem dX6_years_108 : decode cX6_years 108 = .ok (.invokevirtual 211, 3) := by decide +kernel
theorem dX6_years_111 : decode cX6_years 111 = .ok (.invokevirtual 218, 3) := by decide +kernel
theorem dX6_years_114 : decode cX6_years 114 = .ok (.ireturn, 1) := by decide +kernel
theorem dX6_then_0 : decode cX6_then 0 = .ok (.iload_n 1, 1) := by decide +kernel
theorem dX6_then_1 : decode cX6_then 1 = .ok (.iload_n 2, 1) := by decide +kernel
theorem dX6_then_2 : decode cX6_then 2 = .ok (.invokestatic 204, 3) := by decide +kernel
theorem dX6_then_5 : decode cX6_then 5 = .ok (.ifCond .eq 28, 3) := by decide +kernel
theorem dX6_then_8 : decode cX6_then 8 = .ok (.aload_n 0, 1) := by decide +kernel
theorem dX6_then_9 : decode cX6_then 9 = .ok (.getfield 29, 3) := by decide +kernel
theorem dX6_then_12 : decode cX6_then 12 = .ok (.getfield 65, 3) := by decide +kernel
theorem dX6_then_15 : decode cX6_then 15 = .ok (.iload_n 3, 1) := by decide +kernel
theorem dX6_then_16 : decode cX6_then 16 = .ok (.invokevirtual 104, 3) := by decide +kernel
theorem dX6_then_19 : decode cX6_then 19 = .ok (.ifCond .eq 14, 3) := by decide +kernel
theorem dX6_then_22 : decode cX6_then 22 = .ok (.iload 4, 2) := by decide +kernel
theorem dX6_then_24 : decode cX6_then 24 = .ok (.iconst 0, 1) := by decide +kernel
theorem dX6_then_25 : decode cX6_then 25 = .ok (.bipush 9, 2) := by decide +kernel
theorem dX6_then_27 : decode cX6_then 27 = .ok (.invokestatic 73, 3) := by decide +kernel
theorem dX6_then_30 : decode cX6_then 30 = .ok (.ifCond .ne 5, 3) := by decide +kernel
theorem dX6_then_33 : decode cX6_then 33 = .ok (.iconst (-1), 1) := by decide +kernel
theorem dX6_then_34 : decode cX6_then 34 = .ok (.ireturn, 1) := by decide +kernel
theorem dX6_then_35 : decode cX6_then 35 = .ok (.aload_n 0, 1) := by decide +kernel
theorem dX6_then_36 : decode cX6_then 36 = .ok (.getfield 19, 3) := by decide +kernel
theorem dX6_then_39 : decode cX6_then 39 = .ok (.aload_n 0, 1) := by decide +kernel
theorem dX6_then_40 : decode cX6_then 40 = .ok (.getfield 53, 3) := by decide +kernel
theorem dX6_then_43 : decode cX6_then 43 = .ok (.aload_n 0, 1) := by decide +kernel
theorem dX6_then_44 : decode cX6_then 44 = .ok (.getfield 29, 3) := by decide +kernel
theorem dX6_then_47 : decode cX6_then 47 = .ok (.getfield 65, 3) := by decide +kernel
theorem dX6_then_50 : decode cX6_then 50 = .ok (.iload_n 1, 1) := by decide +kernel
theorem dX6_then_51 : decode cX6_then 51 = .ok (.iload_n 2, 1) := by decide +kernel
theorem dX6_then_52 : decode cX6_then 52 = .ok (.invokevirtual 207, 3) := by decide +kernel
theorem dX6_then_55 : decode cX6_then 55 = .ok (.aload_n 0, 1) := by decide +kernel
theorem dX6_then_56 : decode cX6_then 56 = .ok (.getfield 53, 3) := by decide +kernel
theorem dX6_then_59 : decode cX6_then 59 = .ok (.iload_n 3, 1) := by decide +kernel
theorem dX6_then_60 : decode cX6_then 60 = .ok (.iload 4, 2) := by decide +kernel
theorem dX6_then_62 : decode cX6_then 62 = .ok (.invokevirtual 221, 3) := by decide +kernel
theorem dX6_then_65 : decode cX6_then 65 = .ok (.ireturn, 1) := by decide +kernel
theorem dX6_keep_0 : decode cX6_keep 0 = .ok (.aload_n 0, 1) := by decide +kernel
theorem dX6_keep_1 : decode cX6_keep 1 = .ok (.getfield 39, 3) := by decide +kernel
theorem dX6_keep_4 : decode cX6_keep 4 = .ok (.iconst 2, 1) := by decide +kernel
theorem dX6_keep_5 : decode cX6_keep 5 = .ok (.if_icmp .lt 6, 3) := by decide +kernel
theorem dX6_keep_8 : decode cX6_keep 8 = .ok (.bipush (-3), 2) := by decide +kernel
theorem dX6_keep_10 : decode cX6_keep 10 = .ok (.ireturn, 1) := by decide +kernel
theorem dX6_keep_11 : decode cX6_keep 11 = .ok (.aload_n 0, 1) := by decide +kernel
theorem dX6_keep_12 : decode cX6_keep 12 = .ok (.aload_n 0, 1) := by decide +kernel
theorem dX6_keep_13 : decode cX6_keep 13 = .ok (.getfield 39, 3) := by decide +kernel
theorem dX6_keep_16 : decode cX6_keep 16 = .ok (.invokevirtual 224, 3) := by decide +kernel
theorem dX6_keep_19 : decode cX6_keep 19 = .ok (.aload_n 0, 1) := by decide +kernel
theorem dX6_keep_20 : decode cX6_keep 20 = .ok (.getfield 29, 3) := by decide +kernel
theorem dX6_keep_23 : decode cX6_keep 23 = .ok (.invokevirtual 228, 3) := by decide +kernel
theorem dX6_keep_26 : decode cX6_keep 26 = .ok (.aload_n 0, 1) := by decide +kernel
theorem dX6_keep_27 : decode cX6_keep 27 = .ok (.dup, 1) := by decide +kernel
theorem dX6_keep_28 : decode cX6_keep 28 = .ok (.getfield 39, 3) := by decide +kernel
theorem dX6_keep_31 : decode cX6_keep 31 = .ok (.iconst 1, 1) := by decide +kernel
theorem dX6_keep_32 : decode cX6_keep 32 = .ok (.iadd, 1) := by decide +kernel
theorem dX6_keep_33 : decode cX6_keep 33 = .ok (.putfield 39, 3) := by decide +kernel
theorem dX6_keep_36 : decode cX6_keep 36 = .ok (.aload_n 0, 1) := by decide +kernel
theorem dX6_keep_37 : decode cX6_keep 37 = .ok (.getfield 39, 3) := by decide +kernel
theorem dX6_keep_40 : decode cX6_keep 40 = .ok (.ireturn, 1) := by decide +kernel
theorem dX6_back_0 : decode cX6_back 0 = .ok (.aload_n 0, 1) := by decide +kernel
theorem dX6_back_1 : decode cX6_back 1 = .ok (.getfield 39, 3) := by decide +kernel
theorem dX6_back_4 : decode cX6_back 4 = .ok (.iconst 1, 1) := by decide +kernel
theorem dX6_back_5 : decode cX6_back 5 = .ok (.if_icmp .ge 6, 3) := by decide +kernel
theorem dX6_back_8 : decode cX6_back 8 = .ok (.bipush (-2), 2) := by decide +kernel
theorem dX6_back_10 : decode cX6_back 10 = .ok (.ireturn, 1) := by decide +kernel
theorem dX6_back_11 : decode cX6_back 11 = .ok (.aload_n 0, 1) := by decide +kernel
theorem dX6_back_12 : decode cX6_back 12 = .ok (.dup, 1) := by decide +kernel
theorem dX6_back_13 : decode cX6_back 13 = .ok (.getfield 39, 3) := by decide +kernel
theorem dX6_back_16 : decode cX6_back 16 = .ok (.iconst 1, 1) := by decide +kernel
theorem dX6_back_17 : decode cX6_back 17 = .ok (.isub, 1) := by decide +kernel
theorem dX6_back_18 : decode cX6_back 18 = .ok (.putfield 39, 3) := by decide +kernel
theorem dX6_back_21 : decode cX6_back 21 = .ok (.aload_n 0, 1) := by decide +kernel
theorem dX6_back_22 : decode cX6_back 22 = .ok (.getfield 29, 3) := by decide +kernel
theorem dX6_back_25 : decode cX6_back 25 = .ok (.aload_n 0, 1) := by decide +kernel
theorem dX6_back_26 : decode cX6_back 26 = .ok (.aload_n 0, 1) := by decide +kernel
theorem dX6_back_27 : decode cX6_back 27 = .ok (.getfield 39, 3) := by decide +kernel
theorem dX6_back_30 : decode cX6_back 30 = .ok (.invokevirtual 224, 3) := by decide +kernel
theorem dX6_back_33 : decode cX6_back 33 = .ok (.invokevirtual 228, 3) := by decide +kernel
theorem dX6_back_36 : decode cX6_back 36 = .ok (.aload_n 0, 1) := by decide +kernel
theorem dX6_back_37 : decode cX6_back 37 = .ok (.getfield 39, 3) := by decide +kernel
theorem dX6_back_40 : decode cX6_back 40 = .ok (.ireturn, 1) := by decide +kernel
theorem dX6_count_0 : decode cX6_count 0 = .ok (.iload_n 1, 1) := by decide +kernel
theorem dX6_count_1 : decode cX6_count 1 = .ok (.tableswitch 102 0 6 #[43, 54, 65, 73, 78, 86, 94], 43) := by decide +kernel
theorem dX6_count_44 : decode cX6_count 44 = .ok (.aload_n 0, 1) := by decide +kernel
theorem dX6_count_45 : decode cX6_count 45 = .ok (.getfield 29, 3) := by decide +kernel
theorem dX6_count_48 : decode cX6_count 48 = .ok (.getfield 65, 3) := by decide +kernel
theorem dX6_count_51 : decode cX6_count 51 = .ok (.getfield 92, 3) := by decide +kernel
theorem dX6_count_54 : decode cX6_count 54 = .ok (.ireturn, 1) := by decide +kernel
theorem dX6_count_55 : decode cX6_count 55 = .ok (.aload_n 0, 1) := by decide +kernel
theorem dX6_count_56 : decode cX6_count 56 = .ok (.getfield 29, 3) := by decide +kernel
theorem dX6_count_59 : decode cX6_count 59 = .ok (.getfield 95, 3) := by decide +kernel
theorem dX6_count_62 : decode cX6_count 62 = .ok (.getfield 189, 3) := by decide +kernel
theorem dX6_count_65 : decode cX6_count 65 = .ok (.ireturn, 1) := by decide +kernel
theorem dX6_count_66 : decode cX6_count 66 = .ok (.aload_n 0, 1) := by decide +kernel
theorem dX6_count_67 : decode cX6_count 67 = .ok (.getfield 10, 3) := by decide +kernel
theorem dX6_count_70 : decode cX6_count 70 = .ok (.getfield 85, 3) := by decide +kernel
theorem dX6_count_73 : decode cX6_count 73 = .ok (.ireturn, 1) := by decide +kernel
theorem dX6_count_74 : decode cX6_count 74 = .ok (.aload_n 0, 1) := by decide +kernel
theorem dX6_count_75 : decode cX6_count 75 = .ok (.getfield 39, 3) := by decide +kernel
theorem dX6_count_78 : decode cX6_count 78 = .ok (.ireturn, 1) := by decide +kernel
theorem dX6_count_79 : decode cX6_count 79 = .ok (.aload_n 0, 1) := by decide +kernel
theorem dX6_count_80 : decode cX6_count 80 = .ok (.getfield 19, 3) := by decide +kernel
theorem dX6_count_83 : decode cX6_count 83 = .ok (.getfield 231, 3) := by decide +kernel
theorem dX6_count_86 : decode cX6_count 86 = .ok (.ireturn, 1) := by decide +kernel
theorem dX6_count_87 : decode cX6_count 87 = .ok (.aload_n 0, 1) := by decide +kernel
theorem dX6_count_88 : decode cX6_count 88 = .ok (.getfield 19, 3) := by decide +kernel
theorem dX6_count_91 : decode cX6_count 91 = .ok (.getfield 234, 3) := by decide +kernel
theorem dX6_count_94 : decode cX6_count 94 = .ok (.ireturn, 1) := by decide +kernel
theorem dX6_count_95 : decode cX6_count 95 = .ok (.aload_n 0, 1) := by decide +kernel
theorem dX6_count_96 : decode cX6_count 96 = .ok (.getfield 19, 3) := by decide +kernel
theorem dX6_count_99 : decode cX6_count 99 = .ok (.getfield 237, 3) := by decide +kernel
theorem dX6_count_102 : decode cX6_count 102 = .ok (.ireturn, 1) := by decide +kernel
theorem dX6_count_103 : decode cX6_count 103 = .ok (.iconst (-1), 1) := by decide +kernel
theorem dX6_count_104 : decode cX6_count 104 = .ok (.ireturn, 1) := by decide +kernel
theorem dX6_within_0 : decode cX6_within 0 = .ok (.iload_n 0, 1) := by decide +kernel
theorem dX6_within_1 : decode cX6_within 1 = .ok (.iload_n 1, 1) := by decide +kernel
theorem dX6_within_2 : decode cX6_within 2 = .ok (.if_icmp .lt 12, 3) := by decide +kernel
theorem dX6_within_5 : decode cX6_within 5 = .ok (.iload_n 0, 1) := by decide +kernel
theorem dX6_within_6 : decode cX6_within 6 = .ok (.iload_n 2, 1) := by decide +kernel
theorem dX6_within_7 : decode cX6_within 7 = .ok (.if_icmp .gt 7, 3) := by decide +kernel
theorem dX6_within_10 : decode cX6_within 10 = .ok (.iconst 1, 1) := by decide +kernel
theorem dX6_within_11 : decode cX6_within 11 = .ok (.goto 4, 3) := by decide +kernel
theorem dX6_within_14 : decode cX6_within 14 = .ok (.iconst 0, 1) := by decide +kernel
theorem dX6_within_15 : decode cX6_within 15 = .ok (.ireturn, 1) := by decide +kernel
theorem dX6_isOf_0 : decode cX6_isOf 0 = .ok (.iload_n 0, 1) := by decide +kernel
theorem dX6_isOf_1 : decode cX6_isOf 1 = .ok (.iconst 0, 1) := by decide +kernel
theorem dX6_isOf_2 : decode cX6_isOf 2 = .ok (.bipush 7, 2) := by decide +kernel
theorem dX6_isOf_4 : decode cX6_isOf 4 = .ok (.invokestatic 73, 3) := by decide +kernel
theorem dX6_isOf_7 : decode cX6_isOf 7 = .ok (.ifCond .eq 15, 3) := by decide +kernel
theorem dX6_isOf_10 : decode cX6_isOf 10 = .ok (.iload_n 1, 1) := by decide +kernel
theorem dX6_isOf_11 : decode cX6_isOf 11 = .ok (.iconst 1, 1) := by decide +kernel
theorem dX6_isOf_12 : decode cX6_isOf 12 = .ok (.iload_n 0, 1) := by decide +kernel
theorem dX6_isOf_13 : decode cX6_isOf 13 = .ok (.ishl, 1) := by decide +kernel
theorem dX6_isOf_14 : decode cX6_isOf 14 = .ok (.iand, 1) := by decide +kernel
theorem dX6_isOf_15 : decode cX6_isOf 15 = .ok (.ifCond .eq 7, 3) := by decide +kernel
theorem dX6_isOf_18 : decode cX6_isOf 18 = .ok (.iconst 1, 1) := by decide +kernel
theorem dX6_isOf_19 : decode cX6_isOf 19 = .ok (.goto 4, 3) := by decide +kernel
theorem dX6_isOf_22 : decode cX6_isOf 22 = .ok (.iconst 0, 1) := by decide +kernel
theorem dX6_isOf_23 : decode cX6_isOf 23 = .ok (.ireturn, 1) := by decide +kernel
theorem dX6_isHillTime_0 : decode cX6_isHillTime 0 = .ok (.iload_n 0, 1) := by decide +kernel
theorem dX6_isHillTime_1 : decode cX6_isHillTime 1 = .ok (.iconst 0, 1) := by decide +kernel
theorem dX6_isHillTime_2 : decode cX6_isHillTime 2 = .ok (.sipush 9999, 3) := by decide +kernel
theorem dX6_isHillTime_5 : decode cX6_isHillTime 5 = .ok (.invokestatic 73, 3) := by decide +kernel
theorem dX6_isHillTime_8 : decode cX6_isHillTime 8 = .ok (.ifCond .eq 17, 3) := by decide +kernel
theorem dX6_isHillTime_11 : decode cX6_isHillTime 11 = .ok (.iload_n 1, 1) := by decide +kernel
theorem dX6_isHillTime_12 : decode cX6_isHillTime 12 = .ok (.iconst 0, 1) := by decide +kernel
theorem dX6_isHillTime_13 : decode cX6_isHillTime 13 = .ok (.bipush 60, 2) := by decide +kernel
theorem dX6_isHillTime_15 : decode cX6_isHillTime 15 = .ok (.invokestatic 73, 3) := by decide +kernel
theorem dX6_isHillTime_18 : decode cX6_isHillTime 18 = .ok (.ifCond .eq 7, 3) := by decide +kernel
theorem dX6_isHillTime_21 : decode cX6_isHillTime 21 = .ok (.iconst 1, 1) := by decide +kernel
theorem dX6_isHillTime_22 : decode cX6_isHillTime 22 = .ok (.goto 4, 3) := by decide +kernel
theorem dX6_isHillTime_25 : decode cX6_isHillTime 25 = .ok (.iconst 0, 1) := by decide +kernel
theorem dX6_isHillTime_26 : decode cX6_isHillTime 26 = .ok (.ireturn, 1) := by decide +kernel
theorem dX6_commonDivisor_0 : decode cX6_commonDivisor 0 = .ok (.iconst 0, 1) := by decide +kernel
theorem dX6_commonDivisor_1 : decode cX6_commonDivisor 1 = .ok (.istore 4, 2) := by decide +kernel
theorem dX6_commonDivisor_3 : decode cX6_commonDivisor 3 = .ok (.iload 4, 2) := by decide +kernel
theorem dX6_commonDivisor_5 : decode cX6_commonDivisor 5 = .ok (.bipush 100, 2) := by decide +kernel
theorem dX6_commonDivisor_7 : decode cX6_commonDivisor 7 = .ok (.if_icmp .ge 25, 3) := by decide +kernel
theorem dX6_commonDivisor_10 : decode cX6_commonDivisor 10 = .ok (.lload_n 2, 1) := by decide +kernel
theorem dX6_commonDivisor_11 : decode cX6_commonDivisor 11 = .ok (.lconst 0, 1) := by decide +kernel
theorem dX6_commonDivisor_12 : decode cX6_commonDivisor 12 = .ok (.lcmp, 1) := by decide +kernel
theorem dX6_commonDivisor_13 : decode cX6_commonDivisor 13 = .ok (.ifCond .eq 19, 3) := by decide +kernel
theorem dX6_commonDivisor_16 : decode cX6_commonDivisor 16 = .ok (.lload_n 0, 1) := by decide +kernel
theorem dX6_commonDivisor_17 : decode cX6_commonDivisor 17 = .ok (.lload_n 2, 1) := by decide +kernel
theorem dX6_commonDivisor_18 : decode cX6_commonDivisor 18 = .ok (.lrem, 1) := by decide +kernel
theorem dX6_commonDivisor_19 : decode cX6_commonDivisor 19 = .ok (.lstore 5, 2) := by decide +kernel
theorem dX6_commonDivisor_21 : decode cX6_commonDivisor 21 = .ok (.lload_n 2, 1) := by decide +kernel
theorem dX6_commonDivisor_22 : decode cX6_commonDivisor 22 = .ok (.lstore_n 0, 1) := by decide +kernel
theorem dX6_commonDivisor_23 : decode cX6_commonDivisor 23 = .ok (.lload 5, 2) := by decide +kernel
theorem dX6_commonDivisor_25 : decode cX6_commonDivisor 25 = .ok (.lstore_n 2, 1) := by decide +kernel
theorem dX6_commonDivisor_26 : decode cX6_commonDivisor 26 = .ok (.iinc 4 1, 3) := by decide +kernel
theorem dX6_commonDivisor_29 : decode cX6_commonDivisor 29 = .ok (.goto (-26), 3) := by decide +kernel
theorem dX6_commonDivisor_32 : decode cX6_commonDivisor 32 = .ok (.lload_n 0, 1) := by decide +kernel
theorem dX6_commonDivisor_33 : decode cX6_commonDivisor 33 = .ok (.lreturn, 1) := by decide +kernel
theorem dX6_everyone_0 : decode cX6_everyone 0 = .ok (.iconst 1, 1) := by decide +kernel
theorem dX6_everyone_1 : decode cX6_everyone 1 = .ok (.aload_n 0, 1) := by decide +kernel
theorem dX6_everyone_2 : decode cX6_everyone 2 = .ok (.getfield 29, 3) := by decide +kernel
theorem dX6_everyone_5 : decode cX6_everyone 5 = .ok (.getfield 65, 3) := by decide +kernel
theorem dX6_everyone_8 : decode cX6_everyone 8 = .ok (.getfield 92, 3) := by decide +kernel
theorem dX6_everyone_11 : decode cX6_everyone 11 = .ok (.ishl, 1) := by decide +kernel
theorem dX6_everyone_12 : decode cX6_everyone 12 = .ok (.iconst 1, 1) := by decide +kernel
theorem dX6_everyone_13 : decode cX6_everyone 13 = .ok (.isub, 1) := by decide +kernel
theorem dX6_everyone_14 : decode cX6_everyone 14 = .ok (.ireturn, 1) := by decide +kernel
theorem dX6_isSet_0 : decode cX6_isSet 0 = .ok (.iload_n 1, 1) := by decide +kernel
theorem dX6_isSet_1 : decode cX6_isSet 1 = .ok (.iconst 1, 1) := by decide +kernel
theorem dX6_isSet_2 : decode cX6_isSet 2 = .ok (.aload_n 0, 1) := by decide +kernel
theorem dX6_isSet_3 : decode cX6_isSet 3 = .ok (.invokevirtual 211, 3) := by decide +kernel
theorem dX6_isSet_6 : decode cX6_isSet 6 = .ok (.invokestatic 73, 3) := by decide +kernel
theorem dX6_isSet_9 : decode cX6_isSet 9 = .ok (.ireturn, 1) := by decide +kernel
theorem dX6_weightOf_0 : decode cX6_weightOf 0 = .ok (.aload_n 0, 1) := by decide +kernel
theorem dX6_weightOf_1 : decode cX6_weightOf 1 = .ok (.getfield 29, 3) := by decide +kernel
theorem dX6_weightOf_4 : decode cX6_weightOf 4 = .ok (.getfield 95, 3) := by decide +kernel
theorem dX6_weightOf_7 : decode cX6_weightOf 7 = .ok (.aload_n 0, 1) := by decide +kernel
theorem dX6_weightOf_8 : decode cX6_weightOf 8 = .ok (.getfield 29, 3) := by decide +kernel
theorem dX6_weightOf_11 : decode cX6_weightOf 11 = .ok (.getfield 65, 3) := by decide +kernel
theorem dX6_weightOf_14 : decode cX6_weightOf 14 = .ok (.iload_n 1, 1) := by decide +kernel
theorem dX6_weightOf_15 : decode cX6_weightOf 15 = .ok (.aload_n 0, 1) := by decide +kernel
theorem dX6_weightOf_16 : decode cX6_weightOf 16 = .ok (.getfield 19, 3) := by decide +kernel
theorem dX6_weightOf_19 : decode cX6_weightOf 19 = .ok (.getfield 237, 3) := by decide +kernel
theorem dX6_weightOf_22 : decode cX6_weightOf 22 = .ok (.invokevirtual 240, 3) := by decide +kernel
theorem dX6_weightOf_25 : decode cX6_weightOf 25 = .ok (.aload_n 0, 1) := by decide +kernel
theorem dX6_weightOf_26 : decode cX6_weightOf 26 = .ok (.getfield 19, 3) := by decide +kernel
theorem dX6_weightOf_29 : decode cX6_weightOf 29 = .ok (.iload_n 1, 1) := by decide +kernel
theorem dX6_weightOf_30 : decode cX6_weightOf 30 = .ok (.invokevirtual 114, 3) := by decide +kernel
theorem dX6_weightOf_33 : decode cX6_weightOf 33 = .ok (.iconst 1, 1) := by decide +kernel
theorem dX6_weightOf_34 : decode cX6_weightOf 34 = .ok (.iadd, 1) := by decide +kernel
theorem dX6_weightOf_35 : decode cX6_weightOf 35 = .ok (.i2l, 1) := by decide +kernel
theorem dX6_weightOf_36 : decode cX6_weightOf 36 = .ok (.lmul, 1) := by decide +kernel
theorem dX6_weightOf_37 : decode cX6_weightOf 37 = .ok (.lreturn, 1) := by decide +kernel
theorem dX6_keptPlace_0 : decode cX6_keptPlace 0 = .ok (.iload_n 1, 1) := by decide +kernel
theorem dX6_keptPlace_1 : decode cX6_keptPlace 1 = .ok (.ifCond .ne 10, 3) := by decide +kernel
theorem dX6_keptPlace_4 : decode cX6_keptPlace 4 = .ok (.aload_n 0, 1) := by decide +kernel
theorem dX6_keptPlace_5 : decode cX6_keptPlace 5 = .ok (.getfield 33, 3) := by decide +kernel
theorem dX6_keptPlace_8 : decode cX6_keptPlace 8 = .ok (.goto 7, 3) := by decide +kernel
theorem dX6_keptPlace_11 : decode cX6_keptPlace 11 = .ok (.aload_n 0, 1) := by decide +kernel
theorem dX6_keptPlace_12 : decode cX6_keptPlace 12 = .ok (.getfield 36, 3) := by decide +kernel
theorem dX6_keptPlace_15 : decode cX6_keptPlace 15 = .ok (.areturn, 1) := by decide +kernel
theorem dX7_init_0 : decode cX7_init 0 = .ok (.aload_n 0, 1) := by decide +kernel
theorem dX7_init_1 : decode cX7_init 1 = .ok (.invokespecial 1, 3) := by decide +kernel
theorem dX7_init_4 : decode cX7_init 4 = .ok (.aload_n 0, 1) := by decide +kernel
theorem dX7_init_5 : decode cX7_init 5 = .ok (.sipush 400, 3) := by decide +kernel
theorem dX7_init_8 : decode cX7_init 8 = .ok (.newarray .int, 2) := by decide +kernel
theorem dX7_init_10 : decode cX7_init 10 = .ok (.putfield 7, 3) := by decide +kernel
theorem dX7_init_13 : decode cX7_init 13 = .ok (.aload_n 0, 1) := by decide +kernel
theorem dX7_init_14 : decode cX7_init 14 = .ok (.iconst 2, 1) := by decide +kernel
theorem dX7_init_15 : decode cX7_init 15 = .ok (.newarray .int, 2) := by decide +kernel
theorem dX7_init_17 : decode cX7_init 17 = .ok (.putfield 13, 3) := by decide +kernel
theorem dX7_init_20 : decode cX7_init 20 = .ok (.aload_n 0, 1) := by decide +kernel
theorem dX7_init_21 : decode cX7_init 21 = .ok (.bipush 16, 2) := by decide +kernel
theorem dX7_init_23 : decode cX7_init 23 = .ok (.newarray .int, 2) := by decide +kernel
theorem dX7_init_25 : decode cX7_init 25 = .ok (.putfield 16, 3) := by decide +kernel
theorem dX7_init_28 : decode cX7_init 28 = .ok (.aload_n 0, 1) := by decide +kernel
theorem dX7_init_29 : decode cX7_init 29 = .ok (.bipush 16, 2) := by decide +kernel
theorem dX7_init_31 : decode cX7_init 31 = .ok (.newarray .int, 2) := by decide +kernel
theorem dX7_init_33 : decode cX7_init 33 = .ok (.putfield 19, 3) := by decide +kernel
theorem dX7_init_36 : decode cX7_init 36 = .ok (.aload_n 0, 1) := by decide +kernel
theorem dX7_init_37 : decode cX7_init 37 = .ok (.bipush 96, 2) := by decide +kernel
theorem dX7_init_39 : decode cX7_init 39 = .ok (.newarray .int, 2) := by decide +kernel
theorem dX7_init_41 : decode cX7_init 41 = .ok (.putfield 22, 3) := by decide +kernel
theorem dX7_init_44 : decode cX7_init 44 = .ok (.aload_n 0, 1) := by decide +kernel
theorem dX7_init_45 : decode cX7_init 45 = .ok (.bipush 16, 2) := by decide +kernel
theorem dX7_init_47 : decode cX7_init 47 = .ok (.newarray .int, 2) := by decide +kernel
theorem dX7_init_49 : decode cX7_init 49 = .ok (.putfield 25, 3) := by decide +kernel
theorem dX7_init_52 : decode cX7_init 52 = .ok (.aload_n 0, 1) := by decide +kernel
theorem dX7_init_53 : decode cX7_init 53 = .ok (.bipush 16, 2) := by decide +kernel
theorem dX7_init_55 : decode cX7_init 55 = .ok (.newarray .int, 2) := by decide +kernel
theorem dX7_init_57 : decode cX7_init 57 = .ok (.putfield 28, 3) := by decide +kernel
theorem dX7_init_60 : decode cX7_init 60 = .ok (.aload_n 0, 1) := by decide +kernel
theorem dX7_init_61 : decode cX7_init 61 = .ok (.bipush 12, 2) := by decide +kernel
theorem dX7_init_63 : decode cX7_init 63 = .ok (.newarray .int, 2) := by decide +kernel
theorem dX7_init_65 : decode cX7_init 65 = .ok (.putfield 31, 3) := by decide +kernel
theorem dX7_init_68 : decode cX7_init 68 = .ok (.aload_n 0, 1) := by decide +kernel
theorem dX7_init_69 : decode cX7_init 69 = .ok (.bipush 12, 2) := by decide +kernel
theorem dX7_init_71 : decode cX7_init 71 = .ok (.newarray .int, 2) := by decide +kernel
theorem dX7_init_73 : decode cX7_init 73 = .ok (.putfield 34, 3) := by decide +kernel
theorem dX7_init_76 : decode cX7_init 76 = .ok (.aload_n 0, 1) := by decide +kernel
theorem dX7_init_77 : decode cX7_init 77 = .ok (.bipush 12, 2) := by decide +kernel
theorem dX7_init_79 : decode cX7_init 79 = .ok (.newarray .int, 2) := by decide +kernel
theorem dX7_init_81 : decode cX7_init 81 = .ok (.putfield 37, 3) := by decide +kernel
theorem dX7_init_84 : decode cX7_init 84 = .ok (.aload_n 0, 1) := by decide +kernel
theorem dX7_init_85 : decode cX7_init 85 = .ok (.bipush 6, 2) := by decide +kernel
theorem dX7_init_87 : decode cX7_init 87 = .ok (.newarray .int, 2) := by decide +kernel
theorem dX7_init_89 : decode cX7_init 89 = .ok (.putfield 40, 3) := by decide +kernel
theorem dX7_init_92 : decode cX7_init 92 = .ok (.aload_n 0, 1) := by decide +kernel
theorem dX7_init_93 : decode cX7_init 93 = .ok (.bipush 32, 2) := by decide +kernel
theorem dX7_init_95 : decode cX7_init 95 = .ok (.newarray .int, 2) := by decide +kernel
theorem dX7_init_97 : decode cX7_init 97 = .ok (.putfield 43, 3) := by decide +kernel
theorem dX7_init_100 : decode cX7_init 100 = .ok (.aload_n 0, 1) := by decide +kernel
theorem dX7_init_101 : decode cX7_init 101 = .ok (.bipush 32, 2) := by decide +kernel
theorem dX7_init_103 : decode cX7_init 103 = .ok (.newarray .int, 2) := by decide +kernel
theorem dX7_init_105 : decode cX7_init 105 = .ok (.putfield 46, 3) := by decide +kernel
theorem dX7_init_108 : decode cX7_init 108 = .ok (.aload_n 0, 1) := by decide +kernel
theorem dX7_init_109 : decode cX7_init 109 = .ok (.sipush 320, 3) := by decide +kernel
theorem dX7_init_112 : decode cX7_init 112 = .ok (.newarray .int, 2) := by decide +kernel
theorem dX7_init_114 : decode cX7_init 114 = .ok (.putfield 49, 3) := by decide +kernel
theorem dX7_init_117 : decode cX7_init 117 = .ok (.aload_n 0, 1) := by decide +kernel
theorem dX7_init_118 : decode cX7_init 118 = .ok (.iconst 3, 1) := by decide +kernel
theorem dX7_init_119 : decode cX7_init 119 = .ok (.newarray .int, 2) := by decide +kernel
theorem dX7_init_121 : decode cX7_init 121 = .ok (.putfield 52, 3) := by decide +kernel
theorem dX7_init_124 : decode cX7_init 124 = .ok (.aload_n 0, 1) := by decide +kernel
theorem dX7_init_125 : decode cX7_init 125 = .ok (.bipush 36, 2) := by decide +kernel
theorem dX7_init_127 : decode cX7_init 127 = .ok (.newarray .int, 2) := by decide +kernel
theorem dX7_init_129 : decode cX7_init 129 = .ok (.putfield 55, 3) := by decide +kernel
theorem dX7_init_132 : decode cX7_init 132 = .ok (.aload_n 0, 1) := by decide +kernel
theorem dX7_init_133 : decode cX7_init 133 = .ok (.iconst 2, 1) := by decide +kernel
theorem dX7_init_134 : decode cX7_init 134 = .ok (.newarray .int, 2) := by decide +kernel
theorem dX7_init_136 : decode cX7_init 136 = .ok (.putfield 58, 3) := by decide +kernel
theorem dX7_init_139 : decode cX7_init 139 = .ok (.aload_n 0, 1) := by decide +kernel
theorem dX7_init_140 : decode cX7_init 140 = .ok (.sipush 160, 3) := by decide +kernel
theorem dX7_init_143 : decode cX7_init 143 = .ok (.newarray .int, 2) := by decide +kernel
theorem dX7_init_145 : decode cX7_init 145 = .ok (.putfield 61, 3) := by decide +kernel
theorem dX7_init_148 : decode cX7_init 148 = .ok (.aload_n 0, 1) := by decide +kernel
theorem dX7_init_149 : decode cX7_init 149 = .ok (.bipush 8, 2) := by decide +kernel
theorem dX7_init_151 : decode cX7_init 151 = .ok (.newarray .int, 2) := by decide +kernel
theorem dX7_init_153 : decode cX7_init 153 = .ok (.putfield 64, 3) := by decide +kernel
theorem dX7_init_156 : decode cX7_init 156 = .ok (.aload_n 0, 1) := by decide +kernel
theorem dX7_init_157 : decode cX7_init 157 = .ok (.bipush 8, 2) := by decide +kernel
theorem dX7_init_159 : decode cX7_init 159 = .ok (.newarray .int, 2) := by decide +kernel
theorem dX7_init_161 : decode cX7_init 161 = .ok (.putfield 67, 3) := by decide +kernel
theorem dX7_init_164 : decode cX7_init 164 = .ok (.aload_n 0, 1) := by decide +kernel
theorem dX7_init_165 : decode cX7_init 165 = .ok (.sipush 256, 3) := by decide +kernel
theorem dX7_init_168 : decode cX7_init 168 = .ok (.newarray .int, 2) := by decide +kernel
theorem dX7_init_170 : decode cX7_init 170 = .ok (.putfield 70, 3) := by decide +kernel
theorem dX7_init_173 : decode cX7_init 173 = .ok (.aload_n 0, 1) := by decide +kernel
theorem dX7_init_174 : decode cX7_init 174 = .ok (.sipush 256, 3) := by decide +kernel
theorem dX7_init_177 : decode cX7_init 177 = .ok (.newarray .int, 2) := by decide +kernel
theorem dX7_init_179 : decode cX7_init 179 = .ok (.putfield 73, 3) := by decide +kernel
theorem dX7_init_182 : decode cX7_init 182 = .ok (.aload_n 0, 1) := by decide +kernel
theorem dX7_init_183 : decode cX7_init 183 = .ok (.sipush 3328, 3) := by decide +kernel
theorem dX7_init_186 : decode cX7_init 186 = .ok (.newarray .int, 2) := by decide +kernel
theorem dX7_init_188 : decode cX7_init 188 = .ok (.putfield 76, 3) := by decide +kernel
theorem dX7_init_191 : decode cX7_init 191 = .ok (.aload_n 0, 1) := by decide +kernel
theorem dX7_init_192 : decode cX7_init 192 = .ok (.iconst 0, 1) := by decide +kernel
theorem dX7_init_193 : decode cX7_init 193 = .ok (.invokevirtual 79, 3) := by decide +kernel
theorem dX7_init_196 : decode cX7_init 196 = .ok (.aload_n 0, 1) := by decide +kernel
theorem dX7_init_197 : decode cX7_init 197 = .ok (.getfield 13, 3) := by decide +kernel
theorem dX7_init_200 : decode cX7_init 200 = .ok (.iconst 0, 1) := by decide +kernel
theorem dX7_init_201 : decode cX7_init 201 = .ok (.iconst 1, 1) := by decide +kernel
theorem dX7_init_202 : decode cX7_init 202 = .ok (.iastore, 1) := by decide +kernel
theorem dX7_init_203 : decode cX7_init 203 = .ok (.aload_n 0, 1) := by decide +kernel
theorem dX7_init_204 : decode cX7_init 204 = .ok (.getfield 19, 3) := by decide +kernel
theorem dX7_init_207 : decode cX7_init 207 = .ok (.iconst 0, 1) := by decide +kernel
theorem dX7_init_208 : decode cX7_init 208 = .ok (.iconst 2, 1) := by decide +kernel
theorem dX7_init_209 : decode cX7_init 209 = .ok (.iastore, 1) := by decide +kernel
theorem dX7_init_210 : decode cX7_init 210 = .ok (.aload_n 0, 1) := by decide +kernel
theorem dX7_init_211 : decode cX7_init 211 = .ok (.getfield 22, 3) := by decide +kernel
theorem dX7_init_214 : decode cX7_init 214 = .ok (.iconst 1, 1) := by decide +kernel
theorem dX7_init_215 : decode cX7_init 215 = .ok (.iconst 1, 1) := by decide +kernel
theorem dX7_init_216 : decode cX7_init 216 = .ok (.iastore, 1) := by decide +kernel
theorem dX7_init_217 : decode cX7_init 217 = .ok (.aload_n 0, 1) := by decide +kernel
theorem dX7_init_218 : decode cX7_init 218 = .ok (.getfield 25, 3) := by decide +kernel
theorem dX7_init_221 : decode cX7_init 221 = .ok (.iconst 0, 1) := by decide +kernel
theorem dX7_init_222 : decode cX7_init 222 = .ok (.iconst 5, 1) := by decide +kernel
theorem dX7_init_223 : decode cX7_init 223 = .ok (.iastore, 1) := by decide +kernel
theorem dX7_init_224 : decode cX7_init 224 = .ok (.aload_n 0, 1) := by decide +kernel
theorem dX7_init_225 : decode cX7_init 225 = .ok (.invokevirtual 83, 3) := by decide +kernel
theorem dX7_init_228 : decode cX7_init 228 = .ok (.return_, 1) := by decide +kernel
theorem dX7_in_0 : decode cX7_in 0 = .ok (.lload_n 0, 1) := by decide +kernel
theorem dX7_in_1 : decode cX7_in 1 = .ok (.lload_n 2, 1) := by decide +kernel
theorem dX7_in_2 : decode cX7_in 2 = .ok (.lcmp, 1) := by decide +kernel
theorem dX7_in_3 : decode cX7_in 3 = .ok (.ifCond .lt 14, 3) := by decide +kernel
theorem dX7_in_6 : decode cX7_in 6 = .ok (.lload_n 0, 1) := by decide +kernel
theorem dX7_in_7 : decode cX7_in 7 = .ok (.lload 4, 2) := by decide +kernel
theorem dX7_in_9 : decode cX7_in 9 = .ok (.lcmp, 1) := by decide +kernel
theorem dX7_in_10 : decode cX7_in 10 = .ok (.ifCond .gt 7, 3) := by decide +kernel
theorem dX7_in_13 : decode cX7_in 13 = .ok (.iconst 1, 1) := by decide +kernel
theorem dX7_in_14 : decode cX7_in 14 = .ok (.goto 4, 3) := by decide +kernel
theorem dX7_in_17 : decode cX7_in 17 = .ok (.iconst 0, 1) := by decide +kernel
theorem dX7_in_18 : decode cX7_in 18 = .ok (.ireturn, 1) := by decide +kernel
theorem dX7_has_0 : decode cX7_has 0 = .ok (.iload_n 0, 1) := by decide +kernel
theorem dX7_has_1 : decode cX7_has 1 = .ok (.iload_n 1, 1) := by decide +kernel
theorem dX7_has_2 : decode cX7_has 2 = .ok (.ishr, 1) := by decide +kernel
theorem dX7_has_3 : decode cX7_has 3 = .ok (.iconst 1, 1) := by decide +kernel
theorem dX7_has_4 : decode cX7_has 4 = .ok (.iand, 1) := by decide +kernel
theorem dX7_has_5 : decode cX7_has 5 = .ok (.iconst 1, 1) := by decide +kernel
theorem dX7_has_6 : decode cX7_has 6 = .ok (.if_icmp .ne 7, 3) := by decide +kernel
theorem dX7_has_9 : decode cX7_has 9 = .ok (.iconst 1, 1) := by decide +kernel
theorem dX7_has_10 : decode cX7_has 10 = .ok (.goto 4, 3) := by decide +kernel
theorem dX7_has_13 : decode cX7_has 13 = .ok (.iconst 0, 1) := by decide +kernel
theorem dX7_has_14 : decode cX7_has 14 = .ok (.ireturn, 1) := by decide +kernel
theorem dX7_noHill_0 : decode cX7_noHill 0 = .ok (.aload_n 0, 1) := by decide +kernel
theorem dX7_noHill_1 : decode cX7_noHill 1 = .ok (.getfield 13, 3) := by decide +kernel
theorem dX7_noHill_4 : decode cX7_noHill 4 = .ok (.iload_n 1, 1) := by decide +kernel
theorem dX7_noHill_5 : decode cX7_noHill 5 = .ok (.iconst 0, 1) := by decide +kernel
theorem dX7_noHill_6 : decode cX7_noHill 6 = .ok (.iastore, 1) := by decide +kernel
theorem dX7_noHill_7 : decode cX7_noHill 7 = .ok (.iconst 0, 1) := by decide +kernel
theorem dX7_noHill_8 : decode cX7_noHill 8 = .ok (.istore_n 2, 1) := by decide +kernel
theorem dX7_noHill_9 : decode cX7_noHill 9 = .ok (.iload_n 2, 1) := by decide +kernel
theorem dX7_noHill_10 : decode cX7_noHill 10 = .ok (.bipush 6, 2) := by decide +kernel
theorem dX7_noHill_12 : decode cX7_noHill 12 = .ok (.if_icmp .ge 45, 3) := by decide +kernel
theorem dX7_noHill_15 : decode cX7_noHill 15 = .ok (.aload_n 0, 1) := by decide +kernel
theorem dX7_noHill_16 : decode cX7_noHill 16 = .ok (.getfield 31, 3) := by decide +kernel
theorem dX7_noHill_19 : decode cX7_noHill 19 = .ok (.bipush 6, 2) := by decide +kernel
theorem dX7_noHill_21 : decode cX7_noHill 21 = .ok (.iload_n 1, 1) := by decide +kernel
theorem dX7_noHill_22 : decode cX7_noHill 22 = .ok (.imul, 1) := by decide +kernel
theorem dX7_noHill_23 : decode cX7_noHill 23 = .ok (.iload_n 2, 1) := by decide +kernel
theorem dX7_noHill_24 : decode cX7_noHill 24 = .ok (.iadd, 1) := by decide +kernel
theorem dX7_noHill_25 : decode cX7_noHill 25 = .ok (.iload_n 2, 1) := by decide +kernel
theorem dX7_noHill_26 : decode cX7_noHill 26 = .ok (.iastore, 1) := by decide +kernel
theorem dX7_noHill_27 : decode cX7_noHill 27 = .ok (.aload_n 0, 1) := by decide +kernel
theorem dX7_noHill_28 : decode cX7_noHill 28 = .ok (.getfield 34, 3) := by decide +kernel
theorem dX7_noHill_31 : decode cX7_noHill 31 = .ok (.bipush 6, 2) := by decide +kernel
theorem dX7_noHill_33 : decode cX7_noHill 33 = .ok (.iload_n 1, 1) := by decide +kernel
theorem dX7_noHill_34 : decode cX7_noHill 34 = .ok (.imul, 1) := by decide +kernel
theorem dX7_noHill_35 : decode cX7_noHill 35 = .ok (.iload_n 2, 1) := by decide +kernel
theorem dX7_noHill_36 : decode cX7_noHill 36 = .ok (.iadd, 1) := by decide +kernel
theorem dX7_noHill_37 : decode cX7_noHill 37 = .ok (.iconst 0, 1) := by decide +kernel
theorem dX7_noHill_38 : decode cX7_noHill 38 = .ok (.iastore, 1) := by decide +kernel
theorem dX7_noHill_39 : decode cX7_noHill 39 = .ok (.aload_n 0, 1) := by decide +kernel
theorem dX7_noHill_40 : decode cX7_noHill 40 = .ok (.getfield 37, 3) := by decide +kernel
theorem dX7_noHill_43 : decode cX7_noHill 43 = .ok (.bipush 6, 2) := by decide +kernel
theorem dX7_noHill_45 : decode cX7_noHill 45 = .ok (.iload_n 1, 1) := by decide +kernel
theorem dX7_noHill_46 : decode cX7_noHill 46 = .ok (.imul, 1) := by decide +kernel
theorem dX7_noHill_47 : decode cX7_noHill 47 = .ok (.iload_n 2, 1) := by decide +kernel
theorem dX7_noHill_48 : decode cX7_noHill 48 = .ok (.iadd, 1) := by decide +kernel
theorem dX7_noHill_49 : decode cX7_noHill 49 = .ok (.iconst 1, 1) := by decide +kernel
theorem dX7_noHill_50 : decode cX7_noHill 50 = .ok (.iastore, 1) := by decide +kernel
theorem dX7_noHill_51 : decode cX7_noHill 51 = .ok (.iinc 2 1, 3) := by decide +kernel
theorem dX7_noHill_54 : decode cX7_noHill 54 = .ok (.goto (-45), 3) := by decide +kernel
theorem dX7_noHill_57 : decode cX7_noHill 57 = .ok (.aload_n 0, 1) := by decide +kernel
theorem dX7_noHill_58 : decode cX7_noHill 58 = .ok (.getfield 40, 3) := by decide +kernel
theorem dX7_noHill_61 : decode cX7_noHill 61 = .ok (.iconst 3, 1) := by decide +kernel
theorem dX7_noHill_62 : decode cX7_noHill 62 = .ok (.iload_n 1, 1) := by decide +kernel
theorem dX7_noHill_63 : decode cX7_noHill 63 = .ok (.imul, 1) := by decide +kernel
theorem dX7_noHill_64 : decode cX7_noHill 64 = .ok (.iconst 4, 1) := by decide +kernel
theorem dX7_noHill_65 : decode cX7_noHill 65 = .ok (.iastore, 1) := by decide +kernel
theorem dX7_noHill_66 : decode cX7_noHill 66 = .ok (.aload_n 0, 1) := by decide +kernel
theorem dX7_noHill_67 : decode cX7_noHill 67 = .ok (.getfield 40, 3) := by decide +kernel
theorem dX7_noHill_70 : decode cX7_noHill 70 = .ok (.iconst 3, 1) := by decide +kernel
theorem dX7_noHill_71 : decode cX7_noHill 71 = .ok (.iload_n 1, 1) := by decide +kernel
theorem dX7_noHill_72 : decode cX7_noHill 72 = .ok (.imul, 1) := by decide +kernel
theorem dX7_noHill_73 : decode cX7_noHill 73 = .ok (.iconst 1, 1) := by decide +kernel
theorem dX7_noHill_74 : decode cX7_noHill 74 = .ok (.iadd, 1) := by decide +kernel
theorem dX7_noHill_75 : decode cX7_noHill 75 = .ok (.iconst 3, 1) := by decide +kernel
theorem dX7_noHill_76 : decode cX7_noHill 76 = .ok (.iastore, 1) := by decide +kernel
theorem dX7_noHill_77 : decode cX7_noHill 77 = .ok (.aload_n 0, 1) := by decide +kernel
theorem dX7_noHill_78 : decode cX7_noHill 78 = .ok (.getfield 40, 3) := by decide +kernel
theorem dX7_noHill_81 : decode cX7_noHill 81 = .ok (.iconst 3, 1) := by decide +kernel
theorem dX7_noHill_82 : decode cX7_noHill 82 = .ok (.iload_n 1, 1) := by decide +kernel
theorem dX7_noHill_83 : decode cX7_noHill 83 = .ok (.imul, 1) := by decide +kernel
theorem dX7_noHill_84 : decode cX7_noHill 84 = .ok (.iconst 2, 1) := by decide +kernel
theorem dX7_noHill_85 : decode cX7_noHill 85 = .ok (.iadd, 1) := by decide +kernel
theorem dX7_noHill_86 : decode cX7_noHill 86 = .ok (.iconst 1, 1) := by decide +kernel
theorem dX7_noHill_87 : decode cX7_noHill 87 = .ok (.iastore, 1) := by decide +kernel
theorem dX7_noHill_88 : decode cX7_noHill 88 = .ok (.return_, 1) := by decide +kernel
theorem dX7_write_0 : decode cX7_write 0 = .ok (.iload_n 1, 1) := by decide +kernel
theorem dX7_write_1 : decode cX7_write 1 = .ok (.i2l, 1) := by decide +kernel
theorem dX7_write_2 : decode cX7_write 2 = .ok (.lconst 1, 1) := by decide +kernel
theorem dX7_write_3 : decode cX7_write 3 = .ok (.ldc2_w 86, 3) := by decide +kernel
theorem dX7_write_6 : decode cX7_write 6 = .ok (.invokestatic 88, 3) := by decide +kernel
theorem dX7_write_9 : decode cX7_write 9 = .ok (.ifCond .ne 5, 3) := by decide +kernel
theorem dX7_write_12 : decode cX7_write 12 = .ok (.iconst (-1), 1) := by decide +kernel
theorem dX7_write_13 : decode cX7_write 13 = .ok (.ireturn, 1) := by decide +kernel
theorem dX7_write_14 : decode cX7_write 14 = .ok (.aload_n 0, 1) := by decide +kernel
theorem dX7_write_15 : decode cX7_write 15 = .ok (.getfield 92, 3) := by decide +kernel
theorem dX7_write_18 : decode cX7_write 18 = .ok (.iload_n 1, 1) := by decide +kernel
theorem dX7_write_19 : decode cX7_write 19 = .ok (.iadd, 1) := by decide +kernel
theorem dX7_write_20 : decode cX7_write 20 = .ok (.sipush 400, 3) := by decide +kernel
theorem dX7_write_23 : decode cX7_write 23 = .ok (.if_icmp .le 6, 3) := by decide +kernel
theorem dX7_write_26 : decode cX7_write 26 = .ok (.bipush (-3), 2) := by decide +kernel
theorem dX7_write_28 : decode cX7_write 28 = .ok (.ireturn, 1) := by decide +kernel
theorem dX7_write_29 : decode cX7_write 29 = .ok (.iload_n 1, 1) := by decide +kernel
theorem dX7_write_30 : decode cX7_write 30 = .ok (.iconst 1, 1) := by decide +kernel
theorem dX7_write_31 : decode cX7_write 31 = .ok (.isub, 1) := by decide +kernel
theorem dX7_write_32 : decode cX7_write 32 = .ok (.istore 4, 2) := by decide +kernel
theorem dX7_write_34 : decode cX7_write 34 = .ok (.iload 4, 2) := by decide +kernel
theorem dX7_write_36 : decode cX7_write 36 = .ok (.ifCond .lt 40, 3) := by decide +kernel
theorem dX7_write_39 : decode cX7_write 39 = .ok (.aload_n 0, 1) := by decide +kernel
theorem dX7_write_40 : decode cX7_write 40 = .ok (.getfield 7, 3) := by decide +kernel
theorem dX7_write_43 : decode cX7_write 43 = .ok (.aload_n 0, 1) := by decide +kernel
theorem dX7_write_44 : decode cX7_write 44 = .ok (.getfield 92, 3) := by decide +kernel
theorem dX7_write_47 : decode cX7_write 47 = .ok (.lload_n 2, 1) := by decide +kernel
theorem dX7_write_48 : decode cX7_write 48 = .ok (.bipush 8, 2) := by decide +kernel
theorem dX7_write_50 : decode cX7_write 50 = .ok (.iload 4, 2) := by decide +kernel
theorem dX7_write_52 : decode cX7_write 52 = .ok (.imul, 1) := by decide +kernel
theorem dX7_write_53 : decode cX7_write 53 = .ok (.lshr, 1) := by decide +kernel
theorem dX7_write_54 : decode cX7_write 54 = .ok (.ldc2_w 96, 3) := by decide +kernel
theorem dX7_write_57 : decode cX7_write 57 = .ok (.land, 1) := by decide +kernel
theorem dX7_write_58 : decode cX7_write 58 = .ok (.l2i, 1) := by decide +kernel
theorem dX7_write_59 : decode cX7_write 59 = .ok (.iastore, 1) := by decide +kernel
theorem dX7_write_60 : decode cX7_write 60 = .ok (.aload_n 0, 1) := by decide +kernel
theorem dX7_write_61 : decode cX7_write 61 = .ok (.dup, 1) := by decide +kernel
theorem dX7_write_62 : decode cX7_write 62 = .ok (.getfield 92, 3) := by decide +kernel
theorem dX7_write_65 : decode cX7_write 65 = .ok (.iconst 1, 1) := by decide +kernel
theorem dX7_write_66 : decode cX7_write 66 = .ok (.iadd, 1) := by decide +kernel
theorem dX7_write_67 : decode cX7_write 67 = .ok (.putfield 92, 3) := by decide +kernel
theorem dX7_write_70 : decode cX7_write 70 = .ok (.iinc 4 (-1), 3) := by decide +kernel
theorem dX7_write_73 : decode cX7_write 73 = .ok (.goto (-39), 3) := by decide +kernel
theorem dX7_write_76 : decode cX7_write 76 = .ok (.aload_n 0, 1) := by decide +kernel
theorem dX7_write_77 : decode cX7_write 77 = .ok (.getfield 92, 3) := by decide +kernel
theorem dX7_write_80 : decode cX7_write 80 = .ok (.ireturn, 1) := by decide +kernel
theorem dX7_wipe_0 : decode cX7_wipe 0 = .ok (.aload_n 0, 1) := by decide +kernel
theorem dX7_wipe_1 : decode cX7_wipe 1 = .ok (.getfield 92, 3) := by decide +kernel
theorem dX7_wipe_4 : decode cX7_wipe 4 = .ok (.istore_n 1, 1) := by decide +kernel
theorem dX7_wipe_5 : decode cX7_wipe 5 = .ok (.aload_n 0, 1) := by decide +kernel
theorem dX7_wipe_6 : decode cX7_wipe 6 = .ok (.iconst 0, 1) := by decide +kernel
theorem dX7_wipe_7 : decode cX7_wipe 7 = .ok (.putfield 92, 3) := by decide +kernel
theorem dX7_wipe_10 : decode cX7_wipe 10 = .ok (.iload_n 1, 1) := by decide +kernel
theorem dX7_wipe_11 : decode cX7_wipe 11 = .ok (.ireturn, 1) := by decide +kernel
theorem dX7_byteAt_0 : decode cX7_byteAt 0 = .ok (.iload_n 1, 1) := by decide +kernel
theorem dX7_byteAt_1 : decode cX7_byteAt 1 = .ok (.aload_n 0, 1) := by decide +kernel
theorem dX7_byteAt_2 : decode cX7_byteAt 2 = .ok (.getfield 92, 3) := by decide +kernel
theorem dX7_byteAt_5 : decode cX7_byteAt 5 = .ok (.if_icmp .ge 12, 3) := by decide +kernel
theorem dX7_byteAt_8 : decode cX7_byteAt 8 = .ok (.aload_n 0, 1) := by decide +kernel
theorem dX7_byteAt_9 : decode cX7_byteAt 9 = .ok (.getfield 7, 3) := by decide +kernel
theorem dX7_byteAt_12 : decode cX7_byteAt 12 = .ok (.iload_n 1, 1) := by decide +kernel
theorem dX7_byteAt_13 : decode cX7_byteAt 13 = .ok (.iaload, 1) := by decide +kernel
theorem dX7_byteAt_14 : decode cX7_byteAt 14 = .ok (.goto 4, 3) := by decide +kernel
theorem dX7_byteAt_17 : decode cX7_byteAt 17 = .ok (.iconst 0, 1) := by decide +kernel
theorem dX7_byteAt_18 : decode cX7_byteAt 18 = .ok (.ireturn, 1) := by decide +kernel
theorem dX7_figures_0 : decode cX7_figures 0 = .ok (.iconst 0, 1) := by decide +kernel
theorem dX7_figures_1 : decode cX7_figures 1 = .ok (.istore_n 3, 1) := by decide +kernel
theorem dX7_figures_2 : decode cX7_figures 2 = .ok (.iload_n 3, 1) := by decide +kernel
theorem dX7_figures_3 : decode cX7_figures 3 = .ok (.iload_n 1, 1) := by decide +kernel
theorem dX7_figures_4 : decode cX7_figures 4 = .ok (.if_icmp .ge 134, 3) := by decide +kernel
theorem dX7_figures_7 : decode cX7_figures 7 = .ok (.iconst 0, 1) := by decide +kernel
theorem dX7_figures_8 : decode cX7_figures 8 = .ok (.istore 4, 2) := by decide +kernel
theorem dX7_figures_10 : decode cX7_figures 10 = .ok (.iconst 0, 1) := by decide +kernel
theorem dX7_figures_11 : decode cX7_figures 11 = .ok (.istore 5, 2) := by decide +kernel
theorem dX7_figures_13 : decode cX7_figures 13 = .ok (.aload_n 0, 1) := by decide +kernel
theorem dX7_figures_14 : decode cX7_figures 14 = .ok (.aload_n 0, 1) := by decide +kernel
theorem dX7_figures_15 : decode cX7_figures 15 = .ok (.getfield 98, 3) := by decide +kernel
theorem dX7_figures_18 : decode cX7_figures 18 = .ok (.invokevirtual 101, 3) := by decide +kernel
theorem dX7_figures_21 : decode cX7_figures 21 = .ok (.i2l, 1) := by decide +kernel
theorem dX7_figures_22 : decode cX7_figures 22 = .ok (.ldc2_w 105, 3) := by decide +kernel
theorem dX7_figures_25 : decode cX7_figures 25 = .ok (.ldc2_w 107, 3) := by decide +kernel
theorem dX7_figures_28 : decode cX7_figures 28 = .ok (.invokestatic 88, 3) := by decide +kernel
theorem dX7_figures_31 : decode cX7_figures 31 = .ok (.ifCond .eq 44, 3) := by decide +kernel
theorem dX7_figures_34 : decode cX7_figures 34 = .ok (.iload 4, 2) := by decide +kernel
theorem dX7_figures_36 : decode cX7_figures 36 = .ok (.iconst 4, 1) := by decide +kernel
theorem dX7_figures_37 : decode cX7_figures 37 = .ok (.if_icmp .ge 38, 3) := by decide +kernel
theorem dX7_figures_40 : decode cX7_figures 40 = .ok (.bipush 10, 2) := by decide +kernel
theorem dX7_figures_42 : decode cX7_figures 42 = .ok (.iload 5, 2) := by decide +kernel
theorem dX7_figures_44 : decode cX7_figures 44 = .ok (.imul, 1) := by decide +kernel
theorem dX7_figures_45 : decode cX7_figures 45 = .ok (.aload_n 0, 1) := by decide +kernel
theorem dX7_figures_46 : decode cX7_figures 46 = .ok (.aload_n 0, 1) := by decide +kernel
theorem dX7_figures_47 : decode cX7_figures 47 = .ok (.getfield 98, 3) := by decide +kernel
theorem dX7_figures_50 : decode cX7_figures 50 = .ok (.invokevirtual 101, 3) := by decide +kernel
theorem dX7_figures_53 : decode cX7_figures 53 = .ok (.iadd, 1) := by decide +kernel
theorem dX7_figures_54 : decode cX7_figures 54 = .ok (.bipush 48, 2) := by decide +kernel
theorem dX7_figures_56 : decode cX7_figures 56 = .ok (.isub, 1) := by decide +kernel
theorem dX7_figures_57 : decode cX7_figures 57 = .ok (.istore 5, 2) := by decide +kernel
theorem dX7_figures_59 : decode cX7_figures 59 = .ok (.iinc 4 1, 3) := by decide +kernel
theorem dX7_figures_62 : decode cX7_figures 62 = .ok (.aload_n 0, 1) := by decide +kernel
theorem dX7_figures_63 : decode cX7_figures 63 = .ok (.dup, 1) := by decide +kernel
theorem dX7_figures_64 : decode cX7_figures 64 = .ok (.getfield 98, 3) := by decide +kernel
theorem dX7_figures_67 : decode cX7_figures 67 = .ok (.iconst 1, 1) := by decide +kernel
end
section
theorem dX7_figures_68 : decode cX7_figures 68 = .ok (.iadd, 1) := by decide +kernel
theorem dX7_figures_69 : decode cX7_figures 69 = .ok (.putfield 98, 3) := by decide +kernel
theorem dX7_figures_72 : decode cX7_figures 72 = .ok (.goto (-59), 3) := by decide +kernel
theorem dX7_figures_75 : decode cX7_figures 75 = .ok (.iload 4, 2) := by decide +kernel
theorem dX7_figures_77 : decode cX7_figures 77 = .ok (.i2l, 1) := by decide +kernel
theorem dX7_figures_78 : decode cX7_figures 78 = .ok (.lconst 1, 1) := by decide +kernel
theorem dX7_figures_79 : decode cX7_figures 79 = .ok (.ldc2_w 109, 3) := by decide +kernel
theorem dX7_figures_82 : decode cX7_figures 82 = .ok (.invokestatic 88, 3) := by decide +kernel
theorem dX7_figures_85 : decode cX7_figures 85 = .ok (.ifCond .eq 27, 3) := by decide +kernel
theorem dX7_figures_88 : decode cX7_figures 88 = .ok (.aload_n 0, 1) := by decide +kernel
theorem dX7_figures_89 : decode cX7_figures 89 = .ok (.aload_n 0, 1) := by decide +kernel
theorem dX7_figures_90 : decode cX7_figures 90 = .ok (.getfield 98, 3) := by decide +kernel
theorem dX7_figures_93 : decode cX7_figures 93 = .ok (.invokevirtual 101, 3) := by decide +kernel
theorem dX7_figures_96 : decode cX7_figures 96 = .ok (.iload_n 3, 1) := by decide +kernel
theorem dX7_figures_97 : decode cX7_figures 97 = .ok (.iload_n 1, 1) := by decide +kernel
theorem dX7_figures_98 : decode cX7_figures 98 = .ok (.iconst 1, 1) := by decide +kernel
theorem dX7_figures_99 : decode cX7_figures 99 = .ok (.isub, 1) := by decide +kernel
theorem dX7_figures_100 : decode cX7_figures 100 = .ok (.if_icmp .ge 8, 3) := by decide +kernel
theorem dX7_figures_103 : decode cX7_figures 103 = .ok (.bipush 44, 2) := by decide +kernel
theorem dX7_figures_105 : decode cX7_figures 105 = .ok (.goto 4, 3) := by decide +kernel
theorem dX7_figures_108 : decode cX7_figures 108 = .ok (.iload_n 2, 1) := by decide +kernel
theorem dX7_figures_109 : decode cX7_figures 109 = .ok (.if_icmp .eq 5, 3) := by decide +kernel
theorem dX7_figures_112 : decode cX7_figures 112 = .ok (.iconst 0, 1) := by decide +kernel
theorem dX7_figures_113 : decode cX7_figures 113 = .ok (.ireturn, 1) := by decide +kernel
theorem dX7_figures_114 : decode cX7_figures 114 = .ok (.aload_n 0, 1) := by decide +kernel
theorem dX7_figures_115 : decode cX7_figures 115 = .ok (.getfield 58, 3) := by decide +kernel
theorem dX7_figures_118 : decode cX7_figures 118 = .ok (.iload_n 3, 1) := by decide +kernel
theorem dX7_figures_119 : decode cX7_figures 119 = .ok (.iload 5, 2) := by decide +kernel
theorem dX7_figures_121 : decode cX7_figures 121 = .ok (.iastore, 1) := by decide +kernel
theorem dX7_figures_122 : decode cX7_figures 122 = .ok (.aload_n 0, 1) := by decide +kernel
theorem dX7_figures_123 : decode cX7_figures 123 = .ok (.dup, 1) := by decide +kernel
theorem dX7_figures_124 : decode cX7_figures 124 = .ok (.getfield 98, 3) := by decide +kernel
theorem dX7_figures_127 : decode cX7_figures 127 = .ok (.iconst 1, 1) := by decide +kernel
theorem dX7_figures_128 : decode cX7_figures 128 = .ok (.iadd, 1) := by decide +kernel
theorem dX7_figures_129 : decode cX7_figures 129 = .ok (.putfield 98, 3) := by decide +kernel
theorem dX7_figures_132 : decode cX7_figures 132 = .ok (.iinc 3 1, 3) := by decide +kernel
theorem dX7_figures_135 : decode cX7_figures 135 = .ok (.goto (-133), 3) := by decide +kernel
theorem dX7_figures_138 : decode cX7_figures 138 = .ok (.iconst 1, 1) := by decide +kernel
theorem dX7_figures_139 : decode cX7_figures 139 = .ok (.ireturn, 1) := by decide +kernel
theorem dX7_personItem_0 : decode cX7_personItem 0 = .ok (.bipush 8, 2) := by decide +kernel
theorem dX7_personItem_2 : decode cX7_personItem 2 = .ok (.aload_n 0, 1) := by decide +kernel
theorem dX7_personItem_3 : decode cX7_personItem 3 = .ok (.getfield 13, 3) := by decide +kernel
theorem dX7_personItem_6 : decode cX7_personItem 6 = .ok (.iconst 1, 1) := by decide +kernel
theorem dX7_personItem_7 : decode cX7_personItem 7 = .ok (.iaload, 1) := by decide +kernel
theorem dX7_personItem_8 : decode cX7_personItem 8 = .ok (.iadd, 1) := by decide +kernel
theorem dX7_personItem_9 : decode cX7_personItem 9 = .ok (.istore_n 1, 1) := by decide +kernel
theorem dX7_personItem_10 : decode cX7_personItem 10 = .ok (.aload_n 0, 1) := by decide +kernel
theorem dX7_personItem_11 : decode cX7_personItem 11 = .ok (.iconst 1, 1) := by decide +kernel
theorem dX7_personItem_12 : decode cX7_personItem 12 = .ok (.bipush 44, 2) := by decide +kernel
theorem dX7_personItem_14 : decode cX7_personItem 14 = .ok (.invokevirtual 111, 3) := by decide +kernel
theorem dX7_personItem_17 : decode cX7_personItem 17 = .ok (.ifCond .eq 24, 3) := by decide +kernel
theorem dX7_personItem_20 : decode cX7_personItem 20 = .ok (.aload_n 0, 1) := by decide +kernel
theorem dX7_personItem_21 : decode cX7_personItem 21 = .ok (.getfield 13, 3) := by decide +kernel
theorem dX7_personItem_24 : decode cX7_personItem 24 = .ok (.iconst 1, 1) := by decide +kernel
theorem dX7_personItem_25 : decode cX7_personItem 25 = .ok (.iaload, 1) := by decide +kernel
theorem dX7_personItem_26 : decode cX7_personItem 26 = .ok (.bipush 8, 2) := by decide +kernel
theorem dX7_personItem_28 : decode cX7_personItem 28 = .ok (.if_icmp .eq 13, 3) := by decide +kernel
theorem dX7_personItem_31 : decode cX7_personItem 31 = .ok (.aload_n 0, 1) := by decide +kernel
theorem dX7_personItem_32 : decode cX7_personItem 32 = .ok (.getfield 58, 3) := by decide +kernel
theorem dX7_personItem_35 : decode cX7_personItem 35 = .ok (.iconst 0, 1) := by decide +kernel
theorem dX7_personItem_36 : decode cX7_personItem 36 = .ok (.iaload, 1) := by decide +kernel
theorem dX7_personItem_37 : decode cX7_personItem 37 = .ok (.iconst 3, 1) := by decide +kernel
theorem dX7_personItem_38 : decode cX7_personItem 38 = .ok (.if_icmp .le 5, 3) := by decide +kernel
theorem dX7_personItem_41 : decode cX7_personItem 41 = .ok (.iconst 0, 1) := by decide +kernel
theorem dX7_personItem_42 : decode cX7_personItem 42 = .ok (.ireturn, 1) := by decide +kernel
theorem dX7_personItem_43 : decode cX7_personItem 43 = .ok (.aload_n 0, 1) := by decide +kernel
theorem dX7_personItem_44 : decode cX7_personItem 44 = .ok (.getfield 16, 3) := by decide +kernel
theorem dX7_personItem_47 : decode cX7_personItem 47 = .ok (.iload_n 1, 1) := by decide +kernel
theorem dX7_personItem_48 : decode cX7_personItem 48 = .ok (.aload_n 0, 1) := by decide +kernel
theorem dX7_personItem_49 : decode cX7_personItem 49 = .ok (.getfield 58, 3) := by decide +kernel
theorem dX7_personItem_52 : decode cX7_personItem 52 = .ok (.iconst 0, 1) := by decide +kernel
theorem dX7_personItem_53 : decode cX7_personItem 53 = .ok (.iaload, 1) := by decide +kernel
theorem dX7_personItem_54 : decode cX7_personItem 54 = .ok (.iastore, 1) := by decide +kernel
theorem dX7_personItem_55 : decode cX7_personItem 55 = .ok (.iconst 0, 1) := by decide +kernel
theorem dX7_personItem_56 : decode cX7_personItem 56 = .ok (.istore_n 2, 1) := by decide +kernel
theorem dX7_personItem_57 : decode cX7_personItem 57 = .ok (.aload_n 0, 1) := by decide +kernel
theorem dX7_personItem_58 : decode cX7_personItem 58 = .ok (.aload_n 0, 1) := by decide +kernel
theorem dX7_personItem_59 : decode cX7_personItem 59 = .ok (.getfield 98, 3) := by decide +kernel
theorem dX7_personItem_62 : decode cX7_personItem 62 = .ok (.invokevirtual 101, 3) := by decide +kernel
theorem dX7_personItem_65 : decode cX7_personItem 65 = .ok (.i2l, 1) := by decide +kernel
theorem dX7_personItem_66 : decode cX7_personItem 66 = .ok (.ldc2_w 105, 3) := by decide +kernel
theorem dX7_personItem_69 : decode cX7_personItem 69 = .ok (.ldc2_w 115, 3) := by decide +kernel
theorem dX7_personItem_72 : decode cX7_personItem 72 = .ok (.invokestatic 88, 3) := by decide +kernel
theorem dX7_personItem_75 : decode cX7_personItem 75 = .ok (.ifCond .eq 47, 3) := by decide +kernel
theorem dX7_personItem_78 : decode cX7_personItem 78 = .ok (.iload_n 2, 1) := by decide +kernel
theorem dX7_personItem_79 : decode cX7_personItem 79 = .ok (.bipush 6, 2) := by decide +kernel
theorem dX7_personItem_81 : decode cX7_personItem 81 = .ok (.if_icmp .ge 41, 3) := by decide +kernel
theorem dX7_personItem_84 : decode cX7_personItem 84 = .ok (.aload_n 0, 1) := by decide +kernel
theorem dX7_personItem_85 : decode cX7_personItem 85 = .ok (.getfield 22, 3) := by decide +kernel
theorem dX7_personItem_88 : decode cX7_personItem 88 = .ok (.bipush 6, 2) := by decide +kernel
theorem dX7_personItem_90 : decode cX7_personItem 90 = .ok (.iload_n 1, 1) := by decide +kernel
theorem dX7_personItem_91 : decode cX7_personItem 91 = .ok (.imul, 1) := by decide +kernel
theorem dX7_personItem_92 : decode cX7_personItem 92 = .ok (.iload_n 2, 1) := by decide +kernel
theorem dX7_personItem_93 : decode cX7_personItem 93 = .ok (.iadd, 1) := by decide +kernel
theorem dX7_personItem_94 : decode cX7_personItem 94 = .ok (.aload_n 0, 1) := by decide +kernel
theorem dX7_personItem_95 : decode cX7_personItem 95 = .ok (.aload_n 0, 1) := by decide +kernel
theorem dX7_personItem_96 : decode cX7_personItem 96 = .ok (.getfield 98, 3) := by decide +kernel
theorem dX7_personItem_99 : decode cX7_personItem 99 = .ok (.invokevirtual 101, 3) := by decide +kernel
theorem dX7_personItem_102 : decode cX7_personItem 102 = .ok (.bipush 48, 2) := by decide +kernel
theorem dX7_personItem_104 : decode cX7_personItem 104 = .ok (.isub, 1) := by decide +kernel
theorem dX7_personItem_105 : decode cX7_personItem 105 = .ok (.iastore, 1) := by decide +kernel
theorem dX7_personItem_106 : decode cX7_personItem 106 = .ok (.iinc 2 1, 3) := by decide +kernel
theorem dX7_personItem_109 : decode cX7_personItem 109 = .ok (.aload_n 0, 1) := by decide +kernel
theorem dX7_personItem_110 : decode cX7_personItem 110 = .ok (.dup, 1) := by decide +kernel
theorem dX7_personItem_111 : decode cX7_personItem 111 = .ok (.getfield 98, 3) := by decide +kernel
theorem dX7_personItem_114 : decode cX7_personItem 114 = .ok (.iconst 1, 1) := by decide +kernel
theorem dX7_personItem_115 : decode cX7_personItem 115 = .ok (.iadd, 1) := by decide +kernel
theorem dX7_personItem_116 : decode cX7_personItem 116 = .ok (.putfield 98, 3) := by decide +kernel
theorem dX7_personItem_119 : decode cX7_personItem 119 = .ok (.goto (-62), 3) := by decide +kernel
theorem dX7_personItem_122 : decode cX7_personItem 122 = .ok (.iload_n 2, 1) := by decide +kernel
theorem dX7_personItem_123 : decode cX7_personItem 123 = .ok (.ifCond .eq 16, 3) := by decide +kernel
theorem dX7_personItem_126 : decode cX7_personItem 126 = .ok (.aload_n 0, 1) := by decide +kernel
theorem dX7_personItem_127 : decode cX7_personItem 127 = .ok (.aload_n 0, 1) := by decide +kernel
theorem dX7_personItem_128 : decode cX7_personItem 128 = .ok (.getfield 98, 3) := by decide +kernel
theorem dX7_personItem_131 : decode cX7_personItem 131 = .ok (.invokevirtual 101, 3) := by decide +kernel
theorem dX7_personItem_134 : decode cX7_personItem 134 = .ok (.bipush 44, 2) := by decide +kernel
theorem dX7_personItem_136 : decode cX7_personItem 136 = .ok (.if_icmp .eq 5, 3) := by decide +kernel
theorem dX7_personItem_139 : decode cX7_personItem 139 = .ok (.iconst 0, 1) := by decide +kernel
theorem dX7_personItem_140 : decode cX7_personItem 140 = .ok (.ireturn, 1) := by decide +kernel
theorem dX7_personItem_141 : decode cX7_personItem 141 = .ok (.aload_n 0, 1) := by decide +kernel
theorem dX7_personItem_142 : decode cX7_personItem 142 = .ok (.dup, 1) := by decide +kernel
theorem dX7_personItem_143 : decode cX7_personItem 143 = .ok (.getfield 98, 3) := by decide +kernel
theorem dX7_personItem_146 : decode cX7_personItem 146 = .ok (.iconst 1, 1) := by decide +kernel
theorem dX7_personItem_147 : decode cX7_personItem 147 = .ok (.iadd, 1) := by decide +kernel
theorem dX7_personItem_148 : decode cX7_personItem 148 = .ok (.putfield 98, 3) := by decide +kernel
theorem dX7_personItem_151 : decode cX7_personItem 151 = .ok (.aload_n 0, 1) := by decide +kernel
theorem dX7_personItem_152 : decode cX7_personItem 152 = .ok (.getfield 19, 3) := by decide +kernel
theorem dX7_personItem_155 : decode cX7_personItem 155 = .ok (.iload_n 1, 1) := by decide +kernel
theorem dX7_personItem_156 : decode cX7_personItem 156 = .ok (.iload_n 2, 1) := by decide +kernel
theorem dX7_personItem_157 : decode cX7_personItem 157 = .ok (.iastore, 1) := by decide +kernel
theorem dX7_personItem_158 : decode cX7_personItem 158 = .ok (.aload_n 0, 1) := by decide +kernel
theorem dX7_personItem_159 : decode cX7_personItem 159 = .ok (.iconst 2, 1) := by decide +kernel
theorem dX7_personItem_160 : decode cX7_personItem 160 = .ok (.bipush 59, 2) := by decide +kernel
theorem dX7_personItem_162 : decode cX7_personItem 162 = .ok (.invokevirtual 111, 3) := by decide +kernel
theorem dX7_personItem_165 : decode cX7_personItem 165 = .ok (.ifCond .eq 25, 3) := by decide +kernel
theorem dX7_personItem_168 : decode cX7_personItem 168 = .ok (.aload_n 0, 1) := by decide +kernel
theorem dX7_personItem_169 : decode cX7_personItem 169 = .ok (.getfield 58, 3) := by decide +kernel
theorem dX7_personItem_172 : decode cX7_personItem 172 = .ok (.iconst 0, 1) := by decide +kernel
theorem dX7_personItem_173 : decode cX7_personItem 173 = .ok (.iaload, 1) := by decide +kernel
theorem dX7_personItem_174 : decode cX7_personItem 174 = .ok (.bipush 99, 2) := by decide +kernel
theorem dX7_personItem_176 : decode cX7_personItem 176 = .ok (.if_icmp .gt 14, 3) := by decide +kernel
theorem dX7_personItem_179 : decode cX7_personItem 179 = .ok (.aload_n 0, 1) := by decide +kernel
theorem dX7_personItem_180 : decode cX7_personItem 180 = .ok (.getfield 58, 3) := by decide +kernel
theorem dX7_personItem_183 : decode cX7_personItem 183 = .ok (.iconst 1, 1) := by decide +kernel
theorem dX7_personItem_184 : decode cX7_personItem 184 = .ok (.iaload, 1) := by decide +kernel
theorem dX7_personItem_185 : decode cX7_personItem 185 = .ok (.bipush 9, 2) := by decide +kernel
theorem dX7_personItem_187 : decode cX7_personItem 187 = .ok (.if_icmp .le 5, 3) := by decide +kernel
theorem dX7_personItem_190 : decode cX7_personItem 190 = .ok (.iconst 0, 1) := by decide +kernel
theorem dX7_personItem_191 : decode cX7_personItem 191 = .ok (.ireturn, 1) := by decide +kernel
theorem dX7_personItem_192 : decode cX7_personItem 192 = .ok (.aload_n 0, 1) := by decide +kernel
theorem dX7_personItem_193 : decode cX7_personItem 193 = .ok (.getfield 25, 3) := by decide +kernel
theorem dX7_personItem_196 : decode cX7_personItem 196 = .ok (.iload_n 1, 1) := by decide +kernel
theorem dX7_personItem_197 : decode cX7_personItem 197 = .ok (.aload_n 0, 1) := by decide +kernel
theorem dX7_personItem_198 : decode cX7_personItem 198 = .ok (.getfield 58, 3) := by decide +kernel
theorem dX7_personItem_201 : decode cX7_personItem 201 = .ok (.iconst 0, 1) := by decide +kernel
theorem dX7_personItem_202 : decode cX7_personItem 202 = .ok (.iaload, 1) := by decide +kernel
theorem dX7_personItem_203 : decode cX7_personItem 203 = .ok (.iastore, 1) := by decide +kernel
theorem dX7_personItem_204 : decode cX7_personItem 204 = .ok (.aload_n 0, 1) := by decide +kernel
theorem dX7_personItem_205 : decode cX7_personItem 205 = .ok (.getfield 28, 3) := by decide +kernel
theorem dX7_personItem_208 : decode cX7_personItem 208 = .ok (.iload_n 1, 1) := by decide +kernel
theorem dX7_personItem_209 : decode cX7_personItem 209 = .ok (.aload_n 0, 1) := by decide +kernel
theorem dX7_personItem_210 : decode cX7_personItem 210 = .ok (.getfield 58, 3) := by decide +kernel
theorem dX7_personItem_213 : decode cX7_personItem 213 = .ok (.iconst 1, 1) := by decide +kernel
theorem dX7_personItem_214 : decode cX7_personItem 214 = .ok (.iaload, 1) := by decide +kernel
theorem dX7_personItem_215 : decode cX7_personItem 215 = .ok (.iastore, 1) := by decide +kernel
theorem dX7_personItem_216 : decode cX7_personItem 216 = .ok (.aload_n 0, 1) := by decide +kernel
theorem dX7_personItem_217 : decode cX7_personItem 217 = .ok (.getfield 13, 3) := by decide +kernel
theorem dX7_personItem_220 : decode cX7_personItem 220 = .ok (.iconst 1, 1) := by decide +kernel
theorem dX7_personItem_221 : decode cX7_personItem 221 = .ok (.dup2, 1) := by decide +kernel
theorem dX7_personItem_222 : decode cX7_personItem 222 = .ok (.iaload, 1) := by decide +kernel
theorem dX7_personItem_223 : decode cX7_personItem 223 = .ok (.iconst 1, 1) := by decide +kernel
theorem dX7_personItem_224 : decode cX7_personItem 224 = .ok (.iadd, 1) := by decide +kernel
theorem dX7_personItem_225 : decode cX7_personItem 225 = .ok (.iastore, 1) := by decide +kernel
theorem dX7_personItem_226 : decode cX7_personItem 226 = .ok (.iconst 1, 1) := by decide +kernel
theorem dX7_personItem_227 : decode cX7_personItem 227 = .ok (.ireturn, 1) := by decide +kernel
theorem dX7_item_0 : decode cX7_item 0 = .ok (.aload_n 0, 1) := by decide +kernel
theorem dX7_item_1 : decode cX7_item 1 = .ok (.aload_n 0, 1) := by decide +kernel
theorem dX7_item_2 : decode cX7_item 2 = .ok (.getfield 98, 3) := by decide +kernel
theorem dX7_item_5 : decode cX7_item 5 = .ok (.invokevirtual 101, 3) := by decide +kernel
theorem dX7_item_8 : decode cX7_item 8 = .ok (.istore_n 1, 1) := by decide +kernel
theorem dX7_item_9 : decode cX7_item 9 = .ok (.aload_n 0, 1) := by decide +kernel
theorem dX7_item_10 : decode cX7_item 10 = .ok (.dup, 1) := by decide +kernel
theorem dX7_item_11 : decode cX7_item 11 = .ok (.getfield 98, 3) := by decide +kernel
theorem dX7_item_14 : decode cX7_item 14 = .ok (.iconst 1, 1) := by decide +kernel
theorem dX7_item_15 : decode cX7_item 15 = .ok (.iadd, 1) := by decide +kernel
theorem dX7_item_16 : decode cX7_item 16 = .ok (.putfield 98, 3) := by decide +kernel
theorem dX7_item_19 : decode cX7_item 19 = .ok (.iload_n 1, 1) := by decide +kernel
theorem dX7_item_20 : decode cX7_item 20 = .ok (.tableswitch 350 98 115 #[247, 350, 350, 350, 350, 350, 350, 350, 350, 147, 93, 313, 88, 350, 350, 350, 350, 186], 88) := by decide +kernel
theorem dX7_item_108 : decode cX7_item 108 = .ok (.aload_n 0, 1) := by decide +kernel
theorem dX7_item_109 : decode cX7_item 109 = .ok (.invokevirtual 117, 3) := by decide +kernel
theorem dX7_item_112 : decode cX7_item 112 = .ok (.ireturn, 1) := by decide +kernel
theorem dX7_item_113 : decode cX7_item 113 = .ok (.aload_n 0, 1) := by decide +kernel
theorem dX7_item_114 : decode cX7_item 114 = .ok (.iconst 2, 1) := by decide +kernel
theorem dX7_item_115 : decode cX7_item 115 = .ok (.bipush 59, 2) := by decide +kernel
theorem dX7_item_117 : decode cX7_item 117 = .ok (.invokevirtual 111, 3) := by decide +kernel
theorem dX7_item_120 : decode cX7_item 120 = .ok (.ifCond .eq 23, 3) := by decide +kernel
theorem dX7_item_123 : decode cX7_item 123 = .ok (.aload_n 0, 1) := by decide +kernel
theorem dX7_item_124 : decode cX7_item 124 = .ok (.getfield 58, 3) := by decide +kernel
theorem dX7_item_127 : decode cX7_item 127 = .ok (.iconst 0, 1) := by decide +kernel
theorem dX7_item_128 : decode cX7_item 128 = .ok (.iaload, 1) := by decide +kernel
theorem dX7_item_129 : decode cX7_item 129 = .ok (.iconst 5, 1) := by decide +kernel
theorem dX7_item_130 : decode cX7_item 130 = .ok (.if_icmp .gt 13, 3) := by decide +kernel
theorem dX7_item_133 : decode cX7_item 133 = .ok (.aload_n 0, 1) := by decide +kernel
theorem dX7_item_134 : decode cX7_item 134 = .ok (.getfield 58, 3) := by decide +kernel
theorem dX7_item_137 : decode cX7_item 137 = .ok (.iconst 1, 1) := by decide +kernel
theorem dX7_item_138 : decode cX7_item 138 = .ok (.iaload, 1) := by decide +kernel
theorem dX7_item_139 : decode cX7_item 139 = .ok (.iconst 5, 1) := by decide +kernel
theorem dX7_item_140 : decode cX7_item 140 = .ok (.if_icmp .le 5, 3) := by decide +kernel
theorem dX7_item_143 : decode cX7_item 143 = .ok (.iconst 0, 1) := by decide +kernel
theorem dX7_item_144 : decode cX7_item 144 = .ok (.ireturn, 1) := by decide +kernel
theorem dX7_item_145 : decode cX7_item 145 = .ok (.aload_n 0, 1) := by decide +kernel
theorem dX7_item_146 : decode cX7_item 146 = .ok (.getfield 31, 3) := by decide +kernel
theorem dX7_item_149 : decode cX7_item 149 = .ok (.bipush 6, 2) := by decide +kernel
theorem dX7_item_151 : decode cX7_item 151 = .ok (.aload_n 0, 1) := by decide +kernel
theorem dX7_item_152 : decode cX7_item 152 = .ok (.getfield 58, 3) := by decide +kernel
theorem dX7_item_155 : decode cX7_item 155 = .ok (.iconst 0, 1) := by decide +kernel
theorem dX7_item_156 : decode cX7_item 156 = .ok (.iaload, 1) := by decide +kernel
theorem dX7_item_157 : decode cX7_item 157 = .ok (.iadd, 1) := by decide +kernel
theorem dX7_item_158 : decode cX7_item 158 = .ok (.aload_n 0, 1) := by decide +kernel
theorem dX7_item_159 : decode cX7_item 159 = .ok (.getfield 58, 3) := by decide +kernel
theorem dX7_item_162 : decode cX7_item 162 = .ok (.iconst 1, 1) := by decide +kernel
theorem dX7_item_163 : decode cX7_item 163 = .ok (.iaload, 1) := by decide +kernel
theorem dX7_item_164 : decode cX7_item 164 = .ok (.iastore, 1) := by decide +kernel
theorem dX7_item_165 : decode cX7_item 165 = .ok (.iconst 1, 1) := by decide +kernel
theorem dX7_item_166 : decode cX7_item 166 = .ok (.ireturn, 1) := by decide +kernel
theorem dX7_item_167 : decode cX7_item 167 = .ok (.aload_n 0, 1) := by decide +kernel
theorem dX7_item_168 : decode cX7_item 168 = .ok (.iconst 1, 1) := by decide +kernel
theorem dX7_item_169 : decode cX7_item 169 = .ok (.bipush 59, 2) := by decide +kernel
theorem dX7_item_171 : decode cX7_item 171 = .ok (.invokevirtual 111, 3) := by decide +kernel
theorem dX7_item_174 : decode cX7_item 174 = .ok (.ifCond .eq 13, 3) := by decide +kernel
theorem dX7_item_177 : decode cX7_item 177 = .ok (.aload_n 0, 1) := by decide +kernel
theorem dX7_item_178 : decode cX7_item 178 = .ok (.getfield 58, 3) := by decide +kernel
theorem dX7_item_181 : decode cX7_item 181 = .ok (.iconst 0, 1) := by decide +kernel
theorem dX7_item_182 : decode cX7_item 182 = .ok (.iaload, 1) := by decide +kernel
theorem dX7_item_183 : decode cX7_item 183 = .ok (.iconst 5, 1) := by decide +kernel
theorem dX7_item_184 : decode cX7_item 184 = .ok (.if_icmp .le 5, 3) := by decide +kernel
theorem dX7_item_187 : decode cX7_item 187 = .ok (.iconst 0, 1) := by decide +kernel
theorem dX7_item_188 : decode cX7_item 188 = .ok (.ireturn, 1) := by decide +kernel
theorem dX7_item_189 : decode cX7_item 189 = .ok (.aload_n 0, 1) := by decide +kernel
theorem dX7_item_190 : decode cX7_item 190 = .ok (.getfield 34, 3) := by decide +kernel
theorem dX7_item_193 : decode cX7_item 193 = .ok (.bipush 6, 2) := by decide +kernel
theorem dX7_item_195 : decode cX7_item 195 = .ok (.aload_n 0, 1) := by decide +kernel
theorem dX7_item_196 : decode cX7_item 196 = .ok (.getfield 58, 3) := by decide +kernel
theorem dX7_item_199 : decode cX7_item 199 = .ok (.iconst 0, 1) := by decide +kernel
theorem dX7_item_200 : decode cX7_item 200 = .ok (.iaload, 1) := by decide +kernel
theorem dX7_item_201 : decode cX7_item 201 = .ok (.iadd, 1) := by decide +kernel
theorem dX7_item_202 : decode cX7_item 202 = .ok (.iconst 1, 1) := by decide +kernel
theorem dX7_item_203 : decode cX7_item 203 = .ok (.iastore, 1) := by decide +kernel
theorem dX7_item_204 : decode cX7_item 204 = .ok (.iconst 1, 1) := by decide +kernel
theorem dX7_item_205 : decode cX7_item 205 = .ok (.ireturn, 1) := by decide +kernel
theorem dX7_item_206 : decode cX7_item 206 = .ok (.aload_n 0, 1) := by decide +kernel
theorem dX7_item_207 : decode cX7_item 207 = .ok (.iconst 2, 1) := by decide +kernel
theorem dX7_item_208 : decode cX7_item 208 = .ok (.bipush 59, 2) := by decide +kernel
theorem dX7_item_210 : decode cX7_item 210 = .ok (.invokevirtual 111, 3) := by decide +kernel
theorem dX7_item_213 : decode cX7_item 213 = .ok (.ifCond .eq 30, 3) := by decide +kernel
theorem dX7_item_216 : decode cX7_item 216 = .ok (.aload_n 0, 1) := by decide +kernel
theorem dX7_item_217 : decode cX7_item 217 = .ok (.getfield 58, 3) := by decide +kernel
theorem dX7_item_220 : decode cX7_item 220 = .ok (.iconst 0, 1) := by decide +kernel
theorem dX7_item_221 : decode cX7_item 221 = .ok (.iaload, 1) := by decide +kernel
theorem dX7_item_222 : decode cX7_item 222 = .ok (.iconst 5, 1) := by decide +kernel
theorem dX7_item_223 : decode cX7_item 223 = .ok (.if_icmp .gt 20, 3) := by decide +kernel
theorem dX7_item_226 : decode cX7_item 226 = .ok (.aload_n 0, 1) := by decide +kernel
theorem dX7_item_227 : decode cX7_item 227 = .ok (.getfield 58, 3) := by decide +kernel
theorem dX7_item_230 : decode cX7_item 230 = .ok (.iconst 1, 1) := by decide +kernel
theorem dX7_item_231 : decode cX7_item 231 = .ok (.iaload, 1) := by decide +kernel
theorem dX7_item_232 : decode cX7_item 232 = .ok (.i2l, 1) := by decide +kernel
theorem dX7_item_233 : decode cX7_item 233 = .ok (.lconst 1, 1) := by decide +kernel
theorem dX7_item_234 : decode cX7_item 234 = .ok (.ldc2_w 121, 3) := by decide +kernel
theorem dX7_item_237 : decode cX7_item 237 = .ok (.invokestatic 88, 3) := by decide +kernel
theorem dX7_item_240 : decode cX7_item 240 = .ok (.ifCond .ne 5, 3) := by decide +kernel
theorem dX7_item_243 : decode cX7_item 243 = .ok (.iconst 0, 1) := by decide +kernel
theorem dX7_item_244 : decode cX7_item 244 = .ok (.ireturn, 1) := by decide +kernel
theorem dX7_item_245 : decode cX7_item 245 = .ok (.aload_n 0, 1) := by decide +kernel
theorem dX7_item_246 : decode cX7_item 246 = .ok (.getfield 37, 3) := by decide +kernel
theorem dX7_item_249 : decode cX7_item 249 = .ok (.bipush 6, 2) := by decide +kernel
theorem dX7_item_251 : decode cX7_item 251 = .ok (.aload_n 0, 1) := by decide +kernel
theorem dX7_item_252 : decode cX7_item 252 = .ok (.getfield 58, 3) := by decide +kernel
theorem dX7_item_255 : decode cX7_item 255 = .ok (.iconst 0, 1) := by decide +kernel
theorem dX7_item_256 : decode cX7_item 256 = .ok (.iaload, 1) := by decide +kernel
theorem dX7_item_257 : decode cX7_item 257 = .ok (.iadd, 1) := by decide +kernel
theorem dX7_item_258 : decode cX7_item 258 = .ok (.aload_n 0, 1) := by decide +kernel
theorem dX7_item_259 : decode cX7_item 259 = .ok (.getfield 58, 3) := by decide +kernel
theorem dX7_item_262 : decode cX7_item 262 = .ok (.iconst 1, 1) := by decide +kernel
theorem dX7_item_263 : decode cX7_item 263 = .ok (.iaload, 1) := by decide +kernel
theorem dX7_item_264 : decode cX7_item 264 = .ok (.iastore, 1) := by decide +kernel
theorem dX7_item_265 : decode cX7_item 265 = .ok (.iconst 1, 1) := by decide +kernel
theorem dX7_item_266 : decode cX7_item 266 = .ok (.ireturn, 1) := by decide +kernel
theorem dX7_item_267 : decode cX7_item 267 = .ok (.aload_n 0, 1) := by decide +kernel
theorem dX7_item_268 : decode cX7_item 268 = .ok (.iconst 2, 1) := by decide +kernel
theorem dX7_item_269 : decode cX7_item 269 = .ok (.bipush 59, 2) := by decide +kernel
theorem dX7_item_271 : decode cX7_item 271 = .ok (.invokevirtual 111, 3) := by decide +kernel
theorem dX7_item_274 : decode cX7_item 274 = .ok (.ifCond .eq 31, 3) := by decide +kernel
theorem dX7_item_277 : decode cX7_item 277 = .ok (.aload_n 0, 1) := by decide +kernel
theorem dX7_item_278 : decode cX7_item 278 = .ok (.getfield 58, 3) := by decide +kernel
theorem dX7_item_281 : decode cX7_item 281 = .ok (.iconst 0, 1) := by decide +kernel
theorem dX7_item_282 : decode cX7_item 282 = .ok (.iaload, 1) := by decide +kernel
theorem dX7_item_283 : decode cX7_item 283 = .ok (.i2l, 1) := by decide +kernel
theorem dX7_item_284 : decode cX7_item 284 = .ok (.lconst 1, 1) := by decide +kernel
theorem dX7_item_285 : decode cX7_item 285 = .ok (.ldc2_w 123, 3) := by decide +kernel
theorem dX7_item_288 : decode cX7_item 288 = .ok (.invokestatic 88, 3) := by decide +kernel
theorem dX7_item_291 : decode cX7_item 291 = .ok (.ifCond .eq 14, 3) := by decide +kernel
theorem dX7_item_294 : decode cX7_item 294 = .ok (.aload_n 0, 1) := by decide +kernel
theorem dX7_item_295 : decode cX7_item 295 = .ok (.getfield 58, 3) := by decide +kernel
theorem dX7_item_298 : decode cX7_item 298 = .ok (.iconst 1, 1) := by decide +kernel
theorem dX7_item_299 : decode cX7_item 299 = .ok (.iaload, 1) := by decide +kernel
theorem dX7_item_300 : decode cX7_item 300 = .ok (.bipush 20, 2) := by decide +kernel
theorem dX7_item_302 : decode cX7_item 302 = .ok (.if_icmp .le 5, 3) := by decide +kernel
theorem dX7_item_305 : decode cX7_item 305 = .ok (.iconst 0, 1) := by decide +kernel
theorem dX7_item_306 : decode cX7_item 306 = .ok (.ireturn, 1) := by decide +kernel
theorem dX7_item_307 : decode cX7_item 307 = .ok (.aload_n 0, 1) := by decide +kernel
theorem dX7_item_308 : decode cX7_item 308 = .ok (.getfield 40, 3) := by decide +kernel
theorem dX7_item_311 : decode cX7_item 311 = .ok (.iconst 3, 1) := by decide +kernel
theorem dX7_item_312 : decode cX7_item 312 = .ok (.aload_n 0, 1) := by decide +kernel
theorem dX7_item_313 : decode cX7_item 313 = .ok (.getfield 58, 3) := by decide +kernel
theorem dX7_item_316 : decode cX7_item 316 = .ok (.iconst 0, 1) := by decide +kernel
theorem dX7_item_317 : decode cX7_item 317 = .ok (.iaload, 1) := by decide +kernel
theorem dX7_item_318 : decode cX7_item 318 = .ok (.iastore, 1) := by decide +kernel
theorem dX7_item_319 : decode cX7_item 319 = .ok (.aload_n 0, 1) := by decide +kernel
theorem dX7_item_320 : decode cX7_item 320 = .ok (.getfield 40, 3) := by decide +kernel
theorem dX7_item_323 : decode cX7_item 323 = .ok (.iconst 4, 1) := by decide +kernel
theorem dX7_item_324 : decode cX7_item 324 = .ok (.aload_n 0, 1) := by decide +kernel
theorem dX7_item_325 : decode cX7_item 325 = .ok (.getfield 58, 3) := by decide +kernel
theorem dX7_item_328 : decode cX7_item 328 = .ok (.iconst 1, 1) := by decide +kernel
theorem dX7_item_329 : decode cX7_item 329 = .ok (.iaload, 1) := by decide +kernel
theorem dX7_item_330 : decode cX7_item 330 = .ok (.iastore, 1) := by decide +kernel
theorem dX7_item_331 : decode cX7_item 331 = .ok (.iconst 1, 1) := by decide +kernel
theorem dX7_item_332 : decode cX7_item 332 = .ok (.ireturn, 1) := by decide +kernel
theorem dX7_item_333 : decode cX7_item 333 = .ok (.aload_n 0, 1) := by decide +kernel
theorem dX7_item_334 : decode cX7_item 334 = .ok (.iconst 1, 1) := by decide +kernel
theorem dX7_item_335 : decode cX7_item 335 = .ok (.bipush 59, 2) := by decide +kernel
theorem dX7_item_337 : decode cX7_item 337 = .ok (.invokevirtual 111, 3) := by decide +kernel
theorem dX7_item_340 : decode cX7_item 340 = .ok (.ifCond .eq 14, 3) := by decide +kernel
theorem dX7_item_343 : decode cX7_item 343 = .ok (.aload_n 0, 1) := by decide +kernel
theorem dX7_item_344 : decode cX7_item 344 = .ok (.getfield 58, 3) := by decide +kernel
theorem dX7_item_347 : decode cX7_item 347 = .ok (.iconst 0, 1) := by decide +kernel
theorem dX7_item_348 : decode cX7_item 348 = .ok (.iaload, 1) := by decide +kernel
theorem dX7_item_349 : decode cX7_item 349 = .ok (.bipush 9, 2) := by decide +kernel
theorem dX7_item_351 : decode cX7_item 351 = .ok (.if_icmp .le 5, 3) := by decide +kernel
theorem dX7_item_354 : decode cX7_item 354 = .ok (.iconst 0, 1) := by decide +kernel
theorem dX7_item_355 : decode cX7_item 355 = .ok (.ireturn, 1) := by decide +kernel
theorem dX7_item_356 : decode cX7_item 356 = .ok (.aload_n 0, 1) := by decide +kernel
theorem dX7_item_357 : decode cX7_item 357 = .ok (.getfield 40, 3) := by decide +kernel
theorem dX7_item_360 : decode cX7_item 360 = .ok (.iconst 5, 1) := by decide +kernel
theorem dX7_item_361 : decode cX7_item 361 = .ok (.aload_n 0, 1) := by decide +kernel
theorem dX7_item_362 : decode cX7_item 362 = .ok (.getfield 58, 3) := by decide +kernel
theorem dX7_item_365 : decode cX7_item 365 = .ok (.iconst 0, 1) := by decide +kernel
theorem dX7_item_366 : decode cX7_item 366 = .ok (.iaload, 1) := by decide +kernel
theorem dX7_item_367 : decode cX7_item 367 = .ok (.iastore, 1) := by decide +kernel
theorem dX7_item_368 : decode cX7_item 368 = .ok (.iconst 1, 1) := by decide +kernel
theorem dX7_item_369 : decode cX7_item 369 = .ok (.ireturn, 1) := by decide +kernel
theorem dX7_item_370 : decode cX7_item 370 = .ok (.iconst 0, 1) := by decide +kernel
theorem dX7_item_371 : decode cX7_item 371 = .ok (.ireturn, 1) := by decide +kernel
theorem dX7_readAll_0 : decode cX7_readAll 0 = .ok (.aload_n 0, 1) := by decide +kernel
theorem dX7_readAll_1 : decode cX7_readAll 1 = .ok (.iconst 1, 1) := by decide +kernel
theorem dX7_readAll_2 : decode cX7_readAll 2 = .ok (.invokevirtual 79, 3) := by decide +kernel
theorem dX7_readAll_5 : decode cX7_readAll 5 = .ok (.aload_n 0, 1) := by decide +kernel
theorem dX7_readAll_6 : decode cX7_readAll 6 = .ok (.iconst 0, 1) := by decide +kernel
theorem dX7_readAll_7 : decode cX7_readAll 7 = .ok (.putfield 98, 3) := by decide +kernel
theorem dX7_readAll_10 : decode cX7_readAll 10 = .ok (.aload_n 0, 1) := by decide +kernel
theorem dX7_readAll_11 : decode cX7_readAll 11 = .ok (.getfield 98, 3) := by decide +kernel
theorem dX7_readAll_14 : decode cX7_readAll 14 = .ok (.aload_n 0, 1) := by decide +kernel
theorem dX7_readAll_15 : decode cX7_readAll 15 = .ok (.getfield 92, 3) := by decide +kernel
theorem dX7_readAll_18 : decode cX7_readAll 18 = .ok (.if_icmp .ge 20, 3) := by decide +kernel
theorem dX7_readAll_21 : decode cX7_readAll 21 = .ok (.aload_n 0, 1) := by decide +kernel
theorem dX7_readAll_22 : decode cX7_readAll 22 = .ok (.getfield 98, 3) := by decide +kernel
theorem dX7_readAll_25 : decode cX7_readAll 25 = .ok (.istore_n 1, 1) := by decide +kernel
theorem dX7_readAll_26 : decode cX7_readAll 26 = .ok (.aload_n 0, 1) := by decide +kernel
theorem dX7_readAll_27 : decode cX7_readAll 27 = .ok (.invokevirtual 125, 3) := by decide +kernel
theorem dX7_readAll_30 : decode cX7_readAll 30 = .ok (.ifCond .ne 5, 3) := by decide +kernel
theorem dX7_readAll_33 : decode cX7_readAll 33 = .ok (.iload_n 1, 1) := by decide +kernel
theorem dX7_readAll_34 : decode cX7_readAll 34 = .ok (.ireturn, 1) := by decide +kernel
theorem dX7_readAll_35 : decode cX7_readAll 35 = .ok (.goto (-25), 3) := by decide +kernel
theorem dX7_readAll_38 : decode cX7_readAll 38 = .ok (.bipush (-4), 2) := by decide +kernel
theorem dX7_readAll_40 : decode cX7_readAll 40 = .ok (.ireturn, 1) := by decide +kernel
theorem dX7_fault_0 : decode cX7_fault 0 = .ok (.aload_n 0, 1) := by decide +kernel
theorem dX7_fault_1 : decode cX7_fault 1 = .ok (.invokevirtual 128, 3) := by decide +kernel
theorem dX7_fault_4 : decode cX7_fault 4 = .ok (.ireturn, 1) := by decide +kernel
theorem dX7_layHill_0 : decode cX7_layHill 0 = .ok (.iconst 0, 1) := by decide +kernel
theorem dX7_layHill_1 : decode cX7_layHill 1 = .ok (.istore_n 1, 1) := by decide +kernel
theorem dX7_layHill_2 : decode cX7_layHill 2 = .ok (.iload_n 1, 1) := by decide +kernel
theorem dX7_layHill_3 : decode cX7_layHill 3 = .ok (.bipush 8, 2) := by decide +kernel
theorem dX7_layHill_5 : decode cX7_layHill 5 = .ok (.if_icmp .ge 79, 3) := by decide +kernel
theorem dX7_layHill_8 : decode cX7_layHill 8 = .ok (.aload_n 0, 1) := by decide +kernel
theorem dX7_layHill_9 : decode cX7_layHill 9 = .ok (.getfield 43, 3) := by decide +kernel
theorem dX7_layHill_12 : decode cX7_layHill 12 = .ok (.iload_n 1, 1) := by decide +kernel
theorem dX7_layHill_13 : decode cX7_layHill 13 = .ok (.aload_n 0, 1) := by decide +kernel
theorem dX7_layHill_14 : decode cX7_layHill 14 = .ok (.getfield 16, 3) := by decide +kernel
theorem dX7_layHill_17 : decode cX7_layHill 17 = .ok (.iload_n 1, 1) := by decide +kernel
theorem dX7_layHill_18 : decode cX7_layHill 18 = .ok (.iaload, 1) := by decide +kernel
theorem dX7_layHill_19 : decode cX7_layHill 19 = .ok (.iastore, 1) := by decide +kernel
theorem dX7_layHill_20 : decode cX7_layHill 20 = .ok (.aload_n 0, 1) := by decide +kernel
theorem dX7_layHill_21 : decode cX7_layHill 21 = .ok (.getfield 46, 3) := by decide +kernel
theorem dX7_layHill_24 : decode cX7_layHill 24 = .ok (.iload_n 1, 1) := by decide +kernel
theorem dX7_layHill_25 : decode cX7_layHill 25 = .ok (.aload_n 0, 1) := by decide +kernel
theorem dX7_layHill_26 : decode cX7_layHill 26 = .ok (.getfield 19, 3) := by decide +kernel
theorem dX7_layHill_29 : decode cX7_layHill 29 = .ok (.iload_n 1, 1) := by decide +kernel
theorem dX7_layHill_30 : decode cX7_layHill 30 = .ok (.iaload, 1) := by decide +kernel
theorem dX7_layHill_31 : decode cX7_layHill 31 = .ok (.iastore, 1) := by decide +kernel
theorem dX7_layHill_32 : decode cX7_layHill 32 = .ok (.iconst 0, 1) := by decide +kernel
theorem dX7_layHill_33 : decode cX7_layHill 33 = .ok (.istore_n 2, 1) := by decide +kernel
theorem dX7_layHill_34 : decode cX7_layHill 34 = .ok (.iload_n 2, 1) := by decide +kernel
theorem dX7_layHill_35 : decode cX7_layHill 35 = .ok (.bipush 10, 2) := by decide +kernel
theorem dX7_layHill_37 : decode cX7_layHill 37 = .ok (.if_icmp .ge 41, 3) := by decide +kernel
theorem dX7_layHill_40 : decode cX7_layHill 40 = .ok (.aload_n 0, 1) := by decide +kernel
theorem dX7_layHill_41 : decode cX7_layHill 41 = .ok (.getfield 49, 3) := by decide +kernel
theorem dX7_layHill_44 : decode cX7_layHill 44 = .ok (.bipush 10, 2) := by decide +kernel
theorem dX7_layHill_46 : decode cX7_layHill 46 = .ok (.iload_n 1, 1) := by decide +kernel
theorem dX7_layHill_47 : decode cX7_layHill 47 = .ok (.imul, 1) := by decide +kernel
theorem dX7_layHill_48 : decode cX7_layHill 48 = .ok (.iload_n 2, 1) := by decide +kernel
theorem dX7_layHill_49 : decode cX7_layHill 49 = .ok (.iadd, 1) := by decide +kernel
theorem dX7_layHill_50 : decode cX7_layHill 50 = .ok (.iload_n 2, 1) := by decide +kernel
theorem dX7_layHill_51 : decode cX7_layHill 51 = .ok (.bipush 6, 2) := by decide +kernel
theorem dX7_layHill_53 : decode cX7_layHill 53 = .ok (.if_icmp .ge 17, 3) := by decide +kernel
theorem dX7_layHill_56 : decode cX7_layHill 56 = .ok (.aload_n 0, 1) := by decide +kernel
theorem dX7_layHill_57 : decode cX7_layHill 57 = .ok (.getfield 22, 3) := by decide +kernel
theorem dX7_layHill_60 : decode cX7_layHill 60 = .ok (.bipush 6, 2) := by decide +kernel
theorem dX7_layHill_62 : decode cX7_layHill 62 = .ok (.iload_n 1, 1) := by decide +kernel
theorem dX7_layHill_63 : decode cX7_layHill 63 = .ok (.imul, 1) := by decide +kernel
theorem dX7_layHill_64 : decode cX7_layHill 64 = .ok (.iload_n 2, 1) := by decide +kernel
theorem dX7_layHill_65 : decode cX7_layHill 65 = .ok (.iadd, 1) := by decide +kernel
theorem dX7_layHill_66 : decode cX7_layHill 66 = .ok (.iaload, 1) := by decide +kernel
theorem dX7_layHill_67 : decode cX7_layHill 67 = .ok (.goto 4, 3) := by decide +kernel
theorem dX7_layHill_70 : decode cX7_layHill 70 = .ok (.iconst 0, 1) := by decide +kernel
theorem dX7_layHill_71 : decode cX7_layHill 71 = .ok (.iastore, 1) := by decide +kernel
theorem dX7_layHill_72 : decode cX7_layHill 72 = .ok (.iinc 2 1, 3) := by decide +kernel
theorem dX7_layHill_75 : decode cX7_layHill 75 = .ok (.goto (-41), 3) := by decide +kernel
theorem dX7_layHill_78 : decode cX7_layHill 78 = .ok (.iinc 1 1, 3) := by decide +kernel
theorem dX7_layHill_81 : decode cX7_layHill 81 = .ok (.goto (-79), 3) := by decide +kernel
theorem dX7_layHill_84 : decode cX7_layHill 84 = .ok (.aload_n 0, 1) := by decide +kernel
theorem dX7_layHill_85 : decode cX7_layHill 85 = .ok (.getfield 52, 3) := by decide +kernel
theorem dX7_layHill_88 : decode cX7_layHill 88 = .ok (.iconst 0, 1) := by decide +kernel
theorem dX7_layHill_89 : decode cX7_layHill 89 = .ok (.iconst 0, 1) := by decide +kernel
theorem dX7_layHill_90 : decode cX7_layHill 90 = .ok (.iastore, 1) := by decide +kernel
theorem dX7_layHill_91 : decode cX7_layHill 91 = .ok (.aload_n 0, 1) := by decide +kernel
theorem dX7_layHill_92 : decode cX7_layHill 92 = .ok (.iconst 0, 1) := by decide +kernel
theorem dX7_layHill_93 : decode cX7_layHill 93 = .ok (.putfield 132, 3) := by decide +kernel
theorem dX7_layHill_96 : decode cX7_layHill 96 = .ok (.return_, 1) := by decide +kernel
theorem dX7_lay_0 : decode cX7_lay 0 = .ok (.aload_n 0, 1) := by decide +kernel
theorem dX7_lay_1 : decode cX7_lay 1 = .ok (.invokevirtual 128, 3) := by decide +kernel
theorem dX7_lay_4 : decode cX7_lay 4 = .ok (.bipush (-4), 2) := by decide +kernel
theorem dX7_lay_6 : decode cX7_lay 6 = .ok (.if_icmp .ne 12, 3) := by decide +kernel
theorem dX7_lay_9 : decode cX7_lay 9 = .ok (.aload_n 0, 1) := by decide +kernel
theorem dX7_lay_10 : decode cX7_lay 10 = .ok (.getfield 13, 3) := by decide +kernel
theorem dX7_lay_13 : decode cX7_lay 13 = .ok (.iconst 1, 1) := by decide +kernel
theorem dX7_lay_14 : decode cX7_lay 14 = .ok (.iaload, 1) := by decide +kernel
theorem dX7_lay_15 : decode cX7_lay 15 = .ok (.ifCond .ne 6, 3) := by decide +kernel
theorem dX7_lay_18 : decode cX7_lay 18 = .ok (.bipush (-2), 2) := by decide +kernel
theorem dX7_lay_20 : decode cX7_lay 20 = .ok (.ireturn, 1) := by decide +kernel
theorem dX7_lay_21 : decode cX7_lay 21 = .ok (.aload_n 0, 1) := by decide +kernel
theorem dX7_lay_22 : decode cX7_lay 22 = .ok (.getfield 13, 3) := by decide +kernel
theorem dX7_lay_25 : decode cX7_lay 25 = .ok (.iconst 0, 1) := by decide +kernel
theorem dX7_lay_26 : decode cX7_lay 26 = .ok (.aload_n 0, 1) := by decide +kernel
theorem dX7_lay_27 : decode cX7_lay 27 = .ok (.getfield 13, 3) := by decide +kernel
theorem dX7_lay_30 : decode cX7_lay 30 = .ok (.iconst 1, 1) := by decide +kernel
theorem dX7_lay_31 : decode cX7_lay 31 = .ok (.iaload, 1) := by decide +kernel
theorem dX7_lay_32 : decode cX7_lay 32 = .ok (.iastore, 1) := by decide +kernel
theorem dX7_lay_33 : decode cX7_lay 33 = .ok (.iconst 0, 1) := by decide +kernel
theorem dX7_lay_34 : decode cX7_lay 34 = .ok (.istore_n 1, 1) := by decide +kernel
theorem dX7_lay_35 : decode cX7_lay 35 = .ok (.iload_n 1, 1) := by decide +kernel
theorem dX7_lay_36 : decode cX7_lay 36 = .ok (.bipush 8, 2) := by decide +kernel
theorem dX7_lay_38 : decode cX7_lay 38 = .ok (.if_icmp .ge 69, 3) := by decide +kernel
theorem dX7_lay_41 : decode cX7_lay 41 = .ok (.aload_n 0, 1) := by decide +kernel
theorem dX7_lay_42 : decode cX7_lay 42 = .ok (.getfield 16, 3) := by decide +kernel
theorem dX7_lay_45 : decode cX7_lay 45 = .ok (.iload_n 1, 1) := by decide +kernel
theorem dX7_lay_46 : decode cX7_lay 46 = .ok (.aload_n 0, 1) := by decide +kernel
theorem dX7_lay_47 : decode cX7_lay 47 = .ok (.getfield 16, 3) := by decide +kernel
theorem dX7_lay_50 : decode cX7_lay 50 = .ok (.bipush 8, 2) := by decide +kernel
theorem dX7_lay_52 : decode cX7_lay 52 = .ok (.iload_n 1, 1) := by decide +kernel
theorem dX7_lay_53 : decode cX7_lay 53 = .ok (.iadd, 1) := by decide +kernel
theorem dX7_lay_54 : decode cX7_lay 54 = .ok (.iaload, 1) := by decide +kernel
theorem dX7_lay_55 : decode cX7_lay 55 = .ok (.iastore, 1) := by decide +kernel
theorem dX7_lay_56 : decode cX7_lay 56 = .ok (.aload_n 0, 1) := by decide +kernel
theorem dX7_lay_57 : decode cX7_lay 57 = .ok (.getfield 19, 3) := by decide +kernel
theorem dX7_lay_60 : decode cX7_lay 60 = .ok (.iload_n 1, 1) := by decide +kernel
theorem dX7_lay_61 : decode cX7_lay 61 = .ok (.aload_n 0, 1) := by decide +kernel
theorem dX7_lay_62 : decode cX7_lay 62 = .ok (.getfield 19, 3) := by decide +kernel
theorem dX7_lay_65 : decode cX7_lay 65 = .ok (.bipush 8, 2) := by decide +kernel
theorem dX7_lay_67 : decode cX7_lay 67 = .ok (.iload_n 1, 1) := by decide +kernel
theorem dX7_lay_68 : decode cX7_lay 68 = .ok (.iadd, 1) := by decide +kernel
theorem dX7_lay_69 : decode cX7_lay 69 = .ok (.iaload, 1) := by decide +kernel
theorem dX7_lay_70 : decode cX7_lay 70 = .ok (.iastore, 1) := by decide +kernel
theorem dX7_lay_71 : decode cX7_lay 71 = .ok (.aload_n 0, 1) := by decide +kernel
theorem dX7_lay_72 : decode cX7_lay 72 = .ok (.getfield 25, 3) := by decide +kernel
theorem dX7_lay_75 : decode cX7_lay 75 = .ok (.iload_n 1, 1) := by decide +kernel
theorem dX7_lay_76 : decode cX7_lay 76 = .ok (.aload_n 0, 1) := by decide +kernel
theorem dX7_lay_77 : decode cX7_lay 77 = .ok (.getfield 25, 3) := by decide +kernel
theorem dX7_lay_80 : decode cX7_lay 80 = .ok (.bipush 8, 2) := by decide +kernel
theorem dX7_lay_82 : decode cX7_lay 82 = .ok (.iload_n 1, 1) := by decide +kernel
theorem dX7_lay_83 : decode cX7_lay 83 = .ok (.iadd, 1) := by decide +kernel
theorem dX7_lay_84 : decode cX7_lay 84 = .ok (.iaload, 1) := by decide +kernel
theorem dX7_lay_85 : decode cX7_lay 85 = .ok (.iastore, 1) := by decide +kernel
theorem dX7_lay_86 : decode cX7_lay 86 = .ok (.aload_n 0, 1) := by decide +kernel
theorem dX7_lay_87 : decode cX7_lay 87 = .ok (.getfield 28, 3) := by decide +kernel
theorem dX7_lay_90 : decode cX7_lay 90 = .ok (.iload_n 1, 1) := by decide +kernel
theorem dX7_lay_91 : decode cX7_lay 91 = .ok (.aload_n 0, 1) := by decide +kernel
theorem dX7_lay_92 : decode cX7_lay 92 = .ok (.getfield 28, 3) := by decide +kernel
theorem dX7_lay_95 : decode cX7_lay 95 = .ok (.bipush 8, 2) := by decide +kernel
theorem dX7_lay_97 : decode cX7_lay 97 = .ok (.iload_n 1, 1) := by decide +kernel
theorem dX7_lay_98 : decode cX7_lay 98 = .ok (.iadd, 1) := by decide +kernel
theorem dX7_lay_99 : decode cX7_lay 99 = .ok (.iaload, 1) := by decide +kernel
theorem dX7_lay_100 : decode cX7_lay 100 = .ok (.iastore, 1) := by decide +kernel
theorem dX7_lay_101 : decode cX7_lay 101 = .ok (.iinc 1 1, 3) := by decide +kernel
theorem dX7_lay_104 : decode cX7_lay 104 = .ok (.goto (-69), 3) := by decide +kernel
theorem dX7_lay_107 : decode cX7_lay 107 = .ok (.iconst 0, 1) := by decide +kernel
theorem dX7_lay_108 : decode cX7_lay 108 = .ok (.istore_n 1, 1) := by decide +kernel
theorem dX7_lay_109 : decode cX7_lay 109 = .ok (.iload_n 1, 1) := by decide +kernel
theorem dX7_lay_110 : decode cX7_lay 110 = .ok (.bipush 48, 2) := by decide +kernel
theorem dX7_lay_112 : decode cX7_lay 112 = .ok (.if_icmp .ge 24, 3) := by decide +kernel
theorem dX7_lay_115 : decode cX7_lay 115 = .ok (.aload_n 0, 1) := by decide +kernel
theorem dX7_lay_116 : decode cX7_lay 116 = .ok (.getfield 22, 3) := by decide +kernel
theorem dX7_lay_119 : decode cX7_lay 119 = .ok (.iload_n 1, 1) := by decide +kernel
theorem dX7_lay_120 : decode cX7_lay 120 = .ok (.aload_n 0, 1) := by decide +kernel
theorem dX7_lay_121 : decode cX7_lay 121 = .ok (.getfield 22, 3) := by decide +kernel
theorem dX7_lay_124 : decode cX7_lay 124 = .ok (.bipush 48, 2) := by decide +kernel
theorem dX7_lay_126 : decode cX7_lay 126 = .ok (.iload_n 1, 1) := by decide +kernel
theorem dX7_lay_127 : decode cX7_lay 127 = .ok (.iadd, 1) := by decide +kernel
theorem dX7_lay_128 : decode cX7_lay 128 = .ok (.iaload, 1) := by decide +kernel
theorem dX7_lay_129 : decode cX7_lay 129 = .ok (.iastore, 1) := by decide +kernel
theorem dX7_lay_130 : decode cX7_lay 130 = .ok (.iinc 1 1, 3) := by decide +kernel
theorem dX7_lay_133 : decode cX7_lay 133 = .ok (.goto (-24), 3) := by decide +kernel
theorem dX7_lay_136 : decode cX7_lay 136 = .ok (.iconst 0, 1) := by decide +kernel
theorem dX7_lay_137 : decode cX7_lay 137 = .ok (.istore_n 1, 1) := by decide +kernel
theorem dX7_lay_138 : decode cX7_lay 138 = .ok (.iload_n 1, 1) := by decide +kernel
theorem dX7_lay_139 : decode cX7_lay 139 = .ok (.bipush 6, 2) := by decide +kernel
theorem dX7_lay_141 : decode cX7_lay 141 = .ok (.if_icmp .ge 54, 3) := by decide +kernel
theorem dX7_lay_144 : decode cX7_lay 144 = .ok (.aload_n 0, 1) := by decide +kernel
theorem dX7_lay_145 : decode cX7_lay 145 = .ok (.getfield 31, 3) := by decide +kernel
theorem dX7_lay_148 : decode cX7_lay 148 = .ok (.iload_n 1, 1) := by decide +kernel
theorem dX7_lay_149 : decode cX7_lay 149 = .ok (.aload_n 0, 1) := by decide +kernel
theorem dX7_lay_150 : decode cX7_lay 150 = .ok (.getfield 31, 3) := by decide +kernel
theorem dX7_lay_153 : decode cX7_lay 153 = .ok (.bipush 6, 2) := by decide +kernel
theorem dX7_lay_155 : decode cX7_lay 155 = .ok (.iload_n 1, 1) := by decide +kernel
theorem dX7_lay_156 : decode cX7_lay 156 = .ok (.iadd, 1) := by decide +kernel
theorem dX7_lay_157 : decode cX7_lay 157 = .ok (.iaload, 1) := by decide +kernel
theorem dX7_lay_158 : decode cX7_lay 158 = .ok (.iastore, 1) := by decide +kernel
theorem dX7_lay_159 : decode cX7_lay 159 = .ok (.aload_n 0, 1) := by decide +kernel
theorem dX7_lay_160 : decode cX7_lay 160 = .ok (.getfield 34, 3) := by decide +kernel
theorem dX7_lay_163 : decode cX7_lay 163 = .ok (.iload_n 1, 1) := by decide +kernel
theorem dX7_lay_164 : decode cX7_lay 164 = .ok (.aload_n 0, 1) := by decide +kernel
theorem dX7_lay_165 : decode cX7_lay 165 = .ok (.getfield 34, 3) := by decide +kernel
theorem dX7_lay_168 : decode cX7_lay 168 = .ok (.bipush 6, 2) := by decide +kernel
theorem dX7_lay_170 : decode cX7_lay 170 = .ok (.iload_n 1, 1) := by decide +kernel
theorem dX7_lay_171 : decode cX7_lay 171 = .ok (.iadd, 1) := by decide +kernel
theorem dX7_lay_172 : decode cX7_lay 172 = .ok (.iaload, 1) := by decide +kernel
theorem dX7_lay_173 : decode cX7_lay 173 = .ok (.iastore, 1) := by decide +kernel
theorem dX7_lay_174 : decode cX7_lay 174 = .ok (.aload_n 0, 1) := by decide +kernel
theorem dX7_lay_175 : decode cX7_lay 175 = .ok (.getfield 37, 3) := by decide +kernel
theorem dX7_lay_178 : decode cX7_lay 178 = .ok (.iload_n 1, 1) := by decide +kernel
theorem dX7_lay_179 : decode cX7_lay 179 = .ok (.aload_n 0, 1) := by decide +kernel
theorem dX7_lay_180 : decode cX7_lay 180 = .ok (.getfield 37, 3) := by decide +kernel
theorem dX7_lay_183 : decode cX7_lay 183 = .ok (.bipush 6, 2) := by decide +kernel
theorem dX7_lay_185 : decode cX7_lay 185 = .ok (.iload_n 1, 1) := by decide +kernel
theorem dX7_lay_186 : decode cX7_lay 186 = .ok (.iadd, 1) := by decide +kernel
theorem dX7_lay_187 : decode cX7_lay 187 = .ok (.iaload, 1) := by decide +kernel
theorem dX7_lay_188 : decode cX7_lay 188 = .ok (.iastore, 1) := by decide +kernel
theorem dX7_lay_189 : decode cX7_lay 189 = .ok (.iinc 1 1, 3) := by decide +kernel
theorem dX7_lay_192 : decode cX7_lay 192 = .ok (.goto (-54), 3) := by decide +kernel
theorem dX7_lay_195 : decode cX7_lay 195 = .ok (.iconst 0, 1) := by decide +kernel
theorem dX7_lay_196 : decode cX7_lay 196 = .ok (.istore_n 1, 1) := by decide +kernel
theorem dX7_lay_197 : decode cX7_lay 197 = .ok (.iload_n 1, 1) := by decide +kernel
theorem dX7_lay_198 : decode cX7_lay 198 = .ok (.iconst 3, 1) := by decide +kernel
theorem dX7_lay_199 : decode cX7_lay 199 = .ok (.if_icmp .ge 23, 3) := by decide +kernel
theorem dX7_lay_202 : decode cX7_lay 202 = .ok (.aload_n 0, 1) := by decide +kernel
theorem dX7_lay_203 : decode cX7_lay 203 = .ok (.getfield 40, 3) := by decide +kernel
theorem dX7_lay_206 : decode cX7_lay 206 = .ok (.iload_n 1, 1) := by decide +kernel
theorem dX7_lay_207 : decode cX7_lay 207 = .ok (.aload_n 0, 1) := by decide +kernel
theorem dX7_lay_208 : decode cX7_lay 208 = .ok (.getfield 40, 3) := by decide +kernel
theorem dX7_lay_211 : decode cX7_lay 211 = .ok (.iconst 3, 1) := by decide +kernel
theorem dX7_lay_212 : decode cX7_lay 212 = .ok (.iload_n 1, 1) := by decide +kernel
theorem dX7_lay_213 : decode cX7_lay 213 = .ok (.iadd, 1) := by decide +kernel
theorem dX7_lay_214 : decode cX7_lay 214 = .ok (.iaload, 1) := by decide +kernel
theorem dX7_lay_215 : decode cX7_lay 215 = .ok (.iastore, 1) := by decide +kernel
theorem dX7_lay_216 : decode cX7_lay 216 = .ok (.iinc 1 1, 3) := by decide +kernel
theorem dX7_lay_219 : decode cX7_lay 219 = .ok (.goto (-22), 3) := by decide +kernel
theorem dX7_lay_222 : decode cX7_lay 222 = .ok (.aload_n 0, 1) := by decide +kernel
theorem dX7_lay_223 : decode cX7_lay 223 = .ok (.invokevirtual 83, 3) := by decide +kernel
theorem dX7_lay_226 : decode cX7_lay 226 = .ok (.aload_n 0, 1) := by decide +kernel
theorem dX7_lay_227 : decode cX7_lay 227 = .ok (.getfield 13, 3) := by decide +kernel
theorem dX7_lay_230 : decode cX7_lay 230 = .ok (.iconst 0, 1) := by decide +kernel
theorem dX7_lay_231 : decode cX7_lay 231 = .ok (.iaload, 1) := by decide +kernel
theorem dX7_lay_232 : decode cX7_lay 232 = .ok (.ireturn, 1) := by decide +kernel
theorem dX7_isPerson_0 : decode cX7_isPerson 0 = .ok (.iload_n 1, 1) := by decide +kernel
theorem dX7_isPerson_1 : decode cX7_isPerson 1 = .ok (.i2l, 1) := by decide +kernel
theorem dX7_isPerson_2 : decode cX7_isPerson 2 = .ok (.lconst 0, 1) := by decide +kernel
theorem dX7_isPerson_3 : decode cX7_isPerson 3 = .ok (.aload_n 0, 1) := by decide +kernel
theorem dX7_isPerson_4 : decode cX7_isPerson 4 = .ok (.getfield 13, 3) := by decide +kernel
theorem dX7_isPerson_7 : decode cX7_isPerson 7 = .ok (.iconst 0, 1) := by decide +kernel
theorem dX7_isPerson_8 : decode cX7_isPerson 8 = .ok (.iaload, 1) := by decide +kernel
theorem dX7_isPerson_9 : decode cX7_isPerson 9 = .ok (.iconst 1, 1) := by decide +kernel
theorem dX7_isPerson_10 : decode cX7_isPerson 10 = .ok (.isub, 1) := by decide +kernel
theorem dX7_isPerson_11 : decode cX7_isPerson 11 = .ok (.i2l, 1) := by decide +kernel
theorem dX7_isPerson_12 : decode cX7_isPerson 12 = .ok (.invokestatic 88, 3) := by decide +kernel
theorem dX7_isPerson_15 : decode cX7_isPerson 15 = .ok (.ireturn, 1) := by decide +kernel
theorem dX7_isSet_0 : decode cX7_isSet 0 = .ok (.iload_n 1, 1) := by decide +kernel
theorem dX7_isSet_1 : decode cX7_isSet 1 = .ok (.i2l, 1) := by decide +kernel
theorem dX7_isSet_2 : decode cX7_isSet 2 = .ok (.lconst 1, 1) := by decide +kernel
theorem dX7_isSet_3 : decode cX7_isSet 3 = .ok (.iconst 1, 1) := by decide +kernel
theorem dX7_isSet_4 : decode cX7_isSet 4 = .ok (.aload_n 0, 1) := by decide +kernel
theorem dX7_isSet_5 : decode cX7_isSet 5 = .ok (.getfield 13, 3) := by decide +kernel
theorem dX7_isSet_8 : decode cX7_isSet 8 = .ok (.iconst 0, 1) := by decide +kernel
theorem dX7_isSet_9 : decode cX7_isSet 9 = .ok (.iaload, 1) := by decide +kernel
theorem dX7_isSet_10 : decode cX7_isSet 10 = .ok (.ishl, 1) := by decide +kernel
theorem dX7_isSet_11 : decode cX7_isSet 11 = .ok (.iconst 1, 1) := by decide +kernel
theorem dX7_isSet_12 : decode cX7_isSet 12 = .ok (.isub, 1) := by decide +kernel
theorem dX7_isSet_13 : decode cX7_isSet 13 = .ok (.i2l, 1) := by decide +kernel
theorem dX7_isSet_14 : decode cX7_isSet 14 = .ok (.invokestatic 88, 3) := by decide +kernel
theorem dX7_isSet_17 : decode cX7_isSet 17 = .ok (.ireturn, 1) := by decide +kernel
theorem dX7_laySaid_0 : decode cX7_laySaid 0 = .ok (.iconst 0, 1) := by decide +kernel
theorem dX7_laySaid_1 : decode cX7_laySaid 1 = .ok (.istore 4, 2) := by decide +kernel
theorem dX7_laySaid_3 : decode cX7_laySaid 3 = .ok (.iload 4, 2) := by decide +kernel
theorem dX7_laySaid_5 : decode cX7_laySaid 5 = .ok (.aload_n 0, 1) := by decide +kernel
theorem dX7_laySaid_6 : decode cX7_laySaid 6 = .ok (.getfield 13, 3) := by decide +kernel
theorem dX7_laySaid_9 : decode cX7_laySaid 9 = .ok (.iconst 0, 1) := by decide +kernel
theorem dX7_laySaid_10 : decode cX7_laySaid 10 = .ok (.iaload, 1) := by decide +kernel
theorem dX7_laySaid_11 : decode cX7_laySaid 11 = .ok (.if_icmp .ge 220, 3) := by decide +kernel
theorem dX7_laySaid_14 : decode cX7_laySaid 14 = .ok (.bipush 8, 2) := by decide +kernel
theorem dX7_laySaid_16 : decode cX7_laySaid 16 = .ok (.iload_n 1, 1) := by decide +kernel
theorem dX7_laySaid_17 : decode cX7_laySaid 17 = .ok (.imul, 1) := by decide +kernel
theorem dX7_laySaid_18 : decode cX7_laySaid 18 = .ok (.iload 4, 2) := by decide +kernel
theorem dX7_laySaid_20 : decode cX7_laySaid 20 = .ok (.iadd, 1) := by decide +kernel
theorem dX7_laySaid_21 : decode cX7_laySaid 21 = .ok (.istore 5, 2) := by decide +kernel
theorem dX7_laySaid_23 : decode cX7_laySaid 23 = .ok (.aload_n 0, 1) := by decide +kernel
theorem dX7_laySaid_24 : decode cX7_laySaid 24 = .ok (.getfield 46, 3) := by decide +kernel
theorem dX7_laySaid_27 : decode cX7_laySaid 27 = .ok (.iload 5, 2) := by decide +kernel
theorem dX7_laySaid_29 : decode cX7_laySaid 29 = .ok (.iaload, 1) := by decide +kernel
theorem dX7_laySaid_30 : decode cX7_laySaid 30 = .ok (.iload 4, 2) := by decide +kernel
theorem dX7_laySaid_32 : decode cX7_laySaid 32 = .ok (.iload_n 2, 1) := by decide +kernel
theorem dX7_laySaid_33 : decode cX7_laySaid 33 = .ok (.if_icmp .ne 7, 3) := by decide +kernel
theorem dX7_laySaid_36 : decode cX7_laySaid 36 = .ok (.iconst 1, 1) := by decide +kernel
theorem dX7_laySaid_37 : decode cX7_laySaid 37 = .ok (.goto 4, 3) := by decide +kernel
theorem dX7_laySaid_40 : decode cX7_laySaid 40 = .ok (.iconst 0, 1) := by decide +kernel
theorem dX7_laySaid_41 : decode cX7_laySaid 41 = .ok (.iadd, 1) := by decide +kernel
theorem dX7_laySaid_42 : decode cX7_laySaid 42 = .ok (.istore 6, 2) := by decide +kernel
theorem dX7_laySaid_44 : decode cX7_laySaid 44 = .ok (.aload_n 0, 1) := by decide +kernel
theorem dX7_laySaid_45 : decode cX7_laySaid 45 = .ok (.getfield 43, 3) := by decide +kernel
theorem dX7_laySaid_48 : decode cX7_laySaid 48 = .ok (.iload 5, 2) := by decide +kernel
theorem dX7_laySaid_50 : decode cX7_laySaid 50 = .ok (.iaload, 1) := by decide +kernel
theorem dX7_laySaid_51 : decode cX7_laySaid 51 = .ok (.iconst 1, 1) := by decide +kernel
theorem dX7_laySaid_52 : decode cX7_laySaid 52 = .ok (.if_icmp .ne 16, 3) := by decide +kernel
theorem dX7_laySaid_55 : decode cX7_laySaid 55 = .ok (.iload 6, 2) := by decide +kernel
theorem dX7_laySaid_57 : decode cX7_laySaid 57 = .ok (.iconst 1, 1) := by decide +kernel
theorem dX7_laySaid_58 : decode cX7_laySaid 58 = .ok (.if_icmp .le 10, 3) := by decide +kernel
theorem dX7_laySaid_61 : decode cX7_laySaid 61 = .ok (.iload 6, 2) := by decide +kernel
theorem dX7_laySaid_63 : decode cX7_laySaid 63 = .ok (.iconst 1, 1) := by decide +kernel
theorem dX7_laySaid_64 : decode cX7_laySaid 64 = .ok (.isub, 1) := by decide +kernel
theorem dX7_laySaid_65 : decode cX7_laySaid 65 = .ok (.goto 5, 3) := by decide +kernel
theorem dX7_laySaid_68 : decode cX7_laySaid 68 = .ok (.iload 6, 2) := by decide +kernel
theorem dX7_laySaid_70 : decode cX7_laySaid 70 = .ok (.istore 7, 2) := by decide +kernel
theorem dX7_laySaid_72 : decode cX7_laySaid 72 = .ok (.aload_n 0, 1) := by decide +kernel
theorem dX7_laySaid_73 : decode cX7_laySaid 73 = .ok (.getfield 64, 3) := by decide +kernel
theorem dX7_laySaid_76 : decode cX7_laySaid 76 = .ok (.iload 4, 2) := by decide +kernel
theorem dX7_laySaid_78 : decode cX7_laySaid 78 = .ok (.aload_n 0, 1) := by decide +kernel
theorem dX7_laySaid_79 : decode cX7_laySaid 79 = .ok (.getfield 43, 3) := by decide +kernel
theorem dX7_laySaid_82 : decode cX7_laySaid 82 = .ok (.iload 5, 2) := by decide +kernel
theorem dX7_laySaid_84 : decode cX7_laySaid 84 = .ok (.iaload, 1) := by decide +kernel
theorem dX7_laySaid_85 : decode cX7_laySaid 85 = .ok (.iconst 1, 1) := by decide +kernel
theorem dX7_laySaid_86 : decode cX7_laySaid 86 = .ok (.if_icmp .le 10, 3) := by decide +kernel
theorem dX7_laySaid_89 : decode cX7_laySaid 89 = .ok (.iconst 2, 1) := by decide +kernel
theorem dX7_laySaid_90 : decode cX7_laySaid 90 = .ok (.iload 7, 2) := by decide +kernel
theorem dX7_laySaid_92 : decode cX7_laySaid 92 = .ok (.imul, 1) := by decide +kernel
theorem dX7_laySaid_93 : decode cX7_laySaid 93 = .ok (.goto 5, 3) := by decide +kernel
theorem dX7_laySaid_96 : decode cX7_laySaid 96 = .ok (.iload 7, 2) := by decide +kernel
theorem dX7_laySaid_98 : decode cX7_laySaid 98 = .ok (.iastore, 1) := by decide +kernel
theorem dX7_laySaid_99 : decode cX7_laySaid 99 = .ok (.aload_n 0, 1) := by decide +kernel
theorem dX7_laySaid_100 : decode cX7_laySaid 100 = .ok (.getfield 67, 3) := by decide +kernel
theorem dX7_laySaid_103 : decode cX7_laySaid 103 = .ok (.iload 4, 2) := by decide +kernel
theorem dX7_laySaid_105 : decode cX7_laySaid 105 = .ok (.iconst 0, 1) := by decide +kernel
theorem dX7_laySaid_106 : decode cX7_laySaid 106 = .ok (.iastore, 1) := by decide +kernel
theorem dX7_laySaid_107 : decode cX7_laySaid 107 = .ok (.iconst 0, 1) := by decide +kernel
theorem dX7_laySaid_108 : decode cX7_laySaid 108 = .ok (.istore 8, 2) := by decide +kernel
theorem dX7_laySaid_110 : decode cX7_laySaid 110 = .ok (.iload 8, 2) := by decide +kernel
theorem dX7_laySaid_112 : decode cX7_laySaid 112 = .ok (.aload_n 0, 1) := by decide +kernel
theorem dX7_laySaid_113 : decode cX7_laySaid 113 = .ok (.getfield 64, 3) := by decide +kernel
theorem dX7_laySaid_116 : decode cX7_laySaid 116 = .ok (.iload 4, 2) := by decide +kernel
theorem dX7_laySaid_118 : decode cX7_laySaid 118 = .ok (.iaload, 1) := by decide +kernel
theorem dX7_laySaid_119 : decode cX7_laySaid 119 = .ok (.if_icmp .ge 106, 3) := by decide +kernel
theorem dX7_laySaid_122 : decode cX7_laySaid 122 = .ok (.iload 8, 2) := by decide +kernel
theorem dX7_laySaid_124 : decode cX7_laySaid 124 = .ok (.iload 7, 2) := by decide +kernel
theorem dX7_laySaid_126 : decode cX7_laySaid 126 = .ok (.irem, 1) := by decide +kernel
theorem dX7_laySaid_127 : decode cX7_laySaid 127 = .ok (.istore 9, 2) := by decide +kernel
theorem dX7_laySaid_129 : decode cX7_laySaid 129 = .ok (.aload_n 0, 1) := by decide +kernel
theorem dX7_laySaid_130 : decode cX7_laySaid 130 = .ok (.getfield 61, 3) := by decide +kernel
theorem dX7_laySaid_133 : decode cX7_laySaid 133 = .ok (.bipush 20, 2) := by decide +kernel
theorem dX7_laySaid_135 : decode cX7_laySaid 135 = .ok (.iload 4, 2) := by decide +kernel
theorem dX7_laySaid_137 : decode cX7_laySaid 137 = .ok (.imul, 1) := by decide +kernel
theorem dX7_laySaid_138 : decode cX7_laySaid 138 = .ok (.iload 8, 2) := by decide +kernel
theorem dX7_laySaid_140 : decode cX7_laySaid 140 = .ok (.iadd, 1) := by decide +kernel
theorem dX7_laySaid_141 : decode cX7_laySaid 141 = .ok (.iload 4, 2) := by decide +kernel
theorem dX7_laySaid_143 : decode cX7_laySaid 143 = .ok (.iload_n 2, 1) := by decide +kernel
theorem dX7_laySaid_144 : decode cX7_laySaid 144 = .ok (.if_icmp .ne 16, 3) := by decide +kernel
theorem dX7_laySaid_147 : decode cX7_laySaid 147 = .ok (.iload 9, 2) := by decide +kernel
theorem dX7_laySaid_149 : decode cX7_laySaid 149 = .ok (.iload 6, 2) := by decide +kernel
theorem dX7_laySaid_151 : decode cX7_laySaid 151 = .ok (.iconst 1, 1) := by decide +kernel
theorem dX7_laySaid_152 : decode cX7_laySaid 152 = .ok (.isub, 1) := by decide +kernel
theorem dX7_laySaid_153 : decode cX7_laySaid 153 = .ok (.if_icmp .ne 7, 3) := by decide +kernel
theorem dX7_laySaid_156 : decode cX7_laySaid 156 = .ok (.iload_n 3, 1) := by decide +kernel
theorem dX7_laySaid_157 : decode cX7_laySaid 157 = .ok (.goto 16, 3) := by decide +kernel
theorem dX7_laySaid_160 : decode cX7_laySaid 160 = .ok (.aload_n 0, 1) := by decide +kernel
theorem dX7_laySaid_161 : decode cX7_laySaid 161 = .ok (.getfield 49, 3) := by decide +kernel
theorem dX7_laySaid_164 : decode cX7_laySaid 164 = .ok (.bipush 10, 2) := by decide +kernel
theorem dX7_laySaid_166 : decode cX7_laySaid 166 = .ok (.iload 5, 2) := by decide +kernel
theorem dX7_laySaid_168 : decode cX7_laySaid 168 = .ok (.imul, 1) := by decide +kernel
theorem dX7_laySaid_169 : decode cX7_laySaid 169 = .ok (.iload 9, 2) := by decide +kernel
theorem dX7_laySaid_171 : decode cX7_laySaid 171 = .ok (.iadd, 1) := by decide +kernel
theorem dX7_laySaid_172 : decode cX7_laySaid 172 = .ok (.iaload, 1) := by decide +kernel
theorem dX7_laySaid_173 : decode cX7_laySaid 173 = .ok (.iastore, 1) := by decide +kernel
theorem dX7_laySaid_174 : decode cX7_laySaid 174 = .ok (.aload_n 0, 1) := by decide +kernel
theorem dX7_laySaid_175 : decode cX7_laySaid 175 = .ok (.getfield 67, 3) := by decide +kernel
theorem dX7_laySaid_178 : decode cX7_laySaid 178 = .ok (.iload 4, 2) := by decide +kernel
theorem dX7_laySaid_180 : decode cX7_laySaid 180 = .ok (.dup2, 1) := by decide +kernel
theorem dX7_laySaid_181 : decode cX7_laySaid 181 = .ok (.iaload, 1) := by decide +kernel
theorem dX7_laySaid_182 : decode cX7_laySaid 182 = .ok (.aload_n 0, 1) := by decide +kernel
theorem dX7_laySaid_183 : decode cX7_laySaid 183 = .ok (.getfield 37, 3) := by decide +kernel
theorem dX7_laySaid_186 : decode cX7_laySaid 186 = .ok (.aload_n 0, 1) := by decide +kernel
theorem dX7_laySaid_187 : decode cX7_laySaid 187 = .ok (.getfield 61, 3) := by decide +kernel
theorem dX7_laySaid_190 : decode cX7_laySaid 190 = .ok (.bipush 20, 2) := by decide +kernel
theorem dX7_laySaid_192 : decode cX7_laySaid 192 = .ok (.iload 4, 2) := by decide +kernel
theorem dX7_laySaid_194 : decode cX7_laySaid 194 = .ok (.imul, 1) := by decide +kernel
theorem dX7_laySaid_195 : decode cX7_laySaid 195 = .ok (.iload 8, 2) := by decide +kernel
theorem dX7_laySaid_197 : decode cX7_laySaid 197 = .ok (.iadd, 1) := by decide +kernel
theorem dX7_laySaid_198 : decode cX7_laySaid 198 = .ok (.iaload, 1) := by decide +kernel
theorem dX7_laySaid_199 : decode cX7_laySaid 199 = .ok (.iaload, 1) := by decide +kernel
theorem dX7_laySaid_200 : decode cX7_laySaid 200 = .ok (.aload_n 0, 1) := by decide +kernel
theorem dX7_laySaid_201 : decode cX7_laySaid 201 = .ok (.getfield 43, 3) := by decide +kernel
theorem dX7_laySaid_204 : decode cX7_laySaid 204 = .ok (.iload 5, 2) := by decide +kernel
theorem dX7_laySaid_206 : decode cX7_laySaid 206 = .ok (.iaload, 1) := by decide +kernel
theorem dX7_laySaid_207 : decode cX7_laySaid 207 = .ok (.iconst 3, 1) := by decide +kernel
theorem dX7_laySaid_208 : decode cX7_laySaid 208 = .ok (.if_icmp .ne 7, 3) := by decide +kernel
theorem dX7_laySaid_211 : decode cX7_laySaid 211 = .ok (.iconst 2, 1) := by decide +kernel
theorem dX7_laySaid_212 : decode cX7_laySaid 212 = .ok (.goto 4, 3) := by decide +kernel
theorem dX7_laySaid_215 : decode cX7_laySaid 215 = .ok (.iconst 1, 1) := by decide +kernel
theorem dX7_laySaid_216 : decode cX7_laySaid 216 = .ok (.imul, 1) := by decide +kernel
theorem dX7_laySaid_217 : decode cX7_laySaid 217 = .ok (.iadd, 1) := by decide +kernel
theorem dX7_laySaid_218 : decode cX7_laySaid 218 = .ok (.iastore, 1) := by decide +kernel
theorem dX7_laySaid_219 : decode cX7_laySaid 219 = .ok (.iinc 8 1, 3) := by decide +kernel
theorem dX7_laySaid_222 : decode cX7_laySaid 222 = .ok (.goto (-112), 3) := by decide +kernel
theorem dX7_laySaid_225 : decode cX7_laySaid 225 = .ok (.iinc 4 1, 3) := by decide +kernel
theorem dX7_laySaid_228 : decode cX7_laySaid 228 = .ok (.goto (-225), 3) := by decide +kernel
theorem dX7_laySaid_231 : decode cX7_laySaid 231 = .ok (.return_, 1) := by decide +kernel
theorem dX7_sayNow_0 : decode cX7_sayNow 0 = .ok (.aload_n 0, 1) := by decide +kernel
theorem dX7_sayNow_1 : decode cX7_sayNow 1 = .ok (.iconst 0, 1) := by decide +kernel
theorem dX7_sayNow_2 : decode cX7_sayNow 2 = .ok (.bipush (-4), 2) := by decide +kernel
theorem dX7_sayNow_4 : decode cX7_sayNow 4 = .ok (.bipush (-4), 2) := by decide +kernel
theorem dX7_sayNow_6 : decode cX7_sayNow 6 = .ok (.invokevirtual 135, 3) := by decide +kernel
theorem dX7_sayNow_9 : decode cX7_sayNow 9 = .ok (.return_, 1) := by decide +kernel
theorem dX7_person_0 : decode cX7_person 0 = .ok (.aload_n 0, 1) := by decide +kernel
theorem dX7_person_1 : decode cX7_person 1 = .ok (.iload_n 1, 1) := by decide +kernel
theorem dX7_person_2 : decode cX7_person 2 = .ok (.invokevirtual 139, 3) := by decide +kernel
theorem dX7_person_5 : decode cX7_person 5 = .ok (.ifCond .eq 15, 3) := by decide +kernel
theorem dX7_person_8 : decode cX7_person 8 = .ok (.iload_n 2, 1) := by decide +kernel
theorem dX7_person_9 : decode cX7_person 9 = .ok (.i2l, 1) := by decide +kernel
theorem dX7_person_10 : decode cX7_person 10 = .ok (.lconst 0, 1) := by decide +kernel
theorem dX7_person_11 : decode cX7_person 11 = .ok (.ldc2_w 143, 3) := by decide +kernel
theorem dX7_person_14 : decode cX7_person 14 = .ok (.invokestatic 88, 3) := by decide +kernel
theorem dX7_person_17 : decode cX7_person 17 = .ok (.ifCond .ne 5, 3) := by decide +kernel
theorem dX7_person_20 : decode cX7_person 20 = .ok (.iconst (-1), 1) := by decide +kernel
theorem dX7_person_21 : decode cX7_person 21 = .ok (.ireturn, 1) := by decide +kernel
theorem dX7_person_22 : decode cX7_person 22 = .ok (.aload_n 0, 1) := by decide +kernel
theorem dX7_person_23 : decode cX7_person 23 = .ok (.invokevirtual 145, 3) := by decide +kernel
theorem dX7_person_26 : decode cX7_person 26 = .ok (.iload_n 2, 1) := by decide +kernel
theorem dX7_person_27 : decode cX7_person 27 = .ok (.tableswitch 68 0 4 #[33, 40, 47, 54, 61], 33) := by decide +kernel
theorem dX7_person_60 : decode cX7_person 60 = .ok (.aload_n 0, 1) := by decide +kernel
theorem dX7_person_61 : decode cX7_person 61 = .ok (.getfield 43, 3) := by decide +kernel
theorem dX7_person_64 : decode cX7_person 64 = .ok (.iload_n 1, 1) := by decide +kernel
theorem dX7_person_65 : decode cX7_person 65 = .ok (.iaload, 1) := by decide +kernel
theorem dX7_person_66 : decode cX7_person 66 = .ok (.ireturn, 1) := by decide +kernel
theorem dX7_person_67 : decode cX7_person 67 = .ok (.aload_n 0, 1) := by decide +kernel
theorem dX7_person_68 : decode cX7_person 68 = .ok (.getfield 25, 3) := by decide +kernel
theorem dX7_person_71 : decode cX7_person 71 = .ok (.iload_n 1, 1) := by decide +kernel
theorem dX7_person_72 : decode cX7_person 72 = .ok (.iaload, 1) := by decide +kernel
theorem dX7_person_73 : decode cX7_person 73 = .ok (.ireturn, 1) := by decide +kernel
theorem dX7_person_74 : decode cX7_person 74 = .ok (.aload_n 0, 1) := by decide +kernel
theorem dX7_person_75 : decode cX7_person 75 = .ok (.getfield 28, 3) := by decide +kernel
theorem dX7_person_78 : decode cX7_person 78 = .ok (.iload_n 1, 1) := by decide +kernel
theorem dX7_person_79 : decode cX7_person 79 = .ok (.iaload, 1) := by decide +kernel
theorem dX7_person_80 : decode cX7_person 80 = .ok (.ireturn, 1) := by decide +kernel
theorem dX7_person_81 : decode cX7_person 81 = .ok (.aload_n 0, 1) := by decide +kernel
theorem dX7_person_82 : decode cX7_person 82 = .ok (.getfield 46, 3) := by decide +kernel
theorem dX7_person_85 : decode cX7_person 85 = .ok (.iload_n 1, 1) := by decide +kernel
theorem dX7_person_86 : decode cX7_person 86 = .ok (.iaload, 1) := by decide +kernel
theorem dX7_person_87 : decode cX7_person 87 = .ok (.ireturn, 1) := by decide +kernel
theorem dX7_person_88 : decode cX7_person 88 = .ok (.aload_n 0, 1) := by decide +kernel
theorem dX7_person_89 : decode cX7_person 89 = .ok (.getfield 64, 3) := by decide +kernel
theorem dX7_person_92 : decode cX7_person 92 = .ok (.iload_n 1, 1) := by decide +kernel
theorem dX7_person_93 : decode cX7_person 93 = .ok (.iaload, 1) := by decide +kernel
theorem dX7_person_94 : decode cX7_person 94 = .ok (.ireturn, 1) := by decide +kernel
theorem dX7_person_95 : decode cX7_person 95 = .ok (.aload_n 0, 1) := by decide +kernel
theorem dX7_person_96 : decode cX7_person 96 = .ok (.getfield 67, 3) := by decide +kernel
theorem dX7_person_99 : decode cX7_person 99 = .ok (.iload_n 1, 1) := by decide +kernel
theorem dX7_person_100 : decode cX7_person 100 = .ok (.iaload, 1) := by decide +kernel
theorem dX7_person_101 : decode cX7_person 101 = .ok (.ireturn, 1) := by decide +kernel
theorem dX7_said_0 : decode cX7_said 0 = .ok (.aload_n 0, 1) := by decide +kernel
theorem dX7_said_1 : decode cX7_said 1 = .ok (.iload_n 1, 1) := by decide +kernel
theorem dX7_said_2 : decode cX7_said 2 = .ok (.invokevirtual 139, 3) := by decide +kernel
theorem dX7_said_5 : decode cX7_said 5 = .ok (.ifCond .eq 15, 3) := by decide +kernel
theorem dX7_said_8 : decode cX7_said 8 = .ok (.iload_n 2, 1) := by decide +kernel
theorem dX7_said_9 : decode cX7_said 9 = .ok (.i2l, 1) := by decide +kernel
theorem dX7_said_10 : decode cX7_said 10 = .ok (.lconst 0, 1) := by decide +kernel
theorem dX7_said_11 : decode cX7_said 11 = .ok (.ldc2_w 148, 3) := by decide +kernel
theorem dX7_said_14 : decode cX7_said 14 = .ok (.invokestatic 88, 3) := by decide +kernel
theorem dX7_said_17 : decode cX7_said 17 = .ok (.ifCond .ne 5, 3) := by decide +kernel
theorem dX7_said_20 : decode cX7_said 20 = .ok (.iconst (-1), 1) := by decide +kernel
theorem dX7_said_21 : decode cX7_said 21 = .ok (.ireturn, 1) := by decide +kernel
theorem dX7_said_22 : decode cX7_said 22 = .ok (.aload_n 0, 1) := by decide +kernel
theorem dX7_said_23 : decode cX7_said 23 = .ok (.invokevirtual 145, 3) := by decide +kernel
theorem dX7_said_26 : decode cX7_said 26 = .ok (.iload_n 2, 1) := by decide +kernel
theorem dX7_said_27 : decode cX7_said 27 = .ok (.aload_n 0, 1) := by decide +kernel
theorem dX7_said_28 : decode cX7_said 28 = .ok (.getfield 64, 3) := by decide +kernel
theorem dX7_said_31 : decode cX7_said 31 = .ok (.iload_n 1, 1) := by decide +kernel
theorem dX7_said_32 : decode cX7_said 32 = .ok (.iaload, 1) := by decide +kernel
theorem dX7_said_33 : decode cX7_said 33 = .ok (.if_icmp .ge 17, 3) := by decide +kernel
theorem dX7_said_36 : decode cX7_said 36 = .ok (.aload_n 0, 1) := by decide +kernel
theorem dX7_said_37 : decode cX7_said 37 = .ok (.getfield 61, 3) := by decide +kernel
theorem dX7_said_40 : decode cX7_said 40 = .ok (.bipush 20, 2) := by decide +kernel
theorem dX7_said_42 : decode cX7_said 42 = .ok (.iload_n 1, 1) := by decide +kernel
theorem dX7_said_43 : decode cX7_said 43 = .ok (.imul, 1) := by decide +kernel
theorem dX7_said_44 : decode cX7_said 44 = .ok (.iload_n 2, 1) := by decide +kernel
theorem dX7_said_45 : decode cX7_said 45 = .ok (.iadd, 1) := by decide +kernel
theorem dX7_said_46 : decode cX7_said 46 = .ok (.iaload, 1) := by decide +kernel
theorem dX7_said_47 : decode cX7_said 47 = .ok (.goto 5, 3) := by decide +kernel
theorem dX7_said_50 : decode cX7_said 50 = .ok (.bipush (-4), 2) := by decide +kernel
theorem dX7_said_52 : decode cX7_said 52 = .ok (.ireturn, 1) := by decide +kernel
theorem dX7_doDeed_0 : decode cX7_doDeed 0 = .ok (.aload_n 0, 1) := by decide +kernel
theorem dX7_doDeed_1 : decode cX7_doDeed 1 = .ok (.getfield 34, 3) := by decide +kernel
theorem dX7_doDeed_4 : decode cX7_doDeed 4 = .ok (.iload_n 2, 1) := by decide +kernel
theorem dX7_doDeed_5 : decode cX7_doDeed 5 = .ok (.iaload, 1) := by decide +kernel
theorem dX7_doDeed_6 : decode cX7_doDeed 6 = .ok (.iconst 1, 1) := by decide +kernel
theorem dX7_doDeed_7 : decode cX7_doDeed 7 = .ok (.if_icmp .ne 29, 3) := by decide +kernel
theorem dX7_doDeed_10 : decode cX7_doDeed 10 = .ok (.aload_n 0, 1) := by decide +kernel
theorem dX7_doDeed_11 : decode cX7_doDeed 11 = .ok (.getfield 46, 3) := by decide +kernel
theorem dX7_doDeed_14 : decode cX7_doDeed 14 = .ok (.iload_n 1, 1) := by decide +kernel
theorem dX7_doDeed_15 : decode cX7_doDeed 15 = .ok (.dup2, 1) := by decide +kernel
theorem dX7_doDeed_16 : decode cX7_doDeed 16 = .ok (.iaload, 1) := by decide +kernel
theorem dX7_doDeed_17 : decode cX7_doDeed 17 = .ok (.aload_n 0, 1) := by decide +kernel
theorem dX7_doDeed_18 : decode cX7_doDeed 18 = .ok (.getfield 46, 3) := by decide +kernel
theorem dX7_doDeed_21 : decode cX7_doDeed 21 = .ok (.iload_n 1, 1) := by decide +kernel
theorem dX7_doDeed_22 : decode cX7_doDeed 22 = .ok (.iaload, 1) := by decide +kernel
theorem dX7_doDeed_23 : decode cX7_doDeed 23 = .ok (.iconst 1, 1) := by decide +kernel
theorem dX7_doDeed_24 : decode cX7_doDeed 24 = .ok (.if_icmp .le 7, 3) := by decide +kernel
theorem dX7_doDeed_27 : decode cX7_doDeed 27 = .ok (.iconst 1, 1) := by decide +kernel
theorem dX7_doDeed_28 : decode cX7_doDeed 28 = .ok (.goto 4, 3) := by decide +kernel
theorem dX7_doDeed_31 : decode cX7_doDeed 31 = .ok (.iconst 0, 1) := by decide +kernel
theorem dX7_doDeed_32 : decode cX7_doDeed 32 = .ok (.isub, 1) := by decide +kernel
theorem dX7_doDeed_33 : decode cX7_doDeed 33 = .ok (.iastore, 1) := by decide +kernel
theorem dX7_doDeed_34 : decode cX7_doDeed 34 = .ok (.iconst 1, 1) := by decide +kernel
theorem dX7_doDeed_35 : decode cX7_doDeed 35 = .ok (.ireturn, 1) := by decide +kernel
theorem dX7_doDeed_36 : decode cX7_doDeed 36 = .ok (.aload_n 0, 1) := by decide +kernel
theorem dX7_doDeed_37 : decode cX7_doDeed 37 = .ok (.getfield 46, 3) := by decide +kernel
theorem dX7_doDeed_40 : decode cX7_doDeed 40 = .ok (.iload_n 1, 1) := by decide +kernel
theorem dX7_doDeed_41 : decode cX7_doDeed 41 = .ok (.iaload, 1) := by decide +kernel
theorem dX7_doDeed_42 : decode cX7_doDeed 42 = .ok (.bipush 10, 2) := by decide +kernel
theorem dX7_doDeed_44 : decode cX7_doDeed 44 = .ok (.if_icmp .ne 5, 3) := by decide +kernel
theorem dX7_doDeed_47 : decode cX7_doDeed 47 = .ok (.iconst 0, 1) := by decide +kernel
theorem dX7_doDeed_48 : decode cX7_doDeed 48 = .ok (.ireturn, 1) := by decide +kernel
theorem dX7_doDeed_49 : decode cX7_doDeed 49 = .ok (.aload_n 0, 1) := by decide +kernel
theorem dX7_doDeed_50 : decode cX7_doDeed 50 = .ok (.getfield 49, 3) := by decide +kernel
theorem dX7_doDeed_53 : decode cX7_doDeed 53 = .ok (.bipush 10, 2) := by decide +kernel
theorem dX7_doDeed_55 : decode cX7_doDeed 55 = .ok (.iload_n 1, 1) := by decide +kernel
theorem dX7_doDeed_56 : decode cX7_doDeed 56 = .ok (.imul, 1) := by decide +kernel
theorem dX7_doDeed_57 : decode cX7_doDeed 57 = .ok (.aload_n 0, 1) := by decide +kernel
theorem dX7_doDeed_58 : decode cX7_doDeed 58 = .ok (.getfield 46, 3) := by decide +kernel
theorem dX7_doDeed_61 : decode cX7_doDeed 61 = .ok (.iload_n 1, 1) := by decide +kernel
theorem dX7_doDeed_62 : decode cX7_doDeed 62 = .ok (.iaload, 1) := by decide +kernel
theorem dX7_doDeed_63 : decode cX7_doDeed 63 = .ok (.iadd, 1) := by decide +kernel
theorem dX7_doDeed_64 : decode cX7_doDeed 64 = .ok (.aload_n 0, 1) := by decide +kernel
theorem dX7_doDeed_65 : decode cX7_doDeed 65 = .ok (.getfield 31, 3) := by decide +kernel
theorem dX7_doDeed_68 : decode cX7_doDeed 68 = .ok (.iload_n 2, 1) := by decide +kernel
theorem dX7_doDeed_69 : decode cX7_doDeed 69 = .ok (.iaload, 1) := by decide +kernel
theorem dX7_doDeed_70 : decode cX7_doDeed 70 = .ok (.iastore, 1) := by decide +kernel
theorem dX7_doDeed_71 : decode cX7_doDeed 71 = .ok (.aload_n 0, 1) := by decide +kernel
theorem dX7_doDeed_72 : decode cX7_doDeed 72 = .ok (.getfield 46, 3) := by decide +kernel
theorem dX7_doDeed_75 : decode cX7_doDeed 75 = .ok (.iload_n 1, 1) := by decide +kernel
theorem dX7_doDeed_76 : decode cX7_doDeed 76 = .ok (.dup2, 1) := by decide +kernel
theorem dX7_doDeed_77 : decode cX7_doDeed 77 = .ok (.iaload, 1) := by decide +kernel
theorem dX7_doDeed_78 : decode cX7_doDeed 78 = .ok (.iconst 1, 1) := by decide +kernel
theorem dX7_doDeed_79 : decode cX7_doDeed 79 = .ok (.iadd, 1) := by decide +kernel
theorem dX7_doDeed_80 : decode cX7_doDeed 80 = .ok (.iastore, 1) := by decide +kernel
theorem dX7_doDeed_81 : decode cX7_doDeed 81 = .ok (.iconst 1, 1) := by decide +kernel
theorem dX7_doDeed_82 : decode cX7_doDeed 82 = .ok (.ireturn, 1) := by decide +kernel
theorem dX7_deed_0 : decode cX7_deed 0 = .ok (.aload_n 0, 1) := by decide +kernel
theorem dX7_deed_1 : decode cX7_deed 1 = .ok (.iload_n 1, 1) := by decide +kernel
theorem dX7_deed_2 : decode cX7_deed 2 = .ok (.invokevirtual 139, 3) := by decide +kernel
theorem dX7_deed_5 : decode cX7_deed 5 = .ok (.ifCond .eq 15, 3) := by decide +kernel
theorem dX7_deed_8 : decode cX7_deed 8 = .ok (.iload_n 2, 1) := by decide +kernel
theorem dX7_deed_9 : decode cX7_deed 9 = .ok (.i2l, 1) := by decide +kernel
theorem dX7_deed_10 : decode cX7_deed 10 = .ok (.lconst 0, 1) := by decide +kernel
theorem dX7_deed_11 : decode cX7_deed 11 = .ok (.ldc2_w 143, 3) := by decide +kernel
theorem dX7_deed_14 : decode cX7_deed 14 = .ok (.invokestatic 88, 3) := by decide +kernel
theorem dX7_deed_17 : decode cX7_deed 17 = .ok (.ifCond .ne 5, 3) := by decide +kernel
theorem dX7_deed_20 : decode cX7_deed 20 = .ok (.iconst (-1), 1) := by decide +kernel
theorem dX7_deed_21 : decode cX7_deed 21 = .ok (.ireturn, 1) := by decide +kernel
theorem dX7_deed_22 : decode cX7_deed 22 = .ok (.aload_n 0, 1) := by decide +kernel
theorem dX7_deed_23 : decode cX7_deed 23 = .ok (.iload_n 1, 1) := by decide +kernel
theorem dX7_deed_24 : decode cX7_deed 24 = .ok (.iload_n 2, 1) := by decide +kernel
theorem dX7_deed_25 : decode cX7_deed 25 = .ok (.invokevirtual 150, 3) := by decide +kernel
theorem dX7_deed_28 : decode cX7_deed 28 = .ok (.ifCond .eq 12, 3) := by decide +kernel
theorem dX7_deed_31 : decode cX7_deed 31 = .ok (.aload_n 0, 1) := by decide +kernel
theorem dX7_deed_32 : decode cX7_deed 32 = .ok (.getfield 46, 3) := by decide +kernel
theorem dX7_deed_35 : decode cX7_deed 35 = .ok (.iload_n 1, 1) := by decide +kernel
theorem dX7_deed_36 : decode cX7_deed 36 = .ok (.iaload, 1) := by decide +kernel
theorem dX7_deed_37 : decode cX7_deed 37 = .ok (.goto 5, 3) := by decide +kernel
theorem dX7_deed_40 : decode cX7_deed 40 = .ok (.bipush (-3), 2) := by decide +kernel
theorem dX7_deed_42 : decode cX7_deed 42 = .ok (.ireturn, 1) := by decide +kernel
theorem dX7_kind_0 : decode cX7_kind 0 = .ok (.aload_n 0, 1) := by decide +kernel
theorem dX7_kind_1 : decode cX7_kind 1 = .ok (.iload_n 1, 1) := by decide +kernel
theorem dX7_kind_2 : decode cX7_kind 2 = .ok (.invokevirtual 139, 3) := by decide +kernel
theorem dX7_kind_5 : decode cX7_kind 5 = .ok (.ifCond .eq 15, 3) := by decide +kernel
theorem dX7_kind_8 : decode cX7_kind 8 = .ok (.iload_n 2, 1) := by decide +kernel
theorem dX7_kind_9 : decode cX7_kind 9 = .ok (.i2l, 1) := by decide +kernel
theorem dX7_kind_10 : decode cX7_kind 10 = .ok (.lconst 0, 1) := by decide +kernel
theorem dX7_kind_11 : decode cX7_kind 11 = .ok (.ldc2_w 109, 3) := by decide +kernel
theorem dX7_kind_14 : decode cX7_kind 14 = .ok (.invokestatic 88, 3) := by decide +kernel
theorem dX7_kind_17 : decode cX7_kind 17 = .ok (.ifCond .ne 5, 3) := by decide +kernel
theorem dX7_kind_20 : decode cX7_kind 20 = .ok (.iconst (-1), 1) := by decide +kernel
theorem dX7_kind_21 : decode cX7_kind 21 = .ok (.ireturn, 1) := by decide +kernel
theorem dX7_kind_22 : decode cX7_kind 22 = .ok (.aload_n 0, 1) := by decide +kernel
theorem dX7_kind_23 : decode cX7_kind 23 = .ok (.getfield 43, 3) := by decide +kernel
theorem dX7_kind_26 : decode cX7_kind 26 = .ok (.iload_n 1, 1) := by decide +kernel
theorem dX7_kind_27 : decode cX7_kind 27 = .ok (.iaload, 1) := by decide +kernel
theorem dX7_kind_28 : decode cX7_kind 28 = .ok (.istore_n 3, 1) := by decide +kernel
theorem dX7_kind_29 : decode cX7_kind 29 = .ok (.aload_n 0, 1) := by decide +kernel
theorem dX7_kind_30 : decode cX7_kind 30 = .ok (.getfield 43, 3) := by decide +kernel
theorem dX7_kind_33 : decode cX7_kind 33 = .ok (.iload_n 1, 1) := by decide +kernel
theorem dX7_kind_34 : decode cX7_kind 34 = .ok (.iload_n 2, 1) := by decide +kernel
theorem dX7_kind_35 : decode cX7_kind 35 = .ok (.iastore, 1) := by decide +kernel
theorem dX7_kind_36 : decode cX7_kind 36 = .ok (.iload_n 3, 1) := by decide +kernel
theorem dX7_kind_37 : decode cX7_kind 37 = .ok (.ireturn, 1) := by decide +kernel
theorem dX7_cryOf_0 : decode cX7_cryOf 0 = .ok (.iconst 0, 1) := by decide +kernel
theorem dX7_cryOf_1 : decode cX7_cryOf 1 = .ok (.istore_n 2, 1) := by decide +kernel
theorem dX7_cryOf_2 : decode cX7_cryOf 2 = .ok (.iconst 0, 1) := by decide +kernel
theorem dX7_cryOf_3 : decode cX7_cryOf 3 = .ok (.istore_n 3, 1) := by decide +kernel
theorem dX7_cryOf_4 : decode cX7_cryOf 4 = .ok (.iconst 0, 1) := by decide +kernel
theorem dX7_cryOf_5 : decode cX7_cryOf 5 = .ok (.istore 4, 2) := by decide +kernel
theorem dX7_cryOf_7 : decode cX7_cryOf 7 = .ok (.iload 4, 2) := by decide +kernel
theorem dX7_cryOf_9 : decode cX7_cryOf 9 = .ok (.aload_n 0, 1) := by decide +kernel
theorem dX7_cryOf_10 : decode cX7_cryOf 10 = .ok (.getfield 13, 3) := by decide +kernel
theorem dX7_cryOf_13 : decode cX7_cryOf 13 = .ok (.iconst 0, 1) := by decide +kernel
theorem dX7_cryOf_14 : decode cX7_cryOf 14 = .ok (.iaload, 1) := by decide +kernel
theorem dX7_cryOf_15 : decode cX7_cryOf 15 = .ok (.if_icmp .ge 55, 3) := by decide +kernel
theorem dX7_cryOf_18 : decode cX7_cryOf 18 = .ok (.iload_n 2, 1) := by decide +kernel
theorem dX7_cryOf_19 : decode cX7_cryOf 19 = .ok (.iload_n 1, 1) := by decide +kernel
theorem dX7_cryOf_20 : decode cX7_cryOf 20 = .ok (.iload 4, 2) := by decide +kernel
theorem dX7_cryOf_22 : decode cX7_cryOf 22 = .ok (.invokestatic 153, 3) := by decide +kernel
theorem dX7_cryOf_25 : decode cX7_cryOf 25 = .ok (.ifCond .eq 13, 3) := by decide +kernel
theorem dX7_cryOf_28 : decode cX7_cryOf 28 = .ok (.aload_n 0, 1) := by decide +kernel
theorem dX7_cryOf_29 : decode cX7_cryOf 29 = .ok (.getfield 67, 3) := by decide +kernel
theorem dX7_cryOf_32 : decode cX7_cryOf 32 = .ok (.iload 4, 2) := by decide +kernel
theorem dX7_cryOf_34 : decode cX7_cryOf 34 = .ok (.iaload, 1) := by decide +kernel
theorem dX7_cryOf_35 : decode cX7_cryOf 35 = .ok (.goto 4, 3) := by decide +kernel
theorem dX7_cryOf_38 : decode cX7_cryOf 38 = .ok (.iconst 0, 1) := by decide +kernel
theorem dX7_cryOf_39 : decode cX7_cryOf 39 = .ok (.iadd, 1) := by decide +kernel
theorem dX7_cryOf_40 : decode cX7_cryOf 40 = .ok (.istore_n 2, 1) := by decide +kernel
theorem dX7_cryOf_41 : decode cX7_cryOf 41 = .ok (.iload_n 3, 1) := by decide +kernel
theorem dX7_cryOf_42 : decode cX7_cryOf 42 = .ok (.iload_n 1, 1) := by decide +kernel
theorem dX7_cryOf_43 : decode cX7_cryOf 43 = .ok (.iload 4, 2) := by decide +kernel
theorem dX7_cryOf_45 : decode cX7_cryOf 45 = .ok (.invokestatic 153, 3) := by decide +kernel
theorem dX7_cryOf_48 : decode cX7_cryOf 48 = .ok (.ifCond .eq 13, 3) := by decide +kernel
theorem dX7_cryOf_51 : decode cX7_cryOf 51 = .ok (.aload_n 0, 1) := by decide +kernel
theorem dX7_cryOf_52 : decode cX7_cryOf 52 = .ok (.getfield 64, 3) := by decide +kernel
theorem dX7_cryOf_55 : decode cX7_cryOf 55 = .ok (.iload 4, 2) := by decide +kernel
theorem dX7_cryOf_57 : decode cX7_cryOf 57 = .ok (.iaload, 1) := by decide +kernel
theorem dX7_cryOf_58 : decode cX7_cryOf 58 = .ok (.goto 4, 3) := by decide +kernel
theorem dX7_cryOf_61 : decode cX7_cryOf 61 = .ok (.iconst 0, 1) := by decide +kernel
theorem dX7_cryOf_62 : decode cX7_cryOf 62 = .ok (.iadd, 1) := by decide +kernel
theorem dX7_cryOf_63 : decode cX7_cryOf 63 = .ok (.istore_n 3, 1) := by decide +kernel
theorem dX7_cryOf_64 : decode cX7_cryOf 64 = .ok (.iinc 4 1, 3) := by decide +kernel
theorem dX7_cryOf_67 : decode cX7_cryOf 67 = .ok (.goto (-60), 3) := by decide +kernel
theorem dX7_cryOf_70 : decode cX7_cryOf 70 = .ok (.iload_n 2, 1) := by decide +kernel
theorem dX7_cryOf_71 : decode cX7_cryOf 71 = .ok (.iload_n 3, 1) := by decide +kernel
theorem dX7_cryOf_72 : decode cX7_cryOf 72 = .ok (.ifCond .ne 7, 3) := by decide +kernel
theorem dX7_cryOf_75 : decode cX7_cryOf 75 = .ok (.iconst 0, 1) := by decide +kernel
theorem dX7_cryOf_76 : decode cX7_cryOf 76 = .ok (.goto 29, 3) := by decide +kernel
theorem dX7_cryOf_79 : decode cX7_cryOf 79 = .ok (.aload_n 0, 1) := by decide +kernel
theorem dX7_cryOf_80 : decode cX7_cryOf 80 = .ok (.getfield 40, 3) := by decide +kernel
theorem dX7_cryOf_83 : decode cX7_cryOf 83 = .ok (.iconst 1, 1) := by decide +kernel
theorem dX7_cryOf_84 : decode cX7_cryOf 84 = .ok (.iaload, 1) := by decide +kernel
theorem dX7_cryOf_85 : decode cX7_cryOf 85 = .ok (.iload_n 3, 1) := by decide +kernel
theorem dX7_cryOf_86 : decode cX7_cryOf 86 = .ok (.aload_n 0, 1) := by decide +kernel
theorem dX7_cryOf_87 : decode cX7_cryOf 87 = .ok (.getfield 40, 3) := by decide +kernel
theorem dX7_cryOf_90 : decode cX7_cryOf 90 = .ok (.iconst 0, 1) := by decide +kernel
theorem dX7_cryOf_91 : decode cX7_cryOf 91 = .ok (.iaload, 1) := by decide +kernel
theorem dX7_cryOf_92 : decode cX7_cryOf 92 = .ok (.iadd, 1) := by decide +kernel
theorem dX7_cryOf_93 : decode cX7_cryOf 93 = .ok (.iconst 1, 1) := by decide +kernel
theorem dX7_cryOf_94 : decode cX7_cryOf 94 = .ok (.isub, 1) := by decide +kernel
theorem dX7_cryOf_95 : decode cX7_cryOf 95 = .ok (.aload_n 0, 1) := by decide +kernel
theorem dX7_cryOf_96 : decode cX7_cryOf 96 = .ok (.getfield 40, 3) := by decide +kernel
theorem dX7_cryOf_99 : decode cX7_cryOf 99 = .ok (.iconst 0, 1) := by decide +kernel
theorem dX7_cryOf_100 : decode cX7_cryOf 100 = .ok (.iaload, 1) := by decide +kernel
theorem dX7_cryOf_101 : decode cX7_cryOf 101 = .ok (.idiv, 1) := by decide +kernel
theorem dX7_cryOf_102 : decode cX7_cryOf 102 = .ok (.iconst 1, 1) := by decide +kernel
theorem dX7_cryOf_103 : decode cX7_cryOf 103 = .ok (.isub, 1) := by decide +kernel
theorem dX7_cryOf_104 : decode cX7_cryOf 104 = .ok (.imul, 1) := by decide +kernel
theorem dX7_cryOf_105 : decode cX7_cryOf 105 = .ok (.iadd, 1) := by decide +kernel
theorem dX7_cryOf_106 : decode cX7_cryOf 106 = .ok (.ireturn, 1) := by decide +kernel
theorem dX7_cry_0 : decode cX7_cry 0 = .ok (.aload_n 0, 1) := by decide +kernel
theorem dX7_cry_1 : decode cX7_cry 1 = .ok (.iload_n 1, 1) := by decide +kernel
theorem dX7_cry_2 : decode cX7_cry 2 = .ok (.invokevirtual 156, 3) := by decide +kernel
theorem dX7_cry_5 : decode cX7_cry 5 = .ok (.ifCond .ne 5, 3) := by decide +kernel
theorem dX7_cry_8 : decode cX7_cry 8 = .ok (.iconst (-1), 1) := by decide +kernel
theorem dX7_cry_9 : decode cX7_cry 9 = .ok (.ireturn, 1) := by decide +kernel
theorem dX7_cry_10 : decode cX7_cry 10 = .ok (.aload_n 0, 1) := by decide +kernel
theorem dX7_cry_11 : decode cX7_cry 11 = .ok (.invokevirtual 145, 3) := by decide +kernel
theorem dX7_cry_14 : decode cX7_cry 14 = .ok (.aload_n 0, 1) := by decide +kernel
theorem dX7_cry_15 : decode cX7_cry 15 = .ok (.iload_n 1, 1) := by decide +kernel
theorem dX7_cry_16 : decode cX7_cry 16 = .ok (.invokevirtual 159, 3) := by decide +kernel
theorem dX7_cry_19 : decode cX7_cry 19 = .ok (.ireturn, 1) := by decide +kernel
theorem dX7_isInTime_0 : decode cX7_isInTime 0 = .ok (.aload_n 0, 1) := by decide +kernel
theorem dX7_isInTime_1 : decode cX7_isInTime 1 = .ok (.iload_n 1, 1) := by decide +kernel
theorem dX7_isInTime_2 : decode cX7_isInTime 2 = .ok (.invokevirtual 159, 3) := by decide +kernel
theorem dX7_isInTime_5 : decode cX7_isInTime 5 = .ok (.aload_n 0, 1) := by decide +kernel
theorem dX7_isInTime_6 : decode cX7_isInTime 6 = .ok (.getfield 25, 3) := by decide +kernel
theorem dX7_isInTime_9 : decode cX7_isInTime 9 = .ok (.iload_n 2, 1) := by decide +kernel
theorem dX7_isInTime_10 : decode cX7_isInTime 10 = .ok (.iaload, 1) := by decide +kernel
theorem dX7_isInTime_11 : decode cX7_isInTime 11 = .ok (.iadd, 1) := by decide +kernel
theorem dX7_isInTime_12 : decode cX7_isInTime 12 = .ok (.iload_n 3, 1) := by decide +kernel
theorem dX7_isInTime_13 : decode cX7_isInTime 13 = .ok (.if_icmp .gt 7, 3) := by decide +kernel
theorem dX7_isInTime_16 : decode cX7_isInTime 16 = .ok (.iconst 1, 1) := by decide +kernel
theorem dX7_isInTime_17 : decode cX7_isInTime 17 = .ok (.goto 4, 3) := by decide +kernel
theorem dX7_isInTime_20 : decode cX7_isInTime 20 = .ok (.iconst 0, 1) := by decide +kernel
theorem dX7_isInTime_21 : decode cX7_isInTime 21 = .ok (.ireturn, 1) := by decide +kernel
theorem dX7_bits_0 : decode cX7_bits 0 = .ok (.iconst 0, 1) := by decide +kernel
theorem dX7_bits_1 : decode cX7_bits 1 = .ok (.istore_n 1, 1) := by decide +kernel
theorem dX7_bits_2 : decode cX7_bits 2 = .ok (.iload_n 0, 1) := by decide +kernel
theorem dX7_bits_3 : decode cX7_bits 3 = .ok (.istore_n 2, 1) := by decide +kernel
theorem dX7_bits_4 : decode cX7_bits 4 = .ok (.iload_n 2, 1) := by decide +kernel
theorem dX7_bits_5 : decode cX7_bits 5 = .ok (.ifCond .eq 15, 3) := by decide +kernel
theorem dX7_bits_8 : decode cX7_bits 8 = .ok (.iinc 1 1, 3) := by decide +kernel
theorem dX7_bits_11 : decode cX7_bits 11 = .ok (.iload_n 2, 1) := by decide +kernel
theorem dX7_bits_12 : decode cX7_bits 12 = .ok (.iload_n 2, 1) := by decide +kernel
theorem dX7_bits_13 : decode cX7_bits 13 = .ok (.iconst 1, 1) := by decide +kernel
theorem dX7_bits_14 : decode cX7_bits 14 = .ok (.isub, 1) := by decide +kernel
theorem dX7_bits_15 : decode cX7_bits 15 = .ok (.iand, 1) := by decide +kernel
theorem dX7_bits_16 : decode cX7_bits 16 = .ok (.istore_n 2, 1) := by decide +kernel
theorem dX7_bits_17 : decode cX7_bits 17 = .ok (.goto (-13), 3) := by decide +kernel
theorem dX7_bits_20 : decode cX7_bits 20 = .ok (.iload_n 1, 1) := by decide +kernel
theorem dX7_bits_21 : decode cX7_bits 21 = .ok (.ireturn, 1) := by decide +kernel
theorem dX7_layWarning_0 : decode cX7_layWarning 0 = .ok (.aload_n 0, 1) := by decide +kernel
theorem dX7_layWarning_1 : decode cX7_layWarning 1 = .ok (.invokevirtual 145, 3) := by decide +kernel
theorem dX7_layWarning_4 : decode cX7_layWarning 4 = .ok (.iconst 0, 1) := by decide +kernel
theorem dX7_layWarning_5 : decode cX7_layWarning 5 = .ok (.istore_n 2, 1) := by decide +kernel
theorem dX7_layWarning_6 : decode cX7_layWarning 6 = .ok (.aload_n 0, 1) := by decide +kernel
theorem dX7_layWarning_7 : decode cX7_layWarning 7 = .ok (.getfield 70, 3) := by decide +kernel
theorem dX7_layWarning_10 : decode cX7_layWarning 10 = .ok (.iconst 0, 1) := by decide +kernel
theorem dX7_layWarning_11 : decode cX7_layWarning 11 = .ok (.iconst 1, 1) := by decide +kernel
theorem dX7_layWarning_12 : decode cX7_layWarning 12 = .ok (.iastore, 1) := by decide +kernel
theorem dX7_layWarning_13 : decode cX7_layWarning 13 = .ok (.iconst 1, 1) := by decide +kernel
theorem dX7_layWarning_14 : decode cX7_layWarning 14 = .ok (.istore_n 3, 1) := by decide +kernel
theorem dX7_layWarning_15 : decode cX7_layWarning 15 = .ok (.iload_n 3, 1) := by decide +kernel
theorem dX7_layWarning_16 : decode cX7_layWarning 16 = .ok (.iconst 1, 1) := by decide +kernel
theorem dX7_layWarning_17 : decode cX7_layWarning 17 = .ok (.aload_n 0, 1) := by decide +kernel
theorem dX7_layWarning_18 : decode cX7_layWarning 18 = .ok (.getfield 13, 3) := by decide +kernel
theorem dX7_layWarning_21 : decode cX7_layWarning 21 = .ok (.iconst 0, 1) := by decide +kernel
theorem dX7_layWarning_22 : decode cX7_layWarning 22 = .ok (.iaload, 1) := by decide +kernel
theorem dX7_layWarning_23 : decode cX7_layWarning 23 = .ok (.ishl, 1) := by decide +kernel
theorem dX7_layWarning_24 : decode cX7_layWarning 24 = .ok (.if_icmp .ge 114, 3) := by decide +kernel
theorem dX7_layWarning_27 : decode cX7_layWarning 27 = .ok (.aload_n 0, 1) := by decide +kernel
theorem dX7_layWarning_28 : decode cX7_layWarning 28 = .ok (.getfield 70, 3) := by decide +kernel
theorem dX7_layWarning_31 : decode cX7_layWarning 31 = .ok (.iload_n 3, 1) := by decide +kernel
theorem dX7_layWarning_32 : decode cX7_layWarning 32 = .ok (.iconst 0, 1) := by decide +kernel
theorem dX7_layWarning_33 : decode cX7_layWarning 33 = .ok (.iastore, 1) := by decide +kernel
theorem dX7_layWarning_34 : decode cX7_layWarning 34 = .ok (.iconst 0, 1) := by decide +kernel
theorem dX7_layWarning_35 : decode cX7_layWarning 35 = .ok (.istore 4, 2) := by decide +kernel
theorem dX7_layWarning_37 : decode cX7_layWarning 37 = .ok (.iload 4, 2) := by decide +kernel
theorem dX7_layWarning_39 : decode cX7_layWarning 39 = .ok (.aload_n 0, 1) := by decide +kernel
theorem dX7_layWarning_40 : decode cX7_layWarning 40 = .ok (.getfield 13, 3) := by decide +kernel
theorem dX7_layWarning_43 : decode cX7_layWarning 43 = .ok (.iconst 0, 1) := by decide +kernel
theorem dX7_layWarning_44 : decode cX7_layWarning 44 = .ok (.iaload, 1) := by decide +kernel
theorem dX7_layWarning_45 : decode cX7_layWarning 45 = .ok (.if_icmp .ge 60, 3) := by decide +kernel
theorem dX7_layWarning_48 : decode cX7_layWarning 48 = .ok (.aload_n 0, 1) := by decide +kernel
theorem dX7_layWarning_49 : decode cX7_layWarning 49 = .ok (.getfield 70, 3) := by decide +kernel
theorem dX7_layWarning_52 : decode cX7_layWarning 52 = .ok (.iload_n 3, 1) := by decide +kernel
theorem dX7_layWarning_53 : decode cX7_layWarning 53 = .ok (.dup2, 1) := by decide +kernel
theorem dX7_layWarning_54 : decode cX7_layWarning 54 = .ok (.iaload, 1) := by decide +kernel
theorem dX7_layWarning_55 : decode cX7_layWarning 55 = .ok (.iload_n 3, 1) := by decide +kernel
theorem dX7_layWarning_56 : decode cX7_layWarning 56 = .ok (.iload 4, 2) := by decide +kernel
theorem dX7_layWarning_58 : decode cX7_layWarning 58 = .ok (.invokestatic 153, 3) := by decide +kernel
theorem dX7_layWarning_61 : decode cX7_layWarning 61 = .ok (.ifCond .eq 35, 3) := by decide +kernel
theorem dX7_layWarning_64 : decode cX7_layWarning 64 = .ok (.aload_n 0, 1) := by decide +kernel
theorem dX7_layWarning_65 : decode cX7_layWarning 65 = .ok (.getfield 70, 3) := by decide +kernel
theorem dX7_layWarning_68 : decode cX7_layWarning 68 = .ok (.iload_n 3, 1) := by decide +kernel
theorem dX7_layWarning_69 : decode cX7_layWarning 69 = .ok (.iconst 1, 1) := by decide +kernel
theorem dX7_layWarning_70 : decode cX7_layWarning 70 = .ok (.iload 4, 2) := by decide +kernel
theorem dX7_layWarning_72 : decode cX7_layWarning 72 = .ok (.ishl, 1) := by decide +kernel
theorem dX7_layWarning_73 : decode cX7_layWarning 73 = .ok (.iconst (-1), 1) := by decide +kernel
theorem dX7_layWarning_74 : decode cX7_layWarning 74 = .ok (.ixor, 1) := by decide +kernel
theorem dX7_layWarning_75 : decode cX7_layWarning 75 = .ok (.iand, 1) := by decide +kernel
theorem dX7_layWarning_76 : decode cX7_layWarning 76 = .ok (.iaload, 1) := by decide +kernel
theorem dX7_layWarning_77 : decode cX7_layWarning 77 = .ok (.iconst 1, 1) := by decide +kernel
theorem dX7_layWarning_78 : decode cX7_layWarning 78 = .ok (.if_icmp .ne 18, 3) := by decide +kernel
theorem dX7_layWarning_81 : decode cX7_layWarning 81 = .ok (.aload_n 0, 1) := by decide +kernel
theorem dX7_layWarning_82 : decode cX7_layWarning 82 = .ok (.iload_n 3, 1) := by decide +kernel
theorem dX7_layWarning_83 : decode cX7_layWarning 83 = .ok (.iload 4, 2) := by decide +kernel
theorem dX7_layWarning_85 : decode cX7_layWarning 85 = .ok (.iload_n 1, 1) := by decide +kernel
theorem dX7_layWarning_86 : decode cX7_layWarning 86 = .ok (.invokevirtual 162, 3) := by decide +kernel
theorem dX7_layWarning_89 : decode cX7_layWarning 89 = .ok (.ifCond .eq 7, 3) := by decide +kernel
theorem dX7_layWarning_92 : decode cX7_layWarning 92 = .ok (.iconst 1, 1) := by decide +kernel
theorem dX7_layWarning_93 : decode cX7_layWarning 93 = .ok (.goto 4, 3) := by decide +kernel
theorem dX7_layWarning_96 : decode cX7_layWarning 96 = .ok (.iconst 0, 1) := by decide +kernel
theorem dX7_layWarning_97 : decode cX7_layWarning 97 = .ok (.ior, 1) := by decide +kernel
theorem dX7_layWarning_98 : decode cX7_layWarning 98 = .ok (.iastore, 1) := by decide +kernel
theorem dX7_layWarning_99 : decode cX7_layWarning 99 = .ok (.iinc 4 1, 3) := by decide +kernel
theorem dX7_layWarning_102 : decode cX7_layWarning 102 = .ok (.goto (-65), 3) := by decide +kernel
theorem dX7_layWarning_105 : decode cX7_layWarning 105 = .ok (.aload_n 0, 1) := by decide +kernel
theorem dX7_layWarning_106 : decode cX7_layWarning 106 = .ok (.getfield 70, 3) := by decide +kernel
theorem dX7_layWarning_109 : decode cX7_layWarning 109 = .ok (.iload_n 3, 1) := by decide +kernel
theorem dX7_layWarning_110 : decode cX7_layWarning 110 = .ok (.iaload, 1) := by decide +kernel
theorem dX7_layWarning_111 : decode cX7_layWarning 111 = .ok (.iconst 1, 1) := by decide +kernel
theorem dX7_layWarning_112 : decode cX7_layWarning 112 = .ok (.if_icmp .ne 18, 3) := by decide +kernel
theorem dX7_layWarning_115 : decode cX7_layWarning 115 = .ok (.iload_n 3, 1) := by decide +kernel
theorem dX7_layWarning_116 : decode cX7_layWarning 116 = .ok (.invokestatic 166, 3) := by decide +kernel
theorem dX7_layWarning_119 : decode cX7_layWarning 119 = .ok (.iload_n 2, 1) := by decide +kernel
theorem dX7_layWarning_120 : decode cX7_layWarning 120 = .ok (.invokestatic 166, 3) := by decide +kernel
theorem dX7_layWarning_123 : decode cX7_layWarning 123 = .ok (.if_icmp .le 7, 3) := by decide +kernel
theorem dX7_layWarning_126 : decode cX7_layWarning 126 = .ok (.iload_n 3, 1) := by decide +kernel
theorem dX7_layWarning_127 : decode cX7_layWarning 127 = .ok (.goto 4, 3) := by decide +kernel
theorem dX7_layWarning_130 : decode cX7_layWarning 130 = .ok (.iload_n 2, 1) := by decide +kernel
theorem dX7_layWarning_131 : decode cX7_layWarning 131 = .ok (.istore_n 2, 1) := by decide +kernel
theorem dX7_layWarning_132 : decode cX7_layWarning 132 = .ok (.iinc 3 1, 3) := by decide +kernel
theorem dX7_layWarning_135 : decode cX7_layWarning 135 = .ok (.goto (-120), 3) := by decide +kernel
theorem dX7_layWarning_138 : decode cX7_layWarning 138 = .ok (.iload_n 2, 1) := by decide +kernel
theorem dX7_layWarning_139 : decode cX7_layWarning 139 = .ok (.ireturn, 1) := by decide +kernel
theorem dX7_warn_0 : decode cX7_warn 0 = .ok (.iload_n 1, 1) := by decide +kernel
theorem dX7_warn_1 : decode cX7_warn 1 = .ok (.i2l, 1) := by decide +kernel
theorem dX7_warn_2 : decode cX7_warn 2 = .ok (.lconst 0, 1) := by decide +kernel
theorem dX7_warn_3 : decode cX7_warn 3 = .ok (.ldc2_w 169, 3) := by decide +kernel
theorem dX7_warn_6 : decode cX7_warn 6 = .ok (.invokestatic 88, 3) := by decide +kernel
theorem dX7_warn_9 : decode cX7_warn 9 = .ok (.ifCond .eq 13, 3) := by decide +kernel
theorem dX7_warn_12 : decode cX7_warn 12 = .ok (.iload_n 2, 1) := by decide +kernel
theorem dX7_warn_13 : decode cX7_warn 13 = .ok (.i2l, 1) := by decide +kernel
theorem dX7_warn_14 : decode cX7_warn 14 = .ok (.lconst 0, 1) := by decide +kernel
theorem dX7_warn_15 : decode cX7_warn 15 = .ok (.lconst 1, 1) := by decide +kernel
theorem dX7_warn_16 : decode cX7_warn 16 = .ok (.invokestatic 88, 3) := by decide +kernel
theorem dX7_warn_19 : decode cX7_warn 19 = .ok (.ifCond .ne 5, 3) := by decide +kernel
theorem dX7_warn_22 : decode cX7_warn 22 = .ok (.iconst (-1), 1) := by decide +kernel
theorem dX7_warn_23 : decode cX7_warn 23 = .ok (.ireturn, 1) := by decide +kernel
theorem dX7_warn_24 : decode cX7_warn 24 = .ok (.aload_n 0, 1) := by decide +kernel
theorem dX7_warn_25 : decode cX7_warn 25 = .ok (.iload_n 1, 1) := by decide +kernel
theorem dX7_warn_26 : decode cX7_warn 26 = .ok (.invokevirtual 171, 3) := by decide +kernel
theorem dX7_warn_29 : decode cX7_warn 29 = .ok (.istore_n 3, 1) := by decide +kernel
theorem dX7_warn_30 : decode cX7_warn 30 = .ok (.iload_n 2, 1) := by decide +kernel
theorem dX7_warn_31 : decode cX7_warn 31 = .ok (.ifCond .ne 10, 3) := by decide +kernel
theorem dX7_warn_34 : decode cX7_warn 34 = .ok (.iload_n 3, 1) := by decide +kernel
theorem dX7_warn_35 : decode cX7_warn 35 = .ok (.invokestatic 166, 3) := by decide +kernel
theorem dX7_warn_38 : decode cX7_warn 38 = .ok (.goto 4, 3) := by decide +kernel
theorem dX7_warn_41 : decode cX7_warn 41 = .ok (.iload_n 3, 1) := by decide +kernel
theorem dX7_warn_42 : decode cX7_warn 42 = .ok (.ireturn, 1) := by decide +kernel
theorem dX7_layFollows_0 : decode cX7_layFollows 0 = .ok (.iload_n 1, 1) := by decide +kernel
theorem dX7_layFollows_1 : decode cX7_layFollows 1 = .ok (.istore_n 3, 1) := by decide +kernel
theorem dX7_layFollows_2 : decode cX7_layFollows 2 = .ok (.iload_n 3, 1) := by decide +kernel
theorem dX7_layFollows_3 : decode cX7_layFollows 3 = .ok (.ifCond .lt 128, 3) := by decide +kernel
theorem dX7_layFollows_6 : decode cX7_layFollows 6 = .ok (.aload_n 0, 1) := by decide +kernel
theorem dX7_layFollows_7 : decode cX7_layFollows 7 = .ok (.getfield 73, 3) := by decide +kernel
theorem dX7_layFollows_10 : decode cX7_layFollows 10 = .ok (.iload_n 3, 1) := by decide +kernel
theorem dX7_layFollows_11 : decode cX7_layFollows 11 = .ok (.iload_n 3, 1) := by decide +kernel
theorem dX7_layFollows_12 : decode cX7_layFollows 12 = .ok (.iload_n 1, 1) := by decide +kernel
theorem dX7_layFollows_13 : decode cX7_layFollows 13 = .ok (.if_icmp .ne 7, 3) := by decide +kernel
theorem dX7_layFollows_16 : decode cX7_layFollows 16 = .ok (.iconst 1, 1) := by decide +kernel
theorem dX7_layFollows_17 : decode cX7_layFollows 17 = .ok (.goto 4, 3) := by decide +kernel
theorem dX7_layFollows_20 : decode cX7_layFollows 20 = .ok (.iconst 0, 1) := by decide +kernel
theorem dX7_layFollows_21 : decode cX7_layFollows 21 = .ok (.iastore, 1) := by decide +kernel
theorem dX7_layFollows_22 : decode cX7_layFollows 22 = .ok (.iconst 0, 1) := by decide +kernel
theorem dX7_layFollows_23 : decode cX7_layFollows 23 = .ok (.istore 4, 2) := by decide +kernel
theorem dX7_layFollows_25 : decode cX7_layFollows 25 = .ok (.iload 4, 2) := by decide +kernel
theorem dX7_layFollows_27 : decode cX7_layFollows 27 = .ok (.aload_n 0, 1) := by decide +kernel
theorem dX7_layFollows_28 : decode cX7_layFollows 28 = .ok (.getfield 13, 3) := by decide +kernel
theorem dX7_layFollows_31 : decode cX7_layFollows 31 = .ok (.iconst 0, 1) := by decide +kernel
theorem dX7_layFollows_32 : decode cX7_layFollows 32 = .ok (.iaload, 1) := by decide +kernel
theorem dX7_layFollows_33 : decode cX7_layFollows 33 = .ok (.if_icmp .ge 92, 3) := by decide +kernel
theorem dX7_layFollows_36 : decode cX7_layFollows 36 = .ok (.iload_n 1, 1) := by decide +kernel
theorem dX7_layFollows_37 : decode cX7_layFollows 37 = .ok (.iload 4, 2) := by decide +kernel
theorem dX7_layFollows_39 : decode cX7_layFollows 39 = .ok (.invokestatic 153, 3) := by decide +kernel
theorem dX7_layFollows_42 : decode cX7_layFollows 42 = .ok (.ifCond .eq 24, 3) := by decide +kernel
theorem dX7_layFollows_45 : decode cX7_layFollows 45 = .ok (.iload_n 3, 1) := by decide +kernel
theorem dX7_layFollows_46 : decode cX7_layFollows 46 = .ok (.iload 4, 2) := by decide +kernel
theorem dX7_layFollows_48 : decode cX7_layFollows 48 = .ok (.invokestatic 153, 3) := by decide +kernel
theorem dX7_layFollows_51 : decode cX7_layFollows 51 = .ok (.ifCond .ne 15, 3) := by decide +kernel
theorem dX7_layFollows_54 : decode cX7_layFollows 54 = .ok (.iload_n 3, 1) := by decide +kernel
theorem dX7_layFollows_55 : decode cX7_layFollows 55 = .ok (.iload_n 1, 1) := by decide +kernel
theorem dX7_layFollows_56 : decode cX7_layFollows 56 = .ok (.iconst (-1), 1) := by decide +kernel
theorem dX7_layFollows_57 : decode cX7_layFollows 57 = .ok (.ixor, 1) := by decide +kernel
theorem dX7_layFollows_58 : decode cX7_layFollows 58 = .ok (.iand, 1) := by decide +kernel
theorem dX7_layFollows_59 : decode cX7_layFollows 59 = .ok (.ifCond .ne 7, 3) := by decide +kernel
theorem dX7_layFollows_62 : decode cX7_layFollows 62 = .ok (.iconst 1, 1) := by decide +kernel
theorem dX7_layFollows_63 : decode cX7_layFollows 63 = .ok (.goto 4, 3) := by decide +kernel
theorem dX7_layFollows_66 : decode cX7_layFollows 66 = .ok (.iconst 0, 1) := by decide +kernel
theorem dX7_layFollows_67 : decode cX7_layFollows 67 = .ok (.istore 5, 2) := by decide +kernel
theorem dX7_layFollows_69 : decode cX7_layFollows 69 = .ok (.aload_n 0, 1) := by decide +kernel
theorem dX7_layFollows_70 : decode cX7_layFollows 70 = .ok (.getfield 73, 3) := by decide +kernel
theorem dX7_layFollows_73 : decode cX7_layFollows 73 = .ok (.iload_n 3, 1) := by decide +kernel
theorem dX7_layFollows_74 : decode cX7_layFollows 74 = .ok (.dup2, 1) := by decide +kernel
theorem dX7_layFollows_75 : decode cX7_layFollows 75 = .ok (.iaload, 1) := by decide +kernel
theorem dX7_layFollows_76 : decode cX7_layFollows 76 = .ok (.iload 5, 2) := by decide +kernel
theorem dX7_layFollows_78 : decode cX7_layFollows 78 = .ok (.ifCond .eq 38, 3) := by decide +kernel
theorem dX7_layFollows_81 : decode cX7_layFollows 81 = .ok (.aload_n 0, 1) := by decide +kernel
theorem dX7_layFollows_82 : decode cX7_layFollows 82 = .ok (.iload_n 3, 1) := by decide +kernel
theorem dX7_layFollows_83 : decode cX7_layFollows 83 = .ok (.iconst 1, 1) := by decide +kernel
theorem dX7_layFollows_84 : decode cX7_layFollows 84 = .ok (.iload 4, 2) := by decide +kernel
theorem dX7_layFollows_86 : decode cX7_layFollows 86 = .ok (.ishl, 1) := by decide +kernel
theorem dX7_layFollows_87 : decode cX7_layFollows 87 = .ok (.ior, 1) := by decide +kernel
theorem dX7_layFollows_88 : decode cX7_layFollows 88 = .ok (.iload 4, 2) := by decide +kernel
theorem dX7_layFollows_90 : decode cX7_layFollows 90 = .ok (.iload_n 2, 1) := by decide +kernel
theorem dX7_layFollows_91 : decode cX7_layFollows 91 = .ok (.invokevirtual 162, 3) := by decide +kernel
theorem dX7_layFollows_94 : decode cX7_layFollows 94 = .ok (.ifCond .eq 22, 3) := by decide +kernel
theorem dX7_layFollows_97 : decode cX7_layFollows 97 = .ok (.aload_n 0, 1) := by decide +kernel
theorem dX7_layFollows_98 : decode cX7_layFollows 98 = .ok (.getfield 73, 3) := by decide +kernel
theorem dX7_layFollows_101 : decode cX7_layFollows 101 = .ok (.iload_n 3, 1) := by decide +kernel
theorem dX7_layFollows_102 : decode cX7_layFollows 102 = .ok (.iconst 1, 1) := by decide +kernel
theorem dX7_layFollows_103 : decode cX7_layFollows 103 = .ok (.iload 4, 2) := by decide +kernel
theorem dX7_layFollows_105 : decode cX7_layFollows 105 = .ok (.ishl, 1) := by decide +kernel
theorem dX7_layFollows_106 : decode cX7_layFollows 106 = .ok (.ior, 1) := by decide +kernel
theorem dX7_layFollows_107 : decode cX7_layFollows 107 = .ok (.iaload, 1) := by decide +kernel
theorem dX7_layFollows_108 : decode cX7_layFollows 108 = .ok (.iconst 1, 1) := by decide +kernel
theorem dX7_layFollows_109 : decode cX7_layFollows 109 = .ok (.if_icmp .ne 7, 3) := by decide +kernel
theorem dX7_layFollows_112 : decode cX7_layFollows 112 = .ok (.iconst 1, 1) := by decide +kernel
theorem dX7_layFollows_113 : decode cX7_layFollows 113 = .ok (.goto 4, 3) := by decide +kernel
theorem dX7_layFollows_116 : decode cX7_layFollows 116 = .ok (.iconst 0, 1) := by decide +kernel
theorem dX7_layFollows_117 : decode cX7_layFollows 117 = .ok (.ior, 1) := by decide +kernel
theorem dX7_layFollows_118 : decode cX7_layFollows 118 = .ok (.iastore, 1) := by decide +kernel
theorem dX7_layFollows_119 : decode cX7_layFollows 119 = .ok (.iinc 4 1, 3) := by decide +kernel
theorem dX7_layFollows_122 : decode cX7_layFollows 122 = .ok (.goto (-97), 3) := by decide +kernel
theorem dX7_layFollows_125 : decode cX7_layFollows 125 = .ok (.iinc 3 (-1), 3) := by decide +kernel
theorem dX7_layFollows_128 : decode cX7_layFollows 128 = .ok (.goto (-126), 3) := by decide +kernel
theorem dX7_layFollows_131 : decode cX7_layFollows 131 = .ok (.return_, 1) := by decide +kernel
theorem dX7_called_0 : decode cX7_called 0 = .ok (.iload_n 1, 1) := by decide +kernel
theorem dX7_called_1 : decode cX7_called 1 = .ok (.i2l, 1) := by decide +kernel
theorem dX7_called_2 : decode cX7_called 2 = .ok (.lconst 0, 1) := by decide +kernel
theorem dX7_called_3 : decode cX7_called 3 = .ok (.ldc2_w 169, 3) := by decide +kernel
theorem dX7_called_6 : decode cX7_called 6 = .ok (.invokestatic 88, 3) := by decide +kernel
theorem dX7_called_9 : decode cX7_called 9 = .ok (.ifCond .eq 15, 3) := by decide +kernel
theorem dX7_called_12 : decode cX7_called 12 = .ok (.iload_n 2, 1) := by decide +kernel
theorem dX7_called_13 : decode cX7_called 13 = .ok (.i2l, 1) := by decide +kernel
theorem dX7_called_14 : decode cX7_called 14 = .ok (.lconst 0, 1) := by decide +kernel
theorem dX7_called_15 : decode cX7_called 15 = .ok (.ldc2_w 174, 3) := by decide +kernel
theorem dX7_called_18 : decode cX7_called 18 = .ok (.invokestatic 88, 3) := by decide +kernel
theorem dX7_called_21 : decode cX7_called 21 = .ok (.ifCond .ne 5, 3) := by decide +kernel
theorem dX7_called_24 : decode cX7_called 24 = .ok (.iconst (-1), 1) := by decide +kernel
theorem dX7_called_25 : decode cX7_called 25 = .ok (.ireturn, 1) := by decide +kernel
theorem dX7_called_26 : decode cX7_called 26 = .ok (.aload_n 0, 1) := by decide +kernel
theorem dX7_called_27 : decode cX7_called 27 = .ok (.iload_n 1, 1) := by decide +kernel
theorem dX7_called_28 : decode cX7_called 28 = .ok (.invokevirtual 171, 3) := by decide +kernel
theorem dX7_called_31 : decode cX7_called 31 = .ok (.istore_n 3, 1) := by decide +kernel
theorem dX7_called_32 : decode cX7_called 32 = .ok (.iload_n 2, 1) := by decide +kernel
theorem dX7_called_33 : decode cX7_called 33 = .ok (.iload_n 3, 1) := by decide +kernel
theorem dX7_called_34 : decode cX7_called 34 = .ok (.invokestatic 166, 3) := by decide +kernel
theorem dX7_called_37 : decode cX7_called 37 = .ok (.if_icmp .lt 6, 3) := by decide +kernel
theorem dX7_called_40 : decode cX7_called 40 = .ok (.bipush (-4), 2) := by decide +kernel
theorem dX7_called_42 : decode cX7_called 42 = .ok (.ireturn, 1) := by decide +kernel
theorem dX7_called_43 : decode cX7_called 43 = .ok (.aload_n 0, 1) := by decide +kernel
theorem dX7_called_44 : decode cX7_called 44 = .ok (.iload_n 3, 1) := by decide +kernel
theorem dX7_called_45 : decode cX7_called 45 = .ok (.iload_n 1, 1) := by decide +kernel
theorem dX7_called_46 : decode cX7_called 46 = .ok (.invokevirtual 176, 3) := by decide +kernel
theorem dX7_called_49 : decode cX7_called 49 = .ok (.iconst 0, 1) := by decide +kernel
theorem dX7_called_50 : decode cX7_called 50 = .ok (.istore 4, 2) := by decide +kernel
theorem dX7_called_52 : decode cX7_called 52 = .ok (.iconst 0, 1) := by decide +kernel
theorem dX7_called_53 : decode cX7_called 53 = .ok (.istore 5, 2) := by decide +kernel
theorem dX7_called_55 : decode cX7_called 55 = .ok (.iconst 0, 1) := by decide +kernel
theorem dX7_called_56 : decode cX7_called 56 = .ok (.istore 6, 2) := by decide +kernel
theorem dX7_called_58 : decode cX7_called 58 = .ok (.iload 6, 2) := by decide +kernel
theorem dX7_called_60 : decode cX7_called 60 = .ok (.iload_n 2, 1) := by decide +kernel
theorem dX7_called_61 : decode cX7_called 61 = .ok (.if_icmp .gt 78, 3) := by decide +kernel
theorem dX7_called_64 : decode cX7_called 64 = .ok (.iconst 0, 1) := by decide +kernel
theorem dX7_called_65 : decode cX7_called 65 = .ok (.istore 5, 2) := by decide +kernel
theorem dX7_called_67 : decode cX7_called 67 = .ok (.iload_n 3, 1) := by decide +kernel
theorem dX7_called_68 : decode cX7_called 68 = .ok (.iload 5, 2) := by decide +kernel
theorem dX7_called_70 : decode cX7_called 70 = .ok (.invokestatic 153, 3) := by decide +kernel
theorem dX7_called_73 : decode cX7_called 73 = .ok (.ifCond .eq 45, 3) := by decide +kernel
theorem dX7_called_76 : decode cX7_called 76 = .ok (.iload 4, 2) := by decide +kernel
theorem dX7_called_78 : decode cX7_called 78 = .ok (.iload 5, 2) := by decide +kernel
theorem dX7_called_80 : decode cX7_called 80 = .ok (.invokestatic 153, 3) := by decide +kernel
theorem dX7_called_83 : decode cX7_called 83 = .ok (.ifCond .ne 35, 3) := by decide +kernel
theorem dX7_called_86 : decode cX7_called 86 = .ok (.aload_n 0, 1) := by decide +kernel
theorem dX7_called_87 : decode cX7_called 87 = .ok (.iload 4, 2) := by decide +kernel
theorem dX7_called_89 : decode cX7_called 89 = .ok (.iconst 1, 1) := by decide +kernel
theorem dX7_called_90 : decode cX7_called 90 = .ok (.iload 5, 2) := by decide +kernel
theorem dX7_called_92 : decode cX7_called 92 = .ok (.ishl, 1) := by decide +kernel
theorem dX7_called_93 : decode cX7_called 93 = .ok (.ior, 1) := by decide +kernel
theorem dX7_called_94 : decode cX7_called 94 = .ok (.iload 5, 2) := by decide +kernel
theorem dX7_called_96 : decode cX7_called 96 = .ok (.iload_n 1, 1) := by decide +kernel
theorem dX7_called_97 : decode cX7_called 97 = .ok (.invokevirtual 162, 3) := by decide +kernel
theorem dX7_called_100 : decode cX7_called 100 = .ok (.ifCond .eq 18, 3) := by decide +kernel
theorem dX7_called_103 : decode cX7_called 103 = .ok (.aload_n 0, 1) := by decide +kernel
theorem dX7_called_104 : decode cX7_called 104 = .ok (.getfield 73, 3) := by decide +kernel
theorem dX7_called_107 : decode cX7_called 107 = .ok (.iload 4, 2) := by decide +kernel
theorem dX7_called_109 : decode cX7_called 109 = .ok (.iconst 1, 1) := by decide +kernel
theorem dX7_called_110 : decode cX7_called 110 = .ok (.iload 5, 2) := by decide +kernel
theorem dX7_called_112 : decode cX7_called 112 = .ok (.ishl, 1) := by decide +kernel
theorem dX7_called_113 : decode cX7_called 113 = .ok (.ior, 1) := by decide +kernel
theorem dX7_called_114 : decode cX7_called 114 = .ok (.iaload, 1) := by decide +kernel
theorem dX7_called_115 : decode cX7_called 115 = .ok (.ifCond .ne 9, 3) := by decide +kernel
theorem dX7_called_118 : decode cX7_called 118 = .ok (.iinc 5 1, 3) := by decide +kernel
theorem dX7_called_121 : decode cX7_called 121 = .ok (.goto (-54), 3) := by decide +kernel
theorem dX7_called_124 : decode cX7_called 124 = .ok (.iload 4, 2) := by decide +kernel
theorem dX7_called_126 : decode cX7_called 126 = .ok (.iconst 1, 1) := by decide +kernel
theorem dX7_called_127 : decode cX7_called 127 = .ok (.iload 5, 2) := by decide +kernel
theorem dX7_called_129 : decode cX7_called 129 = .ok (.ishl, 1) := by decide +kernel
theorem dX7_called_130 : decode cX7_called 130 = .ok (.ior, 1) := by decide +kernel
theorem dX7_called_131 : decode cX7_called 131 = .ok (.istore 4, 2) := by decide +kernel
theorem dX7_called_133 : decode cX7_called 133 = .ok (.iinc 6 1, 3) := by decide +kernel
theorem dX7_called_136 : decode cX7_called 136 = .ok (.goto (-78), 3) := by decide +kernel
theorem dX7_called_139 : decode cX7_called 139 = .ok (.iload 5, 2) := by decide +kernel
theorem dX7_called_141 : decode cX7_called 141 = .ok (.ireturn, 1) := by decide +kernel
theorem dX7_breathsFor_0 : decode cX7_breathsFor 0 = .ok (.aload_n 0, 1) := by decide +kernel
theorem dX7_breathsFor_1 : decode cX7_breathsFor 1 = .ok (.getfield 64, 3) := by decide +kernel
theorem dX7_breathsFor_4 : decode cX7_breathsFor 4 = .ok (.iload_n 1, 1) := by decide +kernel
theorem dX7_breathsFor_5 : decode cX7_breathsFor 5 = .ok (.iaload, 1) := by decide +kernel
theorem dX7_breathsFor_6 : decode cX7_breathsFor 6 = .ok (.iload_n 2, 1) := by decide +kernel
theorem dX7_breathsFor_7 : decode cX7_breathsFor 7 = .ok (.if_icmp .gt 7, 3) := by decide +kernel
theorem dX7_breathsFor_10 : decode cX7_breathsFor 10 = .ok (.iconst 0, 1) := by decide +kernel
theorem dX7_breathsFor_11 : decode cX7_breathsFor 11 = .ok (.goto 25, 3) := by decide +kernel
theorem dX7_breathsFor_14 : decode cX7_breathsFor 14 = .ok (.aload_n 0, 1) := by decide +kernel
theorem dX7_breathsFor_15 : decode cX7_breathsFor 15 = .ok (.getfield 64, 3) := by decide +kernel
theorem dX7_breathsFor_18 : decode cX7_breathsFor 18 = .ok (.iload_n 1, 1) := by decide +kernel
theorem dX7_breathsFor_19 : decode cX7_breathsFor 19 = .ok (.iaload, 1) := by decide +kernel
theorem dX7_breathsFor_20 : decode cX7_breathsFor 20 = .ok (.aload_n 0, 1) := by decide +kernel
theorem dX7_breathsFor_21 : decode cX7_breathsFor 21 = .ok (.getfield 40, 3) := by decide +kernel
theorem dX7_breathsFor_24 : decode cX7_breathsFor 24 = .ok (.iconst 0, 1) := by decide +kernel
theorem dX7_breathsFor_25 : decode cX7_breathsFor 25 = .ok (.iaload, 1) := by decide +kernel
theorem dX7_breathsFor_26 : decode cX7_breathsFor 26 = .ok (.iadd, 1) := by decide +kernel
theorem dX7_breathsFor_27 : decode cX7_breathsFor 27 = .ok (.iconst 1, 1) := by decide +kernel
theorem dX7_breathsFor_28 : decode cX7_breathsFor 28 = .ok (.isub, 1) := by decide +kernel
theorem dX7_breathsFor_29 : decode cX7_breathsFor 29 = .ok (.aload_n 0, 1) := by decide +kernel
theorem dX7_breathsFor_30 : decode cX7_breathsFor 30 = .ok (.getfield 40, 3) := by decide +kernel
theorem dX7_breathsFor_33 : decode cX7_breathsFor 33 = .ok (.iconst 0, 1) := by decide +kernel
theorem dX7_breathsFor_34 : decode cX7_breathsFor 34 = .ok (.iaload, 1) := by decide +kernel
theorem dX7_breathsFor_35 : decode cX7_breathsFor 35 = .ok (.idiv, 1) := by decide +kernel
theorem dX7_breathsFor_36 : decode cX7_breathsFor 36 = .ok (.ireturn, 1) := by decide +kernel
theorem dX7_roomBehind_0 : decode cX7_roomBehind 0 = .ok (.aload_n 0, 1) := by decide +kernel
theorem dX7_roomBehind_1 : decode cX7_roomBehind 1 = .ok (.getfield 64, 3) := by decide +kernel
theorem dX7_roomBehind_4 : decode cX7_roomBehind 4 = .ok (.iload_n 1, 1) := by decide +kernel
theorem dX7_roomBehind_5 : decode cX7_roomBehind 5 = .ok (.iaload, 1) := by decide +kernel
theorem dX7_roomBehind_6 : decode cX7_roomBehind 6 = .ok (.iload_n 2, 1) := by decide +kernel
theorem dX7_roomBehind_7 : decode cX7_roomBehind 7 = .ok (.if_icmp .gt 14, 3) := by decide +kernel
theorem dX7_roomBehind_10 : decode cX7_roomBehind 10 = .ok (.iload_n 2, 1) := by decide +kernel
theorem dX7_roomBehind_11 : decode cX7_roomBehind 11 = .ok (.aload_n 0, 1) := by decide +kernel
theorem dX7_roomBehind_12 : decode cX7_roomBehind 12 = .ok (.getfield 64, 3) := by decide +kernel
theorem dX7_roomBehind_15 : decode cX7_roomBehind 15 = .ok (.iload_n 1, 1) := by decide +kernel
theorem dX7_roomBehind_16 : decode cX7_roomBehind 16 = .ok (.iaload, 1) := by decide +kernel
theorem dX7_roomBehind_17 : decode cX7_roomBehind 17 = .ok (.isub, 1) := by decide +kernel
theorem dX7_roomBehind_18 : decode cX7_roomBehind 18 = .ok (.goto 35, 3) := by decide +kernel
theorem dX7_roomBehind_21 : decode cX7_roomBehind 21 = .ok (.aload_n 0, 1) := by decide +kernel
theorem dX7_roomBehind_22 : decode cX7_roomBehind 22 = .ok (.getfield 64, 3) := by decide +kernel
theorem dX7_roomBehind_25 : decode cX7_roomBehind 25 = .ok (.iload_n 1, 1) := by decide +kernel
theorem dX7_roomBehind_26 : decode cX7_roomBehind 26 = .ok (.iaload, 1) := by decide +kernel
theorem dX7_roomBehind_27 : decode cX7_roomBehind 27 = .ok (.aload_n 0, 1) := by decide +kernel
theorem dX7_roomBehind_28 : decode cX7_roomBehind 28 = .ok (.getfield 40, 3) := by decide +kernel
theorem dX7_roomBehind_31 : decode cX7_roomBehind 31 = .ok (.iconst 0, 1) := by decide +kernel
theorem dX7_roomBehind_32 : decode cX7_roomBehind 32 = .ok (.iaload, 1) := by decide +kernel
theorem dX7_roomBehind_33 : decode cX7_roomBehind 33 = .ok (.if_icmp .gt 19, 3) := by decide +kernel
theorem dX7_roomBehind_36 : decode cX7_roomBehind 36 = .ok (.aload_n 0, 1) := by decide +kernel
theorem dX7_roomBehind_37 : decode cX7_roomBehind 37 = .ok (.getfield 40, 3) := by decide +kernel
theorem dX7_roomBehind_40 : decode cX7_roomBehind 40 = .ok (.iconst 0, 1) := by decide +kernel
theorem dX7_roomBehind_41 : decode cX7_roomBehind 41 = .ok (.iaload, 1) := by decide +kernel
theorem dX7_roomBehind_42 : decode cX7_roomBehind 42 = .ok (.aload_n 0, 1) := by decide +kernel
theorem dX7_roomBehind_43 : decode cX7_roomBehind 43 = .ok (.getfield 64, 3) := by decide +kernel
theorem dX7_roomBehind_46 : decode cX7_roomBehind 46 = .ok (.iload_n 1, 1) := by decide +kernel
theorem dX7_roomBehind_47 : decode cX7_roomBehind 47 = .ok (.iaload, 1) := by decide +kernel
theorem dX7_roomBehind_48 : decode cX7_roomBehind 48 = .ok (.isub, 1) := by decide +kernel
theorem dX7_roomBehind_49 : decode cX7_roomBehind 49 = .ok (.goto 4, 3) := by decide +kernel
theorem dX7_roomBehind_52 : decode cX7_roomBehind 52 = .ok (.iconst 0, 1) := by decide +kernel
theorem dX7_roomBehind_53 : decode cX7_roomBehind 53 = .ok (.ireturn, 1) := by decide +kernel
theorem dX7_mayGreet_0 : decode cX7_mayGreet 0 = .ok (.iload_n 1, 1) := by decide +kernel
theorem dX7_mayGreet_1 : decode cX7_mayGreet 1 = .ok (.iload_n 3, 1) := by decide +kernel
theorem dX7_mayGreet_2 : decode cX7_mayGreet 2 = .ok (.invokestatic 153, 3) := by decide +kernel
theorem dX7_mayGreet_5 : decode cX7_mayGreet 5 = .ok (.ifCond .eq 15, 3) := by decide +kernel
theorem dX7_mayGreet_8 : decode cX7_mayGreet 8 = .ok (.iload_n 2, 1) := by decide +kernel
theorem dX7_mayGreet_9 : decode cX7_mayGreet 9 = .ok (.iload_n 3, 1) := by decide +kernel
theorem dX7_mayGreet_10 : decode cX7_mayGreet 10 = .ok (.invokestatic 153, 3) := by decide +kernel
theorem dX7_mayGreet_13 : decode cX7_mayGreet 13 = .ok (.ifCond .ne 7, 3) := by decide +kernel
theorem dX7_mayGreet_16 : decode cX7_mayGreet 16 = .ok (.iconst 1, 1) := by decide +kernel
theorem dX7_mayGreet_17 : decode cX7_mayGreet 17 = .ok (.goto 4, 3) := by decide +kernel
theorem dX7_mayGreet_20 : decode cX7_mayGreet 20 = .ok (.iconst 0, 1) := by decide +kernel
theorem dX7_mayGreet_21 : decode cX7_mayGreet 21 = .ok (.istore 4, 2) := by decide +kernel
theorem dX7_mayGreet_23 : decode cX7_mayGreet 23 = .ok (.iconst 0, 1) := by decide +kernel
theorem dX7_mayGreet_24 : decode cX7_mayGreet 24 = .ok (.istore 5, 2) := by decide +kernel
theorem dX7_mayGreet_26 : decode cX7_mayGreet 26 = .ok (.iload 5, 2) := by decide +kernel
theorem dX7_mayGreet_28 : decode cX7_mayGreet 28 = .ok (.aload_n 0, 1) := by decide +kernel
theorem dX7_mayGreet_29 : decode cX7_mayGreet 29 = .ok (.getfield 13, 3) := by decide +kernel
theorem dX7_mayGreet_32 : decode cX7_mayGreet 32 = .ok (.iconst 0, 1) := by decide +kernel
theorem dX7_mayGreet_33 : decode cX7_mayGreet 33 = .ok (.iaload, 1) := by decide +kernel
theorem dX7_mayGreet_34 : decode cX7_mayGreet 34 = .ok (.if_icmp .ge 55, 3) := by decide +kernel
theorem dX7_mayGreet_37 : decode cX7_mayGreet 37 = .ok (.iload 4, 2) := by decide +kernel
theorem dX7_mayGreet_39 : decode cX7_mayGreet 39 = .ok (.ifCond .eq 41, 3) := by decide +kernel
theorem dX7_mayGreet_42 : decode cX7_mayGreet 42 = .ok (.iload_n 1, 1) := by decide +kernel
theorem dX7_mayGreet_43 : decode cX7_mayGreet 43 = .ok (.iload 5, 2) := by decide +kernel
theorem dX7_mayGreet_45 : decode cX7_mayGreet 45 = .ok (.invokestatic 153, 3) := by decide +kernel
theorem dX7_mayGreet_48 : decode cX7_mayGreet 48 = .ok (.ifCond .eq 28, 3) := by decide +kernel
theorem dX7_mayGreet_51 : decode cX7_mayGreet 51 = .ok (.iload_n 2, 1) := by decide +kernel
theorem dX7_mayGreet_52 : decode cX7_mayGreet 52 = .ok (.iload 5, 2) := by decide +kernel
theorem dX7_mayGreet_54 : decode cX7_mayGreet 54 = .ok (.invokestatic 153, 3) := by decide +kernel
theorem dX7_mayGreet_57 : decode cX7_mayGreet 57 = .ok (.ifCond .ne 19, 3) := by decide +kernel
theorem dX7_mayGreet_60 : decode cX7_mayGreet 60 = .ok (.aload_n 0, 1) := by decide +kernel
theorem dX7_mayGreet_61 : decode cX7_mayGreet 61 = .ok (.getfield 28, 3) := by decide +kernel
theorem dX7_mayGreet_64 : decode cX7_mayGreet 64 = .ok (.iload 5, 2) := by decide +kernel
theorem dX7_mayGreet_66 : decode cX7_mayGreet 66 = .ok (.iaload, 1) := by decide +kernel
theorem dX7_mayGreet_67 : decode cX7_mayGreet 67 = .ok (.aload_n 0, 1) := by decide +kernel
theorem dX7_mayGreet_68 : decode cX7_mayGreet 68 = .ok (.getfield 28, 3) := by decide +kernel
theorem dX7_mayGreet_71 : decode cX7_mayGreet 71 = .ok (.iload_n 3, 1) := by decide +kernel
theorem dX7_mayGreet_72 : decode cX7_mayGreet 72 = .ok (.iaload, 1) := by decide +kernel
theorem dX7_mayGreet_73 : decode cX7_mayGreet 73 = .ok (.if_icmp .gt 7, 3) := by decide +kernel
theorem dX7_mayGreet_76 : decode cX7_mayGreet 76 = .ok (.iconst 1, 1) := by decide +kernel
theorem dX7_mayGreet_77 : decode cX7_mayGreet 77 = .ok (.goto 4, 3) := by decide +kernel
theorem dX7_mayGreet_80 : decode cX7_mayGreet 80 = .ok (.iconst 0, 1) := by decide +kernel
theorem dX7_mayGreet_81 : decode cX7_mayGreet 81 = .ok (.istore 4, 2) := by decide +kernel
theorem dX7_mayGreet_83 : decode cX7_mayGreet 83 = .ok (.iinc 5 1, 3) := by decide +kernel
theorem dX7_mayGreet_86 : decode cX7_mayGreet 86 = .ok (.goto (-60), 3) := by decide +kernel
theorem dX7_mayGreet_89 : decode cX7_mayGreet 89 = .ok (.iload 4, 2) := by decide +kernel
theorem dX7_mayGreet_91 : decode cX7_mayGreet 91 = .ok (.ireturn, 1) := by decide +kernel
theorem dX7_layNeeds_0 : decode cX7_layNeeds 0 = .ok (.iload_n 1, 1) := by decide +kernel
theorem dX7_layNeeds_1 : decode cX7_layNeeds 1 = .ok (.istore_n 2, 1) := by decide +kernel
theorem dX7_layNeeds_2 : decode cX7_layNeeds 2 = .ok (.iload_n 2, 1) := by decide +kernel
theorem dX7_layNeeds_3 : decode cX7_layNeeds 3 = .ok (.ifCond .lt 143, 3) := by decide +kernel
theorem dX7_layNeeds_6 : decode cX7_layNeeds 6 = .ok (.iconst 0, 1) := by decide +kernel
theorem dX7_layNeeds_7 : decode cX7_layNeeds 7 = .ok (.istore_n 3, 1) := by decide +kernel
theorem dX7_layNeeds_8 : decode cX7_layNeeds 8 = .ok (.iload_n 3, 1) := by decide +kernel
theorem dX7_layNeeds_9 : decode cX7_layNeeds 9 = .ok (.bipush 13, 2) := by decide +kernel
theorem dX7_layNeeds_11 : decode cX7_layNeeds 11 = .ok (.if_icmp .ge 129, 3) := by decide +kernel
theorem dX7_layNeeds_14 : decode cX7_layNeeds 14 = .ok (.iload_n 2, 1) := by decide +kernel
theorem dX7_layNeeds_15 : decode cX7_layNeeds 15 = .ok (.iload_n 1, 1) := by decide +kernel
theorem dX7_layNeeds_16 : decode cX7_layNeeds 16 = .ok (.if_icmp .ne 7, 3) := by decide +kernel
theorem dX7_layNeeds_19 : decode cX7_layNeeds 19 = .ok (.iconst 0, 1) := by decide +kernel
theorem dX7_layNeeds_20 : decode cX7_layNeeds 20 = .ok (.goto 6, 3) := by decide +kernel
theorem dX7_layNeeds_23 : decode cX7_layNeeds 23 = .ok (.sipush 999, 3) := by decide +kernel
theorem dX7_layNeeds_26 : decode cX7_layNeeds 26 = .ok (.istore 4, 2) := by decide +kernel
theorem dX7_layNeeds_28 : decode cX7_layNeeds 28 = .ok (.iconst 0, 1) := by decide +kernel
theorem dX7_layNeeds_29 : decode cX7_layNeeds 29 = .ok (.istore 5, 2) := by decide +kernel
theorem dX7_layNeeds_31 : decode cX7_layNeeds 31 = .ok (.iload 5, 2) := by decide +kernel
theorem dX7_layNeeds_33 : decode cX7_layNeeds 33 = .ok (.aload_n 0, 1) := by decide +kernel
theorem dX7_layNeeds_34 : decode cX7_layNeeds 34 = .ok (.getfield 13, 3) := by decide +kernel
theorem dX7_layNeeds_37 : decode cX7_layNeeds 37 = .ok (.iconst 0, 1) := by decide +kernel
theorem dX7_layNeeds_38 : decode cX7_layNeeds 38 = .ok (.iaload, 1) := by decide +kernel
theorem dX7_layNeeds_39 : decode cX7_layNeeds 39 = .ok (.if_icmp .ge 82, 3) := by decide +kernel
theorem dX7_layNeeds_42 : decode cX7_layNeeds 42 = .ok (.iload_n 2, 1) := by decide +kernel
theorem dX7_layNeeds_43 : decode cX7_layNeeds 43 = .ok (.iload_n 1, 1) := by decide +kernel
theorem dX7_layNeeds_44 : decode cX7_layNeeds 44 = .ok (.iconst (-1), 1) := by decide +kernel
theorem dX7_layNeeds_45 : decode cX7_layNeeds 45 = .ok (.ixor, 1) := by decide +kernel
theorem dX7_layNeeds_46 : decode cX7_layNeeds 46 = .ok (.iand, 1) := by decide +kernel
theorem dX7_layNeeds_47 : decode cX7_layNeeds 47 = .ok (.ifCond .ne 74, 3) := by decide +kernel
theorem dX7_layNeeds_50 : decode cX7_layNeeds 50 = .ok (.aload_n 0, 1) := by decide +kernel
theorem dX7_layNeeds_51 : decode cX7_layNeeds 51 = .ok (.iload_n 1, 1) := by decide +kernel
theorem dX7_layNeeds_52 : decode cX7_layNeeds 52 = .ok (.iload_n 2, 1) := by decide +kernel
theorem dX7_layNeeds_53 : decode cX7_layNeeds 53 = .ok (.iload 5, 2) := by decide +kernel
theorem dX7_layNeeds_55 : decode cX7_layNeeds 55 = .ok (.invokevirtual 180, 3) := by decide +kernel
theorem dX7_layNeeds_58 : decode cX7_layNeeds 58 = .ok (.ifCond .eq 36, 3) := by decide +kernel
theorem dX7_layNeeds_61 : decode cX7_layNeeds 61 = .ok (.aload_n 0, 1) := by decide +kernel
theorem dX7_layNeeds_62 : decode cX7_layNeeds 62 = .ok (.iload 5, 2) := by decide +kernel
theorem dX7_layNeeds_64 : decode cX7_layNeeds 64 = .ok (.iload_n 3, 1) := by decide +kernel
theorem dX7_layNeeds_65 : decode cX7_layNeeds 65 = .ok (.invokevirtual 183, 3) := by decide +kernel
theorem dX7_layNeeds_68 : decode cX7_layNeeds 68 = .ok (.aload_n 0, 1) := by decide +kernel
theorem dX7_layNeeds_69 : decode cX7_layNeeds 69 = .ok (.getfield 76, 3) := by decide +kernel
theorem dX7_layNeeds_72 : decode cX7_layNeeds 72 = .ok (.bipush 13, 2) := by decide +kernel
theorem dX7_layNeeds_74 : decode cX7_layNeeds 74 = .ok (.iload_n 2, 1) := by decide +kernel
theorem dX7_layNeeds_75 : decode cX7_layNeeds 75 = .ok (.iconst 1, 1) := by decide +kernel
theorem dX7_layNeeds_76 : decode cX7_layNeeds 76 = .ok (.iload 5, 2) := by decide +kernel
theorem dX7_layNeeds_78 : decode cX7_layNeeds 78 = .ok (.ishl, 1) := by decide +kernel
theorem dX7_layNeeds_79 : decode cX7_layNeeds 79 = .ok (.ior, 1) := by decide +kernel
theorem dX7_layNeeds_80 : decode cX7_layNeeds 80 = .ok (.imul, 1) := by decide +kernel
theorem dX7_layNeeds_81 : decode cX7_layNeeds 81 = .ok (.aload_n 0, 1) := by decide +kernel
theorem dX7_layNeeds_82 : decode cX7_layNeeds 82 = .ok (.iload 5, 2) := by decide +kernel
theorem dX7_layNeeds_84 : decode cX7_layNeeds 84 = .ok (.iload_n 3, 1) := by decide +kernel
theorem dX7_layNeeds_85 : decode cX7_layNeeds 85 = .ok (.invokevirtual 187, 3) := by decide +kernel
theorem dX7_layNeeds_88 : decode cX7_layNeeds 88 = .ok (.iadd, 1) := by decide +kernel
theorem dX7_layNeeds_89 : decode cX7_layNeeds 89 = .ok (.iaload, 1) := by decide +kernel
theorem dX7_layNeeds_90 : decode cX7_layNeeds 90 = .ok (.iadd, 1) := by decide +kernel
theorem dX7_layNeeds_91 : decode cX7_layNeeds 91 = .ok (.goto 6, 3) := by decide +kernel
theorem dX7_layNeeds_94 : decode cX7_layNeeds 94 = .ok (.sipush 999, 3) := by decide +kernel
theorem dX7_layNeeds_97 : decode cX7_layNeeds 97 = .ok (.istore 6, 2) := by decide +kernel
theorem dX7_layNeeds_99 : decode cX7_layNeeds 99 = .ok (.iload 6, 2) := by decide +kernel
theorem dX7_layNeeds_101 : decode cX7_layNeeds 101 = .ok (.iload 4, 2) := by decide +kernel
theorem dX7_layNeeds_103 : decode cX7_layNeeds 103 = .ok (.if_icmp .ge 8, 3) := by decide +kernel
theorem dX7_layNeeds_106 : decode cX7_layNeeds 106 = .ok (.iload 6, 2) := by decide +kernel
theorem dX7_layNeeds_108 : decode cX7_layNeeds 108 = .ok (.goto 5, 3) := by decide +kernel
theorem dX7_layNeeds_111 : decode cX7_layNeeds 111 = .ok (.iload 4, 2) := by decide +kernel
theorem dX7_layNeeds_113 : decode cX7_layNeeds 113 = .ok (.istore 4, 2) := by decide +kernel
theorem dX7_layNeeds_115 : decode cX7_layNeeds 115 = .ok (.iinc 5 1, 3) := by decide +kernel
theorem dX7_layNeeds_118 : decode cX7_layNeeds 118 = .ok (.goto (-87), 3) := by decide +kernel
theorem dX7_layNeeds_121 : decode cX7_layNeeds 121 = .ok (.aload_n 0, 1) := by decide +kernel
theorem dX7_layNeeds_122 : decode cX7_layNeeds 122 = .ok (.getfield 76, 3) := by decide +kernel
theorem dX7_layNeeds_125 : decode cX7_layNeeds 125 = .ok (.bipush 13, 2) := by decide +kernel
theorem dX7_layNeeds_127 : decode cX7_layNeeds 127 = .ok (.iload_n 2, 1) := by decide +kernel
theorem dX7_layNeeds_128 : decode cX7_layNeeds 128 = .ok (.imul, 1) := by decide +kernel
theorem dX7_layNeeds_129 : decode cX7_layNeeds 129 = .ok (.iload_n 3, 1) := by decide +kernel
theorem dX7_layNeeds_130 : decode cX7_layNeeds 130 = .ok (.iadd, 1) := by decide +kernel
theorem dX7_layNeeds_131 : decode cX7_layNeeds 131 = .ok (.iload 4, 2) := by decide +kernel
theorem dX7_layNeeds_133 : decode cX7_layNeeds 133 = .ok (.iastore, 1) := by decide +kernel
theorem dX7_layNeeds_134 : decode cX7_layNeeds 134 = .ok (.iinc 3 1, 3) := by decide +kernel
theorem dX7_layNeeds_137 : decode cX7_layNeeds 137 = .ok (.goto (-129), 3) := by decide +kernel
theorem dX7_layNeeds_140 : decode cX7_layNeeds 140 = .ok (.iinc 2 (-1), 3) := by decide +kernel
theorem dX7_layNeeds_143 : decode cX7_layNeeds 143 = .ok (.goto (-141), 3) := by decide +kernel
theorem dX7_layNeeds_146 : decode cX7_layNeeds 146 = .ok (.return_, 1) := by decide +kernel
theorem dX7_greet_0 : decode cX7_greet 0 = .ok (.aload_n 0, 1) := by decide +kernel
theorem dX7_greet_1 : decode cX7_greet 1 = .ok (.iload_n 1, 1) := by decide +kernel
theorem dX7_greet_2 : decode cX7_greet 2 = .ok (.invokevirtual 156, 3) := by decide +kernel
theorem dX7_greet_5 : decode cX7_greet 5 = .ok (.ifCond .eq 17, 3) := by decide +kernel
theorem dX7_greet_8 : decode cX7_greet 8 = .ok (.iload_n 2, 1) := by decide +kernel
theorem dX7_greet_9 : decode cX7_greet 9 = .ok (.i2l, 1) := by decide +kernel
theorem dX7_greet_10 : decode cX7_greet 10 = .ok (.ldc2_w 190, 3) := by decide +kernel
theorem dX7_greet_13 : decode cX7_greet 13 = .ok (.ldc2_w 174, 3) := by decide +kernel
theorem dX7_greet_16 : decode cX7_greet 16 = .ok (.invokestatic 88, 3) := by decide +kernel
theorem dX7_greet_19 : decode cX7_greet 19 = .ok (.ifCond .ne 5, 3) := by decide +kernel
theorem dX7_greet_22 : decode cX7_greet 22 = .ok (.iconst (-1), 1) := by decide +kernel
theorem dX7_greet_23 : decode cX7_greet 23 = .ok (.ireturn, 1) := by decide +kernel
theorem dX7_greet_24 : decode cX7_greet 24 = .ok (.aload_n 0, 1) := by decide +kernel
theorem dX7_greet_25 : decode cX7_greet 25 = .ok (.invokevirtual 145, 3) := by decide +kernel
theorem dX7_greet_28 : decode cX7_greet 28 = .ok (.aload_n 0, 1) := by decide +kernel
theorem dX7_greet_29 : decode cX7_greet 29 = .ok (.iload_n 1, 1) := by decide +kernel
theorem dX7_greet_30 : decode cX7_greet 30 = .ok (.invokevirtual 192, 3) := by decide +kernel
theorem dX7_greet_33 : decode cX7_greet 33 = .ok (.iload_n 2, 1) := by decide +kernel
theorem dX7_greet_34 : decode cX7_greet 34 = .ok (.ifCond .ge 10, 3) := by decide +kernel
theorem dX7_greet_37 : decode cX7_greet 37 = .ok (.aload_n 0, 1) := by decide +kernel
theorem dX7_greet_38 : decode cX7_greet 38 = .ok (.getfield 76, 3) := by decide +kernel
theorem dX7_greet_41 : decode cX7_greet 41 = .ok (.iconst 0, 1) := by decide +kernel
theorem dX7_greet_42 : decode cX7_greet 42 = .ok (.iaload, 1) := by decide +kernel
theorem dX7_greet_43 : decode cX7_greet 43 = .ok (.ireturn, 1) := by decide +kernel
theorem dX7_greet_44 : decode cX7_greet 44 = .ok (.iload_n 2, 1) := by decide +kernel
theorem dX7_greet_45 : decode cX7_greet 45 = .ok (.iload_n 1, 1) := by decide +kernel
theorem dX7_greet_46 : decode cX7_greet 46 = .ok (.invokestatic 166, 3) := by decide +kernel
theorem dX7_greet_49 : decode cX7_greet 49 = .ok (.if_icmp .lt 6, 3) := by decide +kernel
theorem dX7_greet_52 : decode cX7_greet 52 = .ok (.bipush (-4), 2) := by decide +kernel
theorem dX7_greet_54 : decode cX7_greet 54 = .ok (.ireturn, 1) := by decide +kernel
theorem dX7_greet_55 : decode cX7_greet 55 = .ok (.iconst 0, 1) := by decide +kernel
theorem dX7_greet_56 : decode cX7_greet 56 = .ok (.istore_n 3, 1) := by decide +kernel
theorem dX7_greet_57 : decode cX7_greet 57 = .ok (.iconst 0, 1) := by decide +kernel
theorem dX7_greet_58 : decode cX7_greet 58 = .ok (.istore 4, 2) := by decide +kernel
theorem dX7_greet_60 : decode cX7_greet 60 = .ok (.iconst 0, 1) := by decide +kernel
end
section
theorem dX7_greet_61 : decode cX7_greet 61 = .ok (.istore 5, 2) := by decide +kernel
theorem dX7_greet_63 : decode cX7_greet 63 = .ok (.iconst 0, 1) := by decide +kernel
theorem dX7_greet_64 : decode cX7_greet 64 = .ok (.istore 6, 2) := by decide +kernel
theorem dX7_greet_66 : decode cX7_greet 66 = .ok (.iload 6, 2) := by decide +kernel
theorem dX7_greet_68 : decode cX7_greet 68 = .ok (.iload_n 2, 1) := by decide +kernel
theorem dX7_greet_69 : decode cX7_greet 69 = .ok (.if_icmp .gt 93, 3) := by decide +kernel
theorem dX7_greet_72 : decode cX7_greet 72 = .ok (.iconst 0, 1) := by decide +kernel
theorem dX7_greet_73 : decode cX7_greet 73 = .ok (.istore 5, 2) := by decide +kernel
theorem dX7_greet_75 : decode cX7_greet 75 = .ok (.aload_n 0, 1) := by decide +kernel
theorem dX7_greet_76 : decode cX7_greet 76 = .ok (.iload_n 1, 1) := by decide +kernel
theorem dX7_greet_77 : decode cX7_greet 77 = .ok (.iload_n 3, 1) := by decide +kernel
theorem dX7_greet_78 : decode cX7_greet 78 = .ok (.iload 5, 2) := by decide +kernel
theorem dX7_greet_80 : decode cX7_greet 80 = .ok (.invokevirtual 180, 3) := by decide +kernel
theorem dX7_greet_83 : decode cX7_greet 83 = .ok (.ifCond .eq 50, 3) := by decide +kernel
theorem dX7_greet_86 : decode cX7_greet 86 = .ok (.aload_n 0, 1) := by decide +kernel
theorem dX7_greet_87 : decode cX7_greet 87 = .ok (.iload 5, 2) := by decide +kernel
theorem dX7_greet_89 : decode cX7_greet 89 = .ok (.iload 4, 2) := by decide +kernel
theorem dX7_greet_91 : decode cX7_greet 91 = .ok (.invokevirtual 183, 3) := by decide +kernel
theorem dX7_greet_94 : decode cX7_greet 94 = .ok (.aload_n 0, 1) := by decide +kernel
theorem dX7_greet_95 : decode cX7_greet 95 = .ok (.getfield 76, 3) := by decide +kernel
theorem dX7_greet_98 : decode cX7_greet 98 = .ok (.bipush 13, 2) := by decide +kernel
theorem dX7_greet_100 : decode cX7_greet 100 = .ok (.iload_n 3, 1) := by decide +kernel
theorem dX7_greet_101 : decode cX7_greet 101 = .ok (.iconst 1, 1) := by decide +kernel
theorem dX7_greet_102 : decode cX7_greet 102 = .ok (.iload 5, 2) := by decide +kernel
theorem dX7_greet_104 : decode cX7_greet 104 = .ok (.ishl, 1) := by decide +kernel
theorem dX7_greet_105 : decode cX7_greet 105 = .ok (.ior, 1) := by decide +kernel
theorem dX7_greet_106 : decode cX7_greet 106 = .ok (.imul, 1) := by decide +kernel
theorem dX7_greet_107 : decode cX7_greet 107 = .ok (.aload_n 0, 1) := by decide +kernel
theorem dX7_greet_108 : decode cX7_greet 108 = .ok (.iload 5, 2) := by decide +kernel
theorem dX7_greet_110 : decode cX7_greet 110 = .ok (.iload 4, 2) := by decide +kernel
theorem dX7_greet_112 : decode cX7_greet 112 = .ok (.invokevirtual 187, 3) := by decide +kernel
theorem dX7_greet_115 : decode cX7_greet 115 = .ok (.iadd, 1) := by decide +kernel
theorem dX7_greet_116 : decode cX7_greet 116 = .ok (.iaload, 1) := by decide +kernel
theorem dX7_greet_117 : decode cX7_greet 117 = .ok (.iadd, 1) := by decide +kernel
theorem dX7_greet_118 : decode cX7_greet 118 = .ok (.aload_n 0, 1) := by decide +kernel
theorem dX7_greet_119 : decode cX7_greet 119 = .ok (.getfield 76, 3) := by decide +kernel
theorem dX7_greet_122 : decode cX7_greet 122 = .ok (.bipush 13, 2) := by decide +kernel
theorem dX7_greet_124 : decode cX7_greet 124 = .ok (.iload_n 3, 1) := by decide +kernel
theorem dX7_greet_125 : decode cX7_greet 125 = .ok (.imul, 1) := by decide +kernel
theorem dX7_greet_126 : decode cX7_greet 126 = .ok (.iload 4, 2) := by decide +kernel
theorem dX7_greet_128 : decode cX7_greet 128 = .ok (.iadd, 1) := by decide +kernel
theorem dX7_greet_129 : decode cX7_greet 129 = .ok (.iaload, 1) := by decide +kernel
theorem dX7_greet_130 : decode cX7_greet 130 = .ok (.if_icmp .eq 9, 3) := by decide +kernel
theorem dX7_greet_133 : decode cX7_greet 133 = .ok (.iinc 5 1, 3) := by decide +kernel
theorem dX7_greet_136 : decode cX7_greet 136 = .ok (.goto (-61), 3) := by decide +kernel
theorem dX7_greet_139 : decode cX7_greet 139 = .ok (.iload_n 3, 1) := by decide +kernel
theorem dX7_greet_140 : decode cX7_greet 140 = .ok (.iconst 1, 1) := by decide +kernel
theorem dX7_greet_141 : decode cX7_greet 141 = .ok (.iload 5, 2) := by decide +kernel
theorem dX7_greet_143 : decode cX7_greet 143 = .ok (.ishl, 1) := by decide +kernel
theorem dX7_greet_144 : decode cX7_greet 144 = .ok (.ior, 1) := by decide +kernel
theorem dX7_greet_145 : decode cX7_greet 145 = .ok (.istore_n 3, 1) := by decide +kernel
theorem dX7_greet_146 : decode cX7_greet 146 = .ok (.aload_n 0, 1) := by decide +kernel
theorem dX7_greet_147 : decode cX7_greet 147 = .ok (.iload 5, 2) := by decide +kernel
theorem dX7_greet_149 : decode cX7_greet 149 = .ok (.iload 4, 2) := by decide +kernel
theorem dX7_greet_151 : decode cX7_greet 151 = .ok (.invokevirtual 187, 3) := by decide +kernel
theorem dX7_greet_154 : decode cX7_greet 154 = .ok (.istore 4, 2) := by decide +kernel
theorem dX7_greet_156 : decode cX7_greet 156 = .ok (.iinc 6 1, 3) := by decide +kernel
theorem dX7_greet_159 : decode cX7_greet 159 = .ok (.goto (-93), 3) := by decide +kernel
theorem dX7_greet_162 : decode cX7_greet 162 = .ok (.iload 5, 2) := by decide +kernel
theorem dX7_greet_164 : decode cX7_greet 164 = .ok (.ireturn, 1) := by decide +kernel
theorem dX7_answers_0 : decode cX7_answers 0 = .ok (.aload_n 0, 1) := by decide +kernel
theorem dX7_answers_1 : decode cX7_answers 1 = .ok (.getfield 64, 3) := by decide +kernel
theorem dX7_answers_4 : decode cX7_answers 4 = .ok (.iload_n 1, 1) := by decide +kernel
theorem dX7_answers_5 : decode cX7_answers 5 = .ok (.iaload, 1) := by decide +kernel
theorem dX7_answers_6 : decode cX7_answers 6 = .ok (.iload_n 3, 1) := by decide +kernel
theorem dX7_answers_7 : decode cX7_answers 7 = .ok (.if_icmp .lt 7, 3) := by decide +kernel
theorem dX7_answers_10 : decode cX7_answers 10 = .ok (.iconst 1, 1) := by decide +kernel
theorem dX7_answers_11 : decode cX7_answers 11 = .ok (.goto 4, 3) := by decide +kernel
theorem dX7_answers_14 : decode cX7_answers 14 = .ok (.iconst 0, 1) := by decide +kernel
theorem dX7_answers_15 : decode cX7_answers 15 = .ok (.istore 4, 2) := by decide +kernel
theorem dX7_answers_17 : decode cX7_answers 17 = .ok (.iconst 0, 1) := by decide +kernel
theorem dX7_answers_18 : decode cX7_answers 18 = .ok (.istore 5, 2) := by decide +kernel
theorem dX7_answers_20 : decode cX7_answers 20 = .ok (.iload 5, 2) := by decide +kernel
theorem dX7_answers_22 : decode cX7_answers 22 = .ok (.iload_n 3, 1) := by decide +kernel
theorem dX7_answers_23 : decode cX7_answers 23 = .ok (.if_icmp .ge 48, 3) := by decide +kernel
theorem dX7_answers_26 : decode cX7_answers 26 = .ok (.iload 4, 2) := by decide +kernel
theorem dX7_answers_28 : decode cX7_answers 28 = .ok (.ifCond .eq 43, 3) := by decide +kernel
theorem dX7_answers_31 : decode cX7_answers 31 = .ok (.aload_n 0, 1) := by decide +kernel
theorem dX7_answers_32 : decode cX7_answers 32 = .ok (.getfield 61, 3) := by decide +kernel
theorem dX7_answers_35 : decode cX7_answers 35 = .ok (.bipush 20, 2) := by decide +kernel
theorem dX7_answers_37 : decode cX7_answers 37 = .ok (.iload_n 1, 1) := by decide +kernel
theorem dX7_answers_38 : decode cX7_answers 38 = .ok (.imul, 1) := by decide +kernel
theorem dX7_answers_39 : decode cX7_answers 39 = .ok (.iload 5, 2) := by decide +kernel
theorem dX7_answers_41 : decode cX7_answers 41 = .ok (.iadd, 1) := by decide +kernel
theorem dX7_answers_42 : decode cX7_answers 42 = .ok (.iaload, 1) := by decide +kernel
theorem dX7_answers_43 : decode cX7_answers 43 = .ok (.aload_n 0, 1) := by decide +kernel
theorem dX7_answers_44 : decode cX7_answers 44 = .ok (.getfield 61, 3) := by decide +kernel
theorem dX7_answers_47 : decode cX7_answers 47 = .ok (.bipush 20, 2) := by decide +kernel
theorem dX7_answers_49 : decode cX7_answers 49 = .ok (.iload_n 2, 1) := by decide +kernel
theorem dX7_answers_50 : decode cX7_answers 50 = .ok (.imul, 1) := by decide +kernel
theorem dX7_answers_51 : decode cX7_answers 51 = .ok (.iload 5, 2) := by decide +kernel
theorem dX7_answers_53 : decode cX7_answers 53 = .ok (.iadd, 1) := by decide +kernel
theorem dX7_answers_54 : decode cX7_answers 54 = .ok (.iaload, 1) := by decide +kernel
theorem dX7_answers_55 : decode cX7_answers 55 = .ok (.if_icmp .ne 7, 3) := by decide +kernel
theorem dX7_answers_58 : decode cX7_answers 58 = .ok (.iconst 1, 1) := by decide +kernel
theorem dX7_answers_59 : decode cX7_answers 59 = .ok (.goto 4, 3) := by decide +kernel
theorem dX7_answers_62 : decode cX7_answers 62 = .ok (.iconst 0, 1) := by decide +kernel
theorem dX7_answers_63 : decode cX7_answers 63 = .ok (.istore 4, 2) := by decide +kernel
theorem dX7_answers_65 : decode cX7_answers 65 = .ok (.iinc 5 1, 3) := by decide +kernel
theorem dX7_answers_68 : decode cX7_answers 68 = .ok (.goto (-48), 3) := by decide +kernel
theorem dX7_answers_71 : decode cX7_answers 71 = .ok (.iload 4, 2) := by decide +kernel
theorem dX7_answers_73 : decode cX7_answers 73 = .ok (.ireturn, 1) := by decide +kernel
theorem dX7_shortOf_0 : decode cX7_shortOf 0 = .ok (.aload_n 0, 1) := by decide +kernel
theorem dX7_shortOf_1 : decode cX7_shortOf 1 = .ok (.getfield 43, 3) := by decide +kernel
theorem dX7_shortOf_4 : decode cX7_shortOf 4 = .ok (.bipush 8, 2) := by decide +kernel
theorem dX7_shortOf_6 : decode cX7_shortOf 6 = .ok (.iload_n 1, 1) := by decide +kernel
theorem dX7_shortOf_7 : decode cX7_shortOf 7 = .ok (.imul, 1) := by decide +kernel
theorem dX7_shortOf_8 : decode cX7_shortOf 8 = .ok (.iload_n 2, 1) := by decide +kernel
theorem dX7_shortOf_9 : decode cX7_shortOf 9 = .ok (.iadd, 1) := by decide +kernel
theorem dX7_shortOf_10 : decode cX7_shortOf 10 = .ok (.iaload, 1) := by decide +kernel
theorem dX7_shortOf_11 : decode cX7_shortOf 11 = .ok (.iconst 3, 1) := by decide +kernel
theorem dX7_shortOf_12 : decode cX7_shortOf 12 = .ok (.if_icmp .ne 12, 3) := by decide +kernel
theorem dX7_shortOf_15 : decode cX7_shortOf 15 = .ok (.aload_n 0, 1) := by decide +kernel
theorem dX7_shortOf_16 : decode cX7_shortOf 16 = .ok (.getfield 64, 3) := by decide +kernel
theorem dX7_shortOf_19 : decode cX7_shortOf 19 = .ok (.iload_n 2, 1) := by decide +kernel
theorem dX7_shortOf_20 : decode cX7_shortOf 20 = .ok (.iaload, 1) := by decide +kernel
theorem dX7_shortOf_21 : decode cX7_shortOf 21 = .ok (.goto 4, 3) := by decide +kernel
theorem dX7_shortOf_24 : decode cX7_shortOf 24 = .ok (.iconst 1, 1) := by decide +kernel
theorem dX7_shortOf_25 : decode cX7_shortOf 25 = .ok (.istore 4, 2) := by decide +kernel
theorem dX7_shortOf_27 : decode cX7_shortOf 27 = .ok (.iload 4, 2) := by decide +kernel
theorem dX7_shortOf_29 : decode cX7_shortOf 29 = .ok (.aload_n 0, 1) := by decide +kernel
theorem dX7_shortOf_30 : decode cX7_shortOf 30 = .ok (.getfield 64, 3) := by decide +kernel
theorem dX7_shortOf_33 : decode cX7_shortOf 33 = .ok (.iload_n 2, 1) := by decide +kernel
theorem dX7_shortOf_34 : decode cX7_shortOf 34 = .ok (.iaload, 1) := by decide +kernel
theorem dX7_shortOf_35 : decode cX7_shortOf 35 = .ok (.if_icmp .gt 79, 3) := by decide +kernel
theorem dX7_shortOf_38 : decode cX7_shortOf 38 = .ok (.iconst 1, 1) := by decide +kernel
theorem dX7_shortOf_39 : decode cX7_shortOf 39 = .ok (.istore 5, 2) := by decide +kernel
theorem dX7_shortOf_41 : decode cX7_shortOf 41 = .ok (.iconst 0, 1) := by decide +kernel
theorem dX7_shortOf_42 : decode cX7_shortOf 42 = .ok (.istore 6, 2) := by decide +kernel
theorem dX7_shortOf_44 : decode cX7_shortOf 44 = .ok (.iload 6, 2) := by decide +kernel
theorem dX7_shortOf_46 : decode cX7_shortOf 46 = .ok (.aload_n 0, 1) := by decide +kernel
theorem dX7_shortOf_47 : decode cX7_shortOf 47 = .ok (.getfield 13, 3) := by decide +kernel
theorem dX7_shortOf_50 : decode cX7_shortOf 50 = .ok (.iconst 0, 1) := by decide +kernel
theorem dX7_shortOf_51 : decode cX7_shortOf 51 = .ok (.iaload, 1) := by decide +kernel
theorem dX7_shortOf_52 : decode cX7_shortOf 52 = .ok (.if_icmp .ge 48, 3) := by decide +kernel
theorem dX7_shortOf_55 : decode cX7_shortOf 55 = .ok (.iload 5, 2) := by decide +kernel
theorem dX7_shortOf_57 : decode cX7_shortOf 57 = .ok (.ifCond .eq 34, 3) := by decide +kernel
theorem dX7_shortOf_60 : decode cX7_shortOf 60 = .ok (.iload 6, 2) := by decide +kernel
theorem dX7_shortOf_62 : decode cX7_shortOf 62 = .ok (.iload_n 2, 1) := by decide +kernel
theorem dX7_shortOf_63 : decode cX7_shortOf 63 = .ok (.if_icmp .eq 24, 3) := by decide +kernel
theorem dX7_shortOf_66 : decode cX7_shortOf 66 = .ok (.iload_n 3, 1) := by decide +kernel
theorem dX7_shortOf_67 : decode cX7_shortOf 67 = .ok (.iload 6, 2) := by decide +kernel
theorem dX7_shortOf_69 : decode cX7_shortOf 69 = .ok (.invokestatic 153, 3) := by decide +kernel
theorem dX7_shortOf_72 : decode cX7_shortOf 72 = .ok (.ifCond .eq 15, 3) := by decide +kernel
theorem dX7_shortOf_75 : decode cX7_shortOf 75 = .ok (.aload_n 0, 1) := by decide +kernel
theorem dX7_shortOf_76 : decode cX7_shortOf 76 = .ok (.iload 6, 2) := by decide +kernel
theorem dX7_shortOf_78 : decode cX7_shortOf 78 = .ok (.iload_n 2, 1) := by decide +kernel
theorem dX7_shortOf_79 : decode cX7_shortOf 79 = .ok (.iload 4, 2) := by decide +kernel
theorem dX7_shortOf_81 : decode cX7_shortOf 81 = .ok (.invokevirtual 195, 3) := by decide +kernel
theorem dX7_shortOf_84 : decode cX7_shortOf 84 = .ok (.ifCond .ne 7, 3) := by decide +kernel
theorem dX7_shortOf_87 : decode cX7_shortOf 87 = .ok (.iconst 1, 1) := by decide +kernel
theorem dX7_shortOf_88 : decode cX7_shortOf 88 = .ok (.goto 4, 3) := by decide +kernel
theorem dX7_shortOf_91 : decode cX7_shortOf 91 = .ok (.iconst 0, 1) := by decide +kernel
theorem dX7_shortOf_92 : decode cX7_shortOf 92 = .ok (.istore 5, 2) := by decide +kernel
theorem dX7_shortOf_94 : decode cX7_shortOf 94 = .ok (.iinc 6 1, 3) := by decide +kernel
theorem dX7_shortOf_97 : decode cX7_shortOf 97 = .ok (.goto (-53), 3) := by decide +kernel
theorem dX7_shortOf_100 : decode cX7_shortOf 100 = .ok (.iload 5, 2) := by decide +kernel
theorem dX7_shortOf_102 : decode cX7_shortOf 102 = .ok (.ifCond .eq 6, 3) := by decide +kernel
theorem dX7_shortOf_105 : decode cX7_shortOf 105 = .ok (.iload 4, 2) := by decide +kernel
theorem dX7_shortOf_107 : decode cX7_shortOf 107 = .ok (.ireturn, 1) := by decide +kernel
theorem dX7_shortOf_108 : decode cX7_shortOf 108 = .ok (.iinc 4 1, 3) := by decide +kernel
theorem dX7_shortOf_111 : decode cX7_shortOf 111 = .ok (.goto (-84), 3) := by decide +kernel
theorem dX7_shortOf_114 : decode cX7_shortOf 114 = .ok (.bipush (-4), 2) := by decide +kernel
theorem dX7_shortOf_116 : decode cX7_shortOf 116 = .ok (.ireturn, 1) := by decide +kernel
theorem dX7_allShortOf_0 : decode cX7_allShortOf 0 = .ok (.iconst 0, 1) := by decide +kernel
theorem dX7_allShortOf_1 : decode cX7_allShortOf 1 = .ok (.istore_n 3, 1) := by decide +kernel
theorem dX7_allShortOf_2 : decode cX7_allShortOf 2 = .ok (.iconst 0, 1) := by decide +kernel
theorem dX7_allShortOf_3 : decode cX7_allShortOf 3 = .ok (.istore 4, 2) := by decide +kernel
theorem dX7_allShortOf_5 : decode cX7_allShortOf 5 = .ok (.iload 4, 2) := by decide +kernel
theorem dX7_allShortOf_7 : decode cX7_allShortOf 7 = .ok (.aload_n 0, 1) := by decide +kernel
theorem dX7_allShortOf_8 : decode cX7_allShortOf 8 = .ok (.getfield 13, 3) := by decide +kernel
theorem dX7_allShortOf_11 : decode cX7_allShortOf 11 = .ok (.iconst 0, 1) := by decide +kernel
theorem dX7_allShortOf_12 : decode cX7_allShortOf 12 = .ok (.iaload, 1) := by decide +kernel
theorem dX7_allShortOf_13 : decode cX7_allShortOf 13 = .ok (.if_icmp .ge 45, 3) := by decide +kernel
theorem dX7_allShortOf_16 : decode cX7_allShortOf 16 = .ok (.iload_n 2, 1) := by decide +kernel
theorem dX7_allShortOf_17 : decode cX7_allShortOf 17 = .ok (.iload 4, 2) := by decide +kernel
theorem dX7_allShortOf_19 : decode cX7_allShortOf 19 = .ok (.invokestatic 153, 3) := by decide +kernel
theorem dX7_allShortOf_22 : decode cX7_allShortOf 22 = .ok (.ifCond .eq 14, 3) := by decide +kernel
theorem dX7_allShortOf_25 : decode cX7_allShortOf 25 = .ok (.aload_n 0, 1) := by decide +kernel
theorem dX7_allShortOf_26 : decode cX7_allShortOf 26 = .ok (.iload_n 1, 1) := by decide +kernel
theorem dX7_allShortOf_27 : decode cX7_allShortOf 27 = .ok (.iload 4, 2) := by decide +kernel
theorem dX7_allShortOf_29 : decode cX7_allShortOf 29 = .ok (.iload_n 2, 1) := by decide +kernel
theorem dX7_allShortOf_30 : decode cX7_allShortOf 30 = .ok (.invokevirtual 198, 3) := by decide +kernel
theorem dX7_allShortOf_33 : decode cX7_allShortOf 33 = .ok (.goto 4, 3) := by decide +kernel
theorem dX7_allShortOf_36 : decode cX7_allShortOf 36 = .ok (.iconst 0, 1) := by decide +kernel
theorem dX7_allShortOf_37 : decode cX7_allShortOf 37 = .ok (.istore 5, 2) := by decide +kernel
theorem dX7_allShortOf_39 : decode cX7_allShortOf 39 = .ok (.iload 5, 2) := by decide +kernel
theorem dX7_allShortOf_41 : decode cX7_allShortOf 41 = .ok (.ifCond .ge 6, 3) := by decide +kernel
theorem dX7_allShortOf_44 : decode cX7_allShortOf 44 = .ok (.bipush (-4), 2) := by decide +kernel
theorem dX7_allShortOf_46 : decode cX7_allShortOf 46 = .ok (.ireturn, 1) := by decide +kernel
theorem dX7_allShortOf_47 : decode cX7_allShortOf 47 = .ok (.iload_n 3, 1) := by decide +kernel
theorem dX7_allShortOf_48 : decode cX7_allShortOf 48 = .ok (.iload 5, 2) := by decide +kernel
theorem dX7_allShortOf_50 : decode cX7_allShortOf 50 = .ok (.iadd, 1) := by decide +kernel
theorem dX7_allShortOf_51 : decode cX7_allShortOf 51 = .ok (.istore_n 3, 1) := by decide +kernel
theorem dX7_allShortOf_52 : decode cX7_allShortOf 52 = .ok (.iinc 4 1, 3) := by decide +kernel
theorem dX7_allShortOf_55 : decode cX7_allShortOf 55 = .ok (.goto (-50), 3) := by decide +kernel
theorem dX7_allShortOf_58 : decode cX7_allShortOf 58 = .ok (.iload_n 3, 1) := by decide +kernel
theorem dX7_allShortOf_59 : decode cX7_allShortOf 59 = .ok (.ireturn, 1) := by decide +kernel
theorem dX7_shortCall_0 : decode cX7_shortCall 0 = .ok (.aload_n 0, 1) := by decide +kernel
theorem dX7_shortCall_1 : decode cX7_shortCall 1 = .ok (.iload_n 1, 1) := by decide +kernel
theorem dX7_shortCall_2 : decode cX7_shortCall 2 = .ok (.invokevirtual 139, 3) := by decide +kernel
theorem dX7_shortCall_5 : decode cX7_shortCall 5 = .ok (.ifCond .eq 19, 3) := by decide +kernel
theorem dX7_shortCall_8 : decode cX7_shortCall 8 = .ok (.aload_n 0, 1) := by decide +kernel
theorem dX7_shortCall_9 : decode cX7_shortCall 9 = .ok (.iload_n 2, 1) := by decide +kernel
theorem dX7_shortCall_10 : decode cX7_shortCall 10 = .ok (.invokevirtual 156, 3) := by decide +kernel
theorem dX7_shortCall_13 : decode cX7_shortCall 13 = .ok (.ifCond .eq 11, 3) := by decide +kernel
theorem dX7_shortCall_16 : decode cX7_shortCall 16 = .ok (.iload_n 2, 1) := by decide +kernel
theorem dX7_shortCall_17 : decode cX7_shortCall 17 = .ok (.iload_n 1, 1) := by decide +kernel
theorem dX7_shortCall_18 : decode cX7_shortCall 18 = .ok (.invokestatic 153, 3) := by decide +kernel
theorem dX7_shortCall_21 : decode cX7_shortCall 21 = .ok (.ifCond .ne 5, 3) := by decide +kernel
theorem dX7_shortCall_24 : decode cX7_shortCall 24 = .ok (.iconst (-1), 1) := by decide +kernel
theorem dX7_shortCall_25 : decode cX7_shortCall 25 = .ok (.ireturn, 1) := by decide +kernel
theorem dX7_shortCall_26 : decode cX7_shortCall 26 = .ok (.aload_n 0, 1) := by decide +kernel
theorem dX7_shortCall_27 : decode cX7_shortCall 27 = .ok (.invokevirtual 145, 3) := by decide +kernel
theorem dX7_shortCall_30 : decode cX7_shortCall 30 = .ok (.aload_n 0, 1) := by decide +kernel
theorem dX7_shortCall_31 : decode cX7_shortCall 31 = .ok (.iconst 0, 1) := by decide +kernel
theorem dX7_shortCall_32 : decode cX7_shortCall 32 = .ok (.iload_n 1, 1) := by decide +kernel
theorem dX7_shortCall_33 : decode cX7_shortCall 33 = .ok (.iload_n 2, 1) := by decide +kernel
theorem dX7_shortCall_34 : decode cX7_shortCall 34 = .ok (.invokevirtual 198, 3) := by decide +kernel
theorem dX7_shortCall_37 : decode cX7_shortCall 37 = .ok (.ireturn, 1) := by decide +kernel
theorem dX7_allShort_0 : decode cX7_allShort 0 = .ok (.aload_n 0, 1) := by decide +kernel
theorem dX7_allShort_1 : decode cX7_allShort 1 = .ok (.iload_n 1, 1) := by decide +kernel
theorem dX7_allShort_2 : decode cX7_allShort 2 = .ok (.invokevirtual 156, 3) := by decide +kernel
theorem dX7_allShort_5 : decode cX7_allShort 5 = .ok (.ifCond .ne 5, 3) := by decide +kernel
theorem dX7_allShort_8 : decode cX7_allShort 8 = .ok (.iconst (-1), 1) := by decide +kernel
theorem dX7_allShort_9 : decode cX7_allShort 9 = .ok (.ireturn, 1) := by decide +kernel
theorem dX7_allShort_10 : decode cX7_allShort 10 = .ok (.aload_n 0, 1) := by decide +kernel
theorem dX7_allShort_11 : decode cX7_allShort 11 = .ok (.invokevirtual 145, 3) := by decide +kernel
theorem dX7_allShort_14 : decode cX7_allShort 14 = .ok (.aload_n 0, 1) := by decide +kernel
theorem dX7_allShort_15 : decode cX7_allShort 15 = .ok (.iconst 0, 1) := by decide +kernel
theorem dX7_allShort_16 : decode cX7_allShort 16 = .ok (.iload_n 1, 1) := by decide +kernel
theorem dX7_allShort_17 : decode cX7_allShort 17 = .ok (.invokevirtual 202, 3) := by decide +kernel
theorem dX7_allShort_20 : decode cX7_allShort 20 = .ok (.ireturn, 1) := by decide +kernel
theorem dX7_apart_0 : decode cX7_apart 0 = .ok (.aload_n 0, 1) := by decide +kernel
theorem dX7_apart_1 : decode cX7_apart 1 = .ok (.iload_n 1, 1) := by decide +kernel
theorem dX7_apart_2 : decode cX7_apart 2 = .ok (.invokevirtual 139, 3) := by decide +kernel
theorem dX7_apart_5 : decode cX7_apart 5 = .ok (.ifCond .eq 29, 3) := by decide +kernel
theorem dX7_apart_8 : decode cX7_apart 8 = .ok (.aload_n 0, 1) := by decide +kernel
theorem dX7_apart_9 : decode cX7_apart 9 = .ok (.iload_n 2, 1) := by decide +kernel
theorem dX7_apart_10 : decode cX7_apart 10 = .ok (.invokevirtual 156, 3) := by decide +kernel
theorem dX7_apart_13 : decode cX7_apart 13 = .ok (.ifCond .eq 21, 3) := by decide +kernel
theorem dX7_apart_16 : decode cX7_apart 16 = .ok (.iload_n 2, 1) := by decide +kernel
theorem dX7_apart_17 : decode cX7_apart 17 = .ok (.iload_n 1, 1) := by decide +kernel
theorem dX7_apart_18 : decode cX7_apart 18 = .ok (.invokestatic 153, 3) := by decide +kernel
theorem dX7_apart_21 : decode cX7_apart 21 = .ok (.ifCond .eq 13, 3) := by decide +kernel
theorem dX7_apart_24 : decode cX7_apart 24 = .ok (.iload_n 3, 1) := by decide +kernel
theorem dX7_apart_25 : decode cX7_apart 25 = .ok (.i2l, 1) := by decide +kernel
theorem dX7_apart_26 : decode cX7_apart 26 = .ok (.lconst 0, 1) := by decide +kernel
theorem dX7_apart_27 : decode cX7_apart 27 = .ok (.lconst 1, 1) := by decide +kernel
theorem dX7_apart_28 : decode cX7_apart 28 = .ok (.invokestatic 88, 3) := by decide +kernel
theorem dX7_apart_31 : decode cX7_apart 31 = .ok (.ifCond .ne 5, 3) := by decide +kernel
theorem dX7_apart_34 : decode cX7_apart 34 = .ok (.iconst (-1), 1) := by decide +kernel
theorem dX7_apart_35 : decode cX7_apart 35 = .ok (.ireturn, 1) := by decide +kernel
theorem dX7_apart_36 : decode cX7_apart 36 = .ok (.aload_n 0, 1) := by decide +kernel
theorem dX7_apart_37 : decode cX7_apart 37 = .ok (.getfield 46, 3) := by decide +kernel
theorem dX7_apart_40 : decode cX7_apart 40 = .ok (.iload_n 1, 1) := by decide +kernel
theorem dX7_apart_41 : decode cX7_apart 41 = .ok (.iaload, 1) := by decide +kernel
theorem dX7_apart_42 : decode cX7_apart 42 = .ok (.bipush 10, 2) := by decide +kernel
theorem dX7_apart_44 : decode cX7_apart 44 = .ok (.if_icmp .ne 6, 3) := by decide +kernel
theorem dX7_apart_47 : decode cX7_apart 47 = .ok (.bipush (-3), 2) := by decide +kernel
theorem dX7_apart_49 : decode cX7_apart 49 = .ok (.ireturn, 1) := by decide +kernel
theorem dX7_apart_50 : decode cX7_apart 50 = .ok (.bipush (-4), 2) := by decide +kernel
theorem dX7_apart_52 : decode cX7_apart 52 = .ok (.istore 4, 2) := by decide +kernel
theorem dX7_apart_54 : decode cX7_apart 54 = .ok (.iconst 0, 1) := by decide +kernel
theorem dX7_apart_55 : decode cX7_apart 55 = .ok (.istore 5, 2) := by decide +kernel
theorem dX7_apart_57 : decode cX7_apart 57 = .ok (.iconst 0, 1) := by decide +kernel
theorem dX7_apart_58 : decode cX7_apart 58 = .ok (.istore 6, 2) := by decide +kernel
theorem dX7_apart_60 : decode cX7_apart 60 = .ok (.iload 6, 2) := by decide +kernel
theorem dX7_apart_62 : decode cX7_apart 62 = .ok (.bipush 6, 2) := by decide +kernel
theorem dX7_apart_64 : decode cX7_apart 64 = .ok (.if_icmp .ge 50, 3) := by decide +kernel
theorem dX7_apart_67 : decode cX7_apart 67 = .ok (.aload_n 0, 1) := by decide +kernel
theorem dX7_apart_68 : decode cX7_apart 68 = .ok (.iconst 0, 1) := by decide +kernel
theorem dX7_apart_69 : decode cX7_apart 69 = .ok (.iload_n 1, 1) := by decide +kernel
theorem dX7_apart_70 : decode cX7_apart 70 = .ok (.iload 6, 2) := by decide +kernel
theorem dX7_apart_72 : decode cX7_apart 72 = .ok (.invokevirtual 135, 3) := by decide +kernel
theorem dX7_apart_75 : decode cX7_apart 75 = .ok (.aload_n 0, 1) := by decide +kernel
theorem dX7_apart_76 : decode cX7_apart 76 = .ok (.iconst 0, 1) := by decide +kernel
theorem dX7_apart_77 : decode cX7_apart 77 = .ok (.iload_n 2, 1) := by decide +kernel
theorem dX7_apart_78 : decode cX7_apart 78 = .ok (.invokevirtual 202, 3) := by decide +kernel
theorem dX7_apart_81 : decode cX7_apart 81 = .ok (.istore 7, 2) := by decide +kernel
theorem dX7_apart_83 : decode cX7_apart 83 = .ok (.iload 7, 2) := by decide +kernel
theorem dX7_apart_85 : decode cX7_apart 85 = .ok (.ifCond .lt 23, 3) := by decide +kernel
theorem dX7_apart_88 : decode cX7_apart 88 = .ok (.iload 4, 2) := by decide +kernel
theorem dX7_apart_90 : decode cX7_apart 90 = .ok (.ifCond .lt 10, 3) := by decide +kernel
theorem dX7_apart_93 : decode cX7_apart 93 = .ok (.iload 7, 2) := by decide +kernel
theorem dX7_apart_95 : decode cX7_apart 95 = .ok (.iload 5, 2) := by decide +kernel
theorem dX7_apart_97 : decode cX7_apart 97 = .ok (.if_icmp .ge 11, 3) := by decide +kernel
theorem dX7_apart_100 : decode cX7_apart 100 = .ok (.iload 6, 2) := by decide +kernel
theorem dX7_apart_102 : decode cX7_apart 102 = .ok (.istore 4, 2) := by decide +kernel
theorem dX7_apart_104 : decode cX7_apart 104 = .ok (.iload 7, 2) := by decide +kernel
theorem dX7_apart_106 : decode cX7_apart 106 = .ok (.istore 5, 2) := by decide +kernel
theorem dX7_apart_108 : decode cX7_apart 108 = .ok (.iinc 6 1, 3) := by decide +kernel
theorem dX7_apart_111 : decode cX7_apart 111 = .ok (.goto (-51), 3) := by decide +kernel
theorem dX7_apart_114 : decode cX7_apart 114 = .ok (.iload 4, 2) := by decide +kernel
theorem dX7_apart_116 : decode cX7_apart 116 = .ok (.ifCond .ge 8, 3) := by decide +kernel
theorem dX7_apart_119 : decode cX7_apart 119 = .ok (.bipush (-4), 2) := by decide +kernel
theorem dX7_apart_121 : decode cX7_apart 121 = .ok (.goto 14, 3) := by decide +kernel
theorem dX7_apart_124 : decode cX7_apart 124 = .ok (.iload_n 3, 1) := by decide +kernel
theorem dX7_apart_125 : decode cX7_apart 125 = .ok (.ifCond .ne 8, 3) := by decide +kernel
theorem dX7_apart_128 : decode cX7_apart 128 = .ok (.iload 4, 2) := by decide +kernel
theorem dX7_apart_130 : decode cX7_apart 130 = .ok (.goto 5, 3) := by decide +kernel
theorem dX7_apart_133 : decode cX7_apart 133 = .ok (.iload 5, 2) := by decide +kernel
theorem dX7_apart_135 : decode cX7_apart 135 = .ok (.ireturn, 1) := by decide +kernel
theorem dX7_hear_0 : decode cX7_hear 0 = .ok (.iload_n 1, 1) := by decide +kernel
theorem dX7_hear_1 : decode cX7_hear 1 = .ok (.i2l, 1) := by decide +kernel
theorem dX7_hear_2 : decode cX7_hear 2 = .ok (.lconst 0, 1) := by decide +kernel
theorem dX7_hear_3 : decode cX7_hear 3 = .ok (.ldc2_w 143, 3) := by decide +kernel
theorem dX7_hear_6 : decode cX7_hear 6 = .ok (.invokestatic 88, 3) := by decide +kernel
theorem dX7_hear_9 : decode cX7_hear 9 = .ok (.ifCond .ne 11, 3) := by decide +kernel
theorem dX7_hear_12 : decode cX7_hear 12 = .ok (.iload_n 1, 1) := by decide +kernel
theorem dX7_hear_13 : decode cX7_hear 13 = .ok (.bipush 9, 2) := by decide +kernel
theorem dX7_hear_15 : decode cX7_hear 15 = .ok (.if_icmp .eq 5, 3) := by decide +kernel
theorem dX7_hear_18 : decode cX7_hear 18 = .ok (.iconst (-1), 1) := by decide +kernel
theorem dX7_hear_19 : decode cX7_hear 19 = .ok (.ireturn, 1) := by decide +kernel
theorem dX7_hear_20 : decode cX7_hear 20 = .ok (.aload_n 0, 1) := by decide +kernel
theorem dX7_hear_21 : decode cX7_hear 21 = .ok (.getfield 52, 3) := by decide +kernel
theorem dX7_hear_24 : decode cX7_hear 24 = .ok (.iconst 0, 1) := by decide +kernel
theorem dX7_hear_25 : decode cX7_hear 25 = .ok (.iaload, 1) := by decide +kernel
theorem dX7_hear_26 : decode cX7_hear 26 = .ok (.bipush 12, 2) := by decide +kernel
theorem dX7_hear_28 : decode cX7_hear 28 = .ok (.if_icmp .ne 6, 3) := by decide +kernel
theorem dX7_hear_31 : decode cX7_hear 31 = .ok (.bipush (-3), 2) := by decide +kernel
theorem dX7_hear_33 : decode cX7_hear 33 = .ok (.ireturn, 1) := by decide +kernel
theorem dX7_hear_34 : decode cX7_hear 34 = .ok (.aload_n 0, 1) := by decide +kernel
theorem dX7_hear_35 : decode cX7_hear 35 = .ok (.getfield 55, 3) := by decide +kernel
theorem dX7_hear_38 : decode cX7_hear 38 = .ok (.aload_n 0, 1) := by decide +kernel
theorem dX7_hear_39 : decode cX7_hear 39 = .ok (.getfield 52, 3) := by decide +kernel
theorem dX7_hear_42 : decode cX7_hear 42 = .ok (.iconst 0, 1) := by decide +kernel
theorem dX7_hear_43 : decode cX7_hear 43 = .ok (.iaload, 1) := by decide +kernel
theorem dX7_hear_44 : decode cX7_hear 44 = .ok (.iload_n 1, 1) := by decide +kernel
theorem dX7_hear_45 : decode cX7_hear 45 = .ok (.iastore, 1) := by decide +kernel
theorem dX7_hear_46 : decode cX7_hear 46 = .ok (.aload_n 0, 1) := by decide +kernel
theorem dX7_hear_47 : decode cX7_hear 47 = .ok (.getfield 52, 3) := by decide +kernel
theorem dX7_hear_50 : decode cX7_hear 50 = .ok (.iconst 0, 1) := by decide +kernel
theorem dX7_hear_51 : decode cX7_hear 51 = .ok (.dup2, 1) := by decide +kernel
theorem dX7_hear_52 : decode cX7_hear 52 = .ok (.iaload, 1) := by decide +kernel
theorem dX7_hear_53 : decode cX7_hear 53 = .ok (.iconst 1, 1) := by decide +kernel
theorem dX7_hear_54 : decode cX7_hear 54 = .ok (.iadd, 1) := by decide +kernel
theorem dX7_hear_55 : decode cX7_hear 55 = .ok (.iastore, 1) := by decide +kernel
theorem dX7_hear_56 : decode cX7_hear 56 = .ok (.aload_n 0, 1) := by decide +kernel
theorem dX7_hear_57 : decode cX7_hear 57 = .ok (.getfield 52, 3) := by decide +kernel
theorem dX7_hear_60 : decode cX7_hear 60 = .ok (.iconst 0, 1) := by decide +kernel
theorem dX7_hear_61 : decode cX7_hear 61 = .ok (.iaload, 1) := by decide +kernel
theorem dX7_hear_62 : decode cX7_hear 62 = .ok (.ireturn, 1) := by decide +kernel
theorem dX7_forget_0 : decode cX7_forget 0 = .ok (.aload_n 0, 1) := by decide +kernel
theorem dX7_forget_1 : decode cX7_forget 1 = .ok (.getfield 52, 3) := by decide +kernel
theorem dX7_forget_4 : decode cX7_forget 4 = .ok (.iconst 0, 1) := by decide +kernel
theorem dX7_forget_5 : decode cX7_forget 5 = .ok (.iaload, 1) := by decide +kernel
theorem dX7_forget_6 : decode cX7_forget 6 = .ok (.istore_n 1, 1) := by decide +kernel
theorem dX7_forget_7 : decode cX7_forget 7 = .ok (.aload_n 0, 1) := by decide +kernel
theorem dX7_forget_8 : decode cX7_forget 8 = .ok (.getfield 52, 3) := by decide +kernel
theorem dX7_forget_11 : decode cX7_forget 11 = .ok (.iconst 0, 1) := by decide +kernel
theorem dX7_forget_12 : decode cX7_forget 12 = .ok (.iconst 0, 1) := by decide +kernel
theorem dX7_forget_13 : decode cX7_forget 13 = .ok (.iastore, 1) := by decide +kernel
theorem dX7_forget_14 : decode cX7_forget 14 = .ok (.iload_n 1, 1) := by decide +kernel
theorem dX7_forget_15 : decode cX7_forget 15 = .ok (.ireturn, 1) := by decide +kernel
theorem dX7_weightOf_0 : decode cX7_weightOf 0 = .ok (.aload_n 0, 1) := by decide +kernel
theorem dX7_weightOf_1 : decode cX7_weightOf 1 = .ok (.getfield 64, 3) := by decide +kernel
theorem dX7_weightOf_4 : decode cX7_weightOf 4 = .ok (.iload_n 1, 1) := by decide +kernel
theorem dX7_weightOf_5 : decode cX7_weightOf 5 = .ok (.iaload, 1) := by decide +kernel
theorem dX7_weightOf_6 : decode cX7_weightOf 6 = .ok (.aload_n 0, 1) := by decide +kernel
theorem dX7_weightOf_7 : decode cX7_weightOf 7 = .ok (.getfield 52, 3) := by decide +kernel
theorem dX7_weightOf_10 : decode cX7_weightOf 10 = .ok (.iconst 0, 1) := by decide +kernel
theorem dX7_weightOf_11 : decode cX7_weightOf 11 = .ok (.iaload, 1) := by decide +kernel
theorem dX7_weightOf_12 : decode cX7_weightOf 12 = .ok (.if_icmp .eq 5, 3) := by decide +kernel
theorem dX7_weightOf_15 : decode cX7_weightOf 15 = .ok (.lconst 0, 1) := by decide +kernel
theorem dX7_weightOf_16 : decode cX7_weightOf 16 = .ok (.lreturn, 1) := by decide +kernel
theorem dX7_weightOf_17 : decode cX7_weightOf 17 = .ok (.aload_n 0, 1) := by decide +kernel
theorem dX7_weightOf_18 : decode cX7_weightOf 18 = .ok (.getfield 28, 3) := by decide +kernel
theorem dX7_weightOf_21 : decode cX7_weightOf 21 = .ok (.iload_n 1, 1) := by decide +kernel
theorem dX7_weightOf_22 : decode cX7_weightOf 22 = .ok (.iaload, 1) := by decide +kernel
theorem dX7_weightOf_23 : decode cX7_weightOf 23 = .ok (.iconst 1, 1) := by decide +kernel
theorem dX7_weightOf_24 : decode cX7_weightOf 24 = .ok (.iadd, 1) := by decide +kernel
theorem dX7_weightOf_25 : decode cX7_weightOf 25 = .ok (.i2l, 1) := by decide +kernel
theorem dX7_weightOf_26 : decode cX7_weightOf 26 = .ok (.lstore_n 2, 1) := by decide +kernel
theorem dX7_weightOf_27 : decode cX7_weightOf 27 = .ok (.iconst 0, 1) := by decide +kernel
theorem dX7_weightOf_28 : decode cX7_weightOf 28 = .ok (.istore 4, 2) := by decide +kernel
theorem dX7_weightOf_30 : decode cX7_weightOf 30 = .ok (.iload 4, 2) := by decide +kernel
theorem dX7_weightOf_32 : decode cX7_weightOf 32 = .ok (.aload_n 0, 1) := by decide +kernel
theorem dX7_weightOf_33 : decode cX7_weightOf 33 = .ok (.getfield 64, 3) := by decide +kernel
theorem dX7_weightOf_36 : decode cX7_weightOf 36 = .ok (.iload_n 1, 1) := by decide +kernel
theorem dX7_weightOf_37 : decode cX7_weightOf 37 = .ok (.iaload, 1) := by decide +kernel
theorem dX7_weightOf_38 : decode cX7_weightOf 38 = .ok (.if_icmp .ge 72, 3) := by decide +kernel
theorem dX7_weightOf_41 : decode cX7_weightOf 41 = .ok (.lload_n 2, 1) := by decide +kernel
theorem dX7_weightOf_42 : decode cX7_weightOf 42 = .ok (.aload_n 0, 1) := by decide +kernel
theorem dX7_weightOf_43 : decode cX7_weightOf 43 = .ok (.getfield 55, 3) := by decide +kernel
theorem dX7_weightOf_46 : decode cX7_weightOf 46 = .ok (.iload 4, 2) := by decide +kernel
theorem dX7_weightOf_48 : decode cX7_weightOf 48 = .ok (.iaload, 1) := by decide +kernel
theorem dX7_weightOf_49 : decode cX7_weightOf 49 = .ok (.bipush 9, 2) := by decide +kernel
theorem dX7_weightOf_51 : decode cX7_weightOf 51 = .ok (.if_icmp .ne 9, 3) := by decide +kernel
theorem dX7_weightOf_54 : decode cX7_weightOf 54 = .ok (.ldc2_w 205, 3) := by decide +kernel
theorem dX7_weightOf_57 : decode cX7_weightOf 57 = .ok (.goto 45, 3) := by decide +kernel
theorem dX7_weightOf_60 : decode cX7_weightOf 60 = .ok (.aload_n 0, 1) := by decide +kernel
theorem dX7_weightOf_61 : decode cX7_weightOf 61 = .ok (.getfield 55, 3) := by decide +kernel
theorem dX7_weightOf_64 : decode cX7_weightOf 64 = .ok (.iload 4, 2) := by decide +kernel
theorem dX7_weightOf_66 : decode cX7_weightOf 66 = .ok (.iaload, 1) := by decide +kernel
theorem dX7_weightOf_67 : decode cX7_weightOf 67 = .ok (.aload_n 0, 1) := by decide +kernel
theorem dX7_weightOf_68 : decode cX7_weightOf 68 = .ok (.getfield 61, 3) := by decide +kernel
theorem dX7_weightOf_71 : decode cX7_weightOf 71 = .ok (.bipush 20, 2) := by decide +kernel
theorem dX7_weightOf_73 : decode cX7_weightOf 73 = .ok (.iload_n 1, 1) := by decide +kernel
theorem dX7_weightOf_74 : decode cX7_weightOf 74 = .ok (.imul, 1) := by decide +kernel
theorem dX7_weightOf_75 : decode cX7_weightOf 75 = .ok (.iload 4, 2) := by decide +kernel
theorem dX7_weightOf_77 : decode cX7_weightOf 77 = .ok (.iadd, 1) := by decide +kernel
theorem dX7_weightOf_78 : decode cX7_weightOf 78 = .ok (.iaload, 1) := by decide +kernel
theorem dX7_weightOf_79 : decode cX7_weightOf 79 = .ok (.if_icmp .ne 16, 3) := by decide +kernel
theorem dX7_weightOf_82 : decode cX7_weightOf 82 = .ok (.bipush 10, 2) := by decide +kernel
theorem dX7_weightOf_84 : decode cX7_weightOf 84 = .ok (.aload_n 0, 1) := by decide +kernel
theorem dX7_weightOf_85 : decode cX7_weightOf 85 = .ok (.getfield 40, 3) := by decide +kernel
theorem dX7_weightOf_88 : decode cX7_weightOf 88 = .ok (.iconst 2, 1) := by decide +kernel
theorem dX7_weightOf_89 : decode cX7_weightOf 89 = .ok (.iaload, 1) := by decide +kernel
theorem dX7_weightOf_90 : decode cX7_weightOf 90 = .ok (.isub, 1) := by decide +kernel
theorem dX7_weightOf_91 : decode cX7_weightOf 91 = .ok (.i2l, 1) := by decide +kernel
theorem dX7_weightOf_92 : decode cX7_weightOf 92 = .ok (.goto 10, 3) := by decide +kernel
theorem dX7_weightOf_95 : decode cX7_weightOf 95 = .ok (.aload_n 0, 1) := by decide +kernel
theorem dX7_weightOf_96 : decode cX7_weightOf 96 = .ok (.getfield 40, 3) := by decide +kernel
theorem dX7_weightOf_99 : decode cX7_weightOf 99 = .ok (.iconst 2, 1) := by decide +kernel
theorem dX7_weightOf_100 : decode cX7_weightOf 100 = .ok (.iaload, 1) := by decide +kernel
theorem dX7_weightOf_101 : decode cX7_weightOf 101 = .ok (.i2l, 1) := by decide +kernel
theorem dX7_weightOf_102 : decode cX7_weightOf 102 = .ok (.lmul, 1) := by decide +kernel
theorem dX7_weightOf_103 : decode cX7_weightOf 103 = .ok (.lstore_n 2, 1) := by decide +kernel
theorem dX7_weightOf_104 : decode cX7_weightOf 104 = .ok (.iinc 4 1, 3) := by decide +kernel
theorem dX7_weightOf_107 : decode cX7_weightOf 107 = .ok (.goto (-77), 3) := by decide +kernel
theorem dX7_weightOf_110 : decode cX7_weightOf 110 = .ok (.lload_n 2, 1) := by decide +kernel
theorem dX7_weightOf_111 : decode cX7_weightOf 111 = .ok (.lreturn, 1) := by decide +kernel
theorem dX7_odds_0 : decode cX7_odds 0 = .ok (.aload_n 0, 1) := by decide +kernel
theorem dX7_odds_1 : decode cX7_odds 1 = .ok (.iload_n 1, 1) := by decide +kernel
theorem dX7_odds_2 : decode cX7_odds 2 = .ok (.invokevirtual 139, 3) := by decide +kernel
theorem dX7_odds_5 : decode cX7_odds 5 = .ok (.ifCond .eq 13, 3) := by decide +kernel
theorem dX7_odds_8 : decode cX7_odds 8 = .ok (.iload_n 2, 1) := by decide +kernel
theorem dX7_odds_9 : decode cX7_odds 9 = .ok (.i2l, 1) := by decide +kernel
theorem dX7_odds_10 : decode cX7_odds 10 = .ok (.lconst 0, 1) := by decide +kernel
theorem dX7_odds_11 : decode cX7_odds 11 = .ok (.lconst 1, 1) := by decide +kernel
theorem dX7_odds_12 : decode cX7_odds 12 = .ok (.invokestatic 88, 3) := by decide +kernel
theorem dX7_odds_15 : decode cX7_odds 15 = .ok (.ifCond .ne 7, 3) := by decide +kernel
theorem dX7_odds_18 : decode cX7_odds 18 = .ok (.ldc2_w 190, 3) := by decide +kernel
theorem dX7_odds_21 : decode cX7_odds 21 = .ok (.lreturn, 1) := by decide +kernel
theorem dX7_odds_22 : decode cX7_odds 22 = .ok (.aload_n 0, 1) := by decide +kernel
theorem dX7_odds_23 : decode cX7_odds 23 = .ok (.invokevirtual 145, 3) := by decide +kernel
theorem dX7_odds_26 : decode cX7_odds 26 = .ok (.lconst 0, 1) := by decide +kernel
theorem dX7_odds_27 : decode cX7_odds 27 = .ok (.lstore_n 3, 1) := by decide +kernel
theorem dX7_odds_28 : decode cX7_odds 28 = .ok (.iconst 0, 1) := by decide +kernel
theorem dX7_odds_29 : decode cX7_odds 29 = .ok (.istore 5, 2) := by decide +kernel
theorem dX7_odds_31 : decode cX7_odds 31 = .ok (.iload 5, 2) := by decide +kernel
theorem dX7_odds_33 : decode cX7_odds 33 = .ok (.aload_n 0, 1) := by decide +kernel
theorem dX7_odds_34 : decode cX7_odds 34 = .ok (.getfield 13, 3) := by decide +kernel
theorem dX7_odds_37 : decode cX7_odds 37 = .ok (.iconst 0, 1) := by decide +kernel
theorem dX7_odds_38 : decode cX7_odds 38 = .ok (.iaload, 1) := by decide +kernel
theorem dX7_odds_39 : decode cX7_odds 39 = .ok (.if_icmp .ge 18, 3) := by decide +kernel
theorem dX7_odds_42 : decode cX7_odds 42 = .ok (.lload_n 3, 1) := by decide +kernel
theorem dX7_odds_43 : decode cX7_odds 43 = .ok (.aload_n 0, 1) := by decide +kernel
theorem dX7_odds_44 : decode cX7_odds 44 = .ok (.iload 5, 2) := by decide +kernel
theorem dX7_odds_46 : decode cX7_odds 46 = .ok (.invokevirtual 207, 3) := by decide +kernel
theorem dX7_odds_49 : decode cX7_odds 49 = .ok (.ladd, 1) := by decide +kernel
theorem dX7_odds_50 : decode cX7_odds 50 = .ok (.lstore_n 3, 1) := by decide +kernel
theorem dX7_odds_51 : decode cX7_odds 51 = .ok (.iinc 5 1, 3) := by decide +kernel
theorem dX7_odds_54 : decode cX7_odds 54 = .ok (.goto (-23), 3) := by decide +kernel
theorem dX7_odds_57 : decode cX7_odds 57 = .ok (.lload_n 3, 1) := by decide +kernel
theorem dX7_odds_58 : decode cX7_odds 58 = .ok (.lconst 0, 1) := by decide +kernel
theorem dX7_odds_59 : decode cX7_odds 59 = .ok (.lcmp, 1) := by decide +kernel
theorem dX7_odds_60 : decode cX7_odds 60 = .ok (.ifCond .ne 7, 3) := by decide +kernel
theorem dX7_odds_63 : decode cX7_odds 63 = .ok (.ldc2_w 211, 3) := by decide +kernel
theorem dX7_odds_66 : decode cX7_odds 66 = .ok (.lreturn, 1) := by decide +kernel
theorem dX7_odds_67 : decode cX7_odds 67 = .ok (.aload_n 0, 1) := by decide +kernel
theorem dX7_odds_68 : decode cX7_odds 68 = .ok (.iload_n 1, 1) := by decide +kernel
theorem dX7_odds_69 : decode cX7_odds 69 = .ok (.invokevirtual 207, 3) := by decide +kernel
theorem dX7_odds_72 : decode cX7_odds 72 = .ok (.lstore 5, 2) := by decide +kernel
theorem dX7_odds_74 : decode cX7_odds 74 = .ok (.lload_n 3, 1) := by decide +kernel
theorem dX7_odds_75 : decode cX7_odds 75 = .ok (.lstore 7, 2) := by decide +kernel
theorem dX7_odds_77 : decode cX7_odds 77 = .ok (.lload 7, 2) := by decide +kernel
theorem dX7_odds_79 : decode cX7_odds 79 = .ok (.lconst 0, 1) := by decide +kernel
theorem dX7_odds_80 : decode cX7_odds 80 = .ok (.lcmp, 1) := by decide +kernel
theorem dX7_odds_81 : decode cX7_odds 81 = .ok (.ifCond .eq 21, 3) := by decide +kernel
theorem dX7_odds_84 : decode cX7_odds 84 = .ok (.lload 5, 2) := by decide +kernel
theorem dX7_odds_86 : decode cX7_odds 86 = .ok (.lload 7, 2) := by decide +kernel
theorem dX7_odds_88 : decode cX7_odds 88 = .ok (.lrem, 1) := by decide +kernel
theorem dX7_odds_89 : decode cX7_odds 89 = .ok (.lstore 9, 2) := by decide +kernel
theorem dX7_odds_91 : decode cX7_odds 91 = .ok (.lload 7, 2) := by decide +kernel
theorem dX7_odds_93 : decode cX7_odds 93 = .ok (.lstore 5, 2) := by decide +kernel
theorem dX7_odds_95 : decode cX7_odds 95 = .ok (.lload 9, 2) := by decide +kernel
theorem dX7_odds_97 : decode cX7_odds 97 = .ok (.lstore 7, 2) := by decide +kernel
theorem dX7_odds_99 : decode cX7_odds 99 = .ok (.goto (-22), 3) := by decide +kernel
theorem dX7_odds_102 : decode cX7_odds 102 = .ok (.iload_n 2, 1) := by decide +kernel
theorem dX7_odds_103 : decode cX7_odds 103 = .ok (.ifCond .ne 14, 3) := by decide +kernel
theorem dX7_odds_106 : decode cX7_odds 106 = .ok (.aload_n 0, 1) := by decide +kernel
theorem dX7_odds_107 : decode cX7_odds 107 = .ok (.iload_n 1, 1) := by decide +kernel
theorem dX7_odds_108 : decode cX7_odds 108 = .ok (.invokevirtual 207, 3) := by decide +kernel
theorem dX7_odds_111 : decode cX7_odds 111 = .ok (.lload 5, 2) := by decide +kernel
theorem dX7_odds_113 : decode cX7_odds 113 = .ok (.ldiv, 1) := by decide +kernel
theorem dX7_odds_114 : decode cX7_odds 114 = .ok (.goto 7, 3) := by decide +kernel
theorem dX7_odds_117 : decode cX7_odds 117 = .ok (.lload_n 3, 1) := by decide +kernel
theorem dX7_odds_118 : decode cX7_odds 118 = .ok (.lload 5, 2) := by decide +kernel
theorem dX7_odds_120 : decode cX7_odds 120 = .ok (.ldiv, 1) := by decide +kernel
theorem dX7_odds_121 : decode cX7_odds 121 = .ok (.lreturn, 1) := by decide +kernel
theorem dX7_meant_0 : decode cX7_meant 0 = .ok (.aload_n 0, 1) := by decide +kernel
theorem dX7_meant_1 : decode cX7_meant 1 = .ok (.invokevirtual 145, 3) := by decide +kernel
theorem dX7_meant_4 : decode cX7_meant 4 = .ok (.bipush (-4), 2) := by decide +kernel
theorem dX7_meant_6 : decode cX7_meant 6 = .ok (.istore_n 1, 1) := by decide +kernel
theorem dX7_meant_7 : decode cX7_meant 7 = .ok (.iconst 0, 1) := by decide +kernel
theorem dX7_meant_8 : decode cX7_meant 8 = .ok (.istore_n 2, 1) := by decide +kernel
theorem dX7_meant_9 : decode cX7_meant 9 = .ok (.iload_n 2, 1) := by decide +kernel
theorem dX7_meant_10 : decode cX7_meant 10 = .ok (.aload_n 0, 1) := by decide +kernel
theorem dX7_meant_11 : decode cX7_meant 11 = .ok (.getfield 13, 3) := by decide +kernel
theorem dX7_meant_14 : decode cX7_meant 14 = .ok (.iconst 0, 1) := by decide +kernel
theorem dX7_meant_15 : decode cX7_meant 15 = .ok (.iaload, 1) := by decide +kernel
theorem dX7_meant_16 : decode cX7_meant 16 = .ok (.if_icmp .ge 47, 3) := by decide +kernel
theorem dX7_meant_19 : decode cX7_meant 19 = .ok (.aload_n 0, 1) := by decide +kernel
theorem dX7_meant_20 : decode cX7_meant 20 = .ok (.iload_n 2, 1) := by decide +kernel
theorem dX7_meant_21 : decode cX7_meant 21 = .ok (.invokevirtual 207, 3) := by decide +kernel
theorem dX7_meant_24 : decode cX7_meant 24 = .ok (.iload_n 1, 1) := by decide +kernel
theorem dX7_meant_25 : decode cX7_meant 25 = .ok (.ifCond .ge 7, 3) := by decide +kernel
theorem dX7_meant_28 : decode cX7_meant 28 = .ok (.lconst 0, 1) := by decide +kernel
theorem dX7_meant_29 : decode cX7_meant 29 = .ok (.goto 8, 3) := by decide +kernel
theorem dX7_meant_32 : decode cX7_meant 32 = .ok (.aload_n 0, 1) := by decide +kernel
theorem dX7_meant_33 : decode cX7_meant 33 = .ok (.iload_n 1, 1) := by decide +kernel
theorem dX7_meant_34 : decode cX7_meant 34 = .ok (.invokevirtual 207, 3) := by decide +kernel
theorem dX7_meant_37 : decode cX7_meant 37 = .ok (.lcmp, 1) := by decide +kernel
theorem dX7_meant_38 : decode cX7_meant 38 = .ok (.ifCond .le 7, 3) := by decide +kernel
theorem dX7_meant_41 : decode cX7_meant 41 = .ok (.iconst 1, 1) := by decide +kernel
theorem dX7_meant_42 : decode cX7_meant 42 = .ok (.goto 4, 3) := by decide +kernel
theorem dX7_meant_45 : decode cX7_meant 45 = .ok (.iconst 0, 1) := by decide +kernel
theorem dX7_meant_46 : decode cX7_meant 46 = .ok (.istore_n 3, 1) := by decide +kernel
theorem dX7_meant_47 : decode cX7_meant 47 = .ok (.iload_n 3, 1) := by decide +kernel
theorem dX7_meant_48 : decode cX7_meant 48 = .ok (.ifCond .eq 7, 3) := by decide +kernel
theorem dX7_meant_51 : decode cX7_meant 51 = .ok (.iload_n 2, 1) := by decide +kernel
theorem dX7_meant_52 : decode cX7_meant 52 = .ok (.goto 4, 3) := by decide +kernel
theorem dX7_meant_55 : decode cX7_meant 55 = .ok (.iload_n 1, 1) := by decide +kernel
theorem dX7_meant_56 : decode cX7_meant 56 = .ok (.istore_n 1, 1) := by decide +kernel
theorem dX7_meant_57 : decode cX7_meant 57 = .ok (.iinc 2 1, 3) := by decide +kernel
theorem dX7_meant_60 : decode cX7_meant 60 = .ok (.goto (-51), 3) := by decide +kernel
theorem dX7_meant_63 : decode cX7_meant 63 = .ok (.iload_n 1, 1) := by decide +kernel
theorem dX7_meant_64 : decode cX7_meant 64 = .ok (.ireturn, 1) := by decide +kernel
theorem dX7_copy_0 : decode cX7_copy 0 = .ok (.iconst 0, 1) := by decide +kernel
theorem dX7_copy_1 : decode cX7_copy 1 = .ok (.istore_n 3, 1) := by decide +kernel
theorem dX7_copy_2 : decode cX7_copy 2 = .ok (.iload_n 3, 1) := by decide +kernel
theorem dX7_copy_3 : decode cX7_copy 3 = .ok (.bipush 8, 2) := by decide +kernel
theorem dX7_copy_5 : decode cX7_copy 5 = .ok (.if_icmp .ge 53, 3) := by decide +kernel
theorem dX7_copy_8 : decode cX7_copy 8 = .ok (.aload_n 0, 1) := by decide +kernel
theorem dX7_copy_9 : decode cX7_copy 9 = .ok (.getfield 43, 3) := by decide +kernel
theorem dX7_copy_12 : decode cX7_copy 12 = .ok (.bipush 8, 2) := by decide +kernel
theorem dX7_copy_14 : decode cX7_copy 14 = .ok (.iload_n 2, 1) := by decide +kernel
theorem dX7_copy_15 : decode cX7_copy 15 = .ok (.imul, 1) := by decide +kernel
theorem dX7_copy_16 : decode cX7_copy 16 = .ok (.iload_n 3, 1) := by decide +kernel
theorem dX7_copy_17 : decode cX7_copy 17 = .ok (.iadd, 1) := by decide +kernel
theorem dX7_copy_18 : decode cX7_copy 18 = .ok (.aload_n 0, 1) := by decide +kernel
theorem dX7_copy_19 : decode cX7_copy 19 = .ok (.getfield 43, 3) := by decide +kernel
theorem dX7_copy_22 : decode cX7_copy 22 = .ok (.bipush 8, 2) := by decide +kernel
theorem dX7_copy_24 : decode cX7_copy 24 = .ok (.iload_n 1, 1) := by decide +kernel
theorem dX7_copy_25 : decode cX7_copy 25 = .ok (.imul, 1) := by decide +kernel
theorem dX7_copy_26 : decode cX7_copy 26 = .ok (.iload_n 3, 1) := by decide +kernel
theorem dX7_copy_27 : decode cX7_copy 27 = .ok (.iadd, 1) := by decide +kernel
theorem dX7_copy_28 : decode cX7_copy 28 = .ok (.iaload, 1) := by decide +kernel
theorem dX7_copy_29 : decode cX7_copy 29 = .ok (.iastore, 1) := by decide +kernel
theorem dX7_copy_30 : decode cX7_copy 30 = .ok (.aload_n 0, 1) := by decide +kernel
theorem dX7_copy_31 : decode cX7_copy 31 = .ok (.getfield 46, 3) := by decide +kernel
theorem dX7_copy_34 : decode cX7_copy 34 = .ok (.bipush 8, 2) := by decide +kernel
theorem dX7_copy_36 : decode cX7_copy 36 = .ok (.iload_n 2, 1) := by decide +kernel
theorem dX7_copy_37 : decode cX7_copy 37 = .ok (.imul, 1) := by decide +kernel
theorem dX7_copy_38 : decode cX7_copy 38 = .ok (.iload_n 3, 1) := by decide +kernel
theorem dX7_copy_39 : decode cX7_copy 39 = .ok (.iadd, 1) := by decide +kernel
theorem dX7_copy_40 : decode cX7_copy 40 = .ok (.aload_n 0, 1) := by decide +kernel
theorem dX7_copy_41 : decode cX7_copy 41 = .ok (.getfield 46, 3) := by decide +kernel
theorem dX7_copy_44 : decode cX7_copy 44 = .ok (.bipush 8, 2) := by decide +kernel
theorem dX7_copy_46 : decode cX7_copy 46 = .ok (.iload_n 1, 1) := by decide +kernel
theorem dX7_copy_47 : decode cX7_copy 47 = .ok (.imul, 1) := by decide +kernel
theorem dX7_copy_48 : decode cX7_copy 48 = .ok (.iload_n 3, 1) := by decide +kernel
theorem dX7_copy_49 : decode cX7_copy 49 = .ok (.iadd, 1) := by decide +kernel
theorem dX7_copy_50 : decode cX7_copy 50 = .ok (.iaload, 1) := by decide +kernel
theorem dX7_copy_51 : decode cX7_copy 51 = .ok (.iastore, 1) := by decide +kernel
theorem dX7_copy_52 : decode cX7_copy 52 = .ok (.iinc 3 1, 3) := by decide +kernel
theorem dX7_copy_55 : decode cX7_copy 55 = .ok (.goto (-53), 3) := by decide +kernel
theorem dX7_copy_58 : decode cX7_copy 58 = .ok (.iconst 0, 1) := by decide +kernel
theorem dX7_copy_59 : decode cX7_copy 59 = .ok (.istore_n 3, 1) := by decide +kernel
theorem dX7_copy_60 : decode cX7_copy 60 = .ok (.iload_n 3, 1) := by decide +kernel
theorem dX7_copy_61 : decode cX7_copy 61 = .ok (.bipush 80, 2) := by decide +kernel
theorem dX7_copy_63 : decode cX7_copy 63 = .ok (.if_icmp .ge 31, 3) := by decide +kernel
theorem dX7_copy_66 : decode cX7_copy 66 = .ok (.aload_n 0, 1) := by decide +kernel
theorem dX7_copy_67 : decode cX7_copy 67 = .ok (.getfield 49, 3) := by decide +kernel
theorem dX7_copy_70 : decode cX7_copy 70 = .ok (.bipush 80, 2) := by decide +kernel
theorem dX7_copy_72 : decode cX7_copy 72 = .ok (.iload_n 2, 1) := by decide +kernel
theorem dX7_copy_73 : decode cX7_copy 73 = .ok (.imul, 1) := by decide +kernel
theorem dX7_copy_74 : decode cX7_copy 74 = .ok (.iload_n 3, 1) := by decide +kernel
theorem dX7_copy_75 : decode cX7_copy 75 = .ok (.iadd, 1) := by decide +kernel
theorem dX7_copy_76 : decode cX7_copy 76 = .ok (.aload_n 0, 1) := by decide +kernel
theorem dX7_copy_77 : decode cX7_copy 77 = .ok (.getfield 49, 3) := by decide +kernel
theorem dX7_copy_80 : decode cX7_copy 80 = .ok (.bipush 80, 2) := by decide +kernel
theorem dX7_copy_82 : decode cX7_copy 82 = .ok (.iload_n 1, 1) := by decide +kernel
theorem dX7_copy_83 : decode cX7_copy 83 = .ok (.imul, 1) := by decide +kernel
theorem dX7_copy_84 : decode cX7_copy 84 = .ok (.iload_n 3, 1) := by decide +kernel
theorem dX7_copy_85 : decode cX7_copy 85 = .ok (.iadd, 1) := by decide +kernel
theorem dX7_copy_86 : decode cX7_copy 86 = .ok (.iaload, 1) := by decide +kernel
theorem dX7_copy_87 : decode cX7_copy 87 = .ok (.iastore, 1) := by decide +kernel
theorem dX7_copy_88 : decode cX7_copy 88 = .ok (.iinc 3 1, 3) := by decide +kernel
theorem dX7_copy_91 : decode cX7_copy 91 = .ok (.goto (-31), 3) := by decide +kernel
theorem dX7_copy_94 : decode cX7_copy 94 = .ok (.return_, 1) := by decide +kernel
theorem dX7_goYears_0 : decode cX7_goYears 0 = .ok (.aload_n 0, 1) := by decide +kernel
theorem dX7_goYears_1 : decode cX7_goYears 1 = .ok (.iconst 0, 1) := by decide +kernel
theorem dX7_goYears_2 : decode cX7_goYears 2 = .ok (.iconst 1, 1) := by decide +kernel
theorem dX7_goYears_3 : decode cX7_goYears 3 = .ok (.invokevirtual 213, 3) := by decide +kernel
theorem dX7_goYears_6 : decode cX7_goYears 6 = .ok (.iconst 0, 1) := by decide +kernel
theorem dX7_goYears_7 : decode cX7_goYears 7 = .ok (.istore_n 3, 1) := by decide +kernel
theorem dX7_goYears_8 : decode cX7_goYears 8 = .ok (.iload_n 3, 1) := by decide +kernel
theorem dX7_goYears_9 : decode cX7_goYears 9 = .ok (.iload_n 2, 1) := by decide +kernel
theorem dX7_goYears_10 : decode cX7_goYears 10 = .ok (.if_icmp .ge 89, 3) := by decide +kernel
theorem dX7_goYears_13 : decode cX7_goYears 13 = .ok (.iconst 0, 1) := by decide +kernel
theorem dX7_goYears_14 : decode cX7_goYears 14 = .ok (.istore 4, 2) := by decide +kernel
theorem dX7_goYears_16 : decode cX7_goYears 16 = .ok (.iload 4, 2) := by decide +kernel
theorem dX7_goYears_18 : decode cX7_goYears 18 = .ok (.aload_n 0, 1) := by decide +kernel
theorem dX7_goYears_19 : decode cX7_goYears 19 = .ok (.getfield 13, 3) := by decide +kernel
theorem dX7_goYears_22 : decode cX7_goYears 22 = .ok (.iconst 0, 1) := by decide +kernel
theorem dX7_goYears_23 : decode cX7_goYears 23 = .ok (.iaload, 1) := by decide +kernel
theorem dX7_goYears_24 : decode cX7_goYears 24 = .ok (.if_icmp .ge 69, 3) := by decide +kernel
theorem dX7_goYears_27 : decode cX7_goYears 27 = .ok (.ldc2_w 216, 3) := by decide +kernel
theorem dX7_goYears_30 : decode cX7_goYears 30 = .ok (.iload_n 1, 1) := by decide +kernel
theorem dX7_goYears_31 : decode cX7_goYears 31 = .ok (.i2l, 1) := by decide +kernel
theorem dX7_goYears_32 : decode cX7_goYears 32 = .ok (.lmul, 1) := by decide +kernel
theorem dX7_goYears_33 : decode cX7_goYears 33 = .ok (.ldc2_w 218, 3) := by decide +kernel
theorem dX7_goYears_36 : decode cX7_goYears 36 = .ok (.iload 4, 2) := by decide +kernel
theorem dX7_goYears_38 : decode cX7_goYears 38 = .ok (.i2l, 1) := by decide +kernel
theorem dX7_goYears_39 : decode cX7_goYears 39 = .ok (.lmul, 1) := by decide +kernel
theorem dX7_goYears_40 : decode cX7_goYears 40 = .ok (.ladd, 1) := by decide +kernel
theorem dX7_goYears_41 : decode cX7_goYears 41 = .ok (.ldc2_w 220, 3) := by decide +kernel
theorem dX7_goYears_44 : decode cX7_goYears 44 = .ok (.iload_n 3, 1) := by decide +kernel
theorem dX7_goYears_45 : decode cX7_goYears 45 = .ok (.i2l, 1) := by decide +kernel
theorem dX7_goYears_46 : decode cX7_goYears 46 = .ok (.lmul, 1) := by decide +kernel
theorem dX7_goYears_47 : decode cX7_goYears 47 = .ok (.ladd, 1) := by decide +kernel
theorem dX7_goYears_48 : decode cX7_goYears 48 = .ok (.lconst 1, 1) := by decide +kernel
theorem dX7_goYears_49 : decode cX7_goYears 49 = .ok (.ladd, 1) := by decide +kernel
theorem dX7_goYears_50 : decode cX7_goYears 50 = .ok (.lstore 5, 2) := by decide +kernel
theorem dX7_goYears_52 : decode cX7_goYears 52 = .ok (.lload 5, 2) := by decide +kernel
theorem dX7_goYears_54 : decode cX7_goYears 54 = .ok (.lload 5, 2) := by decide +kernel
theorem dX7_goYears_56 : decode cX7_goYears 56 = .ok (.lmul, 1) := by decide +kernel
theorem dX7_goYears_57 : decode cX7_goYears 57 = .ok (.ldc2_w 222, 3) := by decide +kernel
theorem dX7_goYears_60 : decode cX7_goYears 60 = .ok (.lrem, 1) := by decide +kernel
theorem dX7_goYears_61 : decode cX7_goYears 61 = .ok (.ldc2_w 123, 3) := by decide +kernel
theorem dX7_goYears_64 : decode cX7_goYears 64 = .ok (.lrem, 1) := by decide +kernel
theorem dX7_goYears_65 : decode cX7_goYears 65 = .ok (.l2i, 1) := by decide +kernel
theorem dX7_goYears_66 : decode cX7_goYears 66 = .ok (.istore 7, 2) := by decide +kernel
theorem dX7_goYears_68 : decode cX7_goYears 68 = .ok (.iload 7, 2) := by decide +kernel
theorem dX7_goYears_70 : decode cX7_goYears 70 = .ok (.bipush 6, 2) := by decide +kernel
theorem dX7_goYears_72 : decode cX7_goYears 72 = .ok (.if_icmp .ge 15, 3) := by decide +kernel
theorem dX7_goYears_75 : decode cX7_goYears 75 = .ok (.aload_n 0, 1) := by decide +kernel
theorem dX7_goYears_76 : decode cX7_goYears 76 = .ok (.bipush 8, 2) := by decide +kernel
theorem dX7_goYears_78 : decode cX7_goYears 78 = .ok (.iload 4, 2) := by decide +kernel
theorem dX7_goYears_80 : decode cX7_goYears 80 = .ok (.iadd, 1) := by decide +kernel
theorem dX7_goYears_81 : decode cX7_goYears 81 = .ok (.iload 7, 2) := by decide +kernel
theorem dX7_goYears_83 : decode cX7_goYears 83 = .ok (.invokevirtual 150, 3) := by decide +kernel
theorem dX7_goYears_86 : decode cX7_goYears 86 = .ok (.pop, 1) := by decide +kernel
theorem dX7_goYears_87 : decode cX7_goYears 87 = .ok (.iinc 4 1, 3) := by decide +kernel
theorem dX7_goYears_90 : decode cX7_goYears 90 = .ok (.goto (-74), 3) := by decide +kernel
theorem dX7_goYears_93 : decode cX7_goYears 93 = .ok (.iinc 3 1, 3) := by decide +kernel
theorem dX7_goYears_96 : decode cX7_goYears 96 = .ok (.goto (-88), 3) := by decide +kernel
theorem dX7_goYears_99 : decode cX7_goYears 99 = .ok (.return_, 1) := by decide +kernel
theorem dX7_isHill_0 : decode cX7_isHill 0 = .ok (.iload_n 0, 1) := by decide +kernel
theorem dX7_isHill_1 : decode cX7_isHill 1 = .ok (.i2l, 1) := by decide +kernel
theorem dX7_isHill_2 : decode cX7_isHill 2 = .ok (.lconst 0, 1) := by decide +kernel
theorem dX7_isHill_3 : decode cX7_isHill 3 = .ok (.ldc2_w 224, 3) := by decide +kernel
theorem dX7_isHill_6 : decode cX7_isHill 6 = .ok (.invokestatic 88, 3) := by decide +kernel
theorem dX7_isHill_9 : decode cX7_isHill 9 = .ok (.ifCond .eq 19, 3) := by decide +kernel
theorem dX7_isHill_12 : decode cX7_isHill 12 = .ok (.iload_n 1, 1) := by decide +kernel
theorem dX7_isHill_13 : decode cX7_isHill 13 = .ok (.i2l, 1) := by decide +kernel
theorem dX7_isHill_14 : decode cX7_isHill 14 = .ok (.lconst 0, 1) := by decide +kernel
theorem dX7_isHill_15 : decode cX7_isHill 15 = .ok (.ldc2_w 226, 3) := by decide +kernel
theorem dX7_isHill_18 : decode cX7_isHill 18 = .ok (.invokestatic 88, 3) := by decide +kernel
theorem dX7_isHill_21 : decode cX7_isHill 21 = .ok (.ifCond .eq 7, 3) := by decide +kernel
theorem dX7_isHill_24 : decode cX7_isHill 24 = .ok (.iconst 1, 1) := by decide +kernel
theorem dX7_isHill_25 : decode cX7_isHill 25 = .ok (.goto 4, 3) := by decide +kernel
theorem dX7_isHill_28 : decode cX7_isHill 28 = .ok (.iconst 0, 1) := by decide +kernel
theorem dX7_isHill_29 : decode cX7_isHill 29 = .ok (.ireturn, 1) := by decide +kernel
theorem dX7_years_0 : decode cX7_years 0 = .ok (.iload_n 1, 1) := by decide +kernel
theorem dX7_years_1 : decode cX7_years 1 = .ok (.iload_n 2, 1) := by decide +kernel
theorem dX7_years_2 : decode cX7_years 2 = .ok (.invokestatic 228, 3) := by decide +kernel
theorem dX7_years_5 : decode cX7_years 5 = .ok (.ifCond .eq 15, 3) := by decide +kernel
theorem dX7_years_8 : decode cX7_years 8 = .ok (.iload_n 3, 1) := by decide +kernel
theorem dX7_years_9 : decode cX7_years 9 = .ok (.i2l, 1) := by decide +kernel
theorem dX7_years_10 : decode cX7_years 10 = .ok (.lconst 0, 1) := by decide +kernel
theorem dX7_years_11 : decode cX7_years 11 = .ok (.ldc2_w 231, 3) := by decide +kernel
theorem dX7_years_14 : decode cX7_years 14 = .ok (.invokestatic 88, 3) := by decide +kernel
theorem dX7_years_17 : decode cX7_years 17 = .ok (.ifCond .ne 5, 3) := by decide +kernel
theorem dX7_years_20 : decode cX7_years 20 = .ok (.iconst (-1), 1) := by decide +kernel
theorem dX7_years_21 : decode cX7_years 21 = .ok (.ireturn, 1) := by decide +kernel
theorem dX7_years_22 : decode cX7_years 22 = .ok (.aload_n 0, 1) := by decide +kernel
theorem dX7_years_23 : decode cX7_years 23 = .ok (.iload_n 1, 1) := by decide +kernel
theorem dX7_years_24 : decode cX7_years 24 = .ok (.iload_n 2, 1) := by decide +kernel
theorem dX7_years_25 : decode cX7_years 25 = .ok (.invokevirtual 233, 3) := by decide +kernel
theorem dX7_years_28 : decode cX7_years 28 = .ok (.aload_n 0, 1) := by decide +kernel
theorem dX7_years_29 : decode cX7_years 29 = .ok (.iconst 1, 1) := by decide +kernel
theorem dX7_years_30 : decode cX7_years 30 = .ok (.bipush (-4), 2) := by decide +kernel
theorem dX7_years_32 : decode cX7_years 32 = .ok (.bipush (-4), 2) := by decide +kernel
theorem dX7_years_34 : decode cX7_years 34 = .ok (.invokevirtual 135, 3) := by decide +kernel
theorem dX7_years_37 : decode cX7_years 37 = .ok (.iconst 1, 1) := by decide +kernel
theorem dX7_years_38 : decode cX7_years 38 = .ok (.aload_n 0, 1) := by decide +kernel
theorem dX7_years_39 : decode cX7_years 39 = .ok (.getfield 13, 3) := by decide +kernel
theorem dX7_years_42 : decode cX7_years 42 = .ok (.iconst 0, 1) := by decide +kernel
theorem dX7_years_43 : decode cX7_years 43 = .ok (.iaload, 1) := by decide +kernel
theorem dX7_years_44 : decode cX7_years 44 = .ok (.ishl, 1) := by decide +kernel
theorem dX7_years_45 : decode cX7_years 45 = .ok (.iconst 1, 1) := by decide +kernel
theorem dX7_years_46 : decode cX7_years 46 = .ok (.isub, 1) := by decide +kernel
theorem dX7_years_47 : decode cX7_years 47 = .ok (.istore 4, 2) := by decide +kernel
theorem dX7_years_49 : decode cX7_years 49 = .ok (.iconst 0, 1) := by decide +kernel
theorem dX7_years_50 : decode cX7_years 50 = .ok (.istore 5, 2) := by decide +kernel
theorem dX7_years_52 : decode cX7_years 52 = .ok (.iconst 0, 1) := by decide +kernel
theorem dX7_years_53 : decode cX7_years 53 = .ok (.istore 6, 2) := by decide +kernel
theorem dX7_years_55 : decode cX7_years 55 = .ok (.iconst 0, 1) := by decide +kernel
theorem dX7_years_56 : decode cX7_years 56 = .ok (.istore 7, 2) := by decide +kernel
theorem dX7_years_58 : decode cX7_years 58 = .ok (.iload 7, 2) := by decide +kernel
theorem dX7_years_60 : decode cX7_years 60 = .ok (.aload_n 0, 1) := by decide +kernel
theorem dX7_years_61 : decode cX7_years 61 = .ok (.getfield 13, 3) := by decide +kernel
theorem dX7_years_64 : decode cX7_years 64 = .ok (.iconst 0, 1) := by decide +kernel
theorem dX7_years_65 : decode cX7_years 65 = .ok (.iaload, 1) := by decide +kernel
theorem dX7_years_66 : decode cX7_years 66 = .ok (.if_icmp .ge 57, 3) := by decide +kernel
theorem dX7_years_69 : decode cX7_years 69 = .ok (.aload_n 0, 1) := by decide +kernel
theorem dX7_years_70 : decode cX7_years 70 = .ok (.getfield 64, 3) := by decide +kernel
theorem dX7_years_73 : decode cX7_years 73 = .ok (.iload 7, 2) := by decide +kernel
theorem dX7_years_75 : decode cX7_years 75 = .ok (.iaload, 1) := by decide +kernel
theorem dX7_years_76 : decode cX7_years 76 = .ok (.iload 5, 2) := by decide +kernel
theorem dX7_years_78 : decode cX7_years 78 = .ok (.if_icmp .le 13, 3) := by decide +kernel
theorem dX7_years_81 : decode cX7_years 81 = .ok (.aload_n 0, 1) := by decide +kernel
theorem dX7_years_82 : decode cX7_years 82 = .ok (.getfield 64, 3) := by decide +kernel
theorem dX7_years_85 : decode cX7_years 85 = .ok (.iload 7, 2) := by decide +kernel
theorem dX7_years_87 : decode cX7_years 87 = .ok (.iaload, 1) := by decide +kernel
theorem dX7_years_88 : decode cX7_years 88 = .ok (.goto 5, 3) := by decide +kernel
theorem dX7_years_91 : decode cX7_years 91 = .ok (.iload 5, 2) := by decide +kernel
theorem dX7_years_93 : decode cX7_years 93 = .ok (.istore 5, 2) := by decide +kernel
theorem dX7_years_95 : decode cX7_years 95 = .ok (.iload 6, 2) := by decide +kernel
theorem dX7_years_97 : decode cX7_years 97 = .ok (.aload_n 0, 1) := by decide +kernel
theorem dX7_years_98 : decode cX7_years 98 = .ok (.iconst 1, 1) := by decide +kernel
theorem dX7_years_99 : decode cX7_years 99 = .ok (.iload 7, 2) := by decide +kernel
theorem dX7_years_101 : decode cX7_years 101 = .ok (.iload 4, 2) := by decide +kernel
theorem dX7_years_103 : decode cX7_years 103 = .ok (.invokevirtual 198, 3) := by decide +kernel
theorem dX7_years_106 : decode cX7_years 106 = .ok (.ifCond .le 7, 3) := by decide +kernel
theorem dX7_years_109 : decode cX7_years 109 = .ok (.iconst 1, 1) := by decide +kernel
theorem dX7_years_110 : decode cX7_years 110 = .ok (.goto 4, 3) := by decide +kernel
theorem dX7_years_113 : decode cX7_years 113 = .ok (.iconst 0, 1) := by decide +kernel
theorem dX7_years_114 : decode cX7_years 114 = .ok (.iadd, 1) := by decide +kernel
theorem dX7_years_115 : decode cX7_years 115 = .ok (.istore 6, 2) := by decide +kernel
theorem dX7_years_117 : decode cX7_years 117 = .ok (.iinc 7 1, 3) := by decide +kernel
theorem dX7_years_120 : decode cX7_years 120 = .ok (.goto (-62), 3) := by decide +kernel
theorem dX7_years_123 : decode cX7_years 123 = .ok (.iload_n 3, 1) := by decide +kernel
theorem dX7_years_124 : decode cX7_years 124 = .ok (.ifCond .ne 12, 3) := by decide +kernel
theorem dX7_years_127 : decode cX7_years 127 = .ok (.aload_n 0, 1) := by decide +kernel
theorem dX7_years_128 : decode cX7_years 128 = .ok (.iload 4, 2) := by decide +kernel
theorem dX7_years_130 : decode cX7_years 130 = .ok (.invokevirtual 159, 3) := by decide +kernel
theorem dX7_years_133 : decode cX7_years 133 = .ok (.goto 15, 3) := by decide +kernel
theorem dX7_years_136 : decode cX7_years 136 = .ok (.iload_n 3, 1) := by decide +kernel
theorem dX7_years_137 : decode cX7_years 137 = .ok (.iconst 1, 1) := by decide +kernel
theorem dX7_years_138 : decode cX7_years 138 = .ok (.if_icmp .ne 8, 3) := by decide +kernel
theorem dX7_years_141 : decode cX7_years 141 = .ok (.iload 5, 2) := by decide +kernel
theorem dX7_years_143 : decode cX7_years 143 = .ok (.goto 5, 3) := by decide +kernel
theorem dX7_years_146 : decode cX7_years 146 = .ok (.iload 6, 2) := by decide +kernel
theorem dX7_years_148 : decode cX7_years 148 = .ok (.ireturn, 1) := by decide +kernel
theorem dX7_then_0 : decode cX7_then 0 = .ok (.iload_n 1, 1) := by decide +kernel
theorem dX7_then_1 : decode cX7_then 1 = .ok (.iload_n 2, 1) := by decide +kernel
theorem dX7_then_2 : decode cX7_then 2 = .ok (.invokestatic 228, 3) := by decide +kernel
theorem dX7_then_5 : decode cX7_then 5 = .ok (.ifCond .eq 24, 3) := by decide +kernel
theorem dX7_then_8 : decode cX7_then 8 = .ok (.aload_n 0, 1) := by decide +kernel
theorem dX7_then_9 : decode cX7_then 9 = .ok (.iload_n 3, 1) := by decide +kernel
theorem dX7_then_10 : decode cX7_then 10 = .ok (.invokevirtual 139, 3) := by decide +kernel
theorem dX7_then_13 : decode cX7_then 13 = .ok (.ifCond .eq 16, 3) := by decide +kernel
theorem dX7_then_16 : decode cX7_then 16 = .ok (.iload 4, 2) := by decide +kernel
theorem dX7_then_18 : decode cX7_then 18 = .ok (.i2l, 1) := by decide +kernel
theorem dX7_then_19 : decode cX7_then 19 = .ok (.lconst 0, 1) := by decide +kernel
theorem dX7_then_20 : decode cX7_then 20 = .ok (.ldc2_w 121, 3) := by decide +kernel
theorem dX7_then_23 : decode cX7_then 23 = .ok (.invokestatic 88, 3) := by decide +kernel
theorem dX7_then_26 : decode cX7_then 26 = .ok (.ifCond .ne 5, 3) := by decide +kernel
theorem dX7_then_29 : decode cX7_then 29 = .ok (.iconst (-1), 1) := by decide +kernel
theorem dX7_then_30 : decode cX7_then 30 = .ok (.ireturn, 1) := by decide +kernel
theorem dX7_then_31 : decode cX7_then 31 = .ok (.aload_n 0, 1) := by decide +kernel
theorem dX7_then_32 : decode cX7_then 32 = .ok (.iload_n 1, 1) := by decide +kernel
theorem dX7_then_33 : decode cX7_then 33 = .ok (.iload_n 2, 1) := by decide +kernel
theorem dX7_then_34 : decode cX7_then 34 = .ok (.invokevirtual 233, 3) := by decide +kernel
theorem dX7_then_37 : decode cX7_then 37 = .ok (.iload 4, 2) := by decide +kernel
theorem dX7_then_39 : decode cX7_then 39 = .ok (.aload_n 0, 1) := by decide +kernel
theorem dX7_then_40 : decode cX7_then 40 = .ok (.getfield 46, 3) := by decide +kernel
theorem dX7_then_43 : decode cX7_then 43 = .ok (.bipush 8, 2) := by decide +kernel
theorem dX7_then_45 : decode cX7_then 45 = .ok (.iload_n 3, 1) := by decide +kernel
theorem dX7_then_46 : decode cX7_then 46 = .ok (.iadd, 1) := by decide +kernel
theorem dX7_then_47 : decode cX7_then 47 = .ok (.iaload, 1) := by decide +kernel
theorem dX7_then_48 : decode cX7_then 48 = .ok (.if_icmp .ge 21, 3) := by decide +kernel
theorem dX7_then_51 : decode cX7_then 51 = .ok (.aload_n 0, 1) := by decide +kernel
theorem dX7_then_52 : decode cX7_then 52 = .ok (.getfield 49, 3) := by decide +kernel
theorem dX7_then_55 : decode cX7_then 55 = .ok (.bipush 80, 2) := by decide +kernel
theorem dX7_then_57 : decode cX7_then 57 = .ok (.bipush 10, 2) := by decide +kernel
theorem dX7_then_59 : decode cX7_then 59 = .ok (.iload_n 3, 1) := by decide +kernel
theorem dX7_then_60 : decode cX7_then 60 = .ok (.imul, 1) := by decide +kernel
theorem dX7_then_61 : decode cX7_then 61 = .ok (.iadd, 1) := by decide +kernel
theorem dX7_then_62 : decode cX7_then 62 = .ok (.iload 4, 2) := by decide +kernel
theorem dX7_then_64 : decode cX7_then 64 = .ok (.iadd, 1) := by decide +kernel
theorem dX7_then_65 : decode cX7_then 65 = .ok (.iaload, 1) := by decide +kernel
theorem dX7_then_66 : decode cX7_then 66 = .ok (.goto 5, 3) := by decide +kernel
theorem dX7_then_69 : decode cX7_then 69 = .ok (.bipush (-4), 2) := by decide +kernel
theorem dX7_then_71 : decode cX7_then 71 = .ok (.ireturn, 1) := by decide +kernel
theorem dX7_copyHeard_0 : decode cX7_copyHeard 0 = .ok (.aload_n 0, 1) := by decide +kernel
theorem dX7_copyHeard_1 : decode cX7_copyHeard 1 = .ok (.getfield 52, 3) := by decide +kernel
theorem dX7_copyHeard_4 : decode cX7_copyHeard 4 = .ok (.iload_n 2, 1) := by decide +kernel
theorem dX7_copyHeard_5 : decode cX7_copyHeard 5 = .ok (.aload_n 0, 1) := by decide +kernel
theorem dX7_copyHeard_6 : decode cX7_copyHeard 6 = .ok (.getfield 52, 3) := by decide +kernel
theorem dX7_copyHeard_9 : decode cX7_copyHeard 9 = .ok (.iload_n 1, 1) := by decide +kernel
theorem dX7_copyHeard_10 : decode cX7_copyHeard 10 = .ok (.iaload, 1) := by decide +kernel
theorem dX7_copyHeard_11 : decode cX7_copyHeard 11 = .ok (.iastore, 1) := by decide +kernel
theorem dX7_copyHeard_12 : decode cX7_copyHeard 12 = .ok (.iconst 0, 1) := by decide +kernel
theorem dX7_copyHeard_13 : decode cX7_copyHeard 13 = .ok (.istore_n 3, 1) := by decide +kernel
theorem dX7_copyHeard_14 : decode cX7_copyHeard 14 = .ok (.iload_n 3, 1) := by decide +kernel
theorem dX7_copyHeard_15 : decode cX7_copyHeard 15 = .ok (.bipush 12, 2) := by decide +kernel
theorem dX7_copyHeard_17 : decode cX7_copyHeard 17 = .ok (.if_icmp .ge 31, 3) := by decide +kernel
theorem dX7_copyHeard_20 : decode cX7_copyHeard 20 = .ok (.aload_n 0, 1) := by decide +kernel
theorem dX7_copyHeard_21 : decode cX7_copyHeard 21 = .ok (.getfield 55, 3) := by decide +kernel
theorem dX7_copyHeard_24 : decode cX7_copyHeard 24 = .ok (.bipush 12, 2) := by decide +kernel
theorem dX7_copyHeard_26 : decode cX7_copyHeard 26 = .ok (.iload_n 2, 1) := by decide +kernel
theorem dX7_copyHeard_27 : decode cX7_copyHeard 27 = .ok (.imul, 1) := by decide +kernel
theorem dX7_copyHeard_28 : decode cX7_copyHeard 28 = .ok (.iload_n 3, 1) := by decide +kernel
theorem dX7_copyHeard_29 : decode cX7_copyHeard 29 = .ok (.iadd, 1) := by decide +kernel
theorem dX7_copyHeard_30 : decode cX7_copyHeard 30 = .ok (.aload_n 0, 1) := by decide +kernel
theorem dX7_copyHeard_31 : decode cX7_copyHeard 31 = .ok (.getfield 55, 3) := by decide +kernel
theorem dX7_copyHeard_34 : decode cX7_copyHeard 34 = .ok (.bipush 12, 2) := by decide +kernel
theorem dX7_copyHeard_36 : decode cX7_copyHeard 36 = .ok (.iload_n 1, 1) := by decide +kernel
theorem dX7_copyHeard_37 : decode cX7_copyHeard 37 = .ok (.imul, 1) := by decide +kernel
theorem dX7_copyHeard_38 : decode cX7_copyHeard 38 = .ok (.iload_n 3, 1) := by decide +kernel
theorem dX7_copyHeard_39 : decode cX7_copyHeard 39 = .ok (.iadd, 1) := by decide +kernel
theorem dX7_copyHeard_40 : decode cX7_copyHeard 40 = .ok (.iaload, 1) := by decide +kernel
theorem dX7_copyHeard_41 : decode cX7_copyHeard 41 = .ok (.iastore, 1) := by decide +kernel
theorem dX7_copyHeard_42 : decode cX7_copyHeard 42 = .ok (.iinc 3 1, 3) := by decide +kernel
theorem dX7_copyHeard_45 : decode cX7_copyHeard 45 = .ok (.goto (-31), 3) := by decide +kernel
theorem dX7_copyHeard_48 : decode cX7_copyHeard 48 = .ok (.return_, 1) := by decide +kernel
theorem dX7_keep_0 : decode cX7_keep 0 = .ok (.aload_n 0, 1) := by decide +kernel
theorem dX7_keep_1 : decode cX7_keep 1 = .ok (.getfield 132, 3) := by decide +kernel
theorem dX7_keep_4 : decode cX7_keep 4 = .ok (.iconst 2, 1) := by decide +kernel
theorem dX7_keep_5 : decode cX7_keep 5 = .ok (.if_icmp .ne 6, 3) := by decide +kernel
theorem dX7_keep_8 : decode cX7_keep 8 = .ok (.bipush (-3), 2) := by decide +kernel
theorem dX7_keep_10 : decode cX7_keep 10 = .ok (.ireturn, 1) := by decide +kernel
theorem dX7_keep_11 : decode cX7_keep 11 = .ok (.aload_n 0, 1) := by decide +kernel
theorem dX7_keep_12 : decode cX7_keep 12 = .ok (.dup, 1) := by decide +kernel
theorem dX7_keep_13 : decode cX7_keep 13 = .ok (.getfield 132, 3) := by decide +kernel
theorem dX7_keep_16 : decode cX7_keep 16 = .ok (.iconst 1, 1) := by decide +kernel
theorem dX7_keep_17 : decode cX7_keep 17 = .ok (.iadd, 1) := by decide +kernel
theorem dX7_keep_18 : decode cX7_keep 18 = .ok (.putfield 132, 3) := by decide +kernel
theorem dX7_keep_21 : decode cX7_keep 21 = .ok (.aload_n 0, 1) := by decide +kernel
theorem dX7_keep_22 : decode cX7_keep 22 = .ok (.iconst 0, 1) := by decide +kernel
theorem dX7_keep_23 : decode cX7_keep 23 = .ok (.iconst 1, 1) := by decide +kernel
theorem dX7_keep_24 : decode cX7_keep 24 = .ok (.aload_n 0, 1) := by decide +kernel
theorem dX7_keep_25 : decode cX7_keep 25 = .ok (.getfield 132, 3) := by decide +kernel
theorem dX7_keep_28 : decode cX7_keep 28 = .ok (.iadd, 1) := by decide +kernel
theorem dX7_keep_29 : decode cX7_keep 29 = .ok (.invokevirtual 213, 3) := by decide +kernel
theorem dX7_keep_32 : decode cX7_keep 32 = .ok (.aload_n 0, 1) := by decide +kernel
theorem dX7_keep_33 : decode cX7_keep 33 = .ok (.iconst 0, 1) := by decide +kernel
theorem dX7_keep_34 : decode cX7_keep 34 = .ok (.aload_n 0, 1) := by decide +kernel
theorem dX7_keep_35 : decode cX7_keep 35 = .ok (.getfield 132, 3) := by decide +kernel
theorem dX7_keep_38 : decode cX7_keep 38 = .ok (.invokevirtual 236, 3) := by decide +kernel
theorem dX7_keep_41 : decode cX7_keep 41 = .ok (.aload_n 0, 1) := by decide +kernel
theorem dX7_keep_42 : decode cX7_keep 42 = .ok (.getfield 132, 3) := by decide +kernel
theorem dX7_keep_45 : decode cX7_keep 45 = .ok (.ireturn, 1) := by decide +kernel
theorem dX7_back_0 : decode cX7_back 0 = .ok (.aload_n 0, 1) := by decide +kernel
theorem dX7_back_1 : decode cX7_back 1 = .ok (.getfield 132, 3) := by decide +kernel
theorem dX7_back_4 : decode cX7_back 4 = .ok (.ifCond .ne 6, 3) := by decide +kernel
theorem dX7_back_7 : decode cX7_back 7 = .ok (.bipush (-2), 2) := by decide +kernel
theorem dX7_back_9 : decode cX7_back 9 = .ok (.ireturn, 1) := by decide +kernel
theorem dX7_back_10 : decode cX7_back 10 = .ok (.aload_n 0, 1) := by decide +kernel
theorem dX7_back_11 : decode cX7_back 11 = .ok (.iconst 1, 1) := by decide +kernel
theorem dX7_back_12 : decode cX7_back 12 = .ok (.aload_n 0, 1) := by decide +kernel
theorem dX7_back_13 : decode cX7_back 13 = .ok (.getfield 132, 3) := by decide +kernel
theorem dX7_back_16 : decode cX7_back 16 = .ok (.iadd, 1) := by decide +kernel
theorem dX7_back_17 : decode cX7_back 17 = .ok (.iconst 0, 1) := by decide +kernel
theorem dX7_back_18 : decode cX7_back 18 = .ok (.invokevirtual 213, 3) := by decide +kernel
theorem dX7_back_21 : decode cX7_back 21 = .ok (.aload_n 0, 1) := by decide +kernel
theorem dX7_back_22 : decode cX7_back 22 = .ok (.aload_n 0, 1) := by decide +kernel
theorem dX7_back_23 : decode cX7_back 23 = .ok (.getfield 132, 3) := by decide +kernel
theorem dX7_back_26 : decode cX7_back 26 = .ok (.iconst 0, 1) := by decide +kernel
theorem dX7_back_27 : decode cX7_back 27 = .ok (.invokevirtual 236, 3) := by decide +kernel
theorem dX7_back_30 : decode cX7_back 30 = .ok (.aload_n 0, 1) := by decide +kernel
theorem dX7_back_31 : decode cX7_back 31 = .ok (.dup, 1) := by decide +kernel
theorem dX7_back_32 : decode cX7_back 32 = .ok (.getfield 132, 3) := by decide +kernel
theorem dX7_back_35 : decode cX7_back 35 = .ok (.iconst 1, 1) := by decide +kernel
theorem dX7_back_36 : decode cX7_back 36 = .ok (.isub, 1) := by decide +kernel
theorem dX7_back_37 : decode cX7_back 37 = .ok (.putfield 132, 3) := by decide +kernel
theorem dX7_back_40 : decode cX7_back 40 = .ok (.aload_n 0, 1) := by decide +kernel
theorem dX7_back_41 : decode cX7_back 41 = .ok (.getfield 132, 3) := by decide +kernel
theorem dX7_back_44 : decode cX7_back 44 = .ok (.ireturn, 1) := by decide +kernel
theorem dX7_count_0 : decode cX7_count 0 = .ok (.iload_n 1, 1) := by decide +kernel
theorem dX7_count_1 : decode cX7_count 1 = .ok (.tableswitch 88 0 6 #[43, 50, 57, 62, 67, 74, 81], 43) := by decide +kernel
theorem dX7_count_44 : decode cX7_count 44 = .ok (.aload_n 0, 1) := by decide +kernel
theorem dX7_count_45 : decode cX7_count 45 = .ok (.getfield 13, 3) := by decide +kernel
theorem dX7_count_48 : decode cX7_count 48 = .ok (.iconst 0, 1) := by decide +kernel
theorem dX7_count_49 : decode cX7_count 49 = .ok (.iaload, 1) := by decide +kernel
theorem dX7_count_50 : decode cX7_count 50 = .ok (.ireturn, 1) := by decide +kernel
theorem dX7_count_51 : decode cX7_count 51 = .ok (.aload_n 0, 1) := by decide +kernel
theorem dX7_count_52 : decode cX7_count 52 = .ok (.getfield 52, 3) := by decide +kernel
theorem dX7_count_55 : decode cX7_count 55 = .ok (.iconst 0, 1) := by decide +kernel
theorem dX7_count_56 : decode cX7_count 56 = .ok (.iaload, 1) := by decide +kernel
theorem dX7_count_57 : decode cX7_count 57 = .ok (.ireturn, 1) := by decide +kernel
theorem dX7_count_58 : decode cX7_count 58 = .ok (.aload_n 0, 1) := by decide +kernel
theorem dX7_count_59 : decode cX7_count 59 = .ok (.getfield 92, 3) := by decide +kernel
theorem dX7_count_62 : decode cX7_count 62 = .ok (.ireturn, 1) := by decide +kernel
theorem dX7_count_63 : decode cX7_count 63 = .ok (.aload_n 0, 1) := by decide +kernel
theorem dX7_count_64 : decode cX7_count 64 = .ok (.getfield 132, 3) := by decide +kernel
theorem dX7_count_67 : decode cX7_count 67 = .ok (.ireturn, 1) := by decide +kernel
theorem dX7_count_68 : decode cX7_count 68 = .ok (.aload_n 0, 1) := by decide +kernel
theorem dX7_count_69 : decode cX7_count 69 = .ok (.getfield 40, 3) := by decide +kernel
theorem dX7_count_72 : decode cX7_count 72 = .ok (.iconst 0, 1) := by decide +kernel
theorem dX7_count_73 : decode cX7_count 73 = .ok (.iaload, 1) := by decide +kernel
theorem dX7_count_74 : decode cX7_count 74 = .ok (.ireturn, 1) := by decide +kernel
theorem dX7_count_75 : decode cX7_count 75 = .ok (.aload_n 0, 1) := by decide +kernel
theorem dX7_count_76 : decode cX7_count 76 = .ok (.getfield 40, 3) := by decide +kernel
theorem dX7_count_79 : decode cX7_count 79 = .ok (.iconst 1, 1) := by decide +kernel
theorem dX7_count_80 : decode cX7_count 80 = .ok (.iaload, 1) := by decide +kernel
theorem dX7_count_81 : decode cX7_count 81 = .ok (.ireturn, 1) := by decide +kernel
theorem dX7_count_82 : decode cX7_count 82 = .ok (.aload_n 0, 1) := by decide +kernel
theorem dX7_count_83 : decode cX7_count 83 = .ok (.getfield 40, 3) := by decide +kernel
theorem dX7_count_86 : decode cX7_count 86 = .ok (.iconst 2, 1) := by decide +kernel
theorem dX7_count_87 : decode cX7_count 87 = .ok (.iaload, 1) := by decide +kernel
theorem dX7_count_88 : decode cX7_count 88 = .ok (.ireturn, 1) := by decide +kernel
theorem dX7_count_89 : decode cX7_count 89 = .ok (.iconst (-1), 1) := by decide +kernel
theorem dX7_count_90 : decode cX7_count 90 = .ok (.ireturn, 1) := by decide +kernel
theorem dJ6_bitCount_0f7a4_0 : decode cJ6_bitCount_0f7a4 0 = .ok (.iload_n 0, 1) := by decide +kernel
theorem dJ6_bitCount_0f7a4_1 : decode cJ6_bitCount_0f7a4 1 = .ok (.iload_n 0, 1) := by decide +kernel
theorem dJ6_bitCount_0f7a4_2 : decode cJ6_bitCount_0f7a4 2 = .ok (.iconst 1, 1) := by decide +kernel
theorem dJ6_bitCount_0f7a4_3 : decode cJ6_bitCount_0f7a4 3 = .ok (.iushr, 1) := by decide +kernel
theorem dJ6_bitCount_0f7a4_4 : decode cJ6_bitCount_0f7a4 4 = .ok (.ldc_w 265, 3) := by decide +kernel
theorem dJ6_bitCount_0f7a4_7 : decode cJ6_bitCount_0f7a4 7 = .ok (.iand, 1) := by decide +kernel
theorem dJ6_bitCount_0f7a4_8 : decode cJ6_bitCount_0f7a4 8 = .ok (.isub, 1) := by decide +kernel
theorem dJ6_bitCount_0f7a4_9 : decode cJ6_bitCount_0f7a4 9 = .ok (.istore_n 0, 1) := by decide +kernel
theorem dJ6_bitCount_0f7a4_10 : decode cJ6_bitCount_0f7a4 10 = .ok (.iload_n 0, 1) := by decide +kernel
theorem dJ6_bitCount_0f7a4_11 : decode cJ6_bitCount_0f7a4 11 = .ok (.ldc_w 266, 3) := by decide +kernel
theorem dJ6_bitCount_0f7a4_14 : decode cJ6_bitCount_0f7a4 14 = .ok (.iand, 1) := by decide +kernel
theorem dJ6_bitCount_0f7a4_15 : decode cJ6_bitCount_0f7a4 15 = .ok (.iload_n 0, 1) := by decide +kernel
theorem dJ6_bitCount_0f7a4_16 : decode cJ6_bitCount_0f7a4 16 = .ok (.iconst 2, 1) := by decide +kernel
theorem dJ6_bitCount_0f7a4_17 : decode cJ6_bitCount_0f7a4 17 = .ok (.iushr, 1) := by decide +kernel
theorem dJ6_bitCount_0f7a4_18 : decode cJ6_bitCount_0f7a4 18 = .ok (.ldc_w 266, 3) := by decide +kernel
theorem dJ6_bitCount_0f7a4_21 : decode cJ6_bitCount_0f7a4 21 = .ok (.iand, 1) := by decide +kernel
theorem dJ6_bitCount_0f7a4_22 : decode cJ6_bitCount_0f7a4 22 = .ok (.iadd, 1) := by decide +kernel
theorem dJ6_bitCount_0f7a4_23 : decode cJ6_bitCount_0f7a4 23 = .ok (.istore_n 0, 1) := by decide +kernel
theorem dJ6_bitCount_0f7a4_24 : decode cJ6_bitCount_0f7a4 24 = .ok (.iload_n 0, 1) := by decide +kernel
theorem dJ6_bitCount_0f7a4_25 : decode cJ6_bitCount_0f7a4 25 = .ok (.iload_n 0, 1) := by decide +kernel
theorem dJ6_bitCount_0f7a4_26 : decode cJ6_bitCount_0f7a4 26 = .ok (.iconst 4, 1) := by decide +kernel
theorem dJ6_bitCount_0f7a4_27 : decode cJ6_bitCount_0f7a4 27 = .ok (.iushr, 1) := by decide +kernel
theorem dJ6_bitCount_0f7a4_28 : decode cJ6_bitCount_0f7a4 28 = .ok (.iadd, 1) := by decide +kernel
theorem dJ6_bitCount_0f7a4_29 : decode cJ6_bitCount_0f7a4 29 = .ok (.ldc_w 267, 3) := by decide +kernel
theorem dJ6_bitCount_0f7a4_32 : decode cJ6_bitCount_0f7a4 32 = .ok (.iand, 1) := by decide +kernel
theorem dJ6_bitCount_0f7a4_33 : decode cJ6_bitCount_0f7a4 33 = .ok (.istore_n 0, 1) := by decide +kernel
theorem dJ6_bitCount_0f7a4_34 : decode cJ6_bitCount_0f7a4 34 = .ok (.iload_n 0, 1) := by decide +kernel
theorem dJ6_bitCount_0f7a4_35 : decode cJ6_bitCount_0f7a4 35 = .ok (.iload_n 0, 1) := by decide +kernel
theorem dJ6_bitCount_0f7a4_36 : decode cJ6_bitCount_0f7a4 36 = .ok (.bipush 8, 2) := by decide +kernel
theorem dJ6_bitCount_0f7a4_38 : decode cJ6_bitCount_0f7a4 38 = .ok (.iushr, 1) := by decide +kernel
theorem dJ6_bitCount_0f7a4_39 : decode cJ6_bitCount_0f7a4 39 = .ok (.iadd, 1) := by decide +kernel
theorem dJ6_bitCount_0f7a4_40 : decode cJ6_bitCount_0f7a4 40 = .ok (.istore_n 0, 1) := by decide +kernel
theorem dJ6_bitCount_0f7a4_41 : decode cJ6_bitCount_0f7a4 41 = .ok (.iload_n 0, 1) := by decide +kernel
theorem dJ6_bitCount_0f7a4_42 : decode cJ6_bitCount_0f7a4 42 = .ok (.iload_n 0, 1) := by decide +kernel
theorem dJ6_bitCount_0f7a4_43 : decode cJ6_bitCount_0f7a4 43 = .ok (.bipush 16, 2) := by decide +kernel
theorem dJ6_bitCount_0f7a4_45 : decode cJ6_bitCount_0f7a4 45 = .ok (.iushr, 1) := by decide +kernel
theorem dJ6_bitCount_0f7a4_46 : decode cJ6_bitCount_0f7a4 46 = .ok (.iadd, 1) := by decide +kernel
theorem dJ6_bitCount_0f7a4_47 : decode cJ6_bitCount_0f7a4 47 = .ok (.istore_n 0, 1) := by decide +kernel
theorem dJ6_bitCount_0f7a4_48 : decode cJ6_bitCount_0f7a4 48 = .ok (.iload_n 0, 1) := by decide +kernel
theorem dJ6_bitCount_0f7a4_49 : decode cJ6_bitCount_0f7a4 49 = .ok (.bipush 63, 2) := by decide +kernel
theorem dJ6_bitCount_0f7a4_51 : decode cJ6_bitCount_0f7a4 51 = .ok (.iand, 1) := by decide +kernel
theorem dJ6_bitCount_0f7a4_52 : decode cJ6_bitCount_0f7a4 52 = .ok (.ireturn, 1) := by decide +kernel
theorem dJ9_max_7cf53_0 : decode cJ9_max_7cf53 0 = .ok (.iload_n 0, 1) := by decide +kernel
theorem dJ9_max_7cf53_1 : decode cJ9_max_7cf53 1 = .ok (.iload_n 1, 1) := by decide +kernel
theorem dJ9_max_7cf53_2 : decode cJ9_max_7cf53 2 = .ok (.if_icmp .lt 7, 3) := by decide +kernel
theorem dJ9_max_7cf53_5 : decode cJ9_max_7cf53 5 = .ok (.iload_n 0, 1) := by decide +kernel
theorem dJ9_max_7cf53_6 : decode cJ9_max_7cf53 6 = .ok (.goto 4, 3) := by decide +kernel
theorem dJ9_max_7cf53_9 : decode cJ9_max_7cf53 9 = .ok (.iload_n 1, 1) := by decide +kernel
theorem dJ9_max_7cf53_10 : decode cJ9_max_7cf53 10 = .ok (.ireturn, 1) := by decide +kernel
theorem dJ9_min_7cf53_0 : decode cJ9_min_7cf53 0 = .ok (.iload_n 0, 1) := by decide +kernel
theorem dJ9_min_7cf53_1 : decode cJ9_min_7cf53 1 = .ok (.iload_n 1, 1) := by decide +kernel
theorem dJ9_min_7cf53_2 : decode cJ9_min_7cf53 2 = .ok (.if_icmp .gt 7, 3) := by decide +kernel
theorem dJ9_min_7cf53_5 : decode cJ9_min_7cf53 5 = .ok (.iload_n 0, 1) := by decide +kernel
theorem dJ9_min_7cf53_6 : decode cJ9_min_7cf53 6 = .ok (.goto 4, 3) := by decide +kernel
theorem dJ9_min_7cf53_9 : decode cJ9_min_7cf53 9 = .ok (.iload_n 1, 1) := by decide +kernel
theorem dJ9_min_7cf53_10 : decode cJ9_min_7cf53 10 = .ok (.ireturn, 1) := by decide +kernel
theorem dL_law_0 : decode cL_law 0 = .ok (.new 7, 3) := by decide +kernel
theorem dL_law_3 : decode cL_law 3 = .ok (.dup, 1) := by decide +kernel
theorem dL_law_4 : decode cL_law 4 = .ok (.invokespecial 9, 3) := by decide +kernel
theorem dL_law_7 : decode cL_law 7 = .ok (.astore_n 1, 1) := by decide +kernel
theorem dL_law_8 : decode cL_law 8 = .ok (.new 10, 3) := by decide +kernel
theorem dL_law_11 : decode cL_law 11 = .ok (.dup, 1) := by decide +kernel
theorem dL_law_12 : decode cL_law 12 = .ok (.invokespecial 12, 3) := by decide +kernel
theorem dL_law_15 : decode cL_law 15 = .ok (.astore_n 2, 1) := by decide +kernel
theorem dL_law_16 : decode cL_law 16 = .ok (.iconst 0, 1) := by decide +kernel
theorem dL_law_17 : decode cL_law 17 = .ok (.istore_n 3, 1) := by decide +kernel
theorem dL_law_18 : decode cL_law 18 = .ok (.iload_n 3, 1) := by decide +kernel
theorem dL_law_19 : decode cL_law 19 = .ok (.aload_n 0, 1) := by decide +kernel
theorem dL_law_20 : decode cL_law 20 = .ok (.arraylength, 1) := by decide +kernel
theorem dL_law_21 : decode cL_law 21 = .ok (.iconst 5, 1) := by decide +kernel
theorem dL_law_22 : decode cL_law 22 = .ok (.isub, 1) := by decide +kernel
theorem dL_law_23 : decode cL_law 23 = .ok (.if_icmp .gt 810, 3) := by decide +kernel
theorem dL_law_26 : decode cL_law 26 = .ok (.aload_n 0, 1) := by decide +kernel
theorem dL_law_27 : decode cL_law 27 = .ok (.iload_n 3, 1) := by decide +kernel
theorem dL_law_28 : decode cL_law 28 = .ok (.iaload, 1) := by decide +kernel
theorem dL_law_29 : decode cL_law 29 = .ok (.bipush 31, 2) := by decide +kernel
theorem dL_law_31 : decode cL_law 31 = .ok (.iand, 1) := by decide +kernel
theorem dL_law_32 : decode cL_law 32 = .ok (.tableswitch 795 0 23 #[112, 175, 188, 201, 214, 247, 280, 313, 346, 369, 402, 435, 468, 501, 524, 567, 590, 603, 637, 650, 693, 746, 759, 772], 112) := by decide +kernel
theorem dL_law_144 : decode cL_law 144 = .ok (.aload_n 1, 1) := by decide +kernel
theorem dL_law_145 : decode cL_law 145 = .ok (.aload_n 0, 1) := by decide +kernel
theorem dL_law_146 : decode cL_law 146 = .ok (.iload_n 3, 1) := by decide +kernel
theorem dL_law_147 : decode cL_law 147 = .ok (.iconst 1, 1) := by decide +kernel
theorem dL_law_148 : decode cL_law 148 = .ok (.iadd, 1) := by decide +kernel
theorem dL_law_149 : decode cL_law 149 = .ok (.iaload, 1) := by decide +kernel
theorem dL_law_150 : decode cL_law 150 = .ok (.aload_n 0, 1) := by decide +kernel
theorem dL_law_151 : decode cL_law 151 = .ok (.iload_n 3, 1) := by decide +kernel
theorem dL_law_152 : decode cL_law 152 = .ok (.iconst 2, 1) := by decide +kernel
theorem dL_law_153 : decode cL_law 153 = .ok (.iadd, 1) := by decide +kernel
theorem dL_law_154 : decode cL_law 154 = .ok (.iaload, 1) := by decide +kernel
theorem dL_law_155 : decode cL_law 155 = .ok (.i2l, 1) := by decide +kernel
theorem dL_law_156 : decode cL_law 156 = .ok (.bipush 32, 2) := by decide +kernel
theorem dL_law_158 : decode cL_law 158 = .ok (.lshl, 1) := by decide +kernel
theorem dL_law_159 : decode cL_law 159 = .ok (.aload_n 0, 1) := by decide +kernel
theorem dL_law_160 : decode cL_law 160 = .ok (.iload_n 3, 1) := by decide +kernel
theorem dL_law_161 : decode cL_law 161 = .ok (.iconst 3, 1) := by decide +kernel
theorem dL_law_162 : decode cL_law 162 = .ok (.iadd, 1) := by decide +kernel
theorem dL_law_163 : decode cL_law 163 = .ok (.iaload, 1) := by decide +kernel
theorem dL_law_164 : decode cL_law 164 = .ok (.i2l, 1) := by decide +kernel
theorem dL_law_165 : decode cL_law 165 = .ok (.ldc2_w 13, 3) := by decide +kernel
theorem dL_law_168 : decode cL_law 168 = .ok (.land, 1) := by decide +kernel
theorem dL_law_169 : decode cL_law 169 = .ok (.lor, 1) := by decide +kernel
theorem dL_law_170 : decode cL_law 170 = .ok (.invokevirtual 15, 3) := by decide +kernel
theorem dL_law_173 : decode cL_law 173 = .ok (.aload_n 2, 1) := by decide +kernel
theorem dL_law_174 : decode cL_law 174 = .ok (.aload_n 0, 1) := by decide +kernel
theorem dL_law_175 : decode cL_law 175 = .ok (.iload_n 3, 1) := by decide +kernel
theorem dL_law_176 : decode cL_law 176 = .ok (.iconst 1, 1) := by decide +kernel
theorem dL_law_177 : decode cL_law 177 = .ok (.iadd, 1) := by decide +kernel
theorem dL_law_178 : decode cL_law 178 = .ok (.iaload, 1) := by decide +kernel
theorem dL_law_179 : decode cL_law 179 = .ok (.aload_n 0, 1) := by decide +kernel
theorem dL_law_180 : decode cL_law 180 = .ok (.iload_n 3, 1) := by decide +kernel
theorem dL_law_181 : decode cL_law 181 = .ok (.iconst 2, 1) := by decide +kernel
theorem dL_law_182 : decode cL_law 182 = .ok (.iadd, 1) := by decide +kernel
theorem dL_law_183 : decode cL_law 183 = .ok (.iaload, 1) := by decide +kernel
theorem dL_law_184 : decode cL_law 184 = .ok (.i2l, 1) := by decide +kernel
theorem dL_law_185 : decode cL_law 185 = .ok (.bipush 32, 2) := by decide +kernel
theorem dL_law_187 : decode cL_law 187 = .ok (.lshl, 1) := by decide +kernel
theorem dL_law_188 : decode cL_law 188 = .ok (.aload_n 0, 1) := by decide +kernel
theorem dL_law_189 : decode cL_law 189 = .ok (.iload_n 3, 1) := by decide +kernel
theorem dL_law_190 : decode cL_law 190 = .ok (.iconst 3, 1) := by decide +kernel
theorem dL_law_191 : decode cL_law 191 = .ok (.iadd, 1) := by decide +kernel
theorem dL_law_192 : decode cL_law 192 = .ok (.iaload, 1) := by decide +kernel
theorem dL_law_193 : decode cL_law 193 = .ok (.i2l, 1) := by decide +kernel
theorem dL_law_194 : decode cL_law 194 = .ok (.ldc2_w 13, 3) := by decide +kernel
theorem dL_law_197 : decode cL_law 197 = .ok (.land, 1) := by decide +kernel
theorem dL_law_198 : decode cL_law 198 = .ok (.lor, 1) := by decide +kernel
theorem dL_law_199 : decode cL_law 199 = .ok (.invokevirtual 19, 3) := by decide +kernel
theorem dL_law_202 : decode cL_law 202 = .ok (.if_icmp .eq 625, 3) := by decide +kernel
theorem dL_law_205 : decode cL_law 205 = .ok (.iconst 0, 1) := by decide +kernel
theorem dL_law_206 : decode cL_law 206 = .ok (.ireturn, 1) := by decide +kernel
theorem dL_law_207 : decode cL_law 207 = .ok (.aload_n 1, 1) := by decide +kernel
theorem dL_law_208 : decode cL_law 208 = .ok (.invokevirtual 20, 3) := by decide +kernel
theorem dL_law_211 : decode cL_law 211 = .ok (.aload_n 2, 1) := by decide +kernel
theorem dL_law_212 : decode cL_law 212 = .ok (.invokevirtual 24, 3) := by decide +kernel
theorem dL_law_215 : decode cL_law 215 = .ok (.if_icmp .eq 612, 3) := by decide +kernel
theorem dL_law_218 : decode cL_law 218 = .ok (.iconst 0, 1) := by decide +kernel
theorem dL_law_219 : decode cL_law 219 = .ok (.ireturn, 1) := by decide +kernel
theorem dL_law_220 : decode cL_law 220 = .ok (.aload_n 1, 1) := by decide +kernel
theorem dL_law_221 : decode cL_law 221 = .ok (.invokevirtual 25, 3) := by decide +kernel
theorem dL_law_224 : decode cL_law 224 = .ok (.aload_n 2, 1) := by decide +kernel
theorem dL_law_225 : decode cL_law 225 = .ok (.invokevirtual 28, 3) := by decide +kernel
theorem dL_law_228 : decode cL_law 228 = .ok (.if_icmp .eq 599, 3) := by decide +kernel
theorem dL_law_231 : decode cL_law 231 = .ok (.iconst 0, 1) := by decide +kernel
theorem dL_law_232 : decode cL_law 232 = .ok (.ireturn, 1) := by decide +kernel
theorem dL_law_233 : decode cL_law 233 = .ok (.aload_n 1, 1) := by decide +kernel
theorem dL_law_234 : decode cL_law 234 = .ok (.invokevirtual 29, 3) := by decide +kernel
theorem dL_law_237 : decode cL_law 237 = .ok (.aload_n 2, 1) := by decide +kernel
theorem dL_law_238 : decode cL_law 238 = .ok (.invokevirtual 32, 3) := by decide +kernel
theorem dL_law_241 : decode cL_law 241 = .ok (.if_icmp .eq 586, 3) := by decide +kernel
theorem dL_law_244 : decode cL_law 244 = .ok (.iconst 0, 1) := by decide +kernel
theorem dL_law_245 : decode cL_law 245 = .ok (.ireturn, 1) := by decide +kernel
theorem dL_law_246 : decode cL_law 246 = .ok (.aload_n 1, 1) := by decide +kernel
theorem dL_law_247 : decode cL_law 247 = .ok (.aload_n 0, 1) := by decide +kernel
theorem dL_law_248 : decode cL_law 248 = .ok (.iload_n 3, 1) := by decide +kernel
theorem dL_law_249 : decode cL_law 249 = .ok (.iconst 1, 1) := by decide +kernel
theorem dL_law_250 : decode cL_law 250 = .ok (.iadd, 1) := by decide +kernel
theorem dL_law_251 : decode cL_law 251 = .ok (.iaload, 1) := by decide +kernel
theorem dL_law_252 : decode cL_law 252 = .ok (.aload_n 0, 1) := by decide +kernel
theorem dL_law_253 : decode cL_law 253 = .ok (.iload_n 3, 1) := by decide +kernel
theorem dL_law_254 : decode cL_law 254 = .ok (.iconst 2, 1) := by decide +kernel
theorem dL_law_255 : decode cL_law 255 = .ok (.iadd, 1) := by decide +kernel
theorem dL_law_256 : decode cL_law 256 = .ok (.iaload, 1) := by decide +kernel
theorem dL_law_257 : decode cL_law 257 = .ok (.invokevirtual 33, 3) := by decide +kernel
theorem dL_law_260 : decode cL_law 260 = .ok (.aload_n 2, 1) := by decide +kernel
theorem dL_law_261 : decode cL_law 261 = .ok (.aload_n 0, 1) := by decide +kernel
theorem dL_law_262 : decode cL_law 262 = .ok (.iload_n 3, 1) := by decide +kernel
theorem dL_law_263 : decode cL_law 263 = .ok (.iconst 1, 1) := by decide +kernel
theorem dL_law_264 : decode cL_law 264 = .ok (.iadd, 1) := by decide +kernel
theorem dL_law_265 : decode cL_law 265 = .ok (.iaload, 1) := by decide +kernel
theorem dL_law_266 : decode cL_law 266 = .ok (.aload_n 0, 1) := by decide +kernel
theorem dL_law_267 : decode cL_law 267 = .ok (.iload_n 3, 1) := by decide +kernel
theorem dL_law_268 : decode cL_law 268 = .ok (.iconst 2, 1) := by decide +kernel
theorem dL_law_269 : decode cL_law 269 = .ok (.iadd, 1) := by decide +kernel
theorem dL_law_270 : decode cL_law 270 = .ok (.iaload, 1) := by decide +kernel
theorem dL_law_271 : decode cL_law 271 = .ok (.invokevirtual 37, 3) := by decide +kernel
theorem dL_law_274 : decode cL_law 274 = .ok (.if_icmp .eq 553, 3) := by decide +kernel
theorem dL_law_277 : decode cL_law 277 = .ok (.iconst 0, 1) := by decide +kernel
theorem dL_law_278 : decode cL_law 278 = .ok (.ireturn, 1) := by decide +kernel
theorem dL_law_279 : decode cL_law 279 = .ok (.aload_n 1, 1) := by decide +kernel
theorem dL_law_280 : decode cL_law 280 = .ok (.aload_n 0, 1) := by decide +kernel
theorem dL_law_281 : decode cL_law 281 = .ok (.iload_n 3, 1) := by decide +kernel
theorem dL_law_282 : decode cL_law 282 = .ok (.iconst 1, 1) := by decide +kernel
theorem dL_law_283 : decode cL_law 283 = .ok (.iadd, 1) := by decide +kernel
theorem dL_law_284 : decode cL_law 284 = .ok (.iaload, 1) := by decide +kernel
theorem dL_law_285 : decode cL_law 285 = .ok (.aload_n 0, 1) := by decide +kernel
theorem dL_law_286 : decode cL_law 286 = .ok (.iload_n 3, 1) := by decide +kernel
theorem dL_law_287 : decode cL_law 287 = .ok (.iconst 2, 1) := by decide +kernel
theorem dL_law_288 : decode cL_law 288 = .ok (.iadd, 1) := by decide +kernel
theorem dL_law_289 : decode cL_law 289 = .ok (.iaload, 1) := by decide +kernel
theorem dL_law_290 : decode cL_law 290 = .ok (.invokevirtual 38, 3) := by decide +kernel
theorem dL_law_293 : decode cL_law 293 = .ok (.aload_n 2, 1) := by decide +kernel
theorem dL_law_294 : decode cL_law 294 = .ok (.aload_n 0, 1) := by decide +kernel
theorem dL_law_295 : decode cL_law 295 = .ok (.iload_n 3, 1) := by decide +kernel
theorem dL_law_296 : decode cL_law 296 = .ok (.iconst 1, 1) := by decide +kernel
theorem dL_law_297 : decode cL_law 297 = .ok (.iadd, 1) := by decide +kernel
theorem dL_law_298 : decode cL_law 298 = .ok (.iaload, 1) := by decide +kernel
theorem dL_law_299 : decode cL_law 299 = .ok (.aload_n 0, 1) := by decide +kernel
theorem dL_law_300 : decode cL_law 300 = .ok (.iload_n 3, 1) := by decide +kernel
theorem dL_law_301 : decode cL_law 301 = .ok (.iconst 2, 1) := by decide +kernel
theorem dL_law_302 : decode cL_law 302 = .ok (.iadd, 1) := by decide +kernel
theorem dL_law_303 : decode cL_law 303 = .ok (.iaload, 1) := by decide +kernel
theorem dL_law_304 : decode cL_law 304 = .ok (.invokevirtual 41, 3) := by decide +kernel
theorem dL_law_307 : decode cL_law 307 = .ok (.if_icmp .eq 520, 3) := by decide +kernel
theorem dL_law_310 : decode cL_law 310 = .ok (.iconst 0, 1) := by decide +kernel
theorem dL_law_311 : decode cL_law 311 = .ok (.ireturn, 1) := by decide +kernel
theorem dL_law_312 : decode cL_law 312 = .ok (.aload_n 1, 1) := by decide +kernel
theorem dL_law_313 : decode cL_law 313 = .ok (.aload_n 0, 1) := by decide +kernel
theorem dL_law_314 : decode cL_law 314 = .ok (.iload_n 3, 1) := by decide +kernel
theorem dL_law_315 : decode cL_law 315 = .ok (.iconst 1, 1) := by decide +kernel
theorem dL_law_316 : decode cL_law 316 = .ok (.iadd, 1) := by decide +kernel
theorem dL_law_317 : decode cL_law 317 = .ok (.iaload, 1) := by decide +kernel
theorem dL_law_318 : decode cL_law 318 = .ok (.aload_n 0, 1) := by decide +kernel
theorem dL_law_319 : decode cL_law 319 = .ok (.iload_n 3, 1) := by decide +kernel
theorem dL_law_320 : decode cL_law 320 = .ok (.iconst 2, 1) := by decide +kernel
theorem dL_law_321 : decode cL_law 321 = .ok (.iadd, 1) := by decide +kernel
theorem dL_law_322 : decode cL_law 322 = .ok (.iaload, 1) := by decide +kernel
theorem dL_law_323 : decode cL_law 323 = .ok (.invokevirtual 42, 3) := by decide +kernel
theorem dL_law_326 : decode cL_law 326 = .ok (.aload_n 2, 1) := by decide +kernel
theorem dL_law_327 : decode cL_law 327 = .ok (.aload_n 0, 1) := by decide +kernel
theorem dL_law_328 : decode cL_law 328 = .ok (.iload_n 3, 1) := by decide +kernel
theorem dL_law_329 : decode cL_law 329 = .ok (.iconst 1, 1) := by decide +kernel
theorem dL_law_330 : decode cL_law 330 = .ok (.iadd, 1) := by decide +kernel
theorem dL_law_331 : decode cL_law 331 = .ok (.iaload, 1) := by decide +kernel
theorem dL_law_332 : decode cL_law 332 = .ok (.aload_n 0, 1) := by decide +kernel
theorem dL_law_333 : decode cL_law 333 = .ok (.iload_n 3, 1) := by decide +kernel
theorem dL_law_334 : decode cL_law 334 = .ok (.iconst 2, 1) := by decide +kernel
theorem dL_law_335 : decode cL_law 335 = .ok (.iadd, 1) := by decide +kernel
theorem dL_law_336 : decode cL_law 336 = .ok (.iaload, 1) := by decide +kernel
theorem dL_law_337 : decode cL_law 337 = .ok (.invokevirtual 45, 3) := by decide +kernel
theorem dL_law_340 : decode cL_law 340 = .ok (.if_icmp .eq 487, 3) := by decide +kernel
theorem dL_law_343 : decode cL_law 343 = .ok (.iconst 0, 1) := by decide +kernel
theorem dL_law_344 : decode cL_law 344 = .ok (.ireturn, 1) := by decide +kernel
theorem dL_law_345 : decode cL_law 345 = .ok (.aload_n 1, 1) := by decide +kernel
theorem dL_law_346 : decode cL_law 346 = .ok (.aload_n 0, 1) := by decide +kernel
theorem dL_law_347 : decode cL_law 347 = .ok (.iload_n 3, 1) := by decide +kernel
theorem dL_law_348 : decode cL_law 348 = .ok (.iconst 1, 1) := by decide +kernel
theorem dL_law_349 : decode cL_law 349 = .ok (.iadd, 1) := by decide +kernel
theorem dL_law_350 : decode cL_law 350 = .ok (.iaload, 1) := by decide +kernel
theorem dL_law_351 : decode cL_law 351 = .ok (.aload_n 0, 1) := by decide +kernel
theorem dL_law_352 : decode cL_law 352 = .ok (.iload_n 3, 1) := by decide +kernel
theorem dL_law_353 : decode cL_law 353 = .ok (.iconst 2, 1) := by decide +kernel
theorem dL_law_354 : decode cL_law 354 = .ok (.iadd, 1) := by decide +kernel
theorem dL_law_355 : decode cL_law 355 = .ok (.iaload, 1) := by decide +kernel
theorem dL_law_356 : decode cL_law 356 = .ok (.invokevirtual 46, 3) := by decide +kernel
theorem dL_law_359 : decode cL_law 359 = .ok (.aload_n 2, 1) := by decide +kernel
theorem dL_law_360 : decode cL_law 360 = .ok (.aload_n 0, 1) := by decide +kernel
theorem dL_law_361 : decode cL_law 361 = .ok (.iload_n 3, 1) := by decide +kernel
theorem dL_law_362 : decode cL_law 362 = .ok (.iconst 1, 1) := by decide +kernel
theorem dL_law_363 : decode cL_law 363 = .ok (.iadd, 1) := by decide +kernel
theorem dL_law_364 : decode cL_law 364 = .ok (.iaload, 1) := by decide +kernel
theorem dL_law_365 : decode cL_law 365 = .ok (.aload_n 0, 1) := by decide +kernel
theorem dL_law_366 : decode cL_law 366 = .ok (.iload_n 3, 1) := by decide +kernel
theorem dL_law_367 : decode cL_law 367 = .ok (.iconst 2, 1) := by decide +kernel
theorem dL_law_368 : decode cL_law 368 = .ok (.iadd, 1) := by decide +kernel
theorem dL_law_369 : decode cL_law 369 = .ok (.iaload, 1) := by decide +kernel
theorem dL_law_370 : decode cL_law 370 = .ok (.invokevirtual 49, 3) := by decide +kernel
theorem dL_law_373 : decode cL_law 373 = .ok (.if_icmp .eq 454, 3) := by decide +kernel
theorem dL_law_376 : decode cL_law 376 = .ok (.iconst 0, 1) := by decide +kernel
theorem dL_law_377 : decode cL_law 377 = .ok (.ireturn, 1) := by decide +kernel
theorem dL_law_378 : decode cL_law 378 = .ok (.aload_n 1, 1) := by decide +kernel
theorem dL_law_379 : decode cL_law 379 = .ok (.aload_n 0, 1) := by decide +kernel
theorem dL_law_380 : decode cL_law 380 = .ok (.iload_n 3, 1) := by decide +kernel
theorem dL_law_381 : decode cL_law 381 = .ok (.iconst 1, 1) := by decide +kernel
theorem dL_law_382 : decode cL_law 382 = .ok (.iadd, 1) := by decide +kernel
theorem dL_law_383 : decode cL_law 383 = .ok (.iaload, 1) := by decide +kernel
theorem dL_law_384 : decode cL_law 384 = .ok (.invokevirtual 50, 3) := by decide +kernel
theorem dL_law_387 : decode cL_law 387 = .ok (.aload_n 2, 1) := by decide +kernel
theorem dL_law_388 : decode cL_law 388 = .ok (.aload_n 0, 1) := by decide +kernel
theorem dL_law_389 : decode cL_law 389 = .ok (.iload_n 3, 1) := by decide +kernel
theorem dL_law_390 : decode cL_law 390 = .ok (.iconst 1, 1) := by decide +kernel
theorem dL_law_391 : decode cL_law 391 = .ok (.iadd, 1) := by decide +kernel
theorem dL_law_392 : decode cL_law 392 = .ok (.iaload, 1) := by decide +kernel
theorem dL_law_393 : decode cL_law 393 = .ok (.invokevirtual 54, 3) := by decide +kernel
theorem dL_law_396 : decode cL_law 396 = .ok (.if_icmp .eq 431, 3) := by decide +kernel
theorem dL_law_399 : decode cL_law 399 = .ok (.iconst 0, 1) := by decide +kernel
theorem dL_law_400 : decode cL_law 400 = .ok (.ireturn, 1) := by decide +kernel
theorem dL_law_401 : decode cL_law 401 = .ok (.aload_n 1, 1) := by decide +kernel
theorem dL_law_402 : decode cL_law 402 = .ok (.aload_n 0, 1) := by decide +kernel
theorem dL_law_403 : decode cL_law 403 = .ok (.iload_n 3, 1) := by decide +kernel
theorem dL_law_404 : decode cL_law 404 = .ok (.iconst 1, 1) := by decide +kernel
theorem dL_law_405 : decode cL_law 405 = .ok (.iadd, 1) := by decide +kernel
theorem dL_law_406 : decode cL_law 406 = .ok (.iaload, 1) := by decide +kernel
theorem dL_law_407 : decode cL_law 407 = .ok (.aload_n 0, 1) := by decide +kernel
theorem dL_law_408 : decode cL_law 408 = .ok (.iload_n 3, 1) := by decide +kernel
theorem dL_law_409 : decode cL_law 409 = .ok (.iconst 2, 1) := by decide +kernel
theorem dL_law_410 : decode cL_law 410 = .ok (.iadd, 1) := by decide +kernel
theorem dL_law_411 : decode cL_law 411 = .ok (.iaload, 1) := by decide +kernel
theorem dL_law_412 : decode cL_law 412 = .ok (.invokevirtual 55, 3) := by decide +kernel
theorem dL_law_415 : decode cL_law 415 = .ok (.aload_n 2, 1) := by decide +kernel
theorem dL_law_416 : decode cL_law 416 = .ok (.aload_n 0, 1) := by decide +kernel
theorem dL_law_417 : decode cL_law 417 = .ok (.iload_n 3, 1) := by decide +kernel
theorem dL_law_418 : decode cL_law 418 = .ok (.iconst 1, 1) := by decide +kernel
theorem dL_law_419 : decode cL_law 419 = .ok (.iadd, 1) := by decide +kernel
theorem dL_law_420 : decode cL_law 420 = .ok (.iaload, 1) := by decide +kernel
theorem dL_law_421 : decode cL_law 421 = .ok (.aload_n 0, 1) := by decide +kernel
theorem dL_law_422 : decode cL_law 422 = .ok (.iload_n 3, 1) := by decide +kernel
theorem dL_law_423 : decode cL_law 423 = .ok (.iconst 2, 1) := by decide +kernel
theorem dL_law_424 : decode cL_law 424 = .ok (.iadd, 1) := by decide +kernel
theorem dL_law_425 : decode cL_law 425 = .ok (.iaload, 1) := by decide +kernel
theorem dL_law_426 : decode cL_law 426 = .ok (.invokevirtual 58, 3) := by decide +kernel
theorem dL_law_429 : decode cL_law 429 = .ok (.if_icmp .eq 398, 3) := by decide +kernel
theorem dL_law_432 : decode cL_law 432 = .ok (.iconst 0, 1) := by decide +kernel
theorem dL_law_433 : decode cL_law 433 = .ok (.ireturn, 1) := by decide +kernel
theorem dL_law_434 : decode cL_law 434 = .ok (.aload_n 1, 1) := by decide +kernel
theorem dL_law_435 : decode cL_law 435 = .ok (.aload_n 0, 1) := by decide +kernel
theorem dL_law_436 : decode cL_law 436 = .ok (.iload_n 3, 1) := by decide +kernel
theorem dL_law_437 : decode cL_law 437 = .ok (.iconst 1, 1) := by decide +kernel
theorem dL_law_438 : decode cL_law 438 = .ok (.iadd, 1) := by decide +kernel
theorem dL_law_439 : decode cL_law 439 = .ok (.iaload, 1) := by decide +kernel
theorem dL_law_440 : decode cL_law 440 = .ok (.aload_n 0, 1) := by decide +kernel
theorem dL_law_441 : decode cL_law 441 = .ok (.iload_n 3, 1) := by decide +kernel
theorem dL_law_442 : decode cL_law 442 = .ok (.iconst 2, 1) := by decide +kernel
theorem dL_law_443 : decode cL_law 443 = .ok (.iadd, 1) := by decide +kernel
theorem dL_law_444 : decode cL_law 444 = .ok (.iaload, 1) := by decide +kernel
theorem dL_law_445 : decode cL_law 445 = .ok (.invokevirtual 59, 3) := by decide +kernel
theorem dL_law_448 : decode cL_law 448 = .ok (.aload_n 2, 1) := by decide +kernel
theorem dL_law_449 : decode cL_law 449 = .ok (.aload_n 0, 1) := by decide +kernel
theorem dL_law_450 : decode cL_law 450 = .ok (.iload_n 3, 1) := by decide +kernel
theorem dL_law_451 : decode cL_law 451 = .ok (.iconst 1, 1) := by decide +kernel
theorem dL_law_452 : decode cL_law 452 = .ok (.iadd, 1) := by decide +kernel
theorem dL_law_453 : decode cL_law 453 = .ok (.iaload, 1) := by decide +kernel
theorem dL_law_454 : decode cL_law 454 = .ok (.aload_n 0, 1) := by decide +kernel
theorem dL_law_455 : decode cL_law 455 = .ok (.iload_n 3, 1) := by decide +kernel
theorem dL_law_456 : decode cL_law 456 = .ok (.iconst 2, 1) := by decide +kernel
theorem dL_law_457 : decode cL_law 457 = .ok (.iadd, 1) := by decide +kernel
theorem dL_law_458 : decode cL_law 458 = .ok (.iaload, 1) := by decide +kernel
theorem dL_law_459 : decode cL_law 459 = .ok (.invokevirtual 62, 3) := by decide +kernel
theorem dL_law_462 : decode cL_law 462 = .ok (.if_icmp .eq 365, 3) := by decide +kernel
theorem dL_law_465 : decode cL_law 465 = .ok (.iconst 0, 1) := by decide +kernel
theorem dL_law_466 : decode cL_law 466 = .ok (.ireturn, 1) := by decide +kernel
theorem dL_law_467 : decode cL_law 467 = .ok (.aload_n 1, 1) := by decide +kernel
theorem dL_law_468 : decode cL_law 468 = .ok (.aload_n 0, 1) := by decide +kernel
theorem dL_law_469 : decode cL_law 469 = .ok (.iload_n 3, 1) := by decide +kernel
theorem dL_law_470 : decode cL_law 470 = .ok (.iconst 1, 1) := by decide +kernel
theorem dL_law_471 : decode cL_law 471 = .ok (.iadd, 1) := by decide +kernel
theorem dL_law_472 : decode cL_law 472 = .ok (.iaload, 1) := by decide +kernel
theorem dL_law_473 : decode cL_law 473 = .ok (.aload_n 0, 1) := by decide +kernel
theorem dL_law_474 : decode cL_law 474 = .ok (.iload_n 3, 1) := by decide +kernel
theorem dL_law_475 : decode cL_law 475 = .ok (.iconst 2, 1) := by decide +kernel
theorem dL_law_476 : decode cL_law 476 = .ok (.iadd, 1) := by decide +kernel
theorem dL_law_477 : decode cL_law 477 = .ok (.iaload, 1) := by decide +kernel
theorem dL_law_478 : decode cL_law 478 = .ok (.invokevirtual 63, 3) := by decide +kernel
theorem dL_law_481 : decode cL_law 481 = .ok (.aload_n 2, 1) := by decide +kernel
theorem dL_law_482 : decode cL_law 482 = .ok (.aload_n 0, 1) := by decide +kernel
theorem dL_law_483 : decode cL_law 483 = .ok (.iload_n 3, 1) := by decide +kernel
theorem dL_law_484 : decode cL_law 484 = .ok (.iconst 1, 1) := by decide +kernel
theorem dL_law_485 : decode cL_law 485 = .ok (.iadd, 1) := by decide +kernel
theorem dL_law_486 : decode cL_law 486 = .ok (.iaload, 1) := by decide +kernel
theorem dL_law_487 : decode cL_law 487 = .ok (.aload_n 0, 1) := by decide +kernel
theorem dL_law_488 : decode cL_law 488 = .ok (.iload_n 3, 1) := by decide +kernel
theorem dL_law_489 : decode cL_law 489 = .ok (.iconst 2, 1) := by decide +kernel
theorem dL_law_490 : decode cL_law 490 = .ok (.iadd, 1) := by decide +kernel
theorem dL_law_491 : decode cL_law 491 = .ok (.iaload, 1) := by decide +kernel
theorem dL_law_492 : decode cL_law 492 = .ok (.invokevirtual 66, 3) := by decide +kernel
theorem dL_law_495 : decode cL_law 495 = .ok (.if_icmp .eq 332, 3) := by decide +kernel
theorem dL_law_498 : decode cL_law 498 = .ok (.iconst 0, 1) := by decide +kernel
theorem dL_law_499 : decode cL_law 499 = .ok (.ireturn, 1) := by decide +kernel
theorem dL_law_500 : decode cL_law 500 = .ok (.aload_n 1, 1) := by decide +kernel
theorem dL_law_501 : decode cL_law 501 = .ok (.aload_n 0, 1) := by decide +kernel
theorem dL_law_502 : decode cL_law 502 = .ok (.iload_n 3, 1) := by decide +kernel
theorem dL_law_503 : decode cL_law 503 = .ok (.iconst 1, 1) := by decide +kernel
theorem dL_law_504 : decode cL_law 504 = .ok (.iadd, 1) := by decide +kernel
theorem dL_law_505 : decode cL_law 505 = .ok (.iaload, 1) := by decide +kernel
theorem dL_law_506 : decode cL_law 506 = .ok (.aload_n 0, 1) := by decide +kernel
theorem dL_law_507 : decode cL_law 507 = .ok (.iload_n 3, 1) := by decide +kernel
theorem dL_law_508 : decode cL_law 508 = .ok (.iconst 2, 1) := by decide +kernel
theorem dL_law_509 : decode cL_law 509 = .ok (.iadd, 1) := by decide +kernel
theorem dL_law_510 : decode cL_law 510 = .ok (.iaload, 1) := by decide +kernel
theorem dL_law_511 : decode cL_law 511 = .ok (.invokevirtual 67, 3) := by decide +kernel
theorem dL_law_514 : decode cL_law 514 = .ok (.aload_n 2, 1) := by decide +kernel
theorem dL_law_515 : decode cL_law 515 = .ok (.aload_n 0, 1) := by decide +kernel
theorem dL_law_516 : decode cL_law 516 = .ok (.iload_n 3, 1) := by decide +kernel
theorem dL_law_517 : decode cL_law 517 = .ok (.iconst 1, 1) := by decide +kernel
theorem dL_law_518 : decode cL_law 518 = .ok (.iadd, 1) := by decide +kernel
theorem dL_law_519 : decode cL_law 519 = .ok (.iaload, 1) := by decide +kernel
theorem dL_law_520 : decode cL_law 520 = .ok (.aload_n 0, 1) := by decide +kernel
theorem dL_law_521 : decode cL_law 521 = .ok (.iload_n 3, 1) := by decide +kernel
theorem dL_law_522 : decode cL_law 522 = .ok (.iconst 2, 1) := by decide +kernel
theorem dL_law_523 : decode cL_law 523 = .ok (.iadd, 1) := by decide +kernel
theorem dL_law_524 : decode cL_law 524 = .ok (.iaload, 1) := by decide +kernel
theorem dL_law_525 : decode cL_law 525 = .ok (.invokevirtual 70, 3) := by decide +kernel
theorem dL_law_528 : decode cL_law 528 = .ok (.if_icmp .eq 299, 3) := by decide +kernel
theorem dL_law_531 : decode cL_law 531 = .ok (.iconst 0, 1) := by decide +kernel
theorem dL_law_532 : decode cL_law 532 = .ok (.ireturn, 1) := by decide +kernel
theorem dL_law_533 : decode cL_law 533 = .ok (.aload_n 1, 1) := by decide +kernel
theorem dL_law_534 : decode cL_law 534 = .ok (.aload_n 0, 1) := by decide +kernel
theorem dL_law_535 : decode cL_law 535 = .ok (.iload_n 3, 1) := by decide +kernel
theorem dL_law_536 : decode cL_law 536 = .ok (.iconst 1, 1) := by decide +kernel
theorem dL_law_537 : decode cL_law 537 = .ok (.iadd, 1) := by decide +kernel
theorem dL_law_538 : decode cL_law 538 = .ok (.iaload, 1) := by decide +kernel
theorem dL_law_539 : decode cL_law 539 = .ok (.invokevirtual 71, 3) := by decide +kernel
theorem dL_law_542 : decode cL_law 542 = .ok (.aload_n 2, 1) := by decide +kernel
theorem dL_law_543 : decode cL_law 543 = .ok (.aload_n 0, 1) := by decide +kernel
theorem dL_law_544 : decode cL_law 544 = .ok (.iload_n 3, 1) := by decide +kernel
theorem dL_law_545 : decode cL_law 545 = .ok (.iconst 1, 1) := by decide +kernel
theorem dL_law_546 : decode cL_law 546 = .ok (.iadd, 1) := by decide +kernel
theorem dL_law_547 : decode cL_law 547 = .ok (.iaload, 1) := by decide +kernel
theorem dL_law_548 : decode cL_law 548 = .ok (.invokevirtual 74, 3) := by decide +kernel
theorem dL_law_551 : decode cL_law 551 = .ok (.if_icmp .eq 276, 3) := by decide +kernel
theorem dL_law_554 : decode cL_law 554 = .ok (.iconst 0, 1) := by decide +kernel
theorem dL_law_555 : decode cL_law 555 = .ok (.ireturn, 1) := by decide +kernel
theorem dL_law_556 : decode cL_law 556 = .ok (.aload_n 1, 1) := by decide +kernel
theorem dL_law_557 : decode cL_law 557 = .ok (.aload_n 0, 1) := by decide +kernel
theorem dL_law_558 : decode cL_law 558 = .ok (.iload_n 3, 1) := by decide +kernel
theorem dL_law_559 : decode cL_law 559 = .ok (.iconst 1, 1) := by decide +kernel
theorem dL_law_560 : decode cL_law 560 = .ok (.iadd, 1) := by decide +kernel
theorem dL_law_561 : decode cL_law 561 = .ok (.iaload, 1) := by decide +kernel
theorem dL_law_562 : decode cL_law 562 = .ok (.aload_n 0, 1) := by decide +kernel
theorem dL_law_563 : decode cL_law 563 = .ok (.iload_n 3, 1) := by decide +kernel
theorem dL_law_564 : decode cL_law 564 = .ok (.iconst 2, 1) := by decide +kernel
theorem dL_law_565 : decode cL_law 565 = .ok (.iadd, 1) := by decide +kernel
theorem dL_law_566 : decode cL_law 566 = .ok (.iaload, 1) := by decide +kernel
theorem dL_law_567 : decode cL_law 567 = .ok (.aload_n 0, 1) := by decide +kernel
theorem dL_law_568 : decode cL_law 568 = .ok (.iload_n 3, 1) := by decide +kernel
theorem dL_law_569 : decode cL_law 569 = .ok (.iconst 3, 1) := by decide +kernel
theorem dL_law_570 : decode cL_law 570 = .ok (.iadd, 1) := by decide +kernel
theorem dL_law_571 : decode cL_law 571 = .ok (.iaload, 1) := by decide +kernel
theorem dL_law_572 : decode cL_law 572 = .ok (.invokevirtual 75, 3) := by decide +kernel
theorem dL_law_575 : decode cL_law 575 = .ok (.aload_n 2, 1) := by decide +kernel
theorem dL_law_576 : decode cL_law 576 = .ok (.aload_n 0, 1) := by decide +kernel
theorem dL_law_577 : decode cL_law 577 = .ok (.iload_n 3, 1) := by decide +kernel
theorem dL_law_578 : decode cL_law 578 = .ok (.iconst 1, 1) := by decide +kernel
theorem dL_law_579 : decode cL_law 579 = .ok (.iadd, 1) := by decide +kernel
theorem dL_law_580 : decode cL_law 580 = .ok (.iaload, 1) := by decide +kernel
theorem dL_law_581 : decode cL_law 581 = .ok (.aload_n 0, 1) := by decide +kernel
theorem dL_law_582 : decode cL_law 582 = .ok (.iload_n 3, 1) := by decide +kernel
theorem dL_law_583 : decode cL_law 583 = .ok (.iconst 2, 1) := by decide +kernel
theorem dL_law_584 : decode cL_law 584 = .ok (.iadd, 1) := by decide +kernel
theorem dL_law_585 : decode cL_law 585 = .ok (.iaload, 1) := by decide +kernel
theorem dL_law_586 : decode cL_law 586 = .ok (.aload_n 0, 1) := by decide +kernel
theorem dL_law_587 : decode cL_law 587 = .ok (.iload_n 3, 1) := by decide +kernel
theorem dL_law_588 : decode cL_law 588 = .ok (.iconst 3, 1) := by decide +kernel
theorem dL_law_589 : decode cL_law 589 = .ok (.iadd, 1) := by decide +kernel
theorem dL_law_590 : decode cL_law 590 = .ok (.iaload, 1) := by decide +kernel
theorem dL_law_591 : decode cL_law 591 = .ok (.invokevirtual 79, 3) := by decide +kernel
theorem dL_law_594 : decode cL_law 594 = .ok (.if_icmp .eq 233, 3) := by decide +kernel
theorem dL_law_597 : decode cL_law 597 = .ok (.iconst 0, 1) := by decide +kernel
theorem dL_law_598 : decode cL_law 598 = .ok (.ireturn, 1) := by decide +kernel
theorem dL_law_599 : decode cL_law 599 = .ok (.aload_n 1, 1) := by decide +kernel
theorem dL_law_600 : decode cL_law 600 = .ok (.aload_n 0, 1) := by decide +kernel
theorem dL_law_601 : decode cL_law 601 = .ok (.iload_n 3, 1) := by decide +kernel
theorem dL_law_602 : decode cL_law 602 = .ok (.iconst 1, 1) := by decide +kernel
theorem dL_law_603 : decode cL_law 603 = .ok (.iadd, 1) := by decide +kernel
theorem dL_law_604 : decode cL_law 604 = .ok (.iaload, 1) := by decide +kernel
theorem dL_law_605 : decode cL_law 605 = .ok (.invokevirtual 80, 3) := by decide +kernel
theorem dL_law_608 : decode cL_law 608 = .ok (.aload_n 2, 1) := by decide +kernel
theorem dL_law_609 : decode cL_law 609 = .ok (.aload_n 0, 1) := by decide +kernel
theorem dL_law_610 : decode cL_law 610 = .ok (.iload_n 3, 1) := by decide +kernel
theorem dL_law_611 : decode cL_law 611 = .ok (.iconst 1, 1) := by decide +kernel
theorem dL_law_612 : decode cL_law 612 = .ok (.iadd, 1) := by decide +kernel
theorem dL_law_613 : decode cL_law 613 = .ok (.iaload, 1) := by decide +kernel
theorem dL_law_614 : decode cL_law 614 = .ok (.invokevirtual 83, 3) := by decide +kernel
theorem dL_law_617 : decode cL_law 617 = .ok (.if_icmp .eq 210, 3) := by decide +kernel
theorem dL_law_620 : decode cL_law 620 = .ok (.iconst 0, 1) := by decide +kernel
theorem dL_law_621 : decode cL_law 621 = .ok (.ireturn, 1) := by decide +kernel
theorem dL_law_622 : decode cL_law 622 = .ok (.aload_n 1, 1) := by decide +kernel
theorem dL_law_623 : decode cL_law 623 = .ok (.invokevirtual 84, 3) := by decide +kernel
theorem dL_law_626 : decode cL_law 626 = .ok (.aload_n 2, 1) := by decide +kernel
theorem dL_law_627 : decode cL_law 627 = .ok (.invokevirtual 87, 3) := by decide +kernel
theorem dL_law_630 : decode cL_law 630 = .ok (.if_icmp .eq 197, 3) := by decide +kernel
theorem dL_law_633 : decode cL_law 633 = .ok (.iconst 0, 1) := by decide +kernel
theorem dL_law_634 : decode cL_law 634 = .ok (.ireturn, 1) := by decide +kernel
theorem dL_law_635 : decode cL_law 635 = .ok (.aload_n 1, 1) := by decide +kernel
theorem dL_law_636 : decode cL_law 636 = .ok (.aload_n 0, 1) := by decide +kernel
theorem dL_law_637 : decode cL_law 637 = .ok (.iload_n 3, 1) := by decide +kernel
theorem dL_law_638 : decode cL_law 638 = .ok (.iconst 1, 1) := by decide +kernel
theorem dL_law_639 : decode cL_law 639 = .ok (.iadd, 1) := by decide +kernel
theorem dL_law_640 : decode cL_law 640 = .ok (.iaload, 1) := by decide +kernel
theorem dL_law_641 : decode cL_law 641 = .ok (.aload_n 0, 1) := by decide +kernel
theorem dL_law_642 : decode cL_law 642 = .ok (.iload_n 3, 1) := by decide +kernel
theorem dL_law_643 : decode cL_law 643 = .ok (.iconst 2, 1) := by decide +kernel
theorem dL_law_644 : decode cL_law 644 = .ok (.iadd, 1) := by decide +kernel
theorem dL_law_645 : decode cL_law 645 = .ok (.iaload, 1) := by decide +kernel
theorem dL_law_646 : decode cL_law 646 = .ok (.invokevirtual 88, 3) := by decide +kernel
theorem dL_law_649 : decode cL_law 649 = .ok (.aload_n 2, 1) := by decide +kernel
theorem dL_law_650 : decode cL_law 650 = .ok (.aload_n 0, 1) := by decide +kernel
theorem dL_law_651 : decode cL_law 651 = .ok (.iload_n 3, 1) := by decide +kernel
theorem dL_law_652 : decode cL_law 652 = .ok (.iconst 1, 1) := by decide +kernel
theorem dL_law_653 : decode cL_law 653 = .ok (.iadd, 1) := by decide +kernel
theorem dL_law_654 : decode cL_law 654 = .ok (.iaload, 1) := by decide +kernel
theorem dL_law_655 : decode cL_law 655 = .ok (.aload_n 0, 1) := by decide +kernel
theorem dL_law_656 : decode cL_law 656 = .ok (.iload_n 3, 1) := by decide +kernel
theorem dL_law_657 : decode cL_law 657 = .ok (.iconst 2, 1) := by decide +kernel
theorem dL_law_658 : decode cL_law 658 = .ok (.iadd, 1) := by decide +kernel
theorem dL_law_659 : decode cL_law 659 = .ok (.iaload, 1) := by decide +kernel
theorem dL_law_660 : decode cL_law 660 = .ok (.invokevirtual 92, 3) := by decide +kernel
theorem dL_law_663 : decode cL_law 663 = .ok (.lcmp, 1) := by decide +kernel
theorem dL_law_664 : decode cL_law 664 = .ok (.ifCond .eq 163, 3) := by decide +kernel
theorem dL_law_667 : decode cL_law 667 = .ok (.iconst 0, 1) := by decide +kernel
theorem dL_law_668 : decode cL_law 668 = .ok (.ireturn, 1) := by decide +kernel
theorem dL_law_669 : decode cL_law 669 = .ok (.aload_n 1, 1) := by decide +kernel
theorem dL_law_670 : decode cL_law 670 = .ok (.invokevirtual 93, 3) := by decide +kernel
theorem dL_law_673 : decode cL_law 673 = .ok (.aload_n 2, 1) := by decide +kernel
theorem dL_law_674 : decode cL_law 674 = .ok (.invokevirtual 96, 3) := by decide +kernel
theorem dL_law_677 : decode cL_law 677 = .ok (.if_icmp .eq 150, 3) := by decide +kernel
theorem dL_law_680 : decode cL_law 680 = .ok (.iconst 0, 1) := by decide +kernel
theorem dL_law_681 : decode cL_law 681 = .ok (.ireturn, 1) := by decide +kernel
theorem dL_law_682 : decode cL_law 682 = .ok (.aload_n 1, 1) := by decide +kernel
theorem dL_law_683 : decode cL_law 683 = .ok (.aload_n 0, 1) := by decide +kernel
theorem dL_law_684 : decode cL_law 684 = .ok (.iload_n 3, 1) := by decide +kernel
theorem dL_law_685 : decode cL_law 685 = .ok (.iconst 1, 1) := by decide +kernel
theorem dL_law_686 : decode cL_law 686 = .ok (.iadd, 1) := by decide +kernel
theorem dL_law_687 : decode cL_law 687 = .ok (.iaload, 1) := by decide +kernel
theorem dL_law_688 : decode cL_law 688 = .ok (.aload_n 0, 1) := by decide +kernel
theorem dL_law_689 : decode cL_law 689 = .ok (.iload_n 3, 1) := by decide +kernel
theorem dL_law_690 : decode cL_law 690 = .ok (.iconst 2, 1) := by decide +kernel
theorem dL_law_691 : decode cL_law 691 = .ok (.iadd, 1) := by decide +kernel
theorem dL_law_692 : decode cL_law 692 = .ok (.iaload, 1) := by decide +kernel
theorem dL_law_693 : decode cL_law 693 = .ok (.aload_n 0, 1) := by decide +kernel
theorem dL_law_694 : decode cL_law 694 = .ok (.iload_n 3, 1) := by decide +kernel
theorem dL_law_695 : decode cL_law 695 = .ok (.iconst 3, 1) := by decide +kernel
theorem dL_law_696 : decode cL_law 696 = .ok (.iadd, 1) := by decide +kernel
theorem dL_law_697 : decode cL_law 697 = .ok (.iaload, 1) := by decide +kernel
theorem dL_law_698 : decode cL_law 698 = .ok (.invokevirtual 97, 3) := by decide +kernel
theorem dL_law_701 : decode cL_law 701 = .ok (.aload_n 2, 1) := by decide +kernel
theorem dL_law_702 : decode cL_law 702 = .ok (.aload_n 0, 1) := by decide +kernel
theorem dL_law_703 : decode cL_law 703 = .ok (.iload_n 3, 1) := by decide +kernel
theorem dL_law_704 : decode cL_law 704 = .ok (.iconst 1, 1) := by decide +kernel
theorem dL_law_705 : decode cL_law 705 = .ok (.iadd, 1) := by decide +kernel
theorem dL_law_706 : decode cL_law 706 = .ok (.iaload, 1) := by decide +kernel
theorem dL_law_707 : decode cL_law 707 = .ok (.aload_n 0, 1) := by decide +kernel
theorem dL_law_708 : decode cL_law 708 = .ok (.iload_n 3, 1) := by decide +kernel
theorem dL_law_709 : decode cL_law 709 = .ok (.iconst 2, 1) := by decide +kernel
theorem dL_law_710 : decode cL_law 710 = .ok (.iadd, 1) := by decide +kernel
theorem dL_law_711 : decode cL_law 711 = .ok (.iaload, 1) := by decide +kernel
theorem dL_law_712 : decode cL_law 712 = .ok (.aload_n 0, 1) := by decide +kernel
theorem dL_law_713 : decode cL_law 713 = .ok (.iload_n 3, 1) := by decide +kernel
theorem dL_law_714 : decode cL_law 714 = .ok (.iconst 3, 1) := by decide +kernel
theorem dL_law_715 : decode cL_law 715 = .ok (.iadd, 1) := by decide +kernel
theorem dL_law_716 : decode cL_law 716 = .ok (.iaload, 1) := by decide +kernel
theorem dL_law_717 : decode cL_law 717 = .ok (.invokevirtual 100, 3) := by decide +kernel
theorem dL_law_720 : decode cL_law 720 = .ok (.if_icmp .eq 107, 3) := by decide +kernel
theorem dL_law_723 : decode cL_law 723 = .ok (.iconst 0, 1) := by decide +kernel
theorem dL_law_724 : decode cL_law 724 = .ok (.ireturn, 1) := by decide +kernel
theorem dL_law_725 : decode cL_law 725 = .ok (.aload_n 1, 1) := by decide +kernel
theorem dL_law_726 : decode cL_law 726 = .ok (.aload_n 0, 1) := by decide +kernel
theorem dL_law_727 : decode cL_law 727 = .ok (.iload_n 3, 1) := by decide +kernel
theorem dL_law_728 : decode cL_law 728 = .ok (.iconst 1, 1) := by decide +kernel
theorem dL_law_729 : decode cL_law 729 = .ok (.iadd, 1) := by decide +kernel
theorem dL_law_730 : decode cL_law 730 = .ok (.iaload, 1) := by decide +kernel
theorem dL_law_731 : decode cL_law 731 = .ok (.aload_n 0, 1) := by decide +kernel
theorem dL_law_732 : decode cL_law 732 = .ok (.iload_n 3, 1) := by decide +kernel
theorem dL_law_733 : decode cL_law 733 = .ok (.iconst 2, 1) := by decide +kernel
theorem dL_law_734 : decode cL_law 734 = .ok (.iadd, 1) := by decide +kernel
theorem dL_law_735 : decode cL_law 735 = .ok (.iaload, 1) := by decide +kernel
theorem dL_law_736 : decode cL_law 736 = .ok (.aload_n 0, 1) := by decide +kernel
theorem dL_law_737 : decode cL_law 737 = .ok (.iload_n 3, 1) := by decide +kernel
theorem dL_law_738 : decode cL_law 738 = .ok (.iconst 3, 1) := by decide +kernel
theorem dL_law_739 : decode cL_law 739 = .ok (.iadd, 1) := by decide +kernel
theorem dL_law_740 : decode cL_law 740 = .ok (.iaload, 1) := by decide +kernel
theorem dL_law_741 : decode cL_law 741 = .ok (.aload_n 0, 1) := by decide +kernel
theorem dL_law_742 : decode cL_law 742 = .ok (.iload_n 3, 1) := by decide +kernel
theorem dL_law_743 : decode cL_law 743 = .ok (.iconst 4, 1) := by decide +kernel
theorem dL_law_744 : decode cL_law 744 = .ok (.iadd, 1) := by decide +kernel
theorem dL_law_745 : decode cL_law 745 = .ok (.iaload, 1) := by decide +kernel
theorem dL_law_746 : decode cL_law 746 = .ok (.invokevirtual 101, 3) := by decide +kernel
theorem dL_law_749 : decode cL_law 749 = .ok (.aload_n 2, 1) := by decide +kernel
theorem dL_law_750 : decode cL_law 750 = .ok (.aload_n 0, 1) := by decide +kernel
theorem dL_law_751 : decode cL_law 751 = .ok (.iload_n 3, 1) := by decide +kernel
theorem dL_law_752 : decode cL_law 752 = .ok (.iconst 1, 1) := by decide +kernel
theorem dL_law_753 : decode cL_law 753 = .ok (.iadd, 1) := by decide +kernel
theorem dL_law_754 : decode cL_law 754 = .ok (.iaload, 1) := by decide +kernel
theorem dL_law_755 : decode cL_law 755 = .ok (.aload_n 0, 1) := by decide +kernel
theorem dL_law_756 : decode cL_law 756 = .ok (.iload_n 3, 1) := by decide +kernel
theorem dL_law_757 : decode cL_law 757 = .ok (.iconst 2, 1) := by decide +kernel
theorem dL_law_758 : decode cL_law 758 = .ok (.iadd, 1) := by decide +kernel
theorem dL_law_759 : decode cL_law 759 = .ok (.iaload, 1) := by decide +kernel
theorem dL_law_760 : decode cL_law 760 = .ok (.aload_n 0, 1) := by decide +kernel
theorem dL_law_761 : decode cL_law 761 = .ok (.iload_n 3, 1) := by decide +kernel
theorem dL_law_762 : decode cL_law 762 = .ok (.iconst 3, 1) := by decide +kernel
theorem dL_law_763 : decode cL_law 763 = .ok (.iadd, 1) := by decide +kernel
theorem dL_law_764 : decode cL_law 764 = .ok (.iaload, 1) := by decide +kernel
theorem dL_law_765 : decode cL_law 765 = .ok (.aload_n 0, 1) := by decide +kernel
theorem dL_law_766 : decode cL_law 766 = .ok (.iload_n 3, 1) := by decide +kernel
theorem dL_law_767 : decode cL_law 767 = .ok (.iconst 4, 1) := by decide +kernel
theorem dL_law_768 : decode cL_law 768 = .ok (.iadd, 1) := by decide +kernel
theorem dL_law_769 : decode cL_law 769 = .ok (.iaload, 1) := by decide +kernel
theorem dL_law_770 : decode cL_law 770 = .ok (.invokevirtual 105, 3) := by decide +kernel
theorem dL_law_773 : decode cL_law 773 = .ok (.if_icmp .eq 54, 3) := by decide +kernel
theorem dL_law_776 : decode cL_law 776 = .ok (.iconst 0, 1) := by decide +kernel
theorem dL_law_777 : decode cL_law 777 = .ok (.ireturn, 1) := by decide +kernel
theorem dL_law_778 : decode cL_law 778 = .ok (.aload_n 1, 1) := by decide +kernel
theorem dL_law_779 : decode cL_law 779 = .ok (.invokevirtual 106, 3) := by decide +kernel
theorem dL_law_782 : decode cL_law 782 = .ok (.aload_n 2, 1) := by decide +kernel
theorem dL_law_783 : decode cL_law 783 = .ok (.invokevirtual 109, 3) := by decide +kernel
theorem dL_law_786 : decode cL_law 786 = .ok (.if_icmp .eq 41, 3) := by decide +kernel
theorem dL_law_789 : decode cL_law 789 = .ok (.iconst 0, 1) := by decide +kernel
theorem dL_law_790 : decode cL_law 790 = .ok (.ireturn, 1) := by decide +kernel
theorem dL_law_791 : decode cL_law 791 = .ok (.aload_n 1, 1) := by decide +kernel
theorem dL_law_792 : decode cL_law 792 = .ok (.invokevirtual 110, 3) := by decide +kernel
theorem dL_law_795 : decode cL_law 795 = .ok (.aload_n 2, 1) := by decide +kernel
theorem dL_law_796 : decode cL_law 796 = .ok (.invokevirtual 113, 3) := by decide +kernel
theorem dL_law_799 : decode cL_law 799 = .ok (.if_icmp .eq 28, 3) := by decide +kernel
theorem dL_law_802 : decode cL_law 802 = .ok (.iconst 0, 1) := by decide +kernel
theorem dL_law_803 : decode cL_law 803 = .ok (.ireturn, 1) := by decide +kernel
theorem dL_law_804 : decode cL_law 804 = .ok (.aload_n 1, 1) := by decide +kernel
theorem dL_law_805 : decode cL_law 805 = .ok (.aload_n 0, 1) := by decide +kernel
theorem dL_law_806 : decode cL_law 806 = .ok (.iload_n 3, 1) := by decide +kernel
theorem dL_law_807 : decode cL_law 807 = .ok (.iconst 1, 1) := by decide +kernel
theorem dL_law_808 : decode cL_law 808 = .ok (.iadd, 1) := by decide +kernel
theorem dL_law_809 : decode cL_law 809 = .ok (.iaload, 1) := by decide +kernel
theorem dL_law_810 : decode cL_law 810 = .ok (.invokevirtual 114, 3) := by decide +kernel
theorem dL_law_813 : decode cL_law 813 = .ok (.aload_n 2, 1) := by decide +kernel
theorem dL_law_814 : decode cL_law 814 = .ok (.aload_n 0, 1) := by decide +kernel
theorem dL_law_815 : decode cL_law 815 = .ok (.iload_n 3, 1) := by decide +kernel
theorem dL_law_816 : decode cL_law 816 = .ok (.iconst 1, 1) := by decide +kernel
theorem dL_law_817 : decode cL_law 817 = .ok (.iadd, 1) := by decide +kernel
theorem dL_law_818 : decode cL_law 818 = .ok (.iaload, 1) := by decide +kernel
theorem dL_law_819 : decode cL_law 819 = .ok (.invokevirtual 117, 3) := by decide +kernel
theorem dL_law_822 : decode cL_law 822 = .ok (.if_icmp .eq 5, 3) := by decide +kernel
theorem dL_law_825 : decode cL_law 825 = .ok (.iconst 0, 1) := by decide +kernel
theorem dL_law_826 : decode cL_law 826 = .ok (.ireturn, 1) := by decide +kernel
theorem dL_law_827 : decode cL_law 827 = .ok (.iinc 3 5, 3) := by decide +kernel
theorem dL_law_830 : decode cL_law 830 = .ok (.goto (-812), 3) := by decide +kernel
theorem dL_law_833 : decode cL_law 833 = .ok (.iconst 1, 1) := by decide +kernel
theorem dL_law_834 : decode cL_law 834 = .ok (.ireturn, 1) := by decide +kernel
end
section
/-! The pure world: cells by number (cell k lies at base + k; cell 1000 is the static row FIRST_NAME), and a walk over it. -/
abbrev Ce : Type := (Nat × Nat × (Nat → Int32)) ⊕ (Nat × List Value)
abbrev Wd : Type := Nat → Ce
/-- launch; class numbers and slots; the classes of int[], boolean[], byte[]; where the world begins; the static row -/
abbrev Gx : Type := Launch × va_G × (Nat → ClassId) × Nat × Nat
def gA (g : Gx) : Nat → Prop := fun q => g.2.2.2.1 ≤ q
def ad (g : Gx) (k : Nat) : Nat := if k = 1000 then g.2.2.2.2 else g.2.2.2.1 + k
def tr (g : Gx) (v : Value) : Value := match v with
  | .ref k => .ref (ad g k)
  | v => v
def ce (g : Gx) (c : Ce) : va_E := match c with
  | .inl (t, n, f) => .inl (g.2.2.1 t, n, .inl f)
  | .inr (c, fs) => .inr (c, fs.map (tr g))
abbrev ob (c : Nat) (fs : List Value) : Ce := .inr (c, fs)
abbrev ar (t n : Nat) (f : Nat → Int32) : Ce := .inl (t, n, f)
abbrev cls_ : List vw_C := [(RX0, TX0, 2), (RX1, TX1, 13), (RX2, TX2, 9), (RX3, TX3, 2), (RX4, TX4, 4), (RX5, TX5, 4), (RX6, TX6, 9), (RX7, TX7, 26)]
def tyl (g : Gx) : List (ClassId × FieldType) := [(g.2.2.1 0, .int), (g.2.2.1 1, .boolean), (g.2.2.1 2, .byte)]
def TS : List Cond := lw_tbl.filter goodWord
theorem ts_of {w : Cond} (h : w ∈ lw_tbl) (hg : goodWord w = true) : w ∈ TS := List.mem_filter.mpr ⟨h, hg⟩
theorem ts_good : ∀ w ∈ TS, goodWord w = true := fun _ h => (List.mem_filter.mp h).2
theorem ts_lw {w : Cond} (h : w ∈ TS) : w ∈ lw_tbl := (List.mem_filter.mp h).1
theorem ts_goodIn {w : Cond} (h : w ∈ TS) : GoodIn TS (w :: TS) := fun v hv => by
  rcases List.mem_cons.mp hv with rfl | hv
  · exact ⟨h, good_of_word (ts_good _ h)⟩
  · exact ⟨hv, good_of_word (ts_good _ hv)⟩
def nests : List Cond := [.methodLinkNest "DeedNames" 9 ⟨"DeedNames$Scroll", "<init>", "()V"⟩ "DeedNames", .methodLinkNest "DeedNames$Hill" 11 ⟨"DeedNames$Names", "<init>", "()V"⟩ "DeedNames", .methodLinkNest "DeedNames" 28 ⟨"DeedNames$Memory", "<init>", "()V"⟩ "DeedNames", .methodLinkNest "DeedNames$Memory" 9 ⟨"DeedNames$Names", "<init>", "()V"⟩ "DeedNames", .methodLinkNest "DeedNames$Memory" 18 ⟨"DeedNames$Ear", "<init>", "()V"⟩ "DeedNames", .methodLinkNest "DeedNames" 45 ⟨"DeedNames$Herald", "<init>", "()V"⟩ "DeedNames", .methodLinkNest "DeedNames" 52 ⟨"DeedNames$Names", "<init>", "()V"⟩ "DeedNames", .methodLinkNest "DeedNames$Hill" 51 ⟨"DeedNames", "within", "(III)Z"⟩ "DeedNames", .methodLinkNest "DeedNames$Names" 31 ⟨"DeedNames", "within", "(III)Z"⟩ "DeedNames", .methodLinkNest "DeedNames$Scroll" 87 ⟨"DeedNames", "within", "(III)Z"⟩ "DeedNames", .methodLinkNest "DeedNames$Herald" 84 ⟨"DeedNames", "isOf", "(II)Z"⟩ "DeedNames", .methodLinkNest "DeedNames$Herald" 80 ⟨"DeedNames", "within", "(III)Z"⟩ "DeedNames", .methodLinkNest "DeedNames$Names" 68 ⟨"DeedNames", "isOf", "(II)Z"⟩ "DeedNames"]
/-- what stands at numbers where no cell is -/
def dead : Ce := .inl (7, 0, fun _ => 0)
def HW (g : Gx) (n : Nat) (w : Wd) (H : Heap) : Prop := n ≤ 100 ∧ H.size = g.2.2.2.1 + n ∧ (∀ k, k < n → va_at g.2.1 cls_ (g.2.2.2.1 + k, ce g (w k)) H) ∧ ∀ k, n ≤ k → w k = dead
def KK (g : Gx) (U : State) : Prop := va_K g.2.1 cls_ (tyl g) U ∧ (∀ w ∈ nests, va_Nw w U) ∧ va_T .int g.2.2.2.2 2 (fun j => .int (nI j)) (gA g) U U.heap
def pc_ (g : Gx) (n : Nat) (w : Wd) (av : List Value) : Array Value → State → Prop := fun v U => v = (av.map (tr g)).toArray ∧ HW g n w U.heap ∧ KK g U
def qc_ (g : Gx) (n' : Nat) (Post : Option Value → Wd → Prop) : Array Value → State → Outcome → State → Prop := fun _ st oc t => (∃ (r : Option Value) (w' : Wd), oc = .returned (r.map (tr g)) ∧ Post r w' ∧ HW g n' w' t.heap) ∧ va_F (gA g) st t
/-- the contract of a method: called with these values in this world of n cells it returns, with Post of its answer and of the world of n' cells behind it -/
def CT (g : Gx) (y : MethodName) (cc : ByteArray) (mL : Nat) (rt : Option FieldType) (rm : Room) (n n' : Nat) (w : Wd) (av : List Value) (Post : Option Value → Wd → Prop) : Prop :=
  Met g.1 y (Cond.code y cc mL rt :: TS) rm (pc_ g n w av) (qc_ g n' Post) rm.cells rm.slots (gA g)
/-- what stands over a method's walk -/
abbrev Cx : Type := Program × Env × Room × State × MethodId × Array Value × List Frame × Method × Code × (State → Prop)
def lvl (g : Gx) (L : List (Option Value)) : List (Nat × Value) := (List.range L.length).filterMap (fun j => match L[j]? with
  | some (some v) => some (j, tr g v)
  | _ => none)
theorem mem_lvl {g : Gx} {L : List (Option Value)} {q : Nat × Value} : q ∈ lvl g L ↔ ∃ v, L[q.1]? = some (some v) ∧ q.2 = tr g v := by
  unfold lvl
  rw [List.mem_filterMap]
  constructor
  · rintro ⟨j, -, hj⟩
    split at hj
    · rename_i v hv
      cases hj
      exact ⟨v, hv, rfl⟩
    · cases hj
  · rintro ⟨v, hv, hq⟩
    refine ⟨q.1, ?_, ?_⟩
    · rw [List.mem_range]
      exact (List.getElem?_eq_some_iff.mp hv).1
    · rw [hv]
      show some (q.1, tr g v) = some q
      rw [← hq]
def WW (g : Gx) (x : Cx) (nL cs ss n : Nat) (w : Wd) (pc : Nat) (L : List (Option Value)) (st : List Value) : Prop :=
  ∀ (H : Heap) (locs : List Loc) (ls : Array Slot), HW g n w H → va_S (gA g) x.2.2.2.1.heap H locs → lv_has ls nL (lvl g L) →
    W x.1 g.1 x.2.1 x.2.2.1 x.2.2.2.1 x.2.2.2.2.1 x.2.2.2.2.2.1 x.2.2.2.2.2.2.1 x.2.2.2.2.2.2.2.1 x.2.2.2.2.2.2.2.2.1 H locs cs ss x.2.2.2.2.2.2.2.2.2 (F0 x.2.2.2.2.1 pc ls (st.map (tr g)))
/-- the facts over a walk -/
def Ck (g : Gx) (x : Cx) (cc : ByteArray) (nL : Nat) (own : String) (rt : Option FieldType) (rm : Room) (n' : Nat) (Post : Option Value → Wd → Prop) : Prop :=
  match x with
  | (p, e, R, s, m, args, below, meth, c, Q) => p.tables.exec = Jvm.exec ∧ c.code = cc ∧ c.maxLocals = nL ∧ meth.sig.returnType = rt ∧ meth.locks = false ∧ s.vm.findClass own = some m.cls ∧ (∀ w ∈ TS, w.before args s = true) ∧ KK g s ∧ R = rm ∧ g.2.2.2.1 ≤ s.heap.size ∧ Q = MQ below (qc_ g n' Post) args s rm.cells rm.slots (gA g)
def entL : List Value → List (Option Value)
  | [] => []
  | v :: t => if v.category = 2 then some v :: none :: entL t else some v :: entL t
theorem tr_cat (g : Gx) (v : Value) : (tr g v).category = v.category := by cases v <;> rfl
theorem ad_lt (g : Gx) {k : Nat} (h : k < 100) : ad g k = g.2.2.2.1 + k := if_neg (by omega)
theorem KK.moved {g : Gx} {u U : State} (hW : u.WarmedH U.vm) (hh : ∀ q, q < u.heap.size → ¬ gA g q → U.heap[q]? = u.heap[q]?) (h : KK g u) : KK g U := by
  obtain ⟨h1, h2, h3⟩ := h
  refine ⟨va_K.moved hW.alike h1, fun w hw => ?_, (va_T.moved hW.alike h3).kept hh⟩
  obtain ⟨i, y, hm⟩ : ∃ (q : String × Nat × String) (y : MethodName), w = .methodLinkNest q.1 q.2.1 y q.2.2 := by
    simp only [nests, List.mem_cons, List.not_mem_nil, or_false] at hw
    rcases hw with h | h | h | h | h | h | h | h | h | h | h | h | h <;> exact ⟨(_, _, _), _, h⟩
  have := h2 w hw
  rw [hm] at this ⊢
  exact va_Nw.warmM hW this
theorem pc_blind {g : Gx} {n : Nat} {w : Wd} {av : List Value} : FrameBlind (pc_ g n w av) := by
  intro a U fr mk ⟨h1, h2, h3, h4, h5⟩
  refine ⟨h1, h2, va_K.moved (u := U) (U := U.calling fr mk a) (Vm.Alike.refl U.vm) h3, fun v hv => ?_, va_T.moved (u := U) (U := U.calling fr mk a) (Vm.Alike.refl U.vm) h5⟩
  exact va_Nw.same (u := U) (by simp only [nests, List.mem_cons, List.not_mem_nil, or_false] at hv; rcases hv with h | h | h | h | h | h | h | h | h | h | h | h | h <;> (rw [h]; rfl)) rfl (h4 v hv)
theorem lv_args_ent (g : Gx) : ∀ (av : List Value) (i : Nat) (q : Nat × Value), (∃ v, (entL av)[q.1]? = some (some v) ∧ q.2 = tr g v) → (i + q.1, q.2) ∈ lv_args i (av.map (tr g))
  | [], i, q, ⟨v, hv, _⟩ => by simp [entL] at hv
  | v :: t, i, q, ⟨u, hu, hq⟩ => by
    unfold entL at hu
    simp only [List.map_cons, lv_args, tr_cat]
    by_cases hc : v.category = 2
    · rw [if_pos hc] at hu
      rw [if_pos hc]
      obtain ⟨j, z⟩ := q
      match j, hu with
      | 0, hu =>
        simp only [List.getElem?_cons_zero, Option.some.injEq] at hu
        subst hu
        simp at hq
        simp [hq]
      | 1, hu => simp at hu
      | j + 2, hu =>
        have := lv_args_ent g t (i + 2) (j, z) ⟨u, by simpa using hu, hq⟩
        refine List.mem_cons_of_mem _ ?_
        have e : i + (j + 2) = i + 2 + j := by omega
        rw [e]
        exact this
    · rw [if_neg hc] at hu
      rw [if_neg hc]
      obtain ⟨j, z⟩ := q
      match j, hu with
      | 0, hu =>
        simp only [List.getElem?_cons_zero, Option.some.injEq] at hu
        subst hu
        simp at hq
        simp [hq]
      | j + 1, hu =>
        have := lv_args_ent g t (i + 1) (j, z) ⟨u, by simpa using hu, hq⟩
        refine List.mem_cons_of_mem _ ?_
        have e : i + (j + 1) = i + 1 + j := by omega
        rw [e]
        exact this
theorem lg_sl_len (g : Gx) : ∀ av : List Value, (lg_sl (av.map (tr g))).length = (entL av).length
  | [] => rfl
  | v :: t => by
    have ih := lg_sl_len g t
    unfold entL
    by_cases hc : v.category = 2
    · rw [if_pos hc]
      have ih' : (List.map ((fun a => (if a.category = 2 then [Slot.val a, Slot.second] else [Slot.val a]).length) ∘ tr g) t).sum = (entL t).length := by simpa [lg_sl] using ih
      simp [lg_sl, tr_cat, hc, ih']
    · rw [if_neg hc]
      have ih' : (List.map ((fun a => (if a.category = 2 then [Slot.val a, Slot.second] else [Slot.val a]).length) ∘ tr g) t).sum = (entL t).length := by simpa [lg_sl] using ih
      simp [lg_sl, tr_cat, hc, ih']
/-- a method's contract out of its walk -/
theorem CT.start {g : Gx} {y : MethodName} {cc : ByteArray} {mL : Nat} {rt : Option FieldType} {rm : Room} {n n' : Nat} {w : Wd} {av : List Value} {Post : Option Value → Wd → Prop} (L : List (Option Value)) (hy : plainName y.cls = true) (hL : entL av ++ List.replicate (mL - (entL av).length) none = L) (hl : (entL av).length ≤ mL)
    (body : ∀ x : Cx, Ck g x cc mL y.cls rt rm n' Post → x.2.2.2.2.2.2.2.1.name = y.name → WW g x mL 0 0 n w 0 L []) : CT g y cc mL rt rm n n' w av Post := by
  refine Met.ofW (cc := cc) (maxL := mL) (ret := rt) hy rfl ?_
  intro p e s m args below meth c s₁ B hml hv
  obtain ⟨rfl, hH, hK⟩ := hv
  have hts := atoms_spec (ws := Cond.code y cc mL rt :: TS) B.pre
  have hbody := body (p, e, rm, s, m, (av.map (tr g)).toArray, below, meth, c, MQ below (qc_ g n' Post) (av.map (tr g)).toArray s rm.cells rm.slots (gA g)) ⟨B.exec, B.bytes, hml, B.returns, B.notSynchronized, findClass_of_methodNamed B.named, fun w hw => hts w (List.mem_cons_of_mem _ hw), hK, rfl, by rw [hH.2.1]; exact Nat.le_add_right _ _, rfl⟩ (name_of_methodNamed B.named B.method).1
  have hl0 := lv_entry (av.map (tr g)) (n := mL) (by rw [lg_sl_len]; exact hl)
  rw [lg_entry_eq]
  refine hbody s.heap [] _ hH va_S.rf ⟨hl0.1, hl0.2.1, fun q hq => hl0.2.2 q ?_⟩
  obtain ⟨v, hv, hq2⟩ := mem_lvl.mp hq
  have hlt : (entL av)[q.1]? = some (some v) := by
    rw [← hL] at hv
    by_cases hi : q.1 < (entL av).length
    · rw [List.getElem?_append_left hi] at hv
      exact hv
    · rw [List.getElem?_append_right (by omega)] at hv
      have := List.mem_of_getElem? hv
      simp at this
  have := lv_args_ent g av 0 q ⟨v, hlt, hq2⟩
  rwa [Nat.zero_add] at this
end
section
section ROWS
variable {g : Gx} {x : Cx} {cc : ByteArray} {nL : Nat} {own : String} {rt : Option FieldType} {rm : Room} {n' : Nat} {Post : Option Value → Wd → Prop} {cs ss n : Nat} {w : Wd} {pc : Nat} {L : List (Option Value)} {st : List Value}
theorem ww_iconst (C : Ck g x cc nL own rt rm n' Post) {z : Int} {v : Int32} (hd : decode cc pc = .ok (.iconst z, 1)) (hv : Int32.ofInt z = v) (k : WW g x nL cs ss n w (pc + 1) L (.int v :: st)) : WW g x nL cs ss n w pc L st := by
  obtain ⟨p, e, R, s, m, args, below, meth, c, Q⟩ := x
  obtain ⟨hx, hb, hml, hr, hlk, hown, hts, hK, hR, hbs, hQ⟩ := C
  intro H locs ls hH hS hl
  exact lv_iconst hx hb hd hv (k H locs ls hH hS hl)
theorem ww_bipush (C : Ck g x cc nL own rt rm n' Post) {z : Int} {v : Int32} (hd : decode cc pc = .ok (.bipush z, 2)) (hv : (Int8.ofInt z).toInt32 = v) (k : WW g x nL cs ss n w (pc + 2) L (.int v :: st)) : WW g x nL cs ss n w pc L st := by
  obtain ⟨p, e, R, s, m, args, below, meth, c, Q⟩ := x
  obtain ⟨hx, hb, hml, hr, hlk, hown, hts, hK, hR, hbs, hQ⟩ := C
  intro H locs ls hH hS hl
  exact lv_bipush hx hb hd hv (k H locs ls hH hS hl)
theorem ww_sipush (C : Ck g x cc nL own rt rm n' Post) {z : Int} {v : Int32} (hd : decode cc pc = .ok (.sipush z, 3)) (hv : (Int16.ofInt z).toInt32 = v) (k : WW g x nL cs ss n w (pc + 3) L (.int v :: st)) : WW g x nL cs ss n w pc L st := by
  obtain ⟨p, e, R, s, m, args, below, meth, c, Q⟩ := x
  obtain ⟨hx, hb, hml, hr, hlk, hown, hts, hK, hR, hbs, hQ⟩ := C
  intro H locs ls hH hS hl
  exact lv_sipush hx hb hd hv (k H locs ls hH hS hl)
theorem ww_lconst (C : Ck g x cc nL own rt rm n' Post) {z : Fin 2} {v : Int64} (hd : decode cc pc = .ok (.lconst z, 1)) (hv : Int64.ofNat (z : Nat) = v) (k : WW g x nL cs ss n w (pc + 1) L (.long v :: st)) : WW g x nL cs ss n w pc L st := by
  obtain ⟨p, e, R, s, m, args, below, meth, c, Q⟩ := x
  obtain ⟨hx, hb, hml, hr, hlk, hown, hts, hK, hR, hbs, hQ⟩ := C
  intro H locs ls hH hS hl
  exact lv_lconst hx hb hd hv (k H locs ls hH hS hl)
theorem ww_ldc2 (C : Ck g x cc nL own rt rm n' Post) {i : Nat} {v : Int64} (hc : Cond.constantLong own i v ∈ TS) (hd : decode cc pc = .ok (.ldc2_w i, 3)) (k : WW g x nL cs ss n w (pc + 3) L (.long v :: st)) : WW g x nL cs ss n w pc L st := by
  obtain ⟨p, e, R, s, m, args, below, meth, c, Q⟩ := x
  obtain ⟨hx, hb, hml, hr, hlk, hown, hts, hK, hR, hbs, hQ⟩ := C
  intro H locs ls hH hS hl
  exact lv_ldc2 hx hb hown (hts _ hc) hd (k H locs ls hH hS hl)
theorem ww_ldcw (C : Ck g x cc nL own rt rm n' Post) {i : Nat} {v : Int32} (hc : Cond.constant own i v ∈ TS) (hd : decode cc pc = .ok (.ldc_w i, 3)) (k : WW g x nL cs ss n w (pc + 3) L (.int v :: st)) : WW g x nL cs ss n w pc L st := by
  obtain ⟨p, e, R, s, m, args, below, meth, c, Q⟩ := x
  obtain ⟨hx, hb, hml, hr, hlk, hown, hts, hK, hR, hbs, hQ⟩ := C
  intro H locs ls hH hS hl
  exact lv_ldcw hx hb hown (hts _ hc) hd (k H locs ls hH hS hl)
theorem ww_iadd (C : Ck g x cc nL own rt rm n' Post) {a b : Int32} (hd : decode cc pc = .ok (.iadd, 1)) (k : WW g x nL cs ss n w (pc + 1) L (.int (a + b) :: st)) : WW g x nL cs ss n w pc L (.int b :: .int a :: st) := by
  obtain ⟨p, e, R, s, m, args, below, meth, c, Q⟩ := x
  obtain ⟨hx, hb, hml, hr, hlk, hown, hts, hK, hR, hbs, hQ⟩ := C
  intro H locs ls hH hS hl
  exact lv_iadd hx hb hd (k H locs ls hH hS hl)
theorem ww_isub (C : Ck g x cc nL own rt rm n' Post) {a b : Int32} (hd : decode cc pc = .ok (.isub, 1)) (k : WW g x nL cs ss n w (pc + 1) L (.int (a - b) :: st)) : WW g x nL cs ss n w pc L (.int b :: .int a :: st) := by
  obtain ⟨p, e, R, s, m, args, below, meth, c, Q⟩ := x
  obtain ⟨hx, hb, hml, hr, hlk, hown, hts, hK, hR, hbs, hQ⟩ := C
  intro H locs ls hH hS hl
  exact lv_isub hx hb hd (k H locs ls hH hS hl)
theorem ww_imul (C : Ck g x cc nL own rt rm n' Post) {a b : Int32} (hd : decode cc pc = .ok (.imul, 1)) (k : WW g x nL cs ss n w (pc + 1) L (.int (a * b) :: st)) : WW g x nL cs ss n w pc L (.int b :: .int a :: st) := by
  obtain ⟨p, e, R, s, m, args, below, meth, c, Q⟩ := x
  obtain ⟨hx, hb, hml, hr, hlk, hown, hts, hK, hR, hbs, hQ⟩ := C
  intro H locs ls hH hS hl
  exact lv_imul hx hb hd (k H locs ls hH hS hl)
theorem ww_iand (C : Ck g x cc nL own rt rm n' Post) {a b : Int32} (hd : decode cc pc = .ok (.iand, 1)) (k : WW g x nL cs ss n w (pc + 1) L (.int (a &&& b) :: st)) : WW g x nL cs ss n w pc L (.int b :: .int a :: st) := by
  obtain ⟨p, e, R, s, m, args, below, meth, c, Q⟩ := x
  obtain ⟨hx, hb, hml, hr, hlk, hown, hts, hK, hR, hbs, hQ⟩ := C
  intro H locs ls hH hS hl
  exact lv_iand hx hb hd (k H locs ls hH hS hl)
theorem ww_ior (C : Ck g x cc nL own rt rm n' Post) {a b : Int32} (hd : decode cc pc = .ok (.ior, 1)) (k : WW g x nL cs ss n w (pc + 1) L (.int (a ||| b) :: st)) : WW g x nL cs ss n w pc L (.int b :: .int a :: st) := by
  obtain ⟨p, e, R, s, m, args, below, meth, c, Q⟩ := x
  obtain ⟨hx, hb, hml, hr, hlk, hown, hts, hK, hR, hbs, hQ⟩ := C
  intro H locs ls hH hS hl
  exact lv_ior hx hb hd (k H locs ls hH hS hl)
theorem ww_ixor (C : Ck g x cc nL own rt rm n' Post) {a b : Int32} (hd : decode cc pc = .ok (.ixor, 1)) (k : WW g x nL cs ss n w (pc + 1) L (.int (a ^^^ b) :: st)) : WW g x nL cs ss n w pc L (.int b :: .int a :: st) := by
  obtain ⟨p, e, R, s, m, args, below, meth, c, Q⟩ := x
  obtain ⟨hx, hb, hml, hr, hlk, hown, hts, hK, hR, hbs, hQ⟩ := C
  intro H locs ls hH hS hl
  exact lv_ixor hx hb hd (k H locs ls hH hS hl)
theorem ww_ishl (C : Ck g x cc nL own rt rm n' Post) {a b : Int32} (hd : decode cc pc = .ok (.ishl, 1)) (k : WW g x nL cs ss n w (pc + 1) L (.int (a <<< (b &&& 31)) :: st)) : WW g x nL cs ss n w pc L (.int b :: .int a :: st) := by
  obtain ⟨p, e, R, s, m, args, below, meth, c, Q⟩ := x
  obtain ⟨hx, hb, hml, hr, hlk, hown, hts, hK, hR, hbs, hQ⟩ := C
  intro H locs ls hH hS hl
  exact lv_ishl hx hb hd (k H locs ls hH hS hl)
theorem ww_ishr (C : Ck g x cc nL own rt rm n' Post) {a b : Int32} (hd : decode cc pc = .ok (.ishr, 1)) (k : WW g x nL cs ss n w (pc + 1) L (.int (a >>> (b &&& 31)) :: st)) : WW g x nL cs ss n w pc L (.int b :: .int a :: st) := by
  obtain ⟨p, e, R, s, m, args, below, meth, c, Q⟩ := x
  obtain ⟨hx, hb, hml, hr, hlk, hown, hts, hK, hR, hbs, hQ⟩ := C
  intro H locs ls hH hS hl
  exact lv_ishr hx hb hd (k H locs ls hH hS hl)
theorem ww_idiv (C : Ck g x cc nL own rt rm n' Post) {a b : Int32} (hd : decode cc pc = .ok (.idiv, 1)) (hne : ¬ b = 0) (k : WW g x nL cs ss n w (pc + 1) L (.int (a / b) :: st)) : WW g x nL cs ss n w pc L (.int b :: .int a :: st) := by
  obtain ⟨p, e, R, s, m, args, below, meth, c, Q⟩ := x
  obtain ⟨hx, hb, hml, hr, hlk, hown, hts, hK, hR, hbs, hQ⟩ := C
  intro H locs ls hH hS hl
  exact lv_idiv hx hb hd hne (k H locs ls hH hS hl)
theorem ww_irem (C : Ck g x cc nL own rt rm n' Post) {a b : Int32} (hd : decode cc pc = .ok (.irem, 1)) (hne : ¬ b = 0) (k : WW g x nL cs ss n w (pc + 1) L (.int (a - a / b * b) :: st)) : WW g x nL cs ss n w pc L (.int b :: .int a :: st) := by
  obtain ⟨p, e, R, s, m, args, below, meth, c, Q⟩ := x
  obtain ⟨hx, hb, hml, hr, hlk, hown, hts, hK, hR, hbs, hQ⟩ := C
  intro H locs ls hH hS hl
  exact lv_irem hx hb hd hne (k H locs ls hH hS hl)
theorem ww_ladd (C : Ck g x cc nL own rt rm n' Post) {a b : Int64} (hd : decode cc pc = .ok (.ladd, 1)) (k : WW g x nL cs ss n w (pc + 1) L (.long (a + b) :: st)) : WW g x nL cs ss n w pc L (.long b :: .long a :: st) := by
  obtain ⟨p, e, R, s, m, args, below, meth, c, Q⟩ := x
  obtain ⟨hx, hb, hml, hr, hlk, hown, hts, hK, hR, hbs, hQ⟩ := C
  intro H locs ls hH hS hl
  exact lv_ladd hx hb hd (k H locs ls hH hS hl)
theorem ww_lsub (C : Ck g x cc nL own rt rm n' Post) {a b : Int64} (hd : decode cc pc = .ok (.lsub, 1)) (k : WW g x nL cs ss n w (pc + 1) L (.long (a - b) :: st)) : WW g x nL cs ss n w pc L (.long b :: .long a :: st) := by
  obtain ⟨p, e, R, s, m, args, below, meth, c, Q⟩ := x
  obtain ⟨hx, hb, hml, hr, hlk, hown, hts, hK, hR, hbs, hQ⟩ := C
  intro H locs ls hH hS hl
  exact lv_lsub hx hb hd (k H locs ls hH hS hl)
theorem ww_lmul (C : Ck g x cc nL own rt rm n' Post) {a b : Int64} (hd : decode cc pc = .ok (.lmul, 1)) (k : WW g x nL cs ss n w (pc + 1) L (.long (a * b) :: st)) : WW g x nL cs ss n w pc L (.long b :: .long a :: st) := by
  obtain ⟨p, e, R, s, m, args, below, meth, c, Q⟩ := x
  obtain ⟨hx, hb, hml, hr, hlk, hown, hts, hK, hR, hbs, hQ⟩ := C
  intro H locs ls hH hS hl
  exact lv_lmul hx hb hd (k H locs ls hH hS hl)
theorem ww_land (C : Ck g x cc nL own rt rm n' Post) {a b : Int64} (hd : decode cc pc = .ok (.land, 1)) (k : WW g x nL cs ss n w (pc + 1) L (.long (a &&& b) :: st)) : WW g x nL cs ss n w pc L (.long b :: .long a :: st) := by
  obtain ⟨p, e, R, s, m, args, below, meth, c, Q⟩ := x
  obtain ⟨hx, hb, hml, hr, hlk, hown, hts, hK, hR, hbs, hQ⟩ := C
  intro H locs ls hH hS hl
  exact lv_land hx hb hd (k H locs ls hH hS hl)
theorem ww_lor (C : Ck g x cc nL own rt rm n' Post) {a b : Int64} (hd : decode cc pc = .ok (.lor, 1)) (k : WW g x nL cs ss n w (pc + 1) L (.long (a ||| b) :: st)) : WW g x nL cs ss n w pc L (.long b :: .long a :: st) := by
  obtain ⟨p, e, R, s, m, args, below, meth, c, Q⟩ := x
  obtain ⟨hx, hb, hml, hr, hlk, hown, hts, hK, hR, hbs, hQ⟩ := C
  intro H locs ls hH hS hl
  exact lv_lor hx hb hd (k H locs ls hH hS hl)
theorem ww_ldiv (C : Ck g x cc nL own rt rm n' Post) {a b : Int64} (hd : decode cc pc = .ok (.ldiv, 1)) (hne : ¬ b = 0) (k : WW g x nL cs ss n w (pc + 1) L (.long (a / b) :: st)) : WW g x nL cs ss n w pc L (.long b :: .long a :: st) := by
  obtain ⟨p, e, R, s, m, args, below, meth, c, Q⟩ := x
  obtain ⟨hx, hb, hml, hr, hlk, hown, hts, hK, hR, hbs, hQ⟩ := C
  intro H locs ls hH hS hl
  exact lv_ldiv hx hb hd hne (k H locs ls hH hS hl)
theorem ww_lrem (C : Ck g x cc nL own rt rm n' Post) {a b : Int64} (hd : decode cc pc = .ok (.lrem, 1)) (hne : ¬ b = 0) (k : WW g x nL cs ss n w (pc + 1) L (.long (a - a / b * b) :: st)) : WW g x nL cs ss n w pc L (.long b :: .long a :: st) := by
  obtain ⟨p, e, R, s, m, args, below, meth, c, Q⟩ := x
  obtain ⟨hx, hb, hml, hr, hlk, hown, hts, hK, hR, hbs, hQ⟩ := C
  intro H locs ls hH hS hl
  exact lv_lrem hx hb hd hne (k H locs ls hH hS hl)
theorem ww_lcmp (C : Ck g x cc nL own rt rm n' Post) {a b : Int64} (hd : decode cc pc = .ok (.lcmp, 1)) (k : WW g x nL cs ss n w (pc + 1) L (.int (lg_cmp a b) :: st)) : WW g x nL cs ss n w pc L (.long b :: .long a :: st) := by
  obtain ⟨p, e, R, s, m, args, below, meth, c, Q⟩ := x
  obtain ⟨hx, hb, hml, hr, hlk, hown, hts, hK, hR, hbs, hQ⟩ := C
  intro H locs ls hH hS hl
  exact W.lcmp hx hb hd (k H locs ls hH hS hl)
theorem ww_lshl (C : Ck g x cc nL own rt rm n' Post) {a : Int64} {b : Int32} (hd : decode cc pc = .ok (.lshl, 1)) (k : WW g x nL cs ss n w (pc + 1) L (.long (a <<< (b.toInt64 &&& 63)) :: st)) : WW g x nL cs ss n w pc L (.int b :: .long a :: st) := by
  obtain ⟨p, e, R, s, m, args, below, meth, c, Q⟩ := x
  obtain ⟨hx, hb, hml, hr, hlk, hown, hts, hK, hR, hbs, hQ⟩ := C
  intro H locs ls hH hS hl
  exact lv_lshl hx hb hd rfl (k H locs ls hH hS hl)
theorem ww_lshr (C : Ck g x cc nL own rt rm n' Post) {a : Int64} {b : Int32} (hd : decode cc pc = .ok (.lshr, 1)) (k : WW g x nL cs ss n w (pc + 1) L (.long (a >>> (b.toInt64 &&& 63)) :: st)) : WW g x nL cs ss n w pc L (.int b :: .long a :: st) := by
  obtain ⟨p, e, R, s, m, args, below, meth, c, Q⟩ := x
  obtain ⟨hx, hb, hml, hr, hlk, hown, hts, hK, hR, hbs, hQ⟩ := C
  intro H locs ls hH hS hl
  exact lv_lshr hx hb hd rfl (k H locs ls hH hS hl)
theorem ww_lushr (C : Ck g x cc nL own rt rm n' Post) {a : Int64} {b : Int32} (hd : decode cc pc = .ok (.lushr, 1)) (k : WW g x nL cs ss n w (pc + 1) L (.long ((a.toUInt64 >>> (b.toInt64.toUInt64 &&& Int64.toUInt64 63)).toInt64) :: st)) : WW g x nL cs ss n w pc L (.int b :: .long a :: st) := by
  obtain ⟨p, e, R, s, m, args, below, meth, c, Q⟩ := x
  obtain ⟨hx, hb, hml, hr, hlk, hown, hts, hK, hR, hbs, hQ⟩ := C
  intro H locs ls hH hS hl
  exact lv_lushr hx hb hd rfl (k H locs ls hH hS hl)
theorem ww_iushr (C : Ck g x cc nL own rt rm n' Post) {a b : Int32} (hd : decode cc pc = .ok (.iushr, 1)) (k : WW g x nL cs ss n w (pc + 1) L (.int ((a.toUInt32 >>> (b.toUInt32 &&& Int32.toUInt32 31)).toInt32) :: st)) : WW g x nL cs ss n w pc L (.int b :: .int a :: st) := by
  obtain ⟨p, e, R, s, m, args, below, meth, c, Q⟩ := x
  obtain ⟨hx, hb, hml, hr, hlk, hown, hts, hK, hR, hbs, hQ⟩ := C
  intro H locs ls hH hS hl
  exact lv_iushr hx hb hd rfl (k H locs ls hH hS hl)
theorem ww_i2l (C : Ck g x cc nL own rt rm n' Post) {a : Int32} (hd : decode cc pc = .ok (.i2l, 1)) (k : WW g x nL cs ss n w (pc + 1) L (.long a.toInt64 :: st)) : WW g x nL cs ss n w pc L (.int a :: st) := by
  obtain ⟨p, e, R, s, m, args, below, meth, c, Q⟩ := x
  obtain ⟨hx, hb, hml, hr, hlk, hown, hts, hK, hR, hbs, hQ⟩ := C
  intro H locs ls hH hS hl
  exact lv_i2l hx hb hd rfl (k H locs ls hH hS hl)
theorem ww_l2i (C : Ck g x cc nL own rt rm n' Post) {a : Int64} (hd : decode cc pc = .ok (.l2i, 1)) (k : WW g x nL cs ss n w (pc + 1) L (.int a.toInt32 :: st)) : WW g x nL cs ss n w pc L (.long a :: st) := by
  obtain ⟨p, e, R, s, m, args, below, meth, c, Q⟩ := x
  obtain ⟨hx, hb, hml, hr, hlk, hown, hts, hK, hR, hbs, hQ⟩ := C
  intro H locs ls hH hS hl
  exact lv_l2i hx hb hd rfl (k H locs ls hH hS hl)
theorem ww_i2b (C : Ck g x cc nL own rt rm n' Post) {a : Int32} (hd : decode cc pc = .ok (.i2b, 1)) (k : WW g x nL cs ss n w (pc + 1) L (.int a.toInt8.toInt32 :: st)) : WW g x nL cs ss n w pc L (.int a :: st) := by
  obtain ⟨p, e, R, s, m, args, below, meth, c, Q⟩ := x
  obtain ⟨hx, hb, hml, hr, hlk, hown, hts, hK, hR, hbs, hQ⟩ := C
  intro H locs ls hH hS hl
  exact lv_i2b hx hb hd rfl (k H locs ls hH hS hl)
theorem ww_dup (C : Ck g x cc nL own rt rm n' Post) {v : Value} (hd : decode cc pc = .ok (.dup, 1)) (hc : v.category = 1) (k : WW g x nL cs ss n w (pc + 1) L (v :: v :: st)) : WW g x nL cs ss n w pc L (v :: st) := by
  obtain ⟨p, e, R, s, m, args, below, meth, c, Q⟩ := x
  obtain ⟨hx, hb, hml, hr, hlk, hown, hts, hK, hR, hbs, hQ⟩ := C
  intro H locs ls hH hS hl
  exact lv_dup hx hb hd (by rw [tr_cat]; exact hc) (k H locs ls hH hS hl)
theorem ww_pop (C : Ck g x cc nL own rt rm n' Post) {v : Value} (hd : decode cc pc = .ok (.pop, 1)) (hc : v.category = 1) (k : WW g x nL cs ss n w (pc + 1) L st) : WW g x nL cs ss n w pc L (v :: st) := by
  obtain ⟨p, e, R, s, m, args, below, meth, c, Q⟩ := x
  obtain ⟨hx, hb, hml, hr, hlk, hown, hts, hK, hR, hbs, hQ⟩ := C
  intro H locs ls hH hS hl
  exact lv_pop hx hb hd (by rw [tr_cat]; exact hc) (k H locs ls hH hS hl)
theorem ww_dup2 (C : Ck g x cc nL own rt rm n' Post) {v u : Value} (hd : decode cc pc = .ok (.dup2, 1)) (hc : v.category = 1) (hc2 : u.category = 1) (k : WW g x nL cs ss n w (pc + 1) L (v :: u :: v :: u :: st)) : WW g x nL cs ss n w pc L (v :: u :: st) := by
  obtain ⟨p, e, R, s, m, args, below, meth, c, Q⟩ := x
  obtain ⟨hx, hb, hml, hr, hlk, hown, hts, hK, hR, hbs, hQ⟩ := C
  intro H locs ls hH hS hl
  exact lv_dup2_11 hx hb hd (by rw [tr_cat]; exact hc) (by rw [tr_cat]; exact hc2) (k H locs ls hH hS hl)
theorem ww_goto (C : Ck g x cc nL own rt rm n' Post) {off : Int} {tgt : Nat} (hd : decode cc pc = .ok (.goto off, 3)) (ht : (pc : Int) + off = (tgt : Int)) (k : WW g x nL cs ss n w (tgt) L st) : WW g x nL cs ss n w pc L st := by
  obtain ⟨p, e, R, s, m, args, below, meth, c, Q⟩ := x
  obtain ⟨hx, hb, hml, hr, hlk, hown, hts, hK, hR, hbs, hQ⟩ := C
  intro H locs ls hH hS hl
  exact lv_goto hx hb hd ht (k H locs ls hH hS hl)
theorem ww_ifeq (C : Ck g x cc nL own rt rm n' Post) {a : Int32} {off : Int} {tgt : Nat} (hd : decode cc pc = .ok (.ifCond .eq off, 3)) (ht : (pc : Int) + off = (tgt : Int)) (kt : a = 0 → WW g x nL cs ss n w (tgt) L st) (kf : ¬ a = 0 → WW g x nL cs ss n w (pc + 3) L st) : WW g x nL cs ss n w pc L (.int a :: st) := by
  obtain ⟨p, e, R, s, m, args, below, meth, c, Q⟩ := x
  obtain ⟨hx, hb, hml, hr, hlk, hown, hts, hK, hR, hbs, hQ⟩ := C
  intro H locs ls hH hS hl
  exact lv_if_eq hx hb hd ht (fun h => kt h H locs ls hH hS hl) (fun h => kf h H locs ls hH hS hl)
theorem ww_ifne (C : Ck g x cc nL own rt rm n' Post) {a : Int32} {off : Int} {tgt : Nat} (hd : decode cc pc = .ok (.ifCond .ne off, 3)) (ht : (pc : Int) + off = (tgt : Int)) (kt : ¬ a = 0 → WW g x nL cs ss n w (tgt) L st) (kf : a = 0 → WW g x nL cs ss n w (pc + 3) L st) : WW g x nL cs ss n w pc L (.int a :: st) := by
  obtain ⟨p, e, R, s, m, args, below, meth, c, Q⟩ := x
  obtain ⟨hx, hb, hml, hr, hlk, hown, hts, hK, hR, hbs, hQ⟩ := C
  intro H locs ls hH hS hl
  exact lv_if_ne hx hb hd ht (fun h => kt h H locs ls hH hS hl) (fun h => kf h H locs ls hH hS hl)
theorem ww_iflt (C : Ck g x cc nL own rt rm n' Post) {a : Int32} {off : Int} {tgt : Nat} (hd : decode cc pc = .ok (.ifCond .lt off, 3)) (ht : (pc : Int) + off = (tgt : Int)) (kt : a < 0 → WW g x nL cs ss n w (tgt) L st) (kf : ¬ a < 0 → WW g x nL cs ss n w (pc + 3) L st) : WW g x nL cs ss n w pc L (.int a :: st) := by
  obtain ⟨p, e, R, s, m, args, below, meth, c, Q⟩ := x
  obtain ⟨hx, hb, hml, hr, hlk, hown, hts, hK, hR, hbs, hQ⟩ := C
  intro H locs ls hH hS hl
  exact lv_if_lt hx hb hd ht (fun h => kt h H locs ls hH hS hl) (fun h => kf h H locs ls hH hS hl)
theorem ww_ifge (C : Ck g x cc nL own rt rm n' Post) {a : Int32} {off : Int} {tgt : Nat} (hd : decode cc pc = .ok (.ifCond .ge off, 3)) (ht : (pc : Int) + off = (tgt : Int)) (kt : 0 ≤ a → WW g x nL cs ss n w (tgt) L st) (kf : ¬ 0 ≤ a → WW g x nL cs ss n w (pc + 3) L st) : WW g x nL cs ss n w pc L (.int a :: st) := by
  obtain ⟨p, e, R, s, m, args, below, meth, c, Q⟩ := x
  obtain ⟨hx, hb, hml, hr, hlk, hown, hts, hK, hR, hbs, hQ⟩ := C
  intro H locs ls hH hS hl
  exact lv_if_ge hx hb hd ht (fun h => kt h H locs ls hH hS hl) (fun h => kf h H locs ls hH hS hl)
theorem ww_ifgt (C : Ck g x cc nL own rt rm n' Post) {a : Int32} {off : Int} {tgt : Nat} (hd : decode cc pc = .ok (.ifCond .gt off, 3)) (ht : (pc : Int) + off = (tgt : Int)) (kt : 0 < a → WW g x nL cs ss n w (tgt) L st) (kf : ¬ 0 < a → WW g x nL cs ss n w (pc + 3) L st) : WW g x nL cs ss n w pc L (.int a :: st) := by
  obtain ⟨p, e, R, s, m, args, below, meth, c, Q⟩ := x
  obtain ⟨hx, hb, hml, hr, hlk, hown, hts, hK, hR, hbs, hQ⟩ := C
  intro H locs ls hH hS hl
  exact lv_if_gt hx hb hd ht (fun h => kt h H locs ls hH hS hl) (fun h => kf h H locs ls hH hS hl)
theorem ww_ifle (C : Ck g x cc nL own rt rm n' Post) {a : Int32} {off : Int} {tgt : Nat} (hd : decode cc pc = .ok (.ifCond .le off, 3)) (ht : (pc : Int) + off = (tgt : Int)) (kt : a ≤ 0 → WW g x nL cs ss n w (tgt) L st) (kf : ¬ a ≤ 0 → WW g x nL cs ss n w (pc + 3) L st) : WW g x nL cs ss n w pc L (.int a :: st) := by
  obtain ⟨p, e, R, s, m, args, below, meth, c, Q⟩ := x
  obtain ⟨hx, hb, hml, hr, hlk, hown, hts, hK, hR, hbs, hQ⟩ := C
  intro H locs ls hH hS hl
  exact lv_if_le hx hb hd ht (fun h => kt h H locs ls hH hS hl) (fun h => kf h H locs ls hH hS hl)
theorem ww_icmpeq (C : Ck g x cc nL own rt rm n' Post) {a b : Int32} {off : Int} {tgt : Nat} (hd : decode cc pc = .ok (.if_icmp .eq off, 3)) (ht : (pc : Int) + off = (tgt : Int)) (kt : a = b → WW g x nL cs ss n w (tgt) L st) (kf : ¬ a = b → WW g x nL cs ss n w (pc + 3) L st) : WW g x nL cs ss n w pc L (.int b :: .int a :: st) := by
  obtain ⟨p, e, R, s, m, args, below, meth, c, Q⟩ := x
  obtain ⟨hx, hb, hml, hr, hlk, hown, hts, hK, hR, hbs, hQ⟩ := C
  intro H locs ls hH hS hl
  exact lv_icmp_eq hx hb hd ht (fun h => kt h H locs ls hH hS hl) (fun h => kf h H locs ls hH hS hl)
theorem ww_icmpne (C : Ck g x cc nL own rt rm n' Post) {a b : Int32} {off : Int} {tgt : Nat} (hd : decode cc pc = .ok (.if_icmp .ne off, 3)) (ht : (pc : Int) + off = (tgt : Int)) (kt : ¬ a = b → WW g x nL cs ss n w (tgt) L st) (kf : a = b → WW g x nL cs ss n w (pc + 3) L st) : WW g x nL cs ss n w pc L (.int b :: .int a :: st) := by
  obtain ⟨p, e, R, s, m, args, below, meth, c, Q⟩ := x
  obtain ⟨hx, hb, hml, hr, hlk, hown, hts, hK, hR, hbs, hQ⟩ := C
  intro H locs ls hH hS hl
  exact lv_icmp_ne hx hb hd ht (fun h => kt h H locs ls hH hS hl) (fun h => kf h H locs ls hH hS hl)
theorem ww_icmplt (C : Ck g x cc nL own rt rm n' Post) {a b : Int32} {off : Int} {tgt : Nat} (hd : decode cc pc = .ok (.if_icmp .lt off, 3)) (ht : (pc : Int) + off = (tgt : Int)) (kt : a < b → WW g x nL cs ss n w (tgt) L st) (kf : ¬ a < b → WW g x nL cs ss n w (pc + 3) L st) : WW g x nL cs ss n w pc L (.int b :: .int a :: st) := by
  obtain ⟨p, e, R, s, m, args, below, meth, c, Q⟩ := x
  obtain ⟨hx, hb, hml, hr, hlk, hown, hts, hK, hR, hbs, hQ⟩ := C
  intro H locs ls hH hS hl
  exact lv_icmp_lt hx hb hd ht (fun h => kt h H locs ls hH hS hl) (fun h => kf h H locs ls hH hS hl)
theorem ww_icmpge (C : Ck g x cc nL own rt rm n' Post) {a b : Int32} {off : Int} {tgt : Nat} (hd : decode cc pc = .ok (.if_icmp .ge off, 3)) (ht : (pc : Int) + off = (tgt : Int)) (kt : b ≤ a → WW g x nL cs ss n w (tgt) L st) (kf : ¬ b ≤ a → WW g x nL cs ss n w (pc + 3) L st) : WW g x nL cs ss n w pc L (.int b :: .int a :: st) := by
  obtain ⟨p, e, R, s, m, args, below, meth, c, Q⟩ := x
  obtain ⟨hx, hb, hml, hr, hlk, hown, hts, hK, hR, hbs, hQ⟩ := C
  intro H locs ls hH hS hl
  exact lv_icmp_ge hx hb hd ht (fun h => kt h H locs ls hH hS hl) (fun h => kf h H locs ls hH hS hl)
theorem ww_icmpgt (C : Ck g x cc nL own rt rm n' Post) {a b : Int32} {off : Int} {tgt : Nat} (hd : decode cc pc = .ok (.if_icmp .gt off, 3)) (ht : (pc : Int) + off = (tgt : Int)) (kt : b < a → WW g x nL cs ss n w (tgt) L st) (kf : ¬ b < a → WW g x nL cs ss n w (pc + 3) L st) : WW g x nL cs ss n w pc L (.int b :: .int a :: st) := by
  obtain ⟨p, e, R, s, m, args, below, meth, c, Q⟩ := x
  obtain ⟨hx, hb, hml, hr, hlk, hown, hts, hK, hR, hbs, hQ⟩ := C
  intro H locs ls hH hS hl
  exact lv_icmp_gt hx hb hd ht (fun h => kt h H locs ls hH hS hl) (fun h => kf h H locs ls hH hS hl)
theorem ww_icmple (C : Ck g x cc nL own rt rm n' Post) {a b : Int32} {off : Int} {tgt : Nat} (hd : decode cc pc = .ok (.if_icmp .le off, 3)) (ht : (pc : Int) + off = (tgt : Int)) (kt : a ≤ b → WW g x nL cs ss n w (tgt) L st) (kf : ¬ a ≤ b → WW g x nL cs ss n w (pc + 3) L st) : WW g x nL cs ss n w pc L (.int b :: .int a :: st) := by
  obtain ⟨p, e, R, s, m, args, below, meth, c, Q⟩ := x
  obtain ⟨hx, hb, hml, hr, hlk, hown, hts, hK, hR, hbs, hQ⟩ := C
  intro H locs ls hH hS hl
  exact lv_icmp_le hx hb hd ht (fun h => kt h H locs ls hH hS hl) (fun h => kf h H locs ls hH hS hl)
theorem ww_tabIn (C : Ck g x cc nL own rt rm n' Post) {a : Int32} {dflt lo hi : Int} {offs : Array Int} {len : Nat} {off : Int} {tgt : Nat} (hd : decode cc pc = .ok (.tableswitch dflt lo hi offs, len)) (h1 : ¬ a.toInt < lo) (h2 : ¬ hi < a.toInt) (ho : offs[(a.toInt - lo).toNat]? = some off) (ht : (pc : Int) + off = (tgt : Int)) (k : WW g x nL cs ss n w (tgt) L st) : WW g x nL cs ss n w pc L (.int a :: st) := by
  obtain ⟨p, e, R, s, m, args, below, meth, c, Q⟩ := x
  obtain ⟨hx, hb, hml, hr, hlk, hown, hts, hK, hR, hbs, hQ⟩ := C
  intro H locs ls hH hS hl
  exact lv_tableIn hx hb hd h1 h2 ho ht (k H locs ls hH hS hl)
theorem ww_tabOut (C : Ck g x cc nL own rt rm n' Post) {a : Int32} {dflt lo hi : Int} {offs : Array Int} {len : Nat} {tgt : Nat} (hd : decode cc pc = .ok (.tableswitch dflt lo hi offs, len)) (h1 : a.toInt < lo ∨ hi < a.toInt) (ht : (pc : Int) + dflt = (tgt : Int)) (k : WW g x nL cs ss n w (tgt) L st) : WW g x nL cs ss n w pc L (.int a :: st) := by
  obtain ⟨p, e, R, s, m, args, below, meth, c, Q⟩ := x
  obtain ⟨hx, hb, hml, hr, hlk, hown, hts, hK, hR, hbs, hQ⟩ := C
  intro H locs ls hH hS hl
  exact lv_tableOut hx hb hd h1 ht (k H locs ls hH hS hl)
theorem ww_look (C : Ck g x cc nL own rt rm n' Post) {a : Int32} {dflt : Int} {ps : Array (Int × Int)} {len : Nat} {off : Int} {tgt : Nat} (hd : decode cc pc = .ok (.lookupswitch dflt ps, len)) (hp : (ps.toList.zip (ps.toList.drop 1)).all (fun (a, next) => a.1 < next.1) = true) (ho : Op.lookupswitch.offset ps.toList dflt a.toInt = off) (ht : (pc : Int) + off = (tgt : Int)) (k : WW g x nL cs ss n w (tgt) L st) : WW g x nL cs ss n w pc L (.int a :: st) := by
  obtain ⟨p, e, R, s, m, args, below, meth, c, Q⟩ := x
  obtain ⟨hx, hb, hml, hr, hlk, hown, hts, hK, hR, hbs, hQ⟩ := C
  intro H locs ls hH hS hl
  exact lv_lookup hx hb hd hp ho ht (k H locs ls hH hS hl)
/-- a value of one slot is stored -/
theorem lvl_set1 {g : Gx} {ls : Array Slot} {nL : Nat} {L L' : List (Option Value)} {i : Nat} {v : Value} (hl : lv_has ls nL ((i, tr g v) :: (lvl g L).filter (fun q => !(q.1 == i) && !(q.1 + 1 == i && q.2.category == 2)))) (hp : ∀ u, L[i - 1]? = some (some u) → 0 < i → ¬ u.category = 2) (hL : L' = L.set i (some v)) : lv_has ls nL (lvl g L') := by
  refine ⟨hl.1, hl.2.1, fun q hq => hl.2.2 q ?_⟩
  obtain ⟨u, h1, h2⟩ := mem_lvl.mp hq
  subst hL
  by_cases hi : q.1 = i
  · obtain ⟨j, z⟩ := q
    simp only at hi h1 h2
    subst hi
    rw [List.getElem?_set_self' ] at h1
    cases hz : L[j]? with
    | none => rw [hz] at h1; simp at h1
    | some y =>
      rw [hz] at h1
      simp at h1
      subst h1
      rw [h2]
      exact List.mem_cons_self
  · rw [List.getElem?_set_ne (Ne.symm hi)] at h1
    refine List.mem_cons_of_mem _ (List.mem_filter.mpr ⟨mem_lvl.mpr ⟨u, h1, h2⟩, ?_⟩)
    rw [Bool.and_eq_true]
    refine ⟨by simpa using hi, ?_⟩
    by_cases hj : q.1 + 1 = i
    · have := hp u (by rw [← hj, Nat.add_sub_cancel]; exact h1) (by omega)
      rw [h2, tr_cat]
      simp [this]
    · simp [hj]
theorem lvl_set2 {g : Gx} {ls : Array Slot} {nL : Nat} {L L' : List (Option Value)} {i : Nat} {v : Value} (hl : lv_has ls nL ((i, tr g v) :: (lvl g L).filter (fun q => !(q.1 == i) && (!(q.1 == i + 1) && !(q.1 + 1 == i && q.2.category == 2))))) (hp : ∀ u, L[i - 1]? = some (some u) → 0 < i → ¬ u.category = 2) (hL : L' = (L.set i (some v)).set (i + 1) none) : lv_has ls nL (lvl g L') := by
  refine ⟨hl.1, hl.2.1, fun q hq => hl.2.2 q ?_⟩
  obtain ⟨u, h1, h2⟩ := mem_lvl.mp hq
  subst hL
  have hi1 : ¬ q.1 = i + 1 := by
    intro e
    rw [e, List.getElem?_set_self'] at h1
    cases hz : (L.set i (some v))[i + 1]? with
    | none => rw [hz] at h1; simp at h1
    | some y => rw [hz] at h1; simp at h1
  rw [List.getElem?_set_ne (Ne.symm hi1)] at h1
  by_cases hi : q.1 = i
  · obtain ⟨j, z⟩ := q
    simp only at hi h1 h2
    subst hi
    rw [List.getElem?_set_self' ] at h1
    cases hz : L[j]? with
    | none => rw [hz] at h1; simp at h1
    | some y =>
      rw [hz] at h1
      simp at h1
      subst h1
      rw [h2]
      exact List.mem_cons_self
  · rw [List.getElem?_set_ne (Ne.symm hi)] at h1
    refine List.mem_cons_of_mem _ (List.mem_filter.mpr ⟨mem_lvl.mpr ⟨u, h1, h2⟩, ?_⟩)
    rw [Bool.and_eq_true, Bool.and_eq_true]
    refine ⟨by simpa using hi, by simpa using hi1, ?_⟩
    by_cases hj : q.1 + 1 = i
    · have := hp u (by rw [← hj, Nat.add_sub_cancel]; exact h1) (by omega)
      rw [h2, tr_cat]
      simp [this]
    · simp [hj]
def nl (v : Option Value) : Bool := match v with
  | some u => u.category == 1
  | none => true
theorem nl_p {v : Option Value} (h : nl v = true) : ∀ u, some v = some (some u) → ¬ u.category = 2 := by
  intro u e
  cases e
  simp only [nl, beq_iff_eq] at h
  omega
theorem ww_iload0 (C : Ck g x cc nL own rt rm n' Post)  {v : Int32} {t : List (Option Value)} (hd : decode cc pc = .ok (.iload_n 0, 1)) (k : WW g x nL cs ss n w (pc + 1) (some (.int v) :: t) (.int v :: st)) : WW g x nL cs ss n w pc (some (.int v) :: t) st := by
  obtain ⟨p, e, R, s, m, args, below, meth, c, Q⟩ := x
  obtain ⟨hx, hb, hml, hr, hlk, hown, hts, hK, hR, hbs, hQ⟩ := C
  intro H locs ls hH hS hl
  exact lv_iload_n hx hb hd rfl (hl.2.2 (0, tr g (.int v)) (mem_lvl.mpr ⟨_, rfl, rfl⟩)) (k H locs ls hH hS hl)
theorem ww_lload0 (C : Ck g x cc nL own rt rm n' Post)  {v : Int64} {t : List (Option Value)} (hd : decode cc pc = .ok (.lload_n 0, 1)) (k : WW g x nL cs ss n w (pc + 1) (some (.long v) :: t) (.long v :: st)) : WW g x nL cs ss n w pc (some (.long v) :: t) st := by
  obtain ⟨p, e, R, s, m, args, below, meth, c, Q⟩ := x
  obtain ⟨hx, hb, hml, hr, hlk, hown, hts, hK, hR, hbs, hQ⟩ := C
  intro H locs ls hH hS hl
  exact lv_lload_n hx hb hd rfl (hl.2.2 (0, tr g (.long v)) (mem_lvl.mpr ⟨_, rfl, rfl⟩)) (k H locs ls hH hS hl)
theorem ww_aload0 (C : Ck g x cc nL own rt rm n' Post)  {v : Nat} {t : List (Option Value)} (hd : decode cc pc = .ok (.aload_n 0, 1)) (k : WW g x nL cs ss n w (pc + 1) (some (.ref v) :: t) (.ref v :: st)) : WW g x nL cs ss n w pc (some (.ref v) :: t) st := by
  obtain ⟨p, e, R, s, m, args, below, meth, c, Q⟩ := x
  obtain ⟨hx, hb, hml, hr, hlk, hown, hts, hK, hR, hbs, hQ⟩ := C
  intro H locs ls hH hS hl
  exact lv_aload_n hx hb hd rfl (hl.2.2 (0, tr g (.ref v)) (mem_lvl.mpr ⟨_, rfl, rfl⟩)) (k H locs ls hH hS hl)
theorem ww_istore0 (C : Ck g x cc nL own rt rm n' Post) {a0 : Option Value} {v : Int32} {t : List (Option Value)} (hd : decode cc pc = .ok (.istore_n 0, 1)) (hn : 0 < nL) (k : WW g x nL cs ss n w (pc + 1) (some (.int v) :: t) st) : WW g x nL cs ss n w pc (a0 :: t) (.int v :: st) := by
  obtain ⟨p, e, R, s, m, args, below, meth, c, Q⟩ := x
  obtain ⟨hx, hb, hml, hr, hlk, hown, hts, hK, hR, hbs, hQ⟩ := C
  intro H locs ls hH hS hl
  exact lv_istore_n hx hb hd rfl hl hn rfl (fun ls2 hl2 => k H locs ls2 hH hS (lvl_set1 (v := .int v) hl2 (fun u e h => absurd h (Nat.lt_irrefl 0)) rfl))
theorem ww_astore0 (C : Ck g x cc nL own rt rm n' Post) {a0 : Option Value} {v : Nat} {t : List (Option Value)} (hd : decode cc pc = .ok (.astore_n 0, 1)) (hn : 0 < nL) (k : WW g x nL cs ss n w (pc + 1) (some (.ref v) :: t) st) : WW g x nL cs ss n w pc (a0 :: t) (.ref v :: st) := by
  obtain ⟨p, e, R, s, m, args, below, meth, c, Q⟩ := x
  obtain ⟨hx, hb, hml, hr, hlk, hown, hts, hK, hR, hbs, hQ⟩ := C
  intro H locs ls hH hS hl
  exact lv_astore_n hx hb hd rfl hl hn rfl (fun ls2 hl2 => k H locs ls2 hH hS (lvl_set1 (v := .ref v) hl2 (fun u e h => absurd h (Nat.lt_irrefl 0)) rfl))
theorem ww_lstore0 (C : Ck g x cc nL own rt rm n' Post) {a0 : Option Value} {a1 : Option Value} {v : Int64} {t : List (Option Value)} (hd : decode cc pc = .ok (.lstore_n 0, 1)) (hn : 1 < nL) (k : WW g x nL cs ss n w (pc + 1) (some (.long v) :: none :: t) st) : WW g x nL cs ss n w pc (a0 :: a1 :: t) (.long v :: st) := by
  obtain ⟨p, e, R, s, m, args, below, meth, c, Q⟩ := x
  obtain ⟨hx, hb, hml, hr, hlk, hown, hts, hK, hR, hbs, hQ⟩ := C
  intro H locs ls hH hS hl
  exact lv_lstore_n hx hb hd rfl hl hn rfl (fun ls2 hl2 => k H locs ls2 hH hS (lvl_set2 (v := .long v) hl2 (fun u e h => absurd h (Nat.lt_irrefl 0)) rfl))
theorem ww_iinc0 (C : Ck g x cc nL own rt rm n' Post)  {v u : Int32} {z : Int} {t : List (Option Value)} (hd : decode cc pc = .ok (.iinc 0 z, 3)) (hv : v + Int32.ofInt z = u) (hn : 0 < nL) (k : WW g x nL cs ss n w (pc + 3) (some (.int u) :: t) st) : WW g x nL cs ss n w pc (some (.int v) :: t) st := by
  obtain ⟨p, e, R, s, m, args, below, meth, c, Q⟩ := x
  obtain ⟨hx, hb, hml, hr, hlk, hown, hts, hK, hR, hbs, hQ⟩ := C
  intro H locs ls hH hS hl
  obtain ⟨j, hj⟩ := List.getElem?_of_mem (mem_lvl (g := g) (L := (some (.int v) :: t)) (q := (0, .int v)) |>.mpr ⟨.int v, rfl, rfl⟩)
  exact lv_iinc hx hb hd hl hj hv hn rfl (fun ls2 hl2 => k H locs ls2 hH hS (lvl_set1 (v := .int u) hl2 (fun u e h => absurd h (Nat.lt_irrefl 0)) rfl))
theorem ww_iload1 (C : Ck g x cc nL own rt rm n' Post) {a0 : Option Value} {v : Int32} {t : List (Option Value)} (hd : decode cc pc = .ok (.iload_n 1, 1)) (k : WW g x nL cs ss n w (pc + 1) (a0 :: some (.int v) :: t) (.int v :: st)) : WW g x nL cs ss n w pc (a0 :: some (.int v) :: t) st := by
  obtain ⟨p, e, R, s, m, args, below, meth, c, Q⟩ := x
  obtain ⟨hx, hb, hml, hr, hlk, hown, hts, hK, hR, hbs, hQ⟩ := C
  intro H locs ls hH hS hl
  exact lv_iload_n hx hb hd rfl (hl.2.2 (1, tr g (.int v)) (mem_lvl.mpr ⟨_, rfl, rfl⟩)) (k H locs ls hH hS hl)
theorem ww_lload1 (C : Ck g x cc nL own rt rm n' Post) {a0 : Option Value} {v : Int64} {t : List (Option Value)} (hd : decode cc pc = .ok (.lload_n 1, 1)) (k : WW g x nL cs ss n w (pc + 1) (a0 :: some (.long v) :: t) (.long v :: st)) : WW g x nL cs ss n w pc (a0 :: some (.long v) :: t) st := by
  obtain ⟨p, e, R, s, m, args, below, meth, c, Q⟩ := x
  obtain ⟨hx, hb, hml, hr, hlk, hown, hts, hK, hR, hbs, hQ⟩ := C
  intro H locs ls hH hS hl
  exact lv_lload_n hx hb hd rfl (hl.2.2 (1, tr g (.long v)) (mem_lvl.mpr ⟨_, rfl, rfl⟩)) (k H locs ls hH hS hl)
theorem ww_aload1 (C : Ck g x cc nL own rt rm n' Post) {a0 : Option Value} {v : Nat} {t : List (Option Value)} (hd : decode cc pc = .ok (.aload_n 1, 1)) (k : WW g x nL cs ss n w (pc + 1) (a0 :: some (.ref v) :: t) (.ref v :: st)) : WW g x nL cs ss n w pc (a0 :: some (.ref v) :: t) st := by
  obtain ⟨p, e, R, s, m, args, below, meth, c, Q⟩ := x
  obtain ⟨hx, hb, hml, hr, hlk, hown, hts, hK, hR, hbs, hQ⟩ := C
  intro H locs ls hH hS hl
  exact lv_aload_n hx hb hd rfl (hl.2.2 (1, tr g (.ref v)) (mem_lvl.mpr ⟨_, rfl, rfl⟩)) (k H locs ls hH hS hl)
theorem ww_istore1 (C : Ck g x cc nL own rt rm n' Post) {a0 : Option Value} {a1 : Option Value} {v : Int32} {t : List (Option Value)} (hd : decode cc pc = .ok (.istore_n 1, 1)) (hn : 1 < nL) (hp : nl a0 = true) (k : WW g x nL cs ss n w (pc + 1) (a0 :: some (.int v) :: t) st) : WW g x nL cs ss n w pc (a0 :: a1 :: t) (.int v :: st) := by
  obtain ⟨p, e, R, s, m, args, below, meth, c, Q⟩ := x
  obtain ⟨hx, hb, hml, hr, hlk, hown, hts, hK, hR, hbs, hQ⟩ := C
  intro H locs ls hH hS hl
  exact lv_istore_n hx hb hd rfl hl hn rfl (fun ls2 hl2 => k H locs ls2 hH hS (lvl_set1 (v := .int v) hl2 (fun u e _ => nl_p hp u e) rfl))
theorem ww_astore1 (C : Ck g x cc nL own rt rm n' Post) {a0 : Option Value} {a1 : Option Value} {v : Nat} {t : List (Option Value)} (hd : decode cc pc = .ok (.astore_n 1, 1)) (hn : 1 < nL) (hp : nl a0 = true) (k : WW g x nL cs ss n w (pc + 1) (a0 :: some (.ref v) :: t) st) : WW g x nL cs ss n w pc (a0 :: a1 :: t) (.ref v :: st) := by
  obtain ⟨p, e, R, s, m, args, below, meth, c, Q⟩ := x
  obtain ⟨hx, hb, hml, hr, hlk, hown, hts, hK, hR, hbs, hQ⟩ := C
  intro H locs ls hH hS hl
  exact lv_astore_n hx hb hd rfl hl hn rfl (fun ls2 hl2 => k H locs ls2 hH hS (lvl_set1 (v := .ref v) hl2 (fun u e _ => nl_p hp u e) rfl))
theorem ww_lstore1 (C : Ck g x cc nL own rt rm n' Post) {a0 : Option Value} {a1 : Option Value} {a2 : Option Value} {v : Int64} {t : List (Option Value)} (hd : decode cc pc = .ok (.lstore_n 1, 1)) (hn : 2 < nL) (hp : nl a0 = true) (k : WW g x nL cs ss n w (pc + 1) (a0 :: some (.long v) :: none :: t) st) : WW g x nL cs ss n w pc (a0 :: a1 :: a2 :: t) (.long v :: st) := by
  obtain ⟨p, e, R, s, m, args, below, meth, c, Q⟩ := x
  obtain ⟨hx, hb, hml, hr, hlk, hown, hts, hK, hR, hbs, hQ⟩ := C
  intro H locs ls hH hS hl
  exact lv_lstore_n hx hb hd rfl hl hn rfl (fun ls2 hl2 => k H locs ls2 hH hS (lvl_set2 (v := .long v) hl2 (fun u e _ => nl_p hp u e) rfl))
theorem ww_iinc1 (C : Ck g x cc nL own rt rm n' Post) {a0 : Option Value} {v u : Int32} {z : Int} {t : List (Option Value)} (hd : decode cc pc = .ok (.iinc 1 z, 3)) (hv : v + Int32.ofInt z = u) (hn : 1 < nL) (hp : nl a0 = true) (k : WW g x nL cs ss n w (pc + 3) (a0 :: some (.int u) :: t) st) : WW g x nL cs ss n w pc (a0 :: some (.int v) :: t) st := by
  obtain ⟨p, e, R, s, m, args, below, meth, c, Q⟩ := x
  obtain ⟨hx, hb, hml, hr, hlk, hown, hts, hK, hR, hbs, hQ⟩ := C
  intro H locs ls hH hS hl
  obtain ⟨j, hj⟩ := List.getElem?_of_mem (mem_lvl (g := g) (L := (a0 :: some (.int v) :: t)) (q := (1, .int v)) |>.mpr ⟨.int v, rfl, rfl⟩)
  exact lv_iinc hx hb hd hl hj hv hn rfl (fun ls2 hl2 => k H locs ls2 hH hS (lvl_set1 (v := .int u) hl2 (fun u e _ => nl_p hp u e) rfl))
theorem ww_iload2 (C : Ck g x cc nL own rt rm n' Post) {a0 : Option Value} {a1 : Option Value} {v : Int32} {t : List (Option Value)} (hd : decode cc pc = .ok (.iload_n 2, 1)) (k : WW g x nL cs ss n w (pc + 1) (a0 :: a1 :: some (.int v) :: t) (.int v :: st)) : WW g x nL cs ss n w pc (a0 :: a1 :: some (.int v) :: t) st := by
  obtain ⟨p, e, R, s, m, args, below, meth, c, Q⟩ := x
  obtain ⟨hx, hb, hml, hr, hlk, hown, hts, hK, hR, hbs, hQ⟩ := C
  intro H locs ls hH hS hl
  exact lv_iload_n hx hb hd rfl (hl.2.2 (2, tr g (.int v)) (mem_lvl.mpr ⟨_, rfl, rfl⟩)) (k H locs ls hH hS hl)
theorem ww_lload2 (C : Ck g x cc nL own rt rm n' Post) {a0 : Option Value} {a1 : Option Value} {v : Int64} {t : List (Option Value)} (hd : decode cc pc = .ok (.lload_n 2, 1)) (k : WW g x nL cs ss n w (pc + 1) (a0 :: a1 :: some (.long v) :: t) (.long v :: st)) : WW g x nL cs ss n w pc (a0 :: a1 :: some (.long v) :: t) st := by
  obtain ⟨p, e, R, s, m, args, below, meth, c, Q⟩ := x
  obtain ⟨hx, hb, hml, hr, hlk, hown, hts, hK, hR, hbs, hQ⟩ := C
  intro H locs ls hH hS hl
  exact lv_lload_n hx hb hd rfl (hl.2.2 (2, tr g (.long v)) (mem_lvl.mpr ⟨_, rfl, rfl⟩)) (k H locs ls hH hS hl)
theorem ww_aload2 (C : Ck g x cc nL own rt rm n' Post) {a0 : Option Value} {a1 : Option Value} {v : Nat} {t : List (Option Value)} (hd : decode cc pc = .ok (.aload_n 2, 1)) (k : WW g x nL cs ss n w (pc + 1) (a0 :: a1 :: some (.ref v) :: t) (.ref v :: st)) : WW g x nL cs ss n w pc (a0 :: a1 :: some (.ref v) :: t) st := by
  obtain ⟨p, e, R, s, m, args, below, meth, c, Q⟩ := x
  obtain ⟨hx, hb, hml, hr, hlk, hown, hts, hK, hR, hbs, hQ⟩ := C
  intro H locs ls hH hS hl
  exact lv_aload_n hx hb hd rfl (hl.2.2 (2, tr g (.ref v)) (mem_lvl.mpr ⟨_, rfl, rfl⟩)) (k H locs ls hH hS hl)
theorem ww_istore2 (C : Ck g x cc nL own rt rm n' Post) {a0 : Option Value} {a1 : Option Value} {a2 : Option Value} {v : Int32} {t : List (Option Value)} (hd : decode cc pc = .ok (.istore_n 2, 1)) (hn : 2 < nL) (hp : nl a1 = true) (k : WW g x nL cs ss n w (pc + 1) (a0 :: a1 :: some (.int v) :: t) st) : WW g x nL cs ss n w pc (a0 :: a1 :: a2 :: t) (.int v :: st) := by
  obtain ⟨p, e, R, s, m, args, below, meth, c, Q⟩ := x
  obtain ⟨hx, hb, hml, hr, hlk, hown, hts, hK, hR, hbs, hQ⟩ := C
  intro H locs ls hH hS hl
  exact lv_istore_n hx hb hd rfl hl hn rfl (fun ls2 hl2 => k H locs ls2 hH hS (lvl_set1 (v := .int v) hl2 (fun u e _ => nl_p hp u e) rfl))
theorem ww_astore2 (C : Ck g x cc nL own rt rm n' Post) {a0 : Option Value} {a1 : Option Value} {a2 : Option Value} {v : Nat} {t : List (Option Value)} (hd : decode cc pc = .ok (.astore_n 2, 1)) (hn : 2 < nL) (hp : nl a1 = true) (k : WW g x nL cs ss n w (pc + 1) (a0 :: a1 :: some (.ref v) :: t) st) : WW g x nL cs ss n w pc (a0 :: a1 :: a2 :: t) (.ref v :: st) := by
  obtain ⟨p, e, R, s, m, args, below, meth, c, Q⟩ := x
  obtain ⟨hx, hb, hml, hr, hlk, hown, hts, hK, hR, hbs, hQ⟩ := C
  intro H locs ls hH hS hl
  exact lv_astore_n hx hb hd rfl hl hn rfl (fun ls2 hl2 => k H locs ls2 hH hS (lvl_set1 (v := .ref v) hl2 (fun u e _ => nl_p hp u e) rfl))
theorem ww_lstore2 (C : Ck g x cc nL own rt rm n' Post) {a0 : Option Value} {a1 : Option Value} {a2 : Option Value} {a3 : Option Value} {v : Int64} {t : List (Option Value)} (hd : decode cc pc = .ok (.lstore_n 2, 1)) (hn : 3 < nL) (hp : nl a1 = true) (k : WW g x nL cs ss n w (pc + 1) (a0 :: a1 :: some (.long v) :: none :: t) st) : WW g x nL cs ss n w pc (a0 :: a1 :: a2 :: a3 :: t) (.long v :: st) := by
  obtain ⟨p, e, R, s, m, args, below, meth, c, Q⟩ := x
  obtain ⟨hx, hb, hml, hr, hlk, hown, hts, hK, hR, hbs, hQ⟩ := C
  intro H locs ls hH hS hl
  exact lv_lstore_n hx hb hd rfl hl hn rfl (fun ls2 hl2 => k H locs ls2 hH hS (lvl_set2 (v := .long v) hl2 (fun u e _ => nl_p hp u e) rfl))
theorem ww_iinc2 (C : Ck g x cc nL own rt rm n' Post) {a0 : Option Value} {a1 : Option Value} {v u : Int32} {z : Int} {t : List (Option Value)} (hd : decode cc pc = .ok (.iinc 2 z, 3)) (hv : v + Int32.ofInt z = u) (hn : 2 < nL) (hp : nl a1 = true) (k : WW g x nL cs ss n w (pc + 3) (a0 :: a1 :: some (.int u) :: t) st) : WW g x nL cs ss n w pc (a0 :: a1 :: some (.int v) :: t) st := by
  obtain ⟨p, e, R, s, m, args, below, meth, c, Q⟩ := x
  obtain ⟨hx, hb, hml, hr, hlk, hown, hts, hK, hR, hbs, hQ⟩ := C
  intro H locs ls hH hS hl
  obtain ⟨j, hj⟩ := List.getElem?_of_mem (mem_lvl (g := g) (L := (a0 :: a1 :: some (.int v) :: t)) (q := (2, .int v)) |>.mpr ⟨.int v, rfl, rfl⟩)
  exact lv_iinc hx hb hd hl hj hv hn rfl (fun ls2 hl2 => k H locs ls2 hH hS (lvl_set1 (v := .int u) hl2 (fun u e _ => nl_p hp u e) rfl))
theorem ww_iload3 (C : Ck g x cc nL own rt rm n' Post) {a0 : Option Value} {a1 : Option Value} {a2 : Option Value} {v : Int32} {t : List (Option Value)} (hd : decode cc pc = .ok (.iload_n 3, 1)) (k : WW g x nL cs ss n w (pc + 1) (a0 :: a1 :: a2 :: some (.int v) :: t) (.int v :: st)) : WW g x nL cs ss n w pc (a0 :: a1 :: a2 :: some (.int v) :: t) st := by
  obtain ⟨p, e, R, s, m, args, below, meth, c, Q⟩ := x
  obtain ⟨hx, hb, hml, hr, hlk, hown, hts, hK, hR, hbs, hQ⟩ := C
  intro H locs ls hH hS hl
  exact lv_iload_n hx hb hd rfl (hl.2.2 (3, tr g (.int v)) (mem_lvl.mpr ⟨_, rfl, rfl⟩)) (k H locs ls hH hS hl)
theorem ww_lload3 (C : Ck g x cc nL own rt rm n' Post) {a0 : Option Value} {a1 : Option Value} {a2 : Option Value} {v : Int64} {t : List (Option Value)} (hd : decode cc pc = .ok (.lload_n 3, 1)) (k : WW g x nL cs ss n w (pc + 1) (a0 :: a1 :: a2 :: some (.long v) :: t) (.long v :: st)) : WW g x nL cs ss n w pc (a0 :: a1 :: a2 :: some (.long v) :: t) st := by
  obtain ⟨p, e, R, s, m, args, below, meth, c, Q⟩ := x
  obtain ⟨hx, hb, hml, hr, hlk, hown, hts, hK, hR, hbs, hQ⟩ := C
  intro H locs ls hH hS hl
  exact lv_lload_n hx hb hd rfl (hl.2.2 (3, tr g (.long v)) (mem_lvl.mpr ⟨_, rfl, rfl⟩)) (k H locs ls hH hS hl)
theorem ww_aload3 (C : Ck g x cc nL own rt rm n' Post) {a0 : Option Value} {a1 : Option Value} {a2 : Option Value} {v : Nat} {t : List (Option Value)} (hd : decode cc pc = .ok (.aload_n 3, 1)) (k : WW g x nL cs ss n w (pc + 1) (a0 :: a1 :: a2 :: some (.ref v) :: t) (.ref v :: st)) : WW g x nL cs ss n w pc (a0 :: a1 :: a2 :: some (.ref v) :: t) st := by
  obtain ⟨p, e, R, s, m, args, below, meth, c, Q⟩ := x
  obtain ⟨hx, hb, hml, hr, hlk, hown, hts, hK, hR, hbs, hQ⟩ := C
  intro H locs ls hH hS hl
  exact lv_aload_n hx hb hd rfl (hl.2.2 (3, tr g (.ref v)) (mem_lvl.mpr ⟨_, rfl, rfl⟩)) (k H locs ls hH hS hl)
theorem ww_istore3 (C : Ck g x cc nL own rt rm n' Post) {a0 : Option Value} {a1 : Option Value} {a2 : Option Value} {a3 : Option Value} {v : Int32} {t : List (Option Value)} (hd : decode cc pc = .ok (.istore_n 3, 1)) (hn : 3 < nL) (hp : nl a2 = true) (k : WW g x nL cs ss n w (pc + 1) (a0 :: a1 :: a2 :: some (.int v) :: t) st) : WW g x nL cs ss n w pc (a0 :: a1 :: a2 :: a3 :: t) (.int v :: st) := by
  obtain ⟨p, e, R, s, m, args, below, meth, c, Q⟩ := x
  obtain ⟨hx, hb, hml, hr, hlk, hown, hts, hK, hR, hbs, hQ⟩ := C
  intro H locs ls hH hS hl
  exact lv_istore_n hx hb hd rfl hl hn rfl (fun ls2 hl2 => k H locs ls2 hH hS (lvl_set1 (v := .int v) hl2 (fun u e _ => nl_p hp u e) rfl))
theorem ww_astore3 (C : Ck g x cc nL own rt rm n' Post) {a0 : Option Value} {a1 : Option Value} {a2 : Option Value} {a3 : Option Value} {v : Nat} {t : List (Option Value)} (hd : decode cc pc = .ok (.astore_n 3, 1)) (hn : 3 < nL) (hp : nl a2 = true) (k : WW g x nL cs ss n w (pc + 1) (a0 :: a1 :: a2 :: some (.ref v) :: t) st) : WW g x nL cs ss n w pc (a0 :: a1 :: a2 :: a3 :: t) (.ref v :: st) := by
  obtain ⟨p, e, R, s, m, args, below, meth, c, Q⟩ := x
  obtain ⟨hx, hb, hml, hr, hlk, hown, hts, hK, hR, hbs, hQ⟩ := C
  intro H locs ls hH hS hl
  exact lv_astore_n hx hb hd rfl hl hn rfl (fun ls2 hl2 => k H locs ls2 hH hS (lvl_set1 (v := .ref v) hl2 (fun u e _ => nl_p hp u e) rfl))
theorem ww_lstore3 (C : Ck g x cc nL own rt rm n' Post) {a0 : Option Value} {a1 : Option Value} {a2 : Option Value} {a3 : Option Value} {a4 : Option Value} {v : Int64} {t : List (Option Value)} (hd : decode cc pc = .ok (.lstore_n 3, 1)) (hn : 4 < nL) (hp : nl a2 = true) (k : WW g x nL cs ss n w (pc + 1) (a0 :: a1 :: a2 :: some (.long v) :: none :: t) st) : WW g x nL cs ss n w pc (a0 :: a1 :: a2 :: a3 :: a4 :: t) (.long v :: st) := by
  obtain ⟨p, e, R, s, m, args, below, meth, c, Q⟩ := x
  obtain ⟨hx, hb, hml, hr, hlk, hown, hts, hK, hR, hbs, hQ⟩ := C
  intro H locs ls hH hS hl
  exact lv_lstore_n hx hb hd rfl hl hn rfl (fun ls2 hl2 => k H locs ls2 hH hS (lvl_set2 (v := .long v) hl2 (fun u e _ => nl_p hp u e) rfl))
theorem ww_iinc3 (C : Ck g x cc nL own rt rm n' Post) {a0 : Option Value} {a1 : Option Value} {a2 : Option Value} {v u : Int32} {z : Int} {t : List (Option Value)} (hd : decode cc pc = .ok (.iinc 3 z, 3)) (hv : v + Int32.ofInt z = u) (hn : 3 < nL) (hp : nl a2 = true) (k : WW g x nL cs ss n w (pc + 3) (a0 :: a1 :: a2 :: some (.int u) :: t) st) : WW g x nL cs ss n w pc (a0 :: a1 :: a2 :: some (.int v) :: t) st := by
  obtain ⟨p, e, R, s, m, args, below, meth, c, Q⟩ := x
  obtain ⟨hx, hb, hml, hr, hlk, hown, hts, hK, hR, hbs, hQ⟩ := C
  intro H locs ls hH hS hl
  obtain ⟨j, hj⟩ := List.getElem?_of_mem (mem_lvl (g := g) (L := (a0 :: a1 :: a2 :: some (.int v) :: t)) (q := (3, .int v)) |>.mpr ⟨.int v, rfl, rfl⟩)
  exact lv_iinc hx hb hd hl hj hv hn rfl (fun ls2 hl2 => k H locs ls2 hH hS (lvl_set1 (v := .int u) hl2 (fun u e _ => nl_p hp u e) rfl))
theorem ww_iload4 (C : Ck g x cc nL own rt rm n' Post) {a0 : Option Value} {a1 : Option Value} {a2 : Option Value} {a3 : Option Value} {v : Int32} {t : List (Option Value)} (hd : decode cc pc = .ok (.iload 4, 2)) (k : WW g x nL cs ss n w (pc + 2) (a0 :: a1 :: a2 :: a3 :: some (.int v) :: t) (.int v :: st)) : WW g x nL cs ss n w pc (a0 :: a1 :: a2 :: a3 :: some (.int v) :: t) st := by
  obtain ⟨p, e, R, s, m, args, below, meth, c, Q⟩ := x
  obtain ⟨hx, hb, hml, hr, hlk, hown, hts, hK, hR, hbs, hQ⟩ := C
  intro H locs ls hH hS hl
  exact lv_iload hx hb hd (hl.2.2 (4, tr g (.int v)) (mem_lvl.mpr ⟨_, rfl, rfl⟩)) (k H locs ls hH hS hl)
theorem ww_lload4 (C : Ck g x cc nL own rt rm n' Post) {a0 : Option Value} {a1 : Option Value} {a2 : Option Value} {a3 : Option Value} {v : Int64} {t : List (Option Value)} (hd : decode cc pc = .ok (.lload 4, 2)) (k : WW g x nL cs ss n w (pc + 2) (a0 :: a1 :: a2 :: a3 :: some (.long v) :: t) (.long v :: st)) : WW g x nL cs ss n w pc (a0 :: a1 :: a2 :: a3 :: some (.long v) :: t) st := by
  obtain ⟨p, e, R, s, m, args, below, meth, c, Q⟩ := x
  obtain ⟨hx, hb, hml, hr, hlk, hown, hts, hK, hR, hbs, hQ⟩ := C
  intro H locs ls hH hS hl
  exact lv_lload hx hb hd (hl.2.2 (4, tr g (.long v)) (mem_lvl.mpr ⟨_, rfl, rfl⟩)) (k H locs ls hH hS hl)
theorem ww_aload4 (C : Ck g x cc nL own rt rm n' Post) {a0 : Option Value} {a1 : Option Value} {a2 : Option Value} {a3 : Option Value} {v : Nat} {t : List (Option Value)} (hd : decode cc pc = .ok (.aload 4, 2)) (k : WW g x nL cs ss n w (pc + 2) (a0 :: a1 :: a2 :: a3 :: some (.ref v) :: t) (.ref v :: st)) : WW g x nL cs ss n w pc (a0 :: a1 :: a2 :: a3 :: some (.ref v) :: t) st := by
  obtain ⟨p, e, R, s, m, args, below, meth, c, Q⟩ := x
  obtain ⟨hx, hb, hml, hr, hlk, hown, hts, hK, hR, hbs, hQ⟩ := C
  intro H locs ls hH hS hl
  exact lv_aload hx hb hd (hl.2.2 (4, tr g (.ref v)) (mem_lvl.mpr ⟨_, rfl, rfl⟩)) (k H locs ls hH hS hl)
theorem ww_istore4 (C : Ck g x cc nL own rt rm n' Post) {a0 : Option Value} {a1 : Option Value} {a2 : Option Value} {a3 : Option Value} {a4 : Option Value} {v : Int32} {t : List (Option Value)} (hd : decode cc pc = .ok (.istore 4, 2)) (hn : 4 < nL) (hp : nl a3 = true) (k : WW g x nL cs ss n w (pc + 2) (a0 :: a1 :: a2 :: a3 :: some (.int v) :: t) st) : WW g x nL cs ss n w pc (a0 :: a1 :: a2 :: a3 :: a4 :: t) (.int v :: st) := by
  obtain ⟨p, e, R, s, m, args, below, meth, c, Q⟩ := x
  obtain ⟨hx, hb, hml, hr, hlk, hown, hts, hK, hR, hbs, hQ⟩ := C
  intro H locs ls hH hS hl
  exact lv_istore hx hb hd hl hn rfl (fun ls2 hl2 => k H locs ls2 hH hS (lvl_set1 (v := .int v) hl2 (fun u e _ => nl_p hp u e) rfl))
theorem ww_astore4 (C : Ck g x cc nL own rt rm n' Post) {a0 : Option Value} {a1 : Option Value} {a2 : Option Value} {a3 : Option Value} {a4 : Option Value} {v : Nat} {t : List (Option Value)} (hd : decode cc pc = .ok (.astore 4, 2)) (hn : 4 < nL) (hp : nl a3 = true) (k : WW g x nL cs ss n w (pc + 2) (a0 :: a1 :: a2 :: a3 :: some (.ref v) :: t) st) : WW g x nL cs ss n w pc (a0 :: a1 :: a2 :: a3 :: a4 :: t) (.ref v :: st) := by
  obtain ⟨p, e, R, s, m, args, below, meth, c, Q⟩ := x
  obtain ⟨hx, hb, hml, hr, hlk, hown, hts, hK, hR, hbs, hQ⟩ := C
  intro H locs ls hH hS hl
  exact lv_astore hx hb hd hl hn rfl (fun ls2 hl2 => k H locs ls2 hH hS (lvl_set1 (v := .ref v) hl2 (fun u e _ => nl_p hp u e) rfl))
theorem ww_lstore4 (C : Ck g x cc nL own rt rm n' Post) {a0 : Option Value} {a1 : Option Value} {a2 : Option Value} {a3 : Option Value} {a4 : Option Value} {a5 : Option Value} {v : Int64} {t : List (Option Value)} (hd : decode cc pc = .ok (.lstore 4, 2)) (hn : 5 < nL) (hp : nl a3 = true) (k : WW g x nL cs ss n w (pc + 2) (a0 :: a1 :: a2 :: a3 :: some (.long v) :: none :: t) st) : WW g x nL cs ss n w pc (a0 :: a1 :: a2 :: a3 :: a4 :: a5 :: t) (.long v :: st) := by
  obtain ⟨p, e, R, s, m, args, below, meth, c, Q⟩ := x
  obtain ⟨hx, hb, hml, hr, hlk, hown, hts, hK, hR, hbs, hQ⟩ := C
  intro H locs ls hH hS hl
  exact lv_lstore hx hb hd hl hn rfl (fun ls2 hl2 => k H locs ls2 hH hS (lvl_set2 (v := .long v) hl2 (fun u e _ => nl_p hp u e) rfl))
theorem ww_iinc4 (C : Ck g x cc nL own rt rm n' Post) {a0 : Option Value} {a1 : Option Value} {a2 : Option Value} {a3 : Option Value} {v u : Int32} {z : Int} {t : List (Option Value)} (hd : decode cc pc = .ok (.iinc 4 z, 3)) (hv : v + Int32.ofInt z = u) (hn : 4 < nL) (hp : nl a3 = true) (k : WW g x nL cs ss n w (pc + 3) (a0 :: a1 :: a2 :: a3 :: some (.int u) :: t) st) : WW g x nL cs ss n w pc (a0 :: a1 :: a2 :: a3 :: some (.int v) :: t) st := by
  obtain ⟨p, e, R, s, m, args, below, meth, c, Q⟩ := x
  obtain ⟨hx, hb, hml, hr, hlk, hown, hts, hK, hR, hbs, hQ⟩ := C
  intro H locs ls hH hS hl
  obtain ⟨j, hj⟩ := List.getElem?_of_mem (mem_lvl (g := g) (L := (a0 :: a1 :: a2 :: a3 :: some (.int v) :: t)) (q := (4, .int v)) |>.mpr ⟨.int v, rfl, rfl⟩)
  exact lv_iinc hx hb hd hl hj hv hn rfl (fun ls2 hl2 => k H locs ls2 hH hS (lvl_set1 (v := .int u) hl2 (fun u e _ => nl_p hp u e) rfl))
theorem ww_iload5 (C : Ck g x cc nL own rt rm n' Post) {a0 : Option Value} {a1 : Option Value} {a2 : Option Value} {a3 : Option Value} {a4 : Option Value} {v : Int32} {t : List (Option Value)} (hd : decode cc pc = .ok (.iload 5, 2)) (k : WW g x nL cs ss n w (pc + 2) (a0 :: a1 :: a2 :: a3 :: a4 :: some (.int v) :: t) (.int v :: st)) : WW g x nL cs ss n w pc (a0 :: a1 :: a2 :: a3 :: a4 :: some (.int v) :: t) st := by
  obtain ⟨p, e, R, s, m, args, below, meth, c, Q⟩ := x
  obtain ⟨hx, hb, hml, hr, hlk, hown, hts, hK, hR, hbs, hQ⟩ := C
  intro H locs ls hH hS hl
  exact lv_iload hx hb hd (hl.2.2 (5, tr g (.int v)) (mem_lvl.mpr ⟨_, rfl, rfl⟩)) (k H locs ls hH hS hl)
theorem ww_lload5 (C : Ck g x cc nL own rt rm n' Post) {a0 : Option Value} {a1 : Option Value} {a2 : Option Value} {a3 : Option Value} {a4 : Option Value} {v : Int64} {t : List (Option Value)} (hd : decode cc pc = .ok (.lload 5, 2)) (k : WW g x nL cs ss n w (pc + 2) (a0 :: a1 :: a2 :: a3 :: a4 :: some (.long v) :: t) (.long v :: st)) : WW g x nL cs ss n w pc (a0 :: a1 :: a2 :: a3 :: a4 :: some (.long v) :: t) st := by
  obtain ⟨p, e, R, s, m, args, below, meth, c, Q⟩ := x
  obtain ⟨hx, hb, hml, hr, hlk, hown, hts, hK, hR, hbs, hQ⟩ := C
  intro H locs ls hH hS hl
  exact lv_lload hx hb hd (hl.2.2 (5, tr g (.long v)) (mem_lvl.mpr ⟨_, rfl, rfl⟩)) (k H locs ls hH hS hl)
theorem ww_aload5 (C : Ck g x cc nL own rt rm n' Post) {a0 : Option Value} {a1 : Option Value} {a2 : Option Value} {a3 : Option Value} {a4 : Option Value} {v : Nat} {t : List (Option Value)} (hd : decode cc pc = .ok (.aload 5, 2)) (k : WW g x nL cs ss n w (pc + 2) (a0 :: a1 :: a2 :: a3 :: a4 :: some (.ref v) :: t) (.ref v :: st)) : WW g x nL cs ss n w pc (a0 :: a1 :: a2 :: a3 :: a4 :: some (.ref v) :: t) st := by
  obtain ⟨p, e, R, s, m, args, below, meth, c, Q⟩ := x
  obtain ⟨hx, hb, hml, hr, hlk, hown, hts, hK, hR, hbs, hQ⟩ := C
  intro H locs ls hH hS hl
  exact lv_aload hx hb hd (hl.2.2 (5, tr g (.ref v)) (mem_lvl.mpr ⟨_, rfl, rfl⟩)) (k H locs ls hH hS hl)
theorem ww_istore5 (C : Ck g x cc nL own rt rm n' Post) {a0 : Option Value} {a1 : Option Value} {a2 : Option Value} {a3 : Option Value} {a4 : Option Value} {a5 : Option Value} {v : Int32} {t : List (Option Value)} (hd : decode cc pc = .ok (.istore 5, 2)) (hn : 5 < nL) (hp : nl a4 = true) (k : WW g x nL cs ss n w (pc + 2) (a0 :: a1 :: a2 :: a3 :: a4 :: some (.int v) :: t) st) : WW g x nL cs ss n w pc (a0 :: a1 :: a2 :: a3 :: a4 :: a5 :: t) (.int v :: st) := by
  obtain ⟨p, e, R, s, m, args, below, meth, c, Q⟩ := x
  obtain ⟨hx, hb, hml, hr, hlk, hown, hts, hK, hR, hbs, hQ⟩ := C
  intro H locs ls hH hS hl
  exact lv_istore hx hb hd hl hn rfl (fun ls2 hl2 => k H locs ls2 hH hS (lvl_set1 (v := .int v) hl2 (fun u e _ => nl_p hp u e) rfl))
theorem ww_astore5 (C : Ck g x cc nL own rt rm n' Post) {a0 : Option Value} {a1 : Option Value} {a2 : Option Value} {a3 : Option Value} {a4 : Option Value} {a5 : Option Value} {v : Nat} {t : List (Option Value)} (hd : decode cc pc = .ok (.astore 5, 2)) (hn : 5 < nL) (hp : nl a4 = true) (k : WW g x nL cs ss n w (pc + 2) (a0 :: a1 :: a2 :: a3 :: a4 :: some (.ref v) :: t) st) : WW g x nL cs ss n w pc (a0 :: a1 :: a2 :: a3 :: a4 :: a5 :: t) (.ref v :: st) := by
  obtain ⟨p, e, R, s, m, args, below, meth, c, Q⟩ := x
  obtain ⟨hx, hb, hml, hr, hlk, hown, hts, hK, hR, hbs, hQ⟩ := C
  intro H locs ls hH hS hl
  exact lv_astore hx hb hd hl hn rfl (fun ls2 hl2 => k H locs ls2 hH hS (lvl_set1 (v := .ref v) hl2 (fun u e _ => nl_p hp u e) rfl))
theorem ww_lstore5 (C : Ck g x cc nL own rt rm n' Post) {a0 : Option Value} {a1 : Option Value} {a2 : Option Value} {a3 : Option Value} {a4 : Option Value} {a5 : Option Value} {a6 : Option Value} {v : Int64} {t : List (Option Value)} (hd : decode cc pc = .ok (.lstore 5, 2)) (hn : 6 < nL) (hp : nl a4 = true) (k : WW g x nL cs ss n w (pc + 2) (a0 :: a1 :: a2 :: a3 :: a4 :: some (.long v) :: none :: t) st) : WW g x nL cs ss n w pc (a0 :: a1 :: a2 :: a3 :: a4 :: a5 :: a6 :: t) (.long v :: st) := by
  obtain ⟨p, e, R, s, m, args, below, meth, c, Q⟩ := x
  obtain ⟨hx, hb, hml, hr, hlk, hown, hts, hK, hR, hbs, hQ⟩ := C
  intro H locs ls hH hS hl
  exact lv_lstore hx hb hd hl hn rfl (fun ls2 hl2 => k H locs ls2 hH hS (lvl_set2 (v := .long v) hl2 (fun u e _ => nl_p hp u e) rfl))
theorem ww_iinc5 (C : Ck g x cc nL own rt rm n' Post) {a0 : Option Value} {a1 : Option Value} {a2 : Option Value} {a3 : Option Value} {a4 : Option Value} {v u : Int32} {z : Int} {t : List (Option Value)} (hd : decode cc pc = .ok (.iinc 5 z, 3)) (hv : v + Int32.ofInt z = u) (hn : 5 < nL) (hp : nl a4 = true) (k : WW g x nL cs ss n w (pc + 3) (a0 :: a1 :: a2 :: a3 :: a4 :: some (.int u) :: t) st) : WW g x nL cs ss n w pc (a0 :: a1 :: a2 :: a3 :: a4 :: some (.int v) :: t) st := by
  obtain ⟨p, e, R, s, m, args, below, meth, c, Q⟩ := x
  obtain ⟨hx, hb, hml, hr, hlk, hown, hts, hK, hR, hbs, hQ⟩ := C
  intro H locs ls hH hS hl
  obtain ⟨j, hj⟩ := List.getElem?_of_mem (mem_lvl (g := g) (L := (a0 :: a1 :: a2 :: a3 :: a4 :: some (.int v) :: t)) (q := (5, .int v)) |>.mpr ⟨.int v, rfl, rfl⟩)
  exact lv_iinc hx hb hd hl hj hv hn rfl (fun ls2 hl2 => k H locs ls2 hH hS (lvl_set1 (v := .int u) hl2 (fun u e _ => nl_p hp u e) rfl))
theorem ww_iload6 (C : Ck g x cc nL own rt rm n' Post) {a0 : Option Value} {a1 : Option Value} {a2 : Option Value} {a3 : Option Value} {a4 : Option Value} {a5 : Option Value} {v : Int32} {t : List (Option Value)} (hd : decode cc pc = .ok (.iload 6, 2)) (k : WW g x nL cs ss n w (pc + 2) (a0 :: a1 :: a2 :: a3 :: a4 :: a5 :: some (.int v) :: t) (.int v :: st)) : WW g x nL cs ss n w pc (a0 :: a1 :: a2 :: a3 :: a4 :: a5 :: some (.int v) :: t) st := by
  obtain ⟨p, e, R, s, m, args, below, meth, c, Q⟩ := x
  obtain ⟨hx, hb, hml, hr, hlk, hown, hts, hK, hR, hbs, hQ⟩ := C
  intro H locs ls hH hS hl
  exact lv_iload hx hb hd (hl.2.2 (6, tr g (.int v)) (mem_lvl.mpr ⟨_, rfl, rfl⟩)) (k H locs ls hH hS hl)
theorem ww_lload6 (C : Ck g x cc nL own rt rm n' Post) {a0 : Option Value} {a1 : Option Value} {a2 : Option Value} {a3 : Option Value} {a4 : Option Value} {a5 : Option Value} {v : Int64} {t : List (Option Value)} (hd : decode cc pc = .ok (.lload 6, 2)) (k : WW g x nL cs ss n w (pc + 2) (a0 :: a1 :: a2 :: a3 :: a4 :: a5 :: some (.long v) :: t) (.long v :: st)) : WW g x nL cs ss n w pc (a0 :: a1 :: a2 :: a3 :: a4 :: a5 :: some (.long v) :: t) st := by
  obtain ⟨p, e, R, s, m, args, below, meth, c, Q⟩ := x
  obtain ⟨hx, hb, hml, hr, hlk, hown, hts, hK, hR, hbs, hQ⟩ := C
  intro H locs ls hH hS hl
  exact lv_lload hx hb hd (hl.2.2 (6, tr g (.long v)) (mem_lvl.mpr ⟨_, rfl, rfl⟩)) (k H locs ls hH hS hl)
theorem ww_aload6 (C : Ck g x cc nL own rt rm n' Post) {a0 : Option Value} {a1 : Option Value} {a2 : Option Value} {a3 : Option Value} {a4 : Option Value} {a5 : Option Value} {v : Nat} {t : List (Option Value)} (hd : decode cc pc = .ok (.aload 6, 2)) (k : WW g x nL cs ss n w (pc + 2) (a0 :: a1 :: a2 :: a3 :: a4 :: a5 :: some (.ref v) :: t) (.ref v :: st)) : WW g x nL cs ss n w pc (a0 :: a1 :: a2 :: a3 :: a4 :: a5 :: some (.ref v) :: t) st := by
  obtain ⟨p, e, R, s, m, args, below, meth, c, Q⟩ := x
  obtain ⟨hx, hb, hml, hr, hlk, hown, hts, hK, hR, hbs, hQ⟩ := C
  intro H locs ls hH hS hl
  exact lv_aload hx hb hd (hl.2.2 (6, tr g (.ref v)) (mem_lvl.mpr ⟨_, rfl, rfl⟩)) (k H locs ls hH hS hl)
theorem ww_istore6 (C : Ck g x cc nL own rt rm n' Post) {a0 : Option Value} {a1 : Option Value} {a2 : Option Value} {a3 : Option Value} {a4 : Option Value} {a5 : Option Value} {a6 : Option Value} {v : Int32} {t : List (Option Value)} (hd : decode cc pc = .ok (.istore 6, 2)) (hn : 6 < nL) (hp : nl a5 = true) (k : WW g x nL cs ss n w (pc + 2) (a0 :: a1 :: a2 :: a3 :: a4 :: a5 :: some (.int v) :: t) st) : WW g x nL cs ss n w pc (a0 :: a1 :: a2 :: a3 :: a4 :: a5 :: a6 :: t) (.int v :: st) := by
  obtain ⟨p, e, R, s, m, args, below, meth, c, Q⟩ := x
  obtain ⟨hx, hb, hml, hr, hlk, hown, hts, hK, hR, hbs, hQ⟩ := C
  intro H locs ls hH hS hl
  exact lv_istore hx hb hd hl hn rfl (fun ls2 hl2 => k H locs ls2 hH hS (lvl_set1 (v := .int v) hl2 (fun u e _ => nl_p hp u e) rfl))
theorem ww_astore6 (C : Ck g x cc nL own rt rm n' Post) {a0 : Option Value} {a1 : Option Value} {a2 : Option Value} {a3 : Option Value} {a4 : Option Value} {a5 : Option Value} {a6 : Option Value} {v : Nat} {t : List (Option Value)} (hd : decode cc pc = .ok (.astore 6, 2)) (hn : 6 < nL) (hp : nl a5 = true) (k : WW g x nL cs ss n w (pc + 2) (a0 :: a1 :: a2 :: a3 :: a4 :: a5 :: some (.ref v) :: t) st) : WW g x nL cs ss n w pc (a0 :: a1 :: a2 :: a3 :: a4 :: a5 :: a6 :: t) (.ref v :: st) := by
  obtain ⟨p, e, R, s, m, args, below, meth, c, Q⟩ := x
  obtain ⟨hx, hb, hml, hr, hlk, hown, hts, hK, hR, hbs, hQ⟩ := C
  intro H locs ls hH hS hl
  exact lv_astore hx hb hd hl hn rfl (fun ls2 hl2 => k H locs ls2 hH hS (lvl_set1 (v := .ref v) hl2 (fun u e _ => nl_p hp u e) rfl))
theorem ww_lstore6 (C : Ck g x cc nL own rt rm n' Post) {a0 : Option Value} {a1 : Option Value} {a2 : Option Value} {a3 : Option Value} {a4 : Option Value} {a5 : Option Value} {a6 : Option Value} {a7 : Option Value} {v : Int64} {t : List (Option Value)} (hd : decode cc pc = .ok (.lstore 6, 2)) (hn : 7 < nL) (hp : nl a5 = true) (k : WW g x nL cs ss n w (pc + 2) (a0 :: a1 :: a2 :: a3 :: a4 :: a5 :: some (.long v) :: none :: t) st) : WW g x nL cs ss n w pc (a0 :: a1 :: a2 :: a3 :: a4 :: a5 :: a6 :: a7 :: t) (.long v :: st) := by
  obtain ⟨p, e, R, s, m, args, below, meth, c, Q⟩ := x
  obtain ⟨hx, hb, hml, hr, hlk, hown, hts, hK, hR, hbs, hQ⟩ := C
  intro H locs ls hH hS hl
  exact lv_lstore hx hb hd hl hn rfl (fun ls2 hl2 => k H locs ls2 hH hS (lvl_set2 (v := .long v) hl2 (fun u e _ => nl_p hp u e) rfl))
theorem ww_iinc6 (C : Ck g x cc nL own rt rm n' Post) {a0 : Option Value} {a1 : Option Value} {a2 : Option Value} {a3 : Option Value} {a4 : Option Value} {a5 : Option Value} {v u : Int32} {z : Int} {t : List (Option Value)} (hd : decode cc pc = .ok (.iinc 6 z, 3)) (hv : v + Int32.ofInt z = u) (hn : 6 < nL) (hp : nl a5 = true) (k : WW g x nL cs ss n w (pc + 3) (a0 :: a1 :: a2 :: a3 :: a4 :: a5 :: some (.int u) :: t) st) : WW g x nL cs ss n w pc (a0 :: a1 :: a2 :: a3 :: a4 :: a5 :: some (.int v) :: t) st := by
  obtain ⟨p, e, R, s, m, args, below, meth, c, Q⟩ := x
  obtain ⟨hx, hb, hml, hr, hlk, hown, hts, hK, hR, hbs, hQ⟩ := C
  intro H locs ls hH hS hl
  obtain ⟨j, hj⟩ := List.getElem?_of_mem (mem_lvl (g := g) (L := (a0 :: a1 :: a2 :: a3 :: a4 :: a5 :: some (.int v) :: t)) (q := (6, .int v)) |>.mpr ⟨.int v, rfl, rfl⟩)
  exact lv_iinc hx hb hd hl hj hv hn rfl (fun ls2 hl2 => k H locs ls2 hH hS (lvl_set1 (v := .int u) hl2 (fun u e _ => nl_p hp u e) rfl))
theorem ww_iload7 (C : Ck g x cc nL own rt rm n' Post) {a0 : Option Value} {a1 : Option Value} {a2 : Option Value} {a3 : Option Value} {a4 : Option Value} {a5 : Option Value} {a6 : Option Value} {v : Int32} {t : List (Option Value)} (hd : decode cc pc = .ok (.iload 7, 2)) (k : WW g x nL cs ss n w (pc + 2) (a0 :: a1 :: a2 :: a3 :: a4 :: a5 :: a6 :: some (.int v) :: t) (.int v :: st)) : WW g x nL cs ss n w pc (a0 :: a1 :: a2 :: a3 :: a4 :: a5 :: a6 :: some (.int v) :: t) st := by
  obtain ⟨p, e, R, s, m, args, below, meth, c, Q⟩ := x
  obtain ⟨hx, hb, hml, hr, hlk, hown, hts, hK, hR, hbs, hQ⟩ := C
  intro H locs ls hH hS hl
  exact lv_iload hx hb hd (hl.2.2 (7, tr g (.int v)) (mem_lvl.mpr ⟨_, rfl, rfl⟩)) (k H locs ls hH hS hl)
theorem ww_lload7 (C : Ck g x cc nL own rt rm n' Post) {a0 : Option Value} {a1 : Option Value} {a2 : Option Value} {a3 : Option Value} {a4 : Option Value} {a5 : Option Value} {a6 : Option Value} {v : Int64} {t : List (Option Value)} (hd : decode cc pc = .ok (.lload 7, 2)) (k : WW g x nL cs ss n w (pc + 2) (a0 :: a1 :: a2 :: a3 :: a4 :: a5 :: a6 :: some (.long v) :: t) (.long v :: st)) : WW g x nL cs ss n w pc (a0 :: a1 :: a2 :: a3 :: a4 :: a5 :: a6 :: some (.long v) :: t) st := by
  obtain ⟨p, e, R, s, m, args, below, meth, c, Q⟩ := x
  obtain ⟨hx, hb, hml, hr, hlk, hown, hts, hK, hR, hbs, hQ⟩ := C
  intro H locs ls hH hS hl
  exact lv_lload hx hb hd (hl.2.2 (7, tr g (.long v)) (mem_lvl.mpr ⟨_, rfl, rfl⟩)) (k H locs ls hH hS hl)
theorem ww_aload7 (C : Ck g x cc nL own rt rm n' Post) {a0 : Option Value} {a1 : Option Value} {a2 : Option Value} {a3 : Option Value} {a4 : Option Value} {a5 : Option Value} {a6 : Option Value} {v : Nat} {t : List (Option Value)} (hd : decode cc pc = .ok (.aload 7, 2)) (k : WW g x nL cs ss n w (pc + 2) (a0 :: a1 :: a2 :: a3 :: a4 :: a5 :: a6 :: some (.ref v) :: t) (.ref v :: st)) : WW g x nL cs ss n w pc (a0 :: a1 :: a2 :: a3 :: a4 :: a5 :: a6 :: some (.ref v) :: t) st := by
  obtain ⟨p, e, R, s, m, args, below, meth, c, Q⟩ := x
  obtain ⟨hx, hb, hml, hr, hlk, hown, hts, hK, hR, hbs, hQ⟩ := C
  intro H locs ls hH hS hl
  exact lv_aload hx hb hd (hl.2.2 (7, tr g (.ref v)) (mem_lvl.mpr ⟨_, rfl, rfl⟩)) (k H locs ls hH hS hl)
theorem ww_istore7 (C : Ck g x cc nL own rt rm n' Post) {a0 : Option Value} {a1 : Option Value} {a2 : Option Value} {a3 : Option Value} {a4 : Option Value} {a5 : Option Value} {a6 : Option Value} {a7 : Option Value} {v : Int32} {t : List (Option Value)} (hd : decode cc pc = .ok (.istore 7, 2)) (hn : 7 < nL) (hp : nl a6 = true) (k : WW g x nL cs ss n w (pc + 2) (a0 :: a1 :: a2 :: a3 :: a4 :: a5 :: a6 :: some (.int v) :: t) st) : WW g x nL cs ss n w pc (a0 :: a1 :: a2 :: a3 :: a4 :: a5 :: a6 :: a7 :: t) (.int v :: st) := by
  obtain ⟨p, e, R, s, m, args, below, meth, c, Q⟩ := x
  obtain ⟨hx, hb, hml, hr, hlk, hown, hts, hK, hR, hbs, hQ⟩ := C
  intro H locs ls hH hS hl
  exact lv_istore hx hb hd hl hn rfl (fun ls2 hl2 => k H locs ls2 hH hS (lvl_set1 (v := .int v) hl2 (fun u e _ => nl_p hp u e) rfl))
theorem ww_astore7 (C : Ck g x cc nL own rt rm n' Post) {a0 : Option Value} {a1 : Option Value} {a2 : Option Value} {a3 : Option Value} {a4 : Option Value} {a5 : Option Value} {a6 : Option Value} {a7 : Option Value} {v : Nat} {t : List (Option Value)} (hd : decode cc pc = .ok (.astore 7, 2)) (hn : 7 < nL) (hp : nl a6 = true) (k : WW g x nL cs ss n w (pc + 2) (a0 :: a1 :: a2 :: a3 :: a4 :: a5 :: a6 :: some (.ref v) :: t) st) : WW g x nL cs ss n w pc (a0 :: a1 :: a2 :: a3 :: a4 :: a5 :: a6 :: a7 :: t) (.ref v :: st) := by
  obtain ⟨p, e, R, s, m, args, below, meth, c, Q⟩ := x
  obtain ⟨hx, hb, hml, hr, hlk, hown, hts, hK, hR, hbs, hQ⟩ := C
  intro H locs ls hH hS hl
  exact lv_astore hx hb hd hl hn rfl (fun ls2 hl2 => k H locs ls2 hH hS (lvl_set1 (v := .ref v) hl2 (fun u e _ => nl_p hp u e) rfl))
theorem ww_lstore7 (C : Ck g x cc nL own rt rm n' Post) {a0 : Option Value} {a1 : Option Value} {a2 : Option Value} {a3 : Option Value} {a4 : Option Value} {a5 : Option Value} {a6 : Option Value} {a7 : Option Value} {a8 : Option Value} {v : Int64} {t : List (Option Value)} (hd : decode cc pc = .ok (.lstore 7, 2)) (hn : 8 < nL) (hp : nl a6 = true) (k : WW g x nL cs ss n w (pc + 2) (a0 :: a1 :: a2 :: a3 :: a4 :: a5 :: a6 :: some (.long v) :: none :: t) st) : WW g x nL cs ss n w pc (a0 :: a1 :: a2 :: a3 :: a4 :: a5 :: a6 :: a7 :: a8 :: t) (.long v :: st) := by
  obtain ⟨p, e, R, s, m, args, below, meth, c, Q⟩ := x
  obtain ⟨hx, hb, hml, hr, hlk, hown, hts, hK, hR, hbs, hQ⟩ := C
  intro H locs ls hH hS hl
  exact lv_lstore hx hb hd hl hn rfl (fun ls2 hl2 => k H locs ls2 hH hS (lvl_set2 (v := .long v) hl2 (fun u e _ => nl_p hp u e) rfl))
theorem ww_iinc7 (C : Ck g x cc nL own rt rm n' Post) {a0 : Option Value} {a1 : Option Value} {a2 : Option Value} {a3 : Option Value} {a4 : Option Value} {a5 : Option Value} {a6 : Option Value} {v u : Int32} {z : Int} {t : List (Option Value)} (hd : decode cc pc = .ok (.iinc 7 z, 3)) (hv : v + Int32.ofInt z = u) (hn : 7 < nL) (hp : nl a6 = true) (k : WW g x nL cs ss n w (pc + 3) (a0 :: a1 :: a2 :: a3 :: a4 :: a5 :: a6 :: some (.int u) :: t) st) : WW g x nL cs ss n w pc (a0 :: a1 :: a2 :: a3 :: a4 :: a5 :: a6 :: some (.int v) :: t) st := by
  obtain ⟨p, e, R, s, m, args, below, meth, c, Q⟩ := x
  obtain ⟨hx, hb, hml, hr, hlk, hown, hts, hK, hR, hbs, hQ⟩ := C
  intro H locs ls hH hS hl
  obtain ⟨j, hj⟩ := List.getElem?_of_mem (mem_lvl (g := g) (L := (a0 :: a1 :: a2 :: a3 :: a4 :: a5 :: a6 :: some (.int v) :: t)) (q := (7, .int v)) |>.mpr ⟨.int v, rfl, rfl⟩)
  exact lv_iinc hx hb hd hl hj hv hn rfl (fun ls2 hl2 => k H locs ls2 hH hS (lvl_set1 (v := .int u) hl2 (fun u e _ => nl_p hp u e) rfl))
theorem ww_iload8 (C : Ck g x cc nL own rt rm n' Post) {a0 : Option Value} {a1 : Option Value} {a2 : Option Value} {a3 : Option Value} {a4 : Option Value} {a5 : Option Value} {a6 : Option Value} {a7 : Option Value} {v : Int32} {t : List (Option Value)} (hd : decode cc pc = .ok (.iload 8, 2)) (k : WW g x nL cs ss n w (pc + 2) (a0 :: a1 :: a2 :: a3 :: a4 :: a5 :: a6 :: a7 :: some (.int v) :: t) (.int v :: st)) : WW g x nL cs ss n w pc (a0 :: a1 :: a2 :: a3 :: a4 :: a5 :: a6 :: a7 :: some (.int v) :: t) st := by
  obtain ⟨p, e, R, s, m, args, below, meth, c, Q⟩ := x
  obtain ⟨hx, hb, hml, hr, hlk, hown, hts, hK, hR, hbs, hQ⟩ := C
  intro H locs ls hH hS hl
  exact lv_iload hx hb hd (hl.2.2 (8, tr g (.int v)) (mem_lvl.mpr ⟨_, rfl, rfl⟩)) (k H locs ls hH hS hl)
theorem ww_lload8 (C : Ck g x cc nL own rt rm n' Post) {a0 : Option Value} {a1 : Option Value} {a2 : Option Value} {a3 : Option Value} {a4 : Option Value} {a5 : Option Value} {a6 : Option Value} {a7 : Option Value} {v : Int64} {t : List (Option Value)} (hd : decode cc pc = .ok (.lload 8, 2)) (k : WW g x nL cs ss n w (pc + 2) (a0 :: a1 :: a2 :: a3 :: a4 :: a5 :: a6 :: a7 :: some (.long v) :: t) (.long v :: st)) : WW g x nL cs ss n w pc (a0 :: a1 :: a2 :: a3 :: a4 :: a5 :: a6 :: a7 :: some (.long v) :: t) st := by
  obtain ⟨p, e, R, s, m, args, below, meth, c, Q⟩ := x
  obtain ⟨hx, hb, hml, hr, hlk, hown, hts, hK, hR, hbs, hQ⟩ := C
  intro H locs ls hH hS hl
  exact lv_lload hx hb hd (hl.2.2 (8, tr g (.long v)) (mem_lvl.mpr ⟨_, rfl, rfl⟩)) (k H locs ls hH hS hl)
theorem ww_aload8 (C : Ck g x cc nL own rt rm n' Post) {a0 : Option Value} {a1 : Option Value} {a2 : Option Value} {a3 : Option Value} {a4 : Option Value} {a5 : Option Value} {a6 : Option Value} {a7 : Option Value} {v : Nat} {t : List (Option Value)} (hd : decode cc pc = .ok (.aload 8, 2)) (k : WW g x nL cs ss n w (pc + 2) (a0 :: a1 :: a2 :: a3 :: a4 :: a5 :: a6 :: a7 :: some (.ref v) :: t) (.ref v :: st)) : WW g x nL cs ss n w pc (a0 :: a1 :: a2 :: a3 :: a4 :: a5 :: a6 :: a7 :: some (.ref v) :: t) st := by
  obtain ⟨p, e, R, s, m, args, below, meth, c, Q⟩ := x
  obtain ⟨hx, hb, hml, hr, hlk, hown, hts, hK, hR, hbs, hQ⟩ := C
  intro H locs ls hH hS hl
  exact lv_aload hx hb hd (hl.2.2 (8, tr g (.ref v)) (mem_lvl.mpr ⟨_, rfl, rfl⟩)) (k H locs ls hH hS hl)
theorem ww_istore8 (C : Ck g x cc nL own rt rm n' Post) {a0 : Option Value} {a1 : Option Value} {a2 : Option Value} {a3 : Option Value} {a4 : Option Value} {a5 : Option Value} {a6 : Option Value} {a7 : Option Value} {a8 : Option Value} {v : Int32} {t : List (Option Value)} (hd : decode cc pc = .ok (.istore 8, 2)) (hn : 8 < nL) (hp : nl a7 = true) (k : WW g x nL cs ss n w (pc + 2) (a0 :: a1 :: a2 :: a3 :: a4 :: a5 :: a6 :: a7 :: some (.int v) :: t) st) : WW g x nL cs ss n w pc (a0 :: a1 :: a2 :: a3 :: a4 :: a5 :: a6 :: a7 :: a8 :: t) (.int v :: st) := by
  obtain ⟨p, e, R, s, m, args, below, meth, c, Q⟩ := x
  obtain ⟨hx, hb, hml, hr, hlk, hown, hts, hK, hR, hbs, hQ⟩ := C
  intro H locs ls hH hS hl
  exact lv_istore hx hb hd hl hn rfl (fun ls2 hl2 => k H locs ls2 hH hS (lvl_set1 (v := .int v) hl2 (fun u e _ => nl_p hp u e) rfl))
theorem ww_astore8 (C : Ck g x cc nL own rt rm n' Post) {a0 : Option Value} {a1 : Option Value} {a2 : Option Value} {a3 : Option Value} {a4 : Option Value} {a5 : Option Value} {a6 : Option Value} {a7 : Option Value} {a8 : Option Value} {v : Nat} {t : List (Option Value)} (hd : decode cc pc = .ok (.astore 8, 2)) (hn : 8 < nL) (hp : nl a7 = true) (k : WW g x nL cs ss n w (pc + 2) (a0 :: a1 :: a2 :: a3 :: a4 :: a5 :: a6 :: a7 :: some (.ref v) :: t) st) : WW g x nL cs ss n w pc (a0 :: a1 :: a2 :: a3 :: a4 :: a5 :: a6 :: a7 :: a8 :: t) (.ref v :: st) := by
  obtain ⟨p, e, R, s, m, args, below, meth, c, Q⟩ := x
  obtain ⟨hx, hb, hml, hr, hlk, hown, hts, hK, hR, hbs, hQ⟩ := C
  intro H locs ls hH hS hl
  exact lv_astore hx hb hd hl hn rfl (fun ls2 hl2 => k H locs ls2 hH hS (lvl_set1 (v := .ref v) hl2 (fun u e _ => nl_p hp u e) rfl))
theorem ww_lstore8 (C : Ck g x cc nL own rt rm n' Post) {a0 : Option Value} {a1 : Option Value} {a2 : Option Value} {a3 : Option Value} {a4 : Option Value} {a5 : Option Value} {a6 : Option Value} {a7 : Option Value} {a8 : Option Value} {a9 : Option Value} {v : Int64} {t : List (Option Value)} (hd : decode cc pc = .ok (.lstore 8, 2)) (hn : 9 < nL) (hp : nl a7 = true) (k : WW g x nL cs ss n w (pc + 2) (a0 :: a1 :: a2 :: a3 :: a4 :: a5 :: a6 :: a7 :: some (.long v) :: none :: t) st) : WW g x nL cs ss n w pc (a0 :: a1 :: a2 :: a3 :: a4 :: a5 :: a6 :: a7 :: a8 :: a9 :: t) (.long v :: st) := by
  obtain ⟨p, e, R, s, m, args, below, meth, c, Q⟩ := x
  obtain ⟨hx, hb, hml, hr, hlk, hown, hts, hK, hR, hbs, hQ⟩ := C
  intro H locs ls hH hS hl
  exact lv_lstore hx hb hd hl hn rfl (fun ls2 hl2 => k H locs ls2 hH hS (lvl_set2 (v := .long v) hl2 (fun u e _ => nl_p hp u e) rfl))
theorem ww_iinc8 (C : Ck g x cc nL own rt rm n' Post) {a0 : Option Value} {a1 : Option Value} {a2 : Option Value} {a3 : Option Value} {a4 : Option Value} {a5 : Option Value} {a6 : Option Value} {a7 : Option Value} {v u : Int32} {z : Int} {t : List (Option Value)} (hd : decode cc pc = .ok (.iinc 8 z, 3)) (hv : v + Int32.ofInt z = u) (hn : 8 < nL) (hp : nl a7 = true) (k : WW g x nL cs ss n w (pc + 3) (a0 :: a1 :: a2 :: a3 :: a4 :: a5 :: a6 :: a7 :: some (.int u) :: t) st) : WW g x nL cs ss n w pc (a0 :: a1 :: a2 :: a3 :: a4 :: a5 :: a6 :: a7 :: some (.int v) :: t) st := by
  obtain ⟨p, e, R, s, m, args, below, meth, c, Q⟩ := x
  obtain ⟨hx, hb, hml, hr, hlk, hown, hts, hK, hR, hbs, hQ⟩ := C
  intro H locs ls hH hS hl
  obtain ⟨j, hj⟩ := List.getElem?_of_mem (mem_lvl (g := g) (L := (a0 :: a1 :: a2 :: a3 :: a4 :: a5 :: a6 :: a7 :: some (.int v) :: t)) (q := (8, .int v)) |>.mpr ⟨.int v, rfl, rfl⟩)
  exact lv_iinc hx hb hd hl hj hv hn rfl (fun ls2 hl2 => k H locs ls2 hH hS (lvl_set1 (v := .int u) hl2 (fun u e _ => nl_p hp u e) rfl))
theorem ww_iload9 (C : Ck g x cc nL own rt rm n' Post) {a0 : Option Value} {a1 : Option Value} {a2 : Option Value} {a3 : Option Value} {a4 : Option Value} {a5 : Option Value} {a6 : Option Value} {a7 : Option Value} {a8 : Option Value} {v : Int32} {t : List (Option Value)} (hd : decode cc pc = .ok (.iload 9, 2)) (k : WW g x nL cs ss n w (pc + 2) (a0 :: a1 :: a2 :: a3 :: a4 :: a5 :: a6 :: a7 :: a8 :: some (.int v) :: t) (.int v :: st)) : WW g x nL cs ss n w pc (a0 :: a1 :: a2 :: a3 :: a4 :: a5 :: a6 :: a7 :: a8 :: some (.int v) :: t) st := by
  obtain ⟨p, e, R, s, m, args, below, meth, c, Q⟩ := x
  obtain ⟨hx, hb, hml, hr, hlk, hown, hts, hK, hR, hbs, hQ⟩ := C
  intro H locs ls hH hS hl
  exact lv_iload hx hb hd (hl.2.2 (9, tr g (.int v)) (mem_lvl.mpr ⟨_, rfl, rfl⟩)) (k H locs ls hH hS hl)
theorem ww_lload9 (C : Ck g x cc nL own rt rm n' Post) {a0 : Option Value} {a1 : Option Value} {a2 : Option Value} {a3 : Option Value} {a4 : Option Value} {a5 : Option Value} {a6 : Option Value} {a7 : Option Value} {a8 : Option Value} {v : Int64} {t : List (Option Value)} (hd : decode cc pc = .ok (.lload 9, 2)) (k : WW g x nL cs ss n w (pc + 2) (a0 :: a1 :: a2 :: a3 :: a4 :: a5 :: a6 :: a7 :: a8 :: some (.long v) :: t) (.long v :: st)) : WW g x nL cs ss n w pc (a0 :: a1 :: a2 :: a3 :: a4 :: a5 :: a6 :: a7 :: a8 :: some (.long v) :: t) st := by
  obtain ⟨p, e, R, s, m, args, below, meth, c, Q⟩ := x
  obtain ⟨hx, hb, hml, hr, hlk, hown, hts, hK, hR, hbs, hQ⟩ := C
  intro H locs ls hH hS hl
  exact lv_lload hx hb hd (hl.2.2 (9, tr g (.long v)) (mem_lvl.mpr ⟨_, rfl, rfl⟩)) (k H locs ls hH hS hl)
theorem ww_aload9 (C : Ck g x cc nL own rt rm n' Post) {a0 : Option Value} {a1 : Option Value} {a2 : Option Value} {a3 : Option Value} {a4 : Option Value} {a5 : Option Value} {a6 : Option Value} {a7 : Option Value} {a8 : Option Value} {v : Nat} {t : List (Option Value)} (hd : decode cc pc = .ok (.aload 9, 2)) (k : WW g x nL cs ss n w (pc + 2) (a0 :: a1 :: a2 :: a3 :: a4 :: a5 :: a6 :: a7 :: a8 :: some (.ref v) :: t) (.ref v :: st)) : WW g x nL cs ss n w pc (a0 :: a1 :: a2 :: a3 :: a4 :: a5 :: a6 :: a7 :: a8 :: some (.ref v) :: t) st := by
  obtain ⟨p, e, R, s, m, args, below, meth, c, Q⟩ := x
  obtain ⟨hx, hb, hml, hr, hlk, hown, hts, hK, hR, hbs, hQ⟩ := C
  intro H locs ls hH hS hl
  exact lv_aload hx hb hd (hl.2.2 (9, tr g (.ref v)) (mem_lvl.mpr ⟨_, rfl, rfl⟩)) (k H locs ls hH hS hl)
theorem ww_istore9 (C : Ck g x cc nL own rt rm n' Post) {a0 : Option Value} {a1 : Option Value} {a2 : Option Value} {a3 : Option Value} {a4 : Option Value} {a5 : Option Value} {a6 : Option Value} {a7 : Option Value} {a8 : Option Value} {a9 : Option Value} {v : Int32} {t : List (Option Value)} (hd : decode cc pc = .ok (.istore 9, 2)) (hn : 9 < nL) (hp : nl a8 = true) (k : WW g x nL cs ss n w (pc + 2) (a0 :: a1 :: a2 :: a3 :: a4 :: a5 :: a6 :: a7 :: a8 :: some (.int v) :: t) st) : WW g x nL cs ss n w pc (a0 :: a1 :: a2 :: a3 :: a4 :: a5 :: a6 :: a7 :: a8 :: a9 :: t) (.int v :: st) := by
  obtain ⟨p, e, R, s, m, args, below, meth, c, Q⟩ := x
  obtain ⟨hx, hb, hml, hr, hlk, hown, hts, hK, hR, hbs, hQ⟩ := C
  intro H locs ls hH hS hl
  exact lv_istore hx hb hd hl hn rfl (fun ls2 hl2 => k H locs ls2 hH hS (lvl_set1 (v := .int v) hl2 (fun u e _ => nl_p hp u e) rfl))
theorem ww_astore9 (C : Ck g x cc nL own rt rm n' Post) {a0 : Option Value} {a1 : Option Value} {a2 : Option Value} {a3 : Option Value} {a4 : Option Value} {a5 : Option Value} {a6 : Option Value} {a7 : Option Value} {a8 : Option Value} {a9 : Option Value} {v : Nat} {t : List (Option Value)} (hd : decode cc pc = .ok (.astore 9, 2)) (hn : 9 < nL) (hp : nl a8 = true) (k : WW g x nL cs ss n w (pc + 2) (a0 :: a1 :: a2 :: a3 :: a4 :: a5 :: a6 :: a7 :: a8 :: some (.ref v) :: t) st) : WW g x nL cs ss n w pc (a0 :: a1 :: a2 :: a3 :: a4 :: a5 :: a6 :: a7 :: a8 :: a9 :: t) (.ref v :: st) := by
  obtain ⟨p, e, R, s, m, args, below, meth, c, Q⟩ := x
  obtain ⟨hx, hb, hml, hr, hlk, hown, hts, hK, hR, hbs, hQ⟩ := C
  intro H locs ls hH hS hl
  exact lv_astore hx hb hd hl hn rfl (fun ls2 hl2 => k H locs ls2 hH hS (lvl_set1 (v := .ref v) hl2 (fun u e _ => nl_p hp u e) rfl))
theorem ww_lstore9 (C : Ck g x cc nL own rt rm n' Post) {a0 : Option Value} {a1 : Option Value} {a2 : Option Value} {a3 : Option Value} {a4 : Option Value} {a5 : Option Value} {a6 : Option Value} {a7 : Option Value} {a8 : Option Value} {a9 : Option Value} {a10 : Option Value} {v : Int64} {t : List (Option Value)} (hd : decode cc pc = .ok (.lstore 9, 2)) (hn : 10 < nL) (hp : nl a8 = true) (k : WW g x nL cs ss n w (pc + 2) (a0 :: a1 :: a2 :: a3 :: a4 :: a5 :: a6 :: a7 :: a8 :: some (.long v) :: none :: t) st) : WW g x nL cs ss n w pc (a0 :: a1 :: a2 :: a3 :: a4 :: a5 :: a6 :: a7 :: a8 :: a9 :: a10 :: t) (.long v :: st) := by
  obtain ⟨p, e, R, s, m, args, below, meth, c, Q⟩ := x
  obtain ⟨hx, hb, hml, hr, hlk, hown, hts, hK, hR, hbs, hQ⟩ := C
  intro H locs ls hH hS hl
  exact lv_lstore hx hb hd hl hn rfl (fun ls2 hl2 => k H locs ls2 hH hS (lvl_set2 (v := .long v) hl2 (fun u e _ => nl_p hp u e) rfl))
theorem ww_iinc9 (C : Ck g x cc nL own rt rm n' Post) {a0 : Option Value} {a1 : Option Value} {a2 : Option Value} {a3 : Option Value} {a4 : Option Value} {a5 : Option Value} {a6 : Option Value} {a7 : Option Value} {a8 : Option Value} {v u : Int32} {z : Int} {t : List (Option Value)} (hd : decode cc pc = .ok (.iinc 9 z, 3)) (hv : v + Int32.ofInt z = u) (hn : 9 < nL) (hp : nl a8 = true) (k : WW g x nL cs ss n w (pc + 3) (a0 :: a1 :: a2 :: a3 :: a4 :: a5 :: a6 :: a7 :: a8 :: some (.int u) :: t) st) : WW g x nL cs ss n w pc (a0 :: a1 :: a2 :: a3 :: a4 :: a5 :: a6 :: a7 :: a8 :: some (.int v) :: t) st := by
  obtain ⟨p, e, R, s, m, args, below, meth, c, Q⟩ := x
  obtain ⟨hx, hb, hml, hr, hlk, hown, hts, hK, hR, hbs, hQ⟩ := C
  intro H locs ls hH hS hl
  obtain ⟨j, hj⟩ := List.getElem?_of_mem (mem_lvl (g := g) (L := (a0 :: a1 :: a2 :: a3 :: a4 :: a5 :: a6 :: a7 :: a8 :: some (.int v) :: t)) (q := (9, .int v)) |>.mpr ⟨.int v, rfl, rfl⟩)
  exact lv_iinc hx hb hd hl hj hv hn rfl (fun ls2 hl2 => k H locs ls2 hH hS (lvl_set1 (v := .int u) hl2 (fun u e _ => nl_p hp u e) rfl))
theorem ww_iload10 (C : Ck g x cc nL own rt rm n' Post) {a0 : Option Value} {a1 : Option Value} {a2 : Option Value} {a3 : Option Value} {a4 : Option Value} {a5 : Option Value} {a6 : Option Value} {a7 : Option Value} {a8 : Option Value} {a9 : Option Value} {v : Int32} {t : List (Option Value)} (hd : decode cc pc = .ok (.iload 10, 2)) (k : WW g x nL cs ss n w (pc + 2) (a0 :: a1 :: a2 :: a3 :: a4 :: a5 :: a6 :: a7 :: a8 :: a9 :: some (.int v) :: t) (.int v :: st)) : WW g x nL cs ss n w pc (a0 :: a1 :: a2 :: a3 :: a4 :: a5 :: a6 :: a7 :: a8 :: a9 :: some (.int v) :: t) st := by
  obtain ⟨p, e, R, s, m, args, below, meth, c, Q⟩ := x
  obtain ⟨hx, hb, hml, hr, hlk, hown, hts, hK, hR, hbs, hQ⟩ := C
  intro H locs ls hH hS hl
  exact lv_iload hx hb hd (hl.2.2 (10, tr g (.int v)) (mem_lvl.mpr ⟨_, rfl, rfl⟩)) (k H locs ls hH hS hl)
theorem ww_lload10 (C : Ck g x cc nL own rt rm n' Post) {a0 : Option Value} {a1 : Option Value} {a2 : Option Value} {a3 : Option Value} {a4 : Option Value} {a5 : Option Value} {a6 : Option Value} {a7 : Option Value} {a8 : Option Value} {a9 : Option Value} {v : Int64} {t : List (Option Value)} (hd : decode cc pc = .ok (.lload 10, 2)) (k : WW g x nL cs ss n w (pc + 2) (a0 :: a1 :: a2 :: a3 :: a4 :: a5 :: a6 :: a7 :: a8 :: a9 :: some (.long v) :: t) (.long v :: st)) : WW g x nL cs ss n w pc (a0 :: a1 :: a2 :: a3 :: a4 :: a5 :: a6 :: a7 :: a8 :: a9 :: some (.long v) :: t) st := by
  obtain ⟨p, e, R, s, m, args, below, meth, c, Q⟩ := x
  obtain ⟨hx, hb, hml, hr, hlk, hown, hts, hK, hR, hbs, hQ⟩ := C
  intro H locs ls hH hS hl
  exact lv_lload hx hb hd (hl.2.2 (10, tr g (.long v)) (mem_lvl.mpr ⟨_, rfl, rfl⟩)) (k H locs ls hH hS hl)
theorem ww_aload10 (C : Ck g x cc nL own rt rm n' Post) {a0 : Option Value} {a1 : Option Value} {a2 : Option Value} {a3 : Option Value} {a4 : Option Value} {a5 : Option Value} {a6 : Option Value} {a7 : Option Value} {a8 : Option Value} {a9 : Option Value} {v : Nat} {t : List (Option Value)} (hd : decode cc pc = .ok (.aload 10, 2)) (k : WW g x nL cs ss n w (pc + 2) (a0 :: a1 :: a2 :: a3 :: a4 :: a5 :: a6 :: a7 :: a8 :: a9 :: some (.ref v) :: t) (.ref v :: st)) : WW g x nL cs ss n w pc (a0 :: a1 :: a2 :: a3 :: a4 :: a5 :: a6 :: a7 :: a8 :: a9 :: some (.ref v) :: t) st := by
  obtain ⟨p, e, R, s, m, args, below, meth, c, Q⟩ := x
  obtain ⟨hx, hb, hml, hr, hlk, hown, hts, hK, hR, hbs, hQ⟩ := C
  intro H locs ls hH hS hl
  exact lv_aload hx hb hd (hl.2.2 (10, tr g (.ref v)) (mem_lvl.mpr ⟨_, rfl, rfl⟩)) (k H locs ls hH hS hl)
theorem ww_istore10 (C : Ck g x cc nL own rt rm n' Post) {a0 : Option Value} {a1 : Option Value} {a2 : Option Value} {a3 : Option Value} {a4 : Option Value} {a5 : Option Value} {a6 : Option Value} {a7 : Option Value} {a8 : Option Value} {a9 : Option Value} {a10 : Option Value} {v : Int32} {t : List (Option Value)} (hd : decode cc pc = .ok (.istore 10, 2)) (hn : 10 < nL) (hp : nl a9 = true) (k : WW g x nL cs ss n w (pc + 2) (a0 :: a1 :: a2 :: a3 :: a4 :: a5 :: a6 :: a7 :: a8 :: a9 :: some (.int v) :: t) st) : WW g x nL cs ss n w pc (a0 :: a1 :: a2 :: a3 :: a4 :: a5 :: a6 :: a7 :: a8 :: a9 :: a10 :: t) (.int v :: st) := by
  obtain ⟨p, e, R, s, m, args, below, meth, c, Q⟩ := x
  obtain ⟨hx, hb, hml, hr, hlk, hown, hts, hK, hR, hbs, hQ⟩ := C
  intro H locs ls hH hS hl
  exact lv_istore hx hb hd hl hn rfl (fun ls2 hl2 => k H locs ls2 hH hS (lvl_set1 (v := .int v) hl2 (fun u e _ => nl_p hp u e) rfl))
theorem ww_astore10 (C : Ck g x cc nL own rt rm n' Post) {a0 : Option Value} {a1 : Option Value} {a2 : Option Value} {a3 : Option Value} {a4 : Option Value} {a5 : Option Value} {a6 : Option Value} {a7 : Option Value} {a8 : Option Value} {a9 : Option Value} {a10 : Option Value} {v : Nat} {t : List (Option Value)} (hd : decode cc pc = .ok (.astore 10, 2)) (hn : 10 < nL) (hp : nl a9 = true) (k : WW g x nL cs ss n w (pc + 2) (a0 :: a1 :: a2 :: a3 :: a4 :: a5 :: a6 :: a7 :: a8 :: a9 :: some (.ref v) :: t) st) : WW g x nL cs ss n w pc (a0 :: a1 :: a2 :: a3 :: a4 :: a5 :: a6 :: a7 :: a8 :: a9 :: a10 :: t) (.ref v :: st) := by
  obtain ⟨p, e, R, s, m, args, below, meth, c, Q⟩ := x
  obtain ⟨hx, hb, hml, hr, hlk, hown, hts, hK, hR, hbs, hQ⟩ := C
  intro H locs ls hH hS hl
  exact lv_astore hx hb hd hl hn rfl (fun ls2 hl2 => k H locs ls2 hH hS (lvl_set1 (v := .ref v) hl2 (fun u e _ => nl_p hp u e) rfl))
theorem ww_lstore10 (C : Ck g x cc nL own rt rm n' Post) {a0 : Option Value} {a1 : Option Value} {a2 : Option Value} {a3 : Option Value} {a4 : Option Value} {a5 : Option Value} {a6 : Option Value} {a7 : Option Value} {a8 : Option Value} {a9 : Option Value} {a10 : Option Value} {a11 : Option Value} {v : Int64} {t : List (Option Value)} (hd : decode cc pc = .ok (.lstore 10, 2)) (hn : 11 < nL) (hp : nl a9 = true) (k : WW g x nL cs ss n w (pc + 2) (a0 :: a1 :: a2 :: a3 :: a4 :: a5 :: a6 :: a7 :: a8 :: a9 :: some (.long v) :: none :: t) st) : WW g x nL cs ss n w pc (a0 :: a1 :: a2 :: a3 :: a4 :: a5 :: a6 :: a7 :: a8 :: a9 :: a10 :: a11 :: t) (.long v :: st) := by
  obtain ⟨p, e, R, s, m, args, below, meth, c, Q⟩ := x
  obtain ⟨hx, hb, hml, hr, hlk, hown, hts, hK, hR, hbs, hQ⟩ := C
  intro H locs ls hH hS hl
  exact lv_lstore hx hb hd hl hn rfl (fun ls2 hl2 => k H locs ls2 hH hS (lvl_set2 (v := .long v) hl2 (fun u e _ => nl_p hp u e) rfl))
theorem ww_iinc10 (C : Ck g x cc nL own rt rm n' Post) {a0 : Option Value} {a1 : Option Value} {a2 : Option Value} {a3 : Option Value} {a4 : Option Value} {a5 : Option Value} {a6 : Option Value} {a7 : Option Value} {a8 : Option Value} {a9 : Option Value} {v u : Int32} {z : Int} {t : List (Option Value)} (hd : decode cc pc = .ok (.iinc 10 z, 3)) (hv : v + Int32.ofInt z = u) (hn : 10 < nL) (hp : nl a9 = true) (k : WW g x nL cs ss n w (pc + 3) (a0 :: a1 :: a2 :: a3 :: a4 :: a5 :: a6 :: a7 :: a8 :: a9 :: some (.int u) :: t) st) : WW g x nL cs ss n w pc (a0 :: a1 :: a2 :: a3 :: a4 :: a5 :: a6 :: a7 :: a8 :: a9 :: some (.int v) :: t) st := by
  obtain ⟨p, e, R, s, m, args, below, meth, c, Q⟩ := x
  obtain ⟨hx, hb, hml, hr, hlk, hown, hts, hK, hR, hbs, hQ⟩ := C
  intro H locs ls hH hS hl
  obtain ⟨j, hj⟩ := List.getElem?_of_mem (mem_lvl (g := g) (L := (a0 :: a1 :: a2 :: a3 :: a4 :: a5 :: a6 :: a7 :: a8 :: a9 :: some (.int v) :: t)) (q := (10, .int v)) |>.mpr ⟨.int v, rfl, rfl⟩)
  exact lv_iinc hx hb hd hl hj hv hn rfl (fun ls2 hl2 => k H locs ls2 hH hS (lvl_set1 (v := .int u) hl2 (fun u e _ => nl_p hp u e) rfl))
theorem ww_iload11 (C : Ck g x cc nL own rt rm n' Post) {a0 : Option Value} {a1 : Option Value} {a2 : Option Value} {a3 : Option Value} {a4 : Option Value} {a5 : Option Value} {a6 : Option Value} {a7 : Option Value} {a8 : Option Value} {a9 : Option Value} {a10 : Option Value} {v : Int32} {t : List (Option Value)} (hd : decode cc pc = .ok (.iload 11, 2)) (k : WW g x nL cs ss n w (pc + 2) (a0 :: a1 :: a2 :: a3 :: a4 :: a5 :: a6 :: a7 :: a8 :: a9 :: a10 :: some (.int v) :: t) (.int v :: st)) : WW g x nL cs ss n w pc (a0 :: a1 :: a2 :: a3 :: a4 :: a5 :: a6 :: a7 :: a8 :: a9 :: a10 :: some (.int v) :: t) st := by
  obtain ⟨p, e, R, s, m, args, below, meth, c, Q⟩ := x
  obtain ⟨hx, hb, hml, hr, hlk, hown, hts, hK, hR, hbs, hQ⟩ := C
  intro H locs ls hH hS hl
  exact lv_iload hx hb hd (hl.2.2 (11, tr g (.int v)) (mem_lvl.mpr ⟨_, rfl, rfl⟩)) (k H locs ls hH hS hl)
theorem ww_lload11 (C : Ck g x cc nL own rt rm n' Post) {a0 : Option Value} {a1 : Option Value} {a2 : Option Value} {a3 : Option Value} {a4 : Option Value} {a5 : Option Value} {a6 : Option Value} {a7 : Option Value} {a8 : Option Value} {a9 : Option Value} {a10 : Option Value} {v : Int64} {t : List (Option Value)} (hd : decode cc pc = .ok (.lload 11, 2)) (k : WW g x nL cs ss n w (pc + 2) (a0 :: a1 :: a2 :: a3 :: a4 :: a5 :: a6 :: a7 :: a8 :: a9 :: a10 :: some (.long v) :: t) (.long v :: st)) : WW g x nL cs ss n w pc (a0 :: a1 :: a2 :: a3 :: a4 :: a5 :: a6 :: a7 :: a8 :: a9 :: a10 :: some (.long v) :: t) st := by
  obtain ⟨p, e, R, s, m, args, below, meth, c, Q⟩ := x
  obtain ⟨hx, hb, hml, hr, hlk, hown, hts, hK, hR, hbs, hQ⟩ := C
  intro H locs ls hH hS hl
  exact lv_lload hx hb hd (hl.2.2 (11, tr g (.long v)) (mem_lvl.mpr ⟨_, rfl, rfl⟩)) (k H locs ls hH hS hl)
theorem ww_aload11 (C : Ck g x cc nL own rt rm n' Post) {a0 : Option Value} {a1 : Option Value} {a2 : Option Value} {a3 : Option Value} {a4 : Option Value} {a5 : Option Value} {a6 : Option Value} {a7 : Option Value} {a8 : Option Value} {a9 : Option Value} {a10 : Option Value} {v : Nat} {t : List (Option Value)} (hd : decode cc pc = .ok (.aload 11, 2)) (k : WW g x nL cs ss n w (pc + 2) (a0 :: a1 :: a2 :: a3 :: a4 :: a5 :: a6 :: a7 :: a8 :: a9 :: a10 :: some (.ref v) :: t) (.ref v :: st)) : WW g x nL cs ss n w pc (a0 :: a1 :: a2 :: a3 :: a4 :: a5 :: a6 :: a7 :: a8 :: a9 :: a10 :: some (.ref v) :: t) st := by
  obtain ⟨p, e, R, s, m, args, below, meth, c, Q⟩ := x
  obtain ⟨hx, hb, hml, hr, hlk, hown, hts, hK, hR, hbs, hQ⟩ := C
  intro H locs ls hH hS hl
  exact lv_aload hx hb hd (hl.2.2 (11, tr g (.ref v)) (mem_lvl.mpr ⟨_, rfl, rfl⟩)) (k H locs ls hH hS hl)
theorem ww_istore11 (C : Ck g x cc nL own rt rm n' Post) {a0 : Option Value} {a1 : Option Value} {a2 : Option Value} {a3 : Option Value} {a4 : Option Value} {a5 : Option Value} {a6 : Option Value} {a7 : Option Value} {a8 : Option Value} {a9 : Option Value} {a10 : Option Value} {a11 : Option Value} {v : Int32} {t : List (Option Value)} (hd : decode cc pc = .ok (.istore 11, 2)) (hn : 11 < nL) (hp : nl a10 = true) (k : WW g x nL cs ss n w (pc + 2) (a0 :: a1 :: a2 :: a3 :: a4 :: a5 :: a6 :: a7 :: a8 :: a9 :: a10 :: some (.int v) :: t) st) : WW g x nL cs ss n w pc (a0 :: a1 :: a2 :: a3 :: a4 :: a5 :: a6 :: a7 :: a8 :: a9 :: a10 :: a11 :: t) (.int v :: st) := by
  obtain ⟨p, e, R, s, m, args, below, meth, c, Q⟩ := x
  obtain ⟨hx, hb, hml, hr, hlk, hown, hts, hK, hR, hbs, hQ⟩ := C
  intro H locs ls hH hS hl
  exact lv_istore hx hb hd hl hn rfl (fun ls2 hl2 => k H locs ls2 hH hS (lvl_set1 (v := .int v) hl2 (fun u e _ => nl_p hp u e) rfl))
theorem ww_astore11 (C : Ck g x cc nL own rt rm n' Post) {a0 : Option Value} {a1 : Option Value} {a2 : Option Value} {a3 : Option Value} {a4 : Option Value} {a5 : Option Value} {a6 : Option Value} {a7 : Option Value} {a8 : Option Value} {a9 : Option Value} {a10 : Option Value} {a11 : Option Value} {v : Nat} {t : List (Option Value)} (hd : decode cc pc = .ok (.astore 11, 2)) (hn : 11 < nL) (hp : nl a10 = true) (k : WW g x nL cs ss n w (pc + 2) (a0 :: a1 :: a2 :: a3 :: a4 :: a5 :: a6 :: a7 :: a8 :: a9 :: a10 :: some (.ref v) :: t) st) : WW g x nL cs ss n w pc (a0 :: a1 :: a2 :: a3 :: a4 :: a5 :: a6 :: a7 :: a8 :: a9 :: a10 :: a11 :: t) (.ref v :: st) := by
  obtain ⟨p, e, R, s, m, args, below, meth, c, Q⟩ := x
  obtain ⟨hx, hb, hml, hr, hlk, hown, hts, hK, hR, hbs, hQ⟩ := C
  intro H locs ls hH hS hl
  exact lv_astore hx hb hd hl hn rfl (fun ls2 hl2 => k H locs ls2 hH hS (lvl_set1 (v := .ref v) hl2 (fun u e _ => nl_p hp u e) rfl))
theorem ww_lstore11 (C : Ck g x cc nL own rt rm n' Post) {a0 : Option Value} {a1 : Option Value} {a2 : Option Value} {a3 : Option Value} {a4 : Option Value} {a5 : Option Value} {a6 : Option Value} {a7 : Option Value} {a8 : Option Value} {a9 : Option Value} {a10 : Option Value} {a11 : Option Value} {a12 : Option Value} {v : Int64} {t : List (Option Value)} (hd : decode cc pc = .ok (.lstore 11, 2)) (hn : 12 < nL) (hp : nl a10 = true) (k : WW g x nL cs ss n w (pc + 2) (a0 :: a1 :: a2 :: a3 :: a4 :: a5 :: a6 :: a7 :: a8 :: a9 :: a10 :: some (.long v) :: none :: t) st) : WW g x nL cs ss n w pc (a0 :: a1 :: a2 :: a3 :: a4 :: a5 :: a6 :: a7 :: a8 :: a9 :: a10 :: a11 :: a12 :: t) (.long v :: st) := by
  obtain ⟨p, e, R, s, m, args, below, meth, c, Q⟩ := x
  obtain ⟨hx, hb, hml, hr, hlk, hown, hts, hK, hR, hbs, hQ⟩ := C
  intro H locs ls hH hS hl
  exact lv_lstore hx hb hd hl hn rfl (fun ls2 hl2 => k H locs ls2 hH hS (lvl_set2 (v := .long v) hl2 (fun u e _ => nl_p hp u e) rfl))
theorem ww_iinc11 (C : Ck g x cc nL own rt rm n' Post) {a0 : Option Value} {a1 : Option Value} {a2 : Option Value} {a3 : Option Value} {a4 : Option Value} {a5 : Option Value} {a6 : Option Value} {a7 : Option Value} {a8 : Option Value} {a9 : Option Value} {a10 : Option Value} {v u : Int32} {z : Int} {t : List (Option Value)} (hd : decode cc pc = .ok (.iinc 11 z, 3)) (hv : v + Int32.ofInt z = u) (hn : 11 < nL) (hp : nl a10 = true) (k : WW g x nL cs ss n w (pc + 3) (a0 :: a1 :: a2 :: a3 :: a4 :: a5 :: a6 :: a7 :: a8 :: a9 :: a10 :: some (.int u) :: t) st) : WW g x nL cs ss n w pc (a0 :: a1 :: a2 :: a3 :: a4 :: a5 :: a6 :: a7 :: a8 :: a9 :: a10 :: some (.int v) :: t) st := by
  obtain ⟨p, e, R, s, m, args, below, meth, c, Q⟩ := x
  obtain ⟨hx, hb, hml, hr, hlk, hown, hts, hK, hR, hbs, hQ⟩ := C
  intro H locs ls hH hS hl
  obtain ⟨j, hj⟩ := List.getElem?_of_mem (mem_lvl (g := g) (L := (a0 :: a1 :: a2 :: a3 :: a4 :: a5 :: a6 :: a7 :: a8 :: a9 :: a10 :: some (.int v) :: t)) (q := (11, .int v)) |>.mpr ⟨.int v, rfl, rfl⟩)
  exact lv_iinc hx hb hd hl hj hv hn rfl (fun ls2 hl2 => k H locs ls2 hH hS (lvl_set1 (v := .int u) hl2 (fun u e _ => nl_p hp u e) rfl))
/-- the end of a method: the world holds, Post holds -/
theorem qc_end {g : Gx} {n n' : Nat} {Post : Option Value → Wd → Prop} {args : Array Value} {s t : State} {H : Heap} {locs : List Loc} {w : Wd} {r : Option Value} (hn : n = n') (hH : HW g n w H) (hS : va_S (gA g) s.heap H locs) (hp : Post r w) (ht : t.heap = H) : qc_ g n' Post args s (.returned (r.map (tr g))) t := by
  subst hn
  exact ⟨⟨r, w, rfl, hp, by rw [ht]; exact hH⟩, hS.F ht⟩
theorem ww_iret (C : Ck g x cc nL own rt rm n' Post) {v : Int32} (hd : decode cc pc = .ok (.ireturn, 1)) (hr2 : rt = some .int) (hn : n = n') (hc : cs ≤ rm.cells) (hs : ss ≤ rm.slots) (hp : Post (some (.int v)) w) : WW g x nL cs ss n w pc L [.int v] := by
  obtain ⟨p, e, R, s, m, args, below, meth, c, Q⟩ := x
  obtain ⟨hx, hb, hml, hr, hlk, hown, hts, hK, hR, hbs, hQ⟩ := C
  intro H locs ls hH hS hl
  subst hR; subst hQ
  subst hr2
  exact W.widen hc hs (W.iret hx hb hr (fun t ht _ => qc_end hn hH hS hp ht) hS.2.2 hd hlk)
theorem ww_zret (C : Ck g x cc nL own rt rm n' Post) {v : Int32} (hd : decode cc pc = .ok (.ireturn, 1)) (hr2 : rt = some .boolean) (hz : narrow .boolean (.int v) = .int v) (hn : n = n') (hc : cs ≤ rm.cells) (hs : ss ≤ rm.slots) (hp : Post (some (.int v)) w) : WW g x nL cs ss n w pc L [.int v] := by
  obtain ⟨p, e, R, s, m, args, below, meth, c, Q⟩ := x
  obtain ⟨hx, hb, hml, hr, hlk, hown, hts, hK, hR, hbs, hQ⟩ := C
  intro H locs ls hH hS hl
  subst hR; subst hQ
  subst hr2
  exact W.widen hc hs (W.zret hx hb hr hz (fun t ht _ => qc_end hn hH hS hp ht) hS.2.2 hd hlk)
theorem ww_lret (C : Ck g x cc nL own rt rm n' Post) {v : Int64} (hd : decode cc pc = .ok (.lreturn, 1)) (hr2 : rt = some .long) (hn : n = n') (hc : cs ≤ rm.cells) (hs : ss ≤ rm.slots) (hp : Post (some (.long v)) w) : WW g x nL cs ss n w pc L [.long v] := by
  obtain ⟨p, e, R, s, m, args, below, meth, c, Q⟩ := x
  obtain ⟨hx, hb, hml, hr, hlk, hown, hts, hK, hR, hbs, hQ⟩ := C
  intro H locs ls hH hS hl
  subst hR; subst hQ
  subst hr2
  exact W.widen hc hs (W.lret hx hb hr (fun t ht _ => qc_end hn hH hS hp ht) hS.2.2 hd hlk)
theorem ww_vret (C : Ck g x cc nL own rt rm n' Post) (hd : decode cc pc = .ok (.return_, 1)) (hr2 : rt = none) (hn : n = n') (hc : cs ≤ rm.cells) (hs : ss ≤ rm.slots) (hp : Post none w) : WW g x nL cs ss n w pc L [] := by
  obtain ⟨p, e, R, s, m, args, below, meth, c, Q⟩ := x
  obtain ⟨hx, hb, hml, hr, hlk, hown, hts, hK, hR, hbs, hQ⟩ := C
  intro H locs ls hH hS hl
  subst hR; subst hQ
  subst hr2
  exact W.widen hc hs (W.vret hx hb hr (fun t ht _ => qc_end (r := none) hn hH hS hp ht) hS.2.2 hd hlk)
theorem ww_aret (C : Ck g x cc nL own rt rm n' Post) {v : Nat} {C0 : String} (hd : decode cc pc = .ok (.areturn, 1)) (hr2 : rt = some (.object C0)) (hn : n = n') (hc : cs ≤ rm.cells) (hs : ss ≤ rm.slots) (hp : Post (some (.ref v)) w) : WW g x nL cs ss n w pc L [.ref v] := by
  obtain ⟨p, e, R, s, m, args, below, meth, c, Q⟩ := x
  obtain ⟨hx, hb, hml, hr, hlk, hown, hts, hK, hR, hbs, hQ⟩ := C
  intro H locs ls hH hS hl
  subst hR; subst hQ
  subst hr2
  exact W.widen hc hs (W.aret hx hb hr (Or.inl ⟨_, rfl⟩) (Or.inr ⟨_, rfl⟩) (fun t ht _ => qc_end (r := some (.ref v)) hn hH hS hp ht) hS.2.2 hd hlk)
end ROWS
end
section
theorem hw_lt {g : Gx} {n k : Nat} {w : Wd} {H : Heap} {c : Ce} (hH : HW g n w H) (hk : w k = c) (hc : ¬ c = dead) : k < n := by
  rcases Nat.lt_or_ge k n with h | h
  · exact h
  · exact absurd (hk.symm.trans (hH.2.2.2 k h)) hc
theorem ob_dead {c : Nat} {fs : List Value} : ¬ ob c fs = dead := fun h => by cases h
theorem ar_dead {t m : Nat} {f : Nat → Int32} (h : ¬ t = 7) : ¬ ar t m f = dead := fun e => by
  have := Sum.inl.inj e
  exact h (congrArg Prod.fst this)
theorem va_upd_self {α : Type} (f : Nat → α) (k : Nat) (v : α) : va_up f k v k = v := if_pos rfl
theorem va_upd_ne {α : Type} (f : Nat → α) {k j : Nat} (v : α) (h : ¬ j = k) : va_up f k v j = f j := if_neg h
theorem HW.set {g : Gx} {n k : Nat} {w : Wd} {H H1 : Heap} {e : Ce} (hH : HW g n w H) (hk : k < n) (hz : H1.size = H.size) (oq : ∀ q : Nat, q ≠ g.2.2.2.1 + k → H1[q]? = H[q]?) (he : va_at g.2.1 cls_ (g.2.2.2.1 + k, ce g e) H1) : HW g n (va_up w k e) H1 := by
  refine ⟨hH.1, hz.trans hH.2.1, fun j hj => ?_, fun j hj => ?_⟩
  · by_cases hjk : j = k
    · subst hjk
      rw [va_upd_self]
      exact he
    · rw [va_upd_ne _ _ hjk]
      exact (hH.2.2.1 j hj).kept (oq _ (by show ¬ _ = _; omega))
  · rw [va_upd_ne _ _ (by omega)]
    exact hH.2.2.2 j hj
/-- a field: by which instruction's index it is reached, which class and place, final or not, its type -/
def FL (own : String) (idx ci j : Nat) (fin : Bool) (tj : FieldType) : Prop := ∃ (Cn : String) (T : u_T) (N : Nat) (ty : Nat → FieldType), cls_[ci]? = some (Cn, T, N) ∧ j < N ∧ (∀ w ∈ u_ws Cn T N, w ∈ TS) ∧ (∀ k, k < N → parseFieldDescriptor (T k).2.2.1 = some (ty k)) ∧ (∀ a, a < N → ∀ b, b < N → a ≠ b → (T a).2.1 ≠ (T b).2.1) ∧ Cond.fieldLink own idx (T j).1 (T j).2.1 (T j).2.2.1 ∈ TS ∧ (T j).2.2.2 = fin ∧ ty j = tj ∧ (T j).1 = Cn
section HEAP
variable {g : Gx} {x : Cx} {cc : ByteArray} {nL : Nat} {own : String} {rt : Option FieldType} {rm : Room} {n' : Nat} {Post : Option Value → Wd → Prop} {cs ss n : Nat} {w : Wd} {pc : Nat} {L : List (Option Value)} {st : List Value}
theorem ww_getf (C : Ck g x cc nL own rt rm n' Post) {idx ci j k : Nat} {fin : Bool} {tj : FieldType} {fs : List Value} {v : Value} (F : FL own idx ci j fin tj) (hk : w k = ob ci fs) (hv : fs[j]? = some v) (hd : decode cc pc = .ok (.getfield idx, 3)) (kk : WW g x nL cs ss n w (pc + 3) L (v :: st)) : WW g x nL cs ss n w pc L (.ref k :: st) := by
  obtain ⟨p, e, R, s, m, args, below, meth, c, Q⟩ := x
  obtain ⟨hx, hb, hml, hr, hlk, hown, hts, hK, hR, hbs, hQ⟩ := C
  obtain ⟨Cn, T, N, ty, hc, hj, hin, hty, hnm, hlink, hfin, htj, hcn⟩ := F
  intro H locs ls hH hS hl
  have hkn := hw_lt hH hk ob_dead
  have hat := hH.2.2.1 k hkn
  rw [hk] at hat
  have hP : va_P g.2.1 cls_ [(g.2.2.2.1 + k, ce g (ob ci fs))] H := fun i q hq => by
    match i, hq with
    | 0, hq => cases hq; exact hat
    | i + 1, hq => simp at hq
  show W _ _ _ _ _ _ _ _ _ _ _ _ _ _ _ (F0 _ pc ls (.ref (ad g k) :: st.map (tr g)))
  rw [ad_lt g (Nat.lt_of_lt_of_le hkn hH.1)]
  exact va_get (fs := fs.map (tr g)) hx hb hts hin hown hK.1 hP 0 rfl hc j hj (hts _ hlink) (fun _ h => h) (v := tr g v) (by rw [List.getElem?_map, hv]; rfl) hd (kk H locs ls hH hS hl)
theorem ww_putf (C : Ck g x cc nL own rt rm n' Post) {idx ci j k : Nat} {tj : FieldType} {fs : List Value} {v : Value} (F : FL own idx ci j false tj) (hk : w k = ob ci fs) (hl0 : j < fs.length) (hn : narrow tj (tr g v) = tr g v) (hf : fits tj (tr g v) = true) (hd : decode cc pc = .ok (.putfield idx, 3)) (kk : WW g x nL cs ss n (va_up w k (ob ci (fs.set j v))) (pc + 3) L st) : WW g x nL cs ss n w pc L (v :: .ref k :: st) := by
  obtain ⟨p, e, R, s, m, args, below, meth, c, Q⟩ := x
  obtain ⟨hx, hb, hml, hr, hlk, hown, hts, hK, hR, hbs, hQ⟩ := C
  obtain ⟨Cn, T, N, ty, hc, hj, hin, hty, hnm, hlink, hfin, htj, hcn⟩ := F
  intro H locs ls hH hS hl
  have hkn := hw_lt hH hk ob_dead
  have hat := hH.2.2.1 k hkn
  rw [hk] at hat
  subst htj
  show W _ _ _ _ _ _ _ _ _ _ _ _ _ _ _ (F0 _ pc ls (tr g v :: .ref (ad g k) :: st.map (tr g)))
  rw [ad_lt g (Nat.lt_of_lt_of_le hkn hH.1)]
  have hap := va_apart (own := own) hts hin ty hty hnm hK.1 hc
  obtain ⟨r, h1, cell, q1, q2, q3, q4⟩ := hat
  have hr2 : r = (Cn, T, N) := Option.some.inj (h1.symm.trans hc)
  subst hr2
  obtain ⟨hSl, hfc, kC, hkC, hkind⟩ := hK.1.1 ci _ hc
  obtain ⟨cf, kf, fi, f, hi, hsl⟩ := hSl j hj
  have hlay := hts _ (hin _ (u_in_lay hj))
  unfold u_lay at hlay
  rw [if_neg (by rw [hfin]; decide)] at hlay
  have hst := (u_facts hfc hkC (u_lays hts hin hj) hi).1
  have h6 := u_store hfc hkC hkind hlay hi (hty j hj) hn hf
  refine W.putK hx hb (f := f) ⟨hown, hts _ hlink, ⟨_, _, _, hi⟩, hst⟩ (by rw [q2]; exact h6) q1 q3 (by rw [hsl]; exact k2_hasslot (q4 j hj)) rfl rfl hd fun H' e1 e2 e3 => ?_
  rw [hsl] at e1 ⊢
  refine kk H' _ ls (hH.set hkn e2 e3 ⟨_, hc, ?_⟩) (hS.put e2 e3 (Nat.le_add_right _ _)) hl
  have hm : (fs.set j v).map (tr g) = (fs.map (tr g)).set j (tr g v) := List.map_set
  show t_OB _ _ _ _ _ (vp_V ((fs.set j v).map (tr g)))
  rw [hm]
  exact t_OB.to (V := updV (vp_V (fs.map (tr g))) j (tr g v)) ⟨_, e1, q2, q3, t_set q4 hap hj (tr g v)⟩ (fun i _ => vp_updV_set (by rw [List.length_map]; exact hl0) (tr g v) i)
theorem ww_putF (C : Ck g x cc nL own rt rm n' Post) (hin2 : x.2.2.2.2.2.2.2.1.name = "<init>") {idx ci j k : Nat} {tj : FieldType} {fs : List Value} {v : Value} (F : FL own idx ci j true tj) (hcl : (cls_[ci]?).map Prod.fst = some own) (hk : w k = ob ci fs) (hl0 : j < fs.length) (hn : narrow tj (tr g v) = tr g v) (hf : fits tj (tr g v) = true) (hd : decode cc pc = .ok (.putfield idx, 3)) (kk : WW g x nL cs ss n (va_up w k (ob ci (fs.set j v))) (pc + 3) L st) : WW g x nL cs ss n w pc L (v :: .ref k :: st) := by
  obtain ⟨p, e, R, s, m, args, below, meth, c, Q⟩ := x
  obtain ⟨hx, hb, hml, hr, hlk, hown, hts, hK, hR, hbs, hQ⟩ := C
  obtain ⟨Cn, T, N, ty, hc, hj, hin, hty, hnm, hlink, hfin, htj, hcn⟩ := F
  intro H locs ls hH hS hl
  have hkn := hw_lt hH hk ob_dead
  have hat := hH.2.2.1 k hkn
  rw [hk] at hat
  subst htj
  rw [hc] at hcl
  have hown2 : Cn = own := Option.some.inj hcl
  show W _ _ _ _ _ _ _ _ _ _ _ _ _ _ _ (F0 _ pc ls (tr g v :: .ref (ad g k) :: st.map (tr g)))
  rw [ad_lt g (Nat.lt_of_lt_of_le hkn hH.1)]
  have hap := va_apart (own := own) hts hin ty hty hnm hK.1 hc
  obtain ⟨r, h1, cell, q1, q2, q3, q4⟩ := hat
  have hr2 : r = (Cn, T, N) := Option.some.inj (h1.symm.trans hc)
  subst hr2
  obtain ⟨hSl, hfc, kC, hkC, hkind⟩ := hK.1.1 ci _ hc
  obtain ⟨cf, kf, fi, f, hi, hsl⟩ := hSl j hj
  have hlay := hts _ (hin _ (u_in_lay hj))
  unfold u_lay at hlay
  rw [if_pos hfin] at hlay
  have hst := (u_facts hfc hkC (u_lays hts hin hj) hi).1
  have hcf : m.cls = cf := by
    obtain ⟨_, _, c', _, _, _, -, -, hf', -, -, -, hw2, -⟩ := Cond.laysFinal_spec hlay
    have e1 : c' = cf := by have := hi.symm.trans hf'; simp at this; exact this.1.symm
    rw [hcn, hown2] at hw2
    rw [← e1]; exact Option.some.inj (hown.symm.trans hw2)
  have h6 := u_fits hfc hkC hkind (Or.inr hlay) hi (hty j hj) hn hf
  refine W.putFinK hx hb hown (hts _ hlink) hi hst hcf hin2 (by rw [q2]; exact h6) q1 q3 (by rw [hsl]; exact k2_hasslot (q4 j hj)) rfl rfl hd fun H' e1 e2 e3 => ?_
  rw [hsl] at e1 ⊢
  refine kk H' _ ls (hH.set hkn e2 e3 ⟨_, hc, ?_⟩) (hS.put e2 e3 (Nat.le_add_right _ _)) hl
  have hm : (fs.set j v).map (tr g) = (fs.map (tr g)).set j (tr g v) := List.map_set
  show t_OB _ _ _ _ _ (vp_V ((fs.set j v).map (tr g)))
  rw [hm]
  exact t_OB.to (V := updV (vp_V (fs.map (tr g))) j (tr g v)) ⟨_, e1, q2, q3, t_set q4 hap hj (tr g v)⟩ (fun i _ => vp_updV_set (by rw [List.length_map]; exact hl0) (tr g v) i)
theorem ww_iald (C : Ck g x cc nL own rt rm n' Post) {k m0 : Nat} {f : Nat → Int32} {i : Int32} (hk : w k = ar 0 m0 f) (hin : vp_in i m0) (hd : decode cc pc = .ok (.iaload, 1)) (kk : WW g x nL cs ss n w (pc + 1) L (.int (f i.toNatClampNeg) :: st)) : WW g x nL cs ss n w pc L (.int i :: .ref k :: st) := by
  obtain ⟨p, e, R, s, m, args, below, meth, c, Q⟩ := x
  obtain ⟨hx, hb, hml, hr, hlk, hown, hts, hK, hR, hbs, hQ⟩ := C
  intro H locs ls hH hS hl
  have hkn := hw_lt hH hk (ar_dead (by decide))
  have hat := hH.2.2.1 k hkn
  rw [hk] at hat
  have hP : va_P g.2.1 cls_ [(g.2.2.2.1 + k, ce g (ar 0 m0 f))] H := fun i q hq => by
    match i, hq with
    | 0, hq => cases hq; exact hat
    | i + 1, hq => simp at hq
  show W _ _ _ _ _ _ _ _ _ _ _ _ _ _ _ (F0 _ pc ls (.int i :: .ref (ad g k) :: st.map (tr g)))
  rw [ad_lt g (Nat.lt_of_lt_of_le hkn hH.1)]
  exact va_iald hx hb hK.1 hP 0 0 rfl rfl hin hd (kk H locs ls hH hS hl)
theorem ww_zald (C : Ck g x cc nL own rt rm n' Post) {k m0 : Nat} {f : Nat → Int32} {i : Int32} (hk : w k = ar 1 m0 f) (hin : vp_in i m0) (hd : decode cc pc = .ok (.baload, 1)) (kk : WW g x nL cs ss n w (pc + 1) L (.int (f i.toNatClampNeg) :: st)) : WW g x nL cs ss n w pc L (.int i :: .ref k :: st) := by
  obtain ⟨p, e, R, s, m, args, below, meth, c, Q⟩ := x
  obtain ⟨hx, hb, hml, hr, hlk, hown, hts, hK, hR, hbs, hQ⟩ := C
  intro H locs ls hH hS hl
  have hkn := hw_lt hH hk (ar_dead (by decide))
  have hat := hH.2.2.1 k hkn
  rw [hk] at hat
  have hP : va_P g.2.1 cls_ [(g.2.2.2.1 + k, ce g (ar 1 m0 f))] H := fun i q hq => by
    match i, hq with
    | 0, hq => cases hq; exact hat
    | i + 1, hq => simp at hq
  show W _ _ _ _ _ _ _ _ _ _ _ _ _ _ _ (F0 _ pc ls (.int i :: .ref (ad g k) :: st.map (tr g)))
  rw [ad_lt g (Nat.lt_of_lt_of_le hkn hH.1)]
  exact va_zald hx hb hK.1 hP 0 1 rfl rfl hin hd (kk H locs ls hH hS hl)
theorem ww_bald (C : Ck g x cc nL own rt rm n' Post) {k m0 : Nat} {f : Nat → Int32} {i : Int32} (hk : w k = ar 2 m0 f) (hin : vp_in i m0) (hd : decode cc pc = .ok (.baload, 1)) (kk : WW g x nL cs ss n w (pc + 1) L (.int (f i.toNatClampNeg) :: st)) : WW g x nL cs ss n w pc L (.int i :: .ref k :: st) := by
  obtain ⟨p, e, R, s, m, args, below, meth, c, Q⟩ := x
  obtain ⟨hx, hb, hml, hr, hlk, hown, hts, hK, hR, hbs, hQ⟩ := C
  intro H locs ls hH hS hl
  have hkn := hw_lt hH hk (ar_dead (by decide))
  have hat := hH.2.2.1 k hkn
  rw [hk] at hat
  have hP : va_P g.2.1 cls_ [(g.2.2.2.1 + k, ce g (ar 2 m0 f))] H := fun i q hq => by
    match i, hq with
    | 0, hq => cases hq; exact hat
    | i + 1, hq => simp at hq
  show W _ _ _ _ _ _ _ _ _ _ _ _ _ _ _ (F0 _ pc ls (.int i :: .ref (ad g k) :: st.map (tr g)))
  rw [ad_lt g (Nat.lt_of_lt_of_le hkn hH.1)]
  exact va_bald hx hb hK.1 hP 0 2 rfl rfl hin hd (kk H locs ls hH hS hl)
/-- the static row, read -/
theorem ww_sald (C : Ck g x cc nL own rt rm n' Post) {i : Int32} (hin : vp_in i 2) (hd : decode cc pc = .ok (.iaload, 1)) (kk : WW g x nL cs ss n w (pc + 1) L (.int (nI i.toNatClampNeg) :: st)) : WW g x nL cs ss n w pc L (.int i :: .ref 1000 :: st) := by
  obtain ⟨p, e, R, s, m, args, below, meth, c, Q⟩ := x
  obtain ⟨hx, hb, hml, hr, hlk, hown, hts, hK, hR, hbs, hQ⟩ := C
  intro H locs ls hH hS hl
  exact va_ti hx hb hK.2.2 hS hin rfl hd (kk H locs ls hH hS hl)
theorem ww_slen (C : Ck g x cc nL own rt rm n' Post) (hd : decode cc pc = .ok (.arraylength, 1)) (kk : WW g x nL cs ss n w (pc + 1) L (.int (nI 2) :: st)) : WW g x nL cs ss n w pc L (.ref 1000 :: st) := by
  obtain ⟨p, e, R, s, m, args, below, meth, c, Q⟩ := x
  obtain ⟨hx, hb, hml, hr, hlk, hown, hts, hK, hR, hbs, hQ⟩ := C
  intro H locs ls hH hS hl
  exact va_tlen hx hb hK.2.2 hS rfl hd (kk H locs ls hH hS hl)
theorem ww_alen (C : Ck g x cc nL own rt rm n' Post) {k m0 : Nat} {f : Nat → Int32} (hk : w k = ar 0 m0 f) (hd : decode cc pc = .ok (.arraylength, 1)) (kk : WW g x nL cs ss n w (pc + 1) L (.int (nI m0) :: st)) : WW g x nL cs ss n w pc L (.ref k :: st) := by
  obtain ⟨p, e, R, s, m, args, below, meth, c, Q⟩ := x
  obtain ⟨hx, hb, hml, hr, hlk, hown, hts, hK, hR, hbs, hQ⟩ := C
  intro H locs ls hH hS hl
  have hkn := hw_lt hH hk (ar_dead (by decide))
  have hat := hH.2.2.1 k hkn
  rw [hk] at hat
  have hP : va_P g.2.1 cls_ [(g.2.2.2.1 + k, ce g (ar 0 m0 f))] H := fun i q hq => by
    match i, hq with
    | 0, hq => cases hq; exact hat
    | i + 1, hq => simp at hq
  show W _ _ _ _ _ _ _ _ _ _ _ _ _ _ _ (F0 _ pc ls (.ref (ad g k) :: st.map (tr g)))
  rw [ad_lt g (Nat.lt_of_lt_of_le hkn hH.1)]
  exact va_alen hx hb hK.1 hP 0 0 rfl rfl rfl hd (kk H locs ls hH hS hl)
theorem ww_iast (C : Ck g x cc nL own rt rm n' Post) {k m0 : Nat} {f : Nat → Int32} {i z : Int32} (hk : w k = ar 0 m0 f) (hin : vp_in i m0) (hd : decode cc pc = .ok (.iastore, 1)) (kk : WW g x nL cs ss n (va_up w k (ar 0 m0 (upd f i.toNatClampNeg z))) (pc + 1) L st) : WW g x nL cs ss n w pc L (.int z :: .int i :: .ref k :: st) := by
  obtain ⟨p, e, R, s, m, args, below, meth, c, Q⟩ := x
  obtain ⟨hx, hb, hml, hr, hlk, hown, hts, hK, hR, hbs, hQ⟩ := C
  intro H locs ls hH hS hl
  have hkn := hw_lt hH hk (ar_dead (by decide))
  have hat := hH.2.2.1 k hkn
  rw [hk] at hat
  show W _ _ _ _ _ _ _ _ _ _ _ _ _ _ _ (F0 _ pc ls (.int z :: .int i :: .ref (ad g k) :: st.map (tr g)))
  rw [ad_lt g (Nat.lt_of_lt_of_le hkn hH.1)]
  have hat2 : H[g.2.2.2.1 + k]? = some (arrV (g.2.2.1 0) m0 (fun j => .int (f j))) := hat
  refine W.iast hx hb hat2 ((hK.1.2 0 _ rfl).1 m0 (fun j => .int (f j))) (fun q => by cases q) (by rw [arrV_size]; exact hin) rfl rfl hd fun H1 e1 e2 e3 => ?_
  refine kk H1 _ ls (hH.set hkn e2 e3 ?_) (hS.put e2 e3 (Nat.le_add_right _ _)) hl
  show H1[g.2.2.2.1 + k]? = some (arrV (g.2.2.1 0) m0 (fun j => .int (upd f i.toNatClampNeg z j)))
  rw [e1, arrV_store]
  congr 2
  funext q
  by_cases hq : q = i.toNatClampNeg <;> simp [updV, upd, hq]
theorem ww_zast (C : Ck g x cc nL own rt rm n' Post) {k m0 : Nat} {f : Nat → Int32} {i z : Int32} (hk : w k = ar 1 m0 f) (hin : vp_in i m0) (hd : decode cc pc = .ok (.bastore, 1)) (kk : WW g x nL cs ss n (va_up w k (ar 1 m0 (upd f i.toNatClampNeg (vp_nar .boolean z)))) (pc + 1) L st) : WW g x nL cs ss n w pc L (.int z :: .int i :: .ref k :: st) := by
  obtain ⟨p, e, R, s, m, args, below, meth, c, Q⟩ := x
  obtain ⟨hx, hb, hml, hr, hlk, hown, hts, hK, hR, hbs, hQ⟩ := C
  intro H locs ls hH hS hl
  have hkn := hw_lt hH hk (ar_dead (by decide))
  have hat := hH.2.2.1 k hkn
  rw [hk] at hat
  show W _ _ _ _ _ _ _ _ _ _ _ _ _ _ _ (F0 _ pc ls (.int z :: .int i :: .ref (ad g k) :: st.map (tr g)))
  rw [ad_lt g (Nat.lt_of_lt_of_le hkn hH.1)]
  have hat2 : H[g.2.2.2.1 + k]? = some (arrV (g.2.2.1 1) m0 (fun j => .int (f j))) := hat
  refine W.zast hx hb hat2 ((hK.1.2 1 _ rfl).1 m0 (fun j => .int (f j))) (fun q => by cases q) (by rw [arrV_size]; exact hin) rfl rfl hd fun H1 e1 e2 e3 => ?_
  refine kk H1 _ ls (hH.set hkn e2 e3 ?_) (hS.put e2 e3 (Nat.le_add_right _ _)) hl
  show H1[g.2.2.2.1 + k]? = some (arrV (g.2.2.1 1) m0 (fun j => .int (upd f i.toNatClampNeg (vp_nar .boolean z) j)))
  rw [e1, arrV_store]
  congr 2
  funext q
  by_cases hq : q = i.toNatClampNeg
  · subst hq
    simp [updV, upd, vp_nar]
    try rfl
  · simp [updV, upd, hq]
theorem ww_bast (C : Ck g x cc nL own rt rm n' Post) {k m0 : Nat} {f : Nat → Int32} {i z : Int32} (hk : w k = ar 2 m0 f) (hin : vp_in i m0) (hd : decode cc pc = .ok (.bastore, 1)) (kk : WW g x nL cs ss n (va_up w k (ar 2 m0 (upd f i.toNatClampNeg (vp_nar .byte z)))) (pc + 1) L st) : WW g x nL cs ss n w pc L (.int z :: .int i :: .ref k :: st) := by
  obtain ⟨p, e, R, s, m, args, below, meth, c, Q⟩ := x
  obtain ⟨hx, hb, hml, hr, hlk, hown, hts, hK, hR, hbs, hQ⟩ := C
  intro H locs ls hH hS hl
  have hkn := hw_lt hH hk (ar_dead (by decide))
  have hat := hH.2.2.1 k hkn
  rw [hk] at hat
  show W _ _ _ _ _ _ _ _ _ _ _ _ _ _ _ (F0 _ pc ls (.int z :: .int i :: .ref (ad g k) :: st.map (tr g)))
  rw [ad_lt g (Nat.lt_of_lt_of_le hkn hH.1)]
  have hat2 : H[g.2.2.2.1 + k]? = some (arrV (g.2.2.1 2) m0 (fun j => .int (f j))) := hat
  refine W.bast hx hb hat2 ((hK.1.2 2 _ rfl).1 m0 (fun j => .int (f j))) (fun q => by cases q) (by rw [arrV_size]; exact hin) rfl rfl hd fun H1 e1 e2 e3 => ?_
  refine kk H1 _ ls (hH.set hkn e2 e3 ?_) (hS.put e2 e3 (Nat.le_add_right _ _)) hl
  show H1[g.2.2.2.1 + k]? = some (arrV (g.2.2.1 2) m0 (fun j => .int (upd f i.toNatClampNeg (vp_nar .byte z) j)))
  rw [e1, arrV_store]
  congr 2
  funext q
  by_cases hq : q = i.toNatClampNeg
  · subst hq
    simp [updV, upd, vp_nar]
    try rfl
  · simp [updV, upd, hq]
/-- System.arraycopy of whole int rows from their beginning -/
theorem ww_copy (C : Ck g x cc nL own rt rm n' Post) {idx k j m0 m1 : Nat} {f h : Nat → Int32} {N : Int32} (hl1 : Cond.methodLink own idx arraycopyName ∈ TS) (hl2 : Cond.native arraycopyName ∈ TS) (hl3 : Cond.static arraycopyName ∈ TS) (hl4 : Cond.initialized "java/lang/System" ∈ TS) (hk : w k = ar 0 m0 f) (hj : w j = ar 0 m1 h) (hN : ¬ N < 0) (h0 : N.toNatClampNeg ≤ m0) (h1 : N.toNatClampNeg ≤ m1)
    (hfr : 1 ≤ rm.frames) (hlo : (st.map fun v => v.category).sum + (nativeFrameWords "java/lang/System" "arraycopy" 5 + 11) ≤ rm.locals) (hd : decode cc pc = .ok (.invokestatic idx, 3)) (kk : WW g x nL cs ss n (va_up w j (ar 0 m1 (va_cpy f h 0 0 N.toNatClampNeg))) (pc + 3) L st) : WW g x nL cs ss n w pc L (.int N :: .int 0 :: .ref j :: .int 0 :: .ref k :: st) := by
  obtain ⟨p, e, R, s, m, args, below, meth, c, Q⟩ := x
  obtain ⟨hx, hb, hml, hr, hlk, hown, hts, hK, hR, hbs, hQ⟩ := C
  intro H locs ls hH hS hl
  have hkn := hw_lt hH hk (ar_dead (by decide))
  have hjn := hw_lt hH hj (ar_dead (by decide))
  have hat := hH.2.2.1 k hkn
  have hbt := hH.2.2.1 j hjn
  rw [hk] at hat
  rw [hj] at hbt
  show W _ _ _ _ _ _ _ _ _ _ _ _ _ _ _ (F0 _ pc ls (.int N :: .int 0 :: .ref (ad g j) :: .int 0 :: .ref (ad g k) :: st.map (tr g)))
  rw [ad_lt g (Nat.lt_of_lt_of_le hkn hH.1), ad_lt g (Nat.lt_of_lt_of_le hjn hH.1)]
  subst hR
  have hc0 : H[g.2.2.2.1 + k]? = some (vp_cell (g.2.2.1 0) (m0, .inl f)) := hat
  have hc1 : H[g.2.2.2.1 + j]? = some (vp_cell (g.2.2.1 0) (m1, .inl h)) := hbt
  have nn : N.toInt = (N.toNatClampNeg : Int) := by
    have hz0 : (0 : Int) ≤ N.toInt := by
      have := Int32.not_lt.mp hN
      simpa using Int32.le_iff_toInt_le.mp this
    show N.toInt = ((N.toInt.toNat : Nat) : Int)
    omega
  have z0 : (0 : Int32).toNatClampNeg = 0 := by decide
  have zi : (0 : Int32).toInt = 0 := by decide
  intro T hT X
  obtain ⟨-, k0, hk0, cm0, hkk0⟩ := (hK.1.2 0 _ rfl).1 m0 (fun i => .int (f i))
  obtain ⟨-, k1, hk1, cm1, hkk1⟩ := (hK.1.2 0 _ rfl).1 m1 (fun i => .int (h i))
  obtain ⟨vm', X', step⟩ := X.arraycopy hx hown (hts _ hl1) (hts _ hl2) (hts _ hl3) (hts _ hl4) (src := g.2.2.2.1 + k) (dst := g.2.2.2.1 + j) (cs := vp_cell (g.2.2.1 0) (m0, .inl f)) (cd := vp_cell (g.2.2.1 0) (m1, .inl h)) (srcPos := 0) (destPos := 0) (n := N) (by rw [hT]; exact hc0) (by rw [hT]; exact hc1)
    (fun _ h => by cases h) (fun _ h => by cases h) (fun h => by cases h) (fun h => by cases h) hk0 hk1 hkk0 hkk1 (by simp [refKind]) (by decide) (by decide) hN
    (by rw [zi, nn]; show ¬ _ > ((arrV (g.2.2.1 0) m0 (fun i => .int (f i))).slots.size : Int); rw [arrV_size]; omega)
    (by rw [zi, nn]; show ¬ _ > ((arrV (g.2.2.1 0) m1 (fun i => .int (h i))).slots.size : Int); rw [arrV_size]; omega)
    (fun vm₁ _ i hi => by
      have e : (vp_cell (g.2.2.1 0) (m0, .inl f)).slots.getD ((0 : Int32).toNatClampNeg + i) .null = .int (f ((0 : Int32).toNatClampNeg + i)) := by
        show (arrV (g.2.2.1 0) m0 (fun i => .int (f i))).slots.getD _ _ = _
        rw [Array.getD_eq_getD_getElem?, arrV_read _ _ (by omega)]
        rfl
      refine ⟨?_, ?_⟩
      · rw [e]; rfl
      · rw [e]
        exact trivial)
    (g := F0 m pc ls (.int N :: .int 0 :: .ref (g.2.2.2.1 + j) :: .int 0 :: .ref (g.2.2.2.1 + k) :: st.map (tr g))) rfl (by rw [hml]; exact hl.1) (rest := st.map (tr g)) rfl (by rw [hb]; exact hd) hfr (by
      show 2 * 0 + _ + _ ≤ _
      have : ((st.map (tr g)).map fun v => v.category).sum = (st.map fun v => v.category).sum := by rw [List.map_map]; congr 1; apply List.map_congr_left; intro v _; exact tr_cat g v
      rw [this]
      dsimp only at hlo ⊢
      omega)
  have e1 : copied (vp_cell (g.2.2.1 0) (m0, .inl f)) (vp_cell (g.2.2.1 0) (m1, .inl h)) 0 0 N = vp_cell (g.2.2.1 0) (m1, .inl (va_cpy f h 0 0 N.toNatClampNeg)) := va_copied (fun z => .int z) (g.2.2.1 0) (g.2.2.1 0) f h (by omega)
  rw [e1] at X' step
  have hlt : g.2.2.2.1 + j < H.size := (Array.getElem?_eq_some_iff.mp hc1).1
  have hheap : ((T.setVm vm').setCell (g.2.2.2.1 + j) (vp_cell (g.2.2.1 0) (m1, .inl (va_cpy f h 0 0 N.toNatClampNeg)))).heap = H.setIfInBounds (g.2.2.2.1 + j) (vp_cell (g.2.2.1 0) (m1, .inl (va_cpy f h 0 0 N.toNatClampNeg))) := by rw [← hT]; rfl
  have oq : ∀ q : Nat, q ≠ g.2.2.2.1 + j → (H.setIfInBounds (g.2.2.2.1 + j) (vp_cell (g.2.2.1 0) (m1, .inl (va_cpy f h 0 0 N.toNatClampNeg))))[q]? = H[q]? := fun q hq => by simp [Array.getElem?_setIfInBounds, Ne.symm hq]
  have hz : (H.setIfInBounds (g.2.2.2.1 + j) (vp_cell (g.2.2.1 0) (m1, .inl (va_cpy f h 0 0 N.toNatClampNeg)))).size = H.size := by simp
  obtain ⟨t, a1, b1⟩ := kk _ _ ls (hH.set hjn hz oq (show (H.setIfInBounds _ _)[_]? = some _ by simp [Array.getElem?_setIfInBounds, hlt])) ⟨by rw [hz]; exact hS.1, fun q g1 g2 => by
      rw [oq q (fun e => g2 (by rw [e]; exact Nat.le_add_right _ _))]
      exact hS.2.1 q g1 g2, fun q hq => by
      rcases List.mem_append.mp hq with h | h
      · exact hS.2.2 q h
      · obtain ⟨z, -, hz⟩ := List.mem_map.mp h
        rw [← hz]
        exact Nat.le_add_right _ _⟩ hl _ hheap X'
  exact ⟨t, step t a1, b1⟩
end HEAP
end
section
/-- the answer v0, the world w0 -/
def Rv (v0 : Value) (w0 : Wd) : Option Value → Wd → Prop := fun r w' => r = some v0 ∧ w' = w0
def R0 (w0 : Wd) : Option Value → Wd → Prop := fun r w' => r = none ∧ w' = w0
def okB (y : MethodName) (cy : ByteArray) (my : Nat) (ry : Option FieldType) (na : Nat) : Prop := Cond.code y cy my ry ∈ TS ∧ Cond.initialized y.cls ∈ TS ∧ (y.cls ≠ "java/lang/invoke/MethodHandle" ∧ y.cls ≠ "java/lang/invoke/VarHandle" ∧ (parseMethodDescriptor y.desc).map (fun d => d.parameters.length) = some na)
def okV (own : String) (idx : Nat) (y : MethodName) (cy : ByteArray) (my : Nat) (ry : Option FieldType) (na : Nat) : Prop := okB y cy my ry na ∧ Cond.methodLink own idx y ∈ TS ∧ Cond.instanceMethod y ∈ TS ∧ Cond.selects y.cls y y ∈ TS
def okS (own : String) (idx : Nat) (y : MethodName) (cy : ByteArray) (my : Nat) (ry : Option FieldType) (na : Nat) : Prop := okB y cy my ry na ∧ Cond.methodLink own idx y ∈ TS ∧ Cond.static y ∈ TS
def okSN (own : String) (idx : Nat) (y : MethodName) (cy : ByteArray) (my : Nat) (ry : Option FieldType) (na : Nat) : Prop := okB y cy my ry na ∧ Cond.methodLinkNest own idx y "DeedNames" ∈ nests ∧ Cond.static y ∈ TS
def okI (own : String) (idx : Nat) (y : MethodName) (cy : ByteArray) (my : Nat) (na : Nat) : Prop := okB y cy my none na ∧ Cond.methodLink own idx y ∈ TS ∧ y.name = "<init>" ∧ Cond.instanceMethod y ∈ TS
def okIN (own : String) (idx : Nat) (y : MethodName) (cy : ByteArray) (my : Nat) (na : Nat) : Prop := okB y cy my none na ∧ Cond.methodLinkNest own idx y "DeedNames" ∈ nests ∧ y.name = "<init>" ∧ Cond.instanceMethod y ∈ TS
theorem tr_sum (g : Gx) (l : List Value) : ((l.map (tr g)).map fun v => v.category).sum = (l.map fun v => v.category).sum := by
  rw [List.map_map]; congr 1; apply List.map_congr_left; intro v _; exact tr_cat g v
section CALLS
variable {g : Gx} {x : Cx} {cc : ByteArray} {nL : Nat} {own : String} {rt : Option FieldType} {rm : Room} {n' : Nat} {Post : Option Value → Wd → Prop} {cs ss n : Nat} {w : Wd} {pc : Nat} {L : List (Option Value)} {st : List Value}
theorem ww_after {p : Program} {e : Env} {R : Room} {s : State} {m : MethodId} {args : Array Value} {below : List Frame} {meth : Method} {c : Code} {Q : State → Prop} {mc ms n2 : Nat} {P2 : Option Value → Wd → Prop} {av : Array Value} {rest : List Value} {H : Heap} {locs : List Loc} {ls : Array Slot} {g1 : JFrame} (hg : g1 = F0 m pc ls (st.map (tr g)))
    (hr : va_Run p g.1 e R s m args below meth c H locs cs ss mc ms g1 (rest.map (tr g)) (qc_ g n2 P2 av) (gA g)) (hS : va_S (gA g) s.heap H locs) (hl : lv_has ls nL (lvl g L))
    (kk : ∀ r w', P2 r w' → WW g (p, e, R, s, m, args, below, meth, c, Q) nL (cs + mc) (ss + ms) n2 w' (pc + 3) L (r.toList ++ rest)) : W p g.1 e R s m args below meth c H locs cs ss Q (F0 m pc ls (st.map (tr g))) := by
  subst hg
  intro T hT X
  obtain ⟨v, st₀, t, T', Lc, h0, X', hL, e1, e2, ⟨⟨r, w', hv, hp, hH'⟩, hz, hk⟩, stp⟩ := hr T hT X
  have hv' := Outcome.returned.inj hv
  subst hv'
  rw [h0] at hz hk
  obtain ⟨t2, a1, b1⟩ := kk r w' hp T'.heap (locs ++ Lc) ls (by rw [e1]; exact hH') ⟨Nat.le_trans hS.1 (by rw [e1]; exact hz), fun q h1 h2 => by rw [e1, hk q (Nat.lt_of_lt_of_le h1 hS.1) h2]; exact hS.2.1 q h1 h2, fun q hq => by
      rcases List.mem_append.mp hq with h | h
      · exact hS.2.2 q h
      · exact hL q h⟩ hl T' rfl X'
  refine ⟨t2, stp t2 ?_, b1⟩
  have es : (r.toList ++ rest).map (tr g) = (r.map (tr g)).toList ++ rest.map (tr g) := by cases r <;> simp
  have : (F0 m (pc + 3) ls ((r.toList ++ rest).map (tr g))) = { F0 m pc ls (st.map (tr g)) with pc := (F0 m pc ls (st.map (tr g))).pc + 3, stack := (r.map (tr g)).toList ++ rest.map (tr g) } := by rw [es]
  rw [← this]
  exact a1
theorem ww_callV (C : Ck g x cc nL own rt rm n' Post) {y : MethodName} {cy : ByteArray} {my : Nat} {ry : Option FieldType} {rmy : Room} {n2 idx na : Nat} {P2 : Option Value → Wd → Prop} {as rest : List Value} {k : Nat} {ci : Nat} {fs : List Value} (hk : w k = ob ci fs) (hci : (cls_[ci]?).map Prod.fst = some y.cls) (hM : CT g y cy my ry rmy n n2 w (.ref k :: as) P2) (hok : okV own idx y cy my ry na) (hroom : rmy.frames + 1 ≤ rm.frames ∧ 8 + (my + 11) + rmy.locals ≤ rm.locals) (hcs : cs + rmy.cells ≤ rm.cells ∧ ss + rmy.slots ≤ rm.slots) (hn : as.length = na) (hst : st = as.reverse ++ .ref k :: rest) (hW : (rest.map fun v => v.category).sum ≤ 8) (hd : decode cc pc = .ok (.invokevirtual idx, 3)) (kk : ∀ r w', P2 r w' → WW g x nL (cs + rmy.cells) (ss + rmy.slots) n2 w' (pc + 3) L (r.toList ++ rest)) : WW g x nL cs ss n w pc L st := by
  obtain ⟨p, e, R, s, m, args, below, meth, c, Q⟩ := x
  obtain ⟨hx, hb, hml, hr, hlk, hown, hts, hK, hR, hbs, hQ⟩ := C
  subst hst
  subst hR
  intro H locs ls hH hS hl
  obtain ⟨⟨hcd, hini, hdd⟩, hlink, hins, hsel⟩ := hok
  have hkn := hw_lt hH hk ob_dead
  have hadk : ad g k = g.2.2.2.1 + k := ad_lt g (Nat.lt_of_lt_of_le hkn hH.1)
  have hPc : ∀ U : State, U.heap = H → s.WarmedH U.vm → pc_ g n w (.ref k :: as) (Value.ref (ad g k) :: as.map (tr g)).toArray U := fun U hU hW => ⟨rfl, by rw [hU]; exact hH, KK.moved hW (fun q h1 h2 => by rw [hU]; exact hS.2.1 q h1 h2) hK⟩
  have hstk : (as.reverse ++ .ref k :: rest).map (tr g) = (as.map (tr g)).reverse ++ .ref (ad g k) :: rest.map (tr g) := by rw [List.map_append, List.map_reverse]; rfl
  have hrec : ∃ cellB : Cell, H[ad g k]? = some cellB ∧ cellB.vm.isStatics = false ∧ s.vm.findClass y.cls = some cellB.cls := by
    cases hq : cls_[ci]? with
    | none => rw [hq] at hci; cases hci
    | some q =>
      rw [hq] at hci
      have hq1 : q.1 = y.cls := Option.some.inj hci
      have hat := hH.2.2.1 k hkn
      rw [hk] at hat
      have hP : va_P g.2.1 cls_ [(g.2.2.2.1 + k, ce g (ob ci fs))] H := fun i q hq => by
        match i, hq with
        | 0, hq => cases hq; exact hat
        | i + 1, hq => simp at hq
      have := va_recv (q0 := 0) hK.1 hP hq rfl
      rw [hadk, ← hq1]
      exact this
  refine ww_after (nL := nL) (L := L) (rest := rest) rfl (va_runV ⟨hx, hb, hml, hown, hts⟩ hM ⟨callB_of na hts (ts_goodIn hcd) rfl rfl rfl (hts _ hini) (hts _ hlink) hdd hroom, hts _ hins, hts _ hsel⟩ ⟨pc_blind, hrec, hPc⟩ rfl (by rw [List.length_map]; exact hn) hl.1 hstk (lv_room (by rw [tr_sum]; exact hW)) hd hcs) hS hl kk
theorem ww_callS (C : Ck g x cc nL own rt rm n' Post) {y : MethodName} {cy : ByteArray} {my : Nat} {ry : Option FieldType} {rmy : Room} {n2 idx na : Nat} {P2 : Option Value → Wd → Prop} {as rest : List Value} (hM : CT g y cy my ry rmy n n2 w as P2) (hok : okS own idx y cy my ry na) (hroom : rmy.frames + 1 ≤ rm.frames ∧ 8 + (my + 11) + rmy.locals ≤ rm.locals) (hcs : cs + rmy.cells ≤ rm.cells ∧ ss + rmy.slots ≤ rm.slots) (hn : as.length = na) (hst : st = as.reverse ++ rest) (hW : (rest.map fun v => v.category).sum ≤ 8) (hd : decode cc pc = .ok (.invokestatic idx, 3)) (kk : ∀ r w', P2 r w' → WW g x nL (cs + rmy.cells) (ss + rmy.slots) n2 w' (pc + 3) L (r.toList ++ rest)) : WW g x nL cs ss n w pc L st := by
  obtain ⟨p, e, R, s, m, args, below, meth, c, Q⟩ := x
  obtain ⟨hx, hb, hml, hr, hlk, hown, hts, hK, hR, hbs, hQ⟩ := C
  subst hst
  subst hR
  intro H locs ls hH hS hl
  obtain ⟨⟨hcd, hini, hdd⟩, hlink, hsta⟩ := hok
  have hPc : ∀ U : State, U.heap = H → s.WarmedH U.vm → pc_ g n w as (as.map (tr g)).toArray U := fun U hU hW => ⟨rfl, by rw [hU]; exact hH, KK.moved hW (fun q h1 h2 => by rw [hU]; exact hS.2.1 q h1 h2) hK⟩
  have hstk : (as.reverse ++ rest).map (tr g) = (as.map (tr g)).reverse ++ rest.map (tr g) := by rw [List.map_append, List.map_reverse]
  refine ww_after (nL := nL) (L := L) (rest := rest) rfl (va_runS ⟨hx, hb, hml, hown, hts⟩ hM ⟨callB_of na hts (ts_goodIn hcd) rfl rfl rfl (hts _ hini) (hts _ hlink) hdd hroom, hts _ hsta⟩ ⟨pc_blind, hPc⟩ rfl (by rw [List.length_map]; exact hn) hl.1 hstk (lv_room (by rw [tr_sum]; exact hW)) hd hcs) hS hl kk
theorem ww_callSN (C : Ck g x cc nL own rt rm n' Post) {y : MethodName} {cy : ByteArray} {my : Nat} {ry : Option FieldType} {rmy : Room} {n2 idx na : Nat} {P2 : Option Value → Wd → Prop} {as rest : List Value} (hM : CT g y cy my ry rmy n n2 w as P2) (hok : okSN own idx y cy my ry na) (hroom : rmy.frames + 1 ≤ rm.frames ∧ 8 + (my + 11) + rmy.locals ≤ rm.locals) (hcs : cs + rmy.cells ≤ rm.cells ∧ ss + rmy.slots ≤ rm.slots) (hn : as.length = na) (hst : st = as.reverse ++ rest) (hW : (rest.map fun v => v.category).sum ≤ 8) (hd : decode cc pc = .ok (.invokestatic idx, 3)) (kk : ∀ r w', P2 r w' → WW g x nL (cs + rmy.cells) (ss + rmy.slots) n2 w' (pc + 3) L (r.toList ++ rest)) : WW g x nL cs ss n w pc L st := by
  obtain ⟨p, e, R, s, m, args, below, meth, c, Q⟩ := x
  obtain ⟨hx, hb, hml, hr, hlk, hown, hts, hK, hR, hbs, hQ⟩ := C
  subst hst
  subst hR
  intro H locs ls hH hS hl
  obtain ⟨⟨hcd, hini, hdd⟩, hlink, hsta⟩ := hok
  have hPc : ∀ U : State, U.heap = H → s.WarmedH U.vm → pc_ g n w as (as.map (tr g)).toArray U := fun U hU hW => ⟨rfl, by rw [hU]; exact hH, KK.moved hW (fun q h1 h2 => by rw [hU]; exact hS.2.1 q h1 h2) hK⟩
  have hstk : (as.reverse ++ rest).map (tr g) = (as.map (tr g)).reverse ++ rest.map (tr g) := by rw [List.map_append, List.map_reverse]
  refine ww_after (nL := nL) (L := L) (rest := rest) rfl (va_runSN ⟨hx, hb, hml, hown, hts⟩ hM ⟨va_cnB na hts (ts_goodIn hcd) rfl rfl rfl (hK.2.1 _ hlink) (hts _ hini) hdd hroom, hts _ hsta, trivial⟩ ⟨pc_blind, hPc⟩ rfl (by rw [List.length_map]; exact hn) hl.1 hstk (lv_room (by rw [tr_sum]; exact hW)) hd hcs) hS hl kk
theorem ww_callI (C : Ck g x cc nL own rt rm n' Post) {y : MethodName} {cy : ByteArray} {my : Nat} {rmy : Room} {n2 idx na : Nat} {P2 : Option Value → Wd → Prop} {as rest : List Value} {k : Nat} {ci : Nat} {fs : List Value} (hk : w k = ob ci fs) (hM : CT g y cy my none rmy n n2 w (.ref k :: as) P2) (hok : okI own idx y cy my na) (hroom : rmy.frames + 1 ≤ rm.frames ∧ 8 + (my + 11) + rmy.locals ≤ rm.locals) (hcs : cs + rmy.cells ≤ rm.cells ∧ ss + rmy.slots ≤ rm.slots) (hn : as.length = na) (hst : st = as.reverse ++ .ref k :: rest) (hW : (rest.map fun v => v.category).sum ≤ 8) (hd : decode cc pc = .ok (.invokespecial idx, 3)) (kk : ∀ r w', P2 r w' → WW g x nL (cs + rmy.cells) (ss + rmy.slots) n2 w' (pc + 3) L (r.toList ++ rest)) : WW g x nL cs ss n w pc L st := by
  obtain ⟨p, e, R, s, m, args, below, meth, c, Q⟩ := x
  obtain ⟨hx, hb, hml, hr, hlk, hown, hts, hK, hR, hbs, hQ⟩ := C
  subst hst
  subst hR
  intro H locs ls hH hS hl
  obtain ⟨⟨hcd, hini, hdd⟩, hlink, hyi, hins⟩ := hok
  have hkn := hw_lt hH hk ob_dead
  have hadk : ad g k = g.2.2.2.1 + k := ad_lt g (Nat.lt_of_lt_of_le hkn hH.1)
  have hPc : ∀ U : State, U.heap = H → s.WarmedH U.vm → pc_ g n w (.ref k :: as) (Value.ref (ad g k) :: as.map (tr g)).toArray U := fun U hU hW => ⟨rfl, by rw [hU]; exact hH, KK.moved hW (fun q h1 h2 => by rw [hU]; exact hS.2.1 q h1 h2) hK⟩
  have hstk : (as.reverse ++ .ref k :: rest).map (tr g) = (as.map (tr g)).reverse ++ .ref (ad g k) :: rest.map (tr g) := by rw [List.map_append, List.map_reverse]; rfl
  refine ww_after (nL := nL) (L := L) (rest := rest) rfl (va_runI ⟨hx, hb, hml, hown, hts⟩ hM ⟨callB_of na hts (ts_goodIn hcd) rfl rfl rfl (hts _ hini) (hts _ hlink) hdd hroom, hyi, hts _ hins⟩ ⟨pc_blind, hPc⟩ rfl (by rw [List.length_map]; exact hn) hl.1 hstk (lv_room (by rw [tr_sum]; exact hW)) hd hcs) hS hl kk
theorem ww_callIN (C : Ck g x cc nL own rt rm n' Post) {y : MethodName} {cy : ByteArray} {my : Nat} {rmy : Room} {n2 idx na : Nat} {P2 : Option Value → Wd → Prop} {as rest : List Value} {k : Nat} {ci : Nat} {fs : List Value} (hk : w k = ob ci fs) (hM : CT g y cy my none rmy n n2 w (.ref k :: as) P2) (hok : okIN own idx y cy my na) (hroom : rmy.frames + 1 ≤ rm.frames ∧ 8 + (my + 11) + rmy.locals ≤ rm.locals) (hcs : cs + rmy.cells ≤ rm.cells ∧ ss + rmy.slots ≤ rm.slots) (hn : as.length = na) (hst : st = as.reverse ++ .ref k :: rest) (hW : (rest.map fun v => v.category).sum ≤ 8) (hd : decode cc pc = .ok (.invokespecial idx, 3)) (kk : ∀ r w', P2 r w' → WW g x nL (cs + rmy.cells) (ss + rmy.slots) n2 w' (pc + 3) L (r.toList ++ rest)) : WW g x nL cs ss n w pc L st := by
  obtain ⟨p, e, R, s, m, args, below, meth, c, Q⟩ := x
  obtain ⟨hx, hb, hml, hr, hlk, hown, hts, hK, hR, hbs, hQ⟩ := C
  subst hst
  subst hR
  intro H locs ls hH hS hl
  obtain ⟨⟨hcd, hini, hdd⟩, hlink, hyi, hins⟩ := hok
  have hkn := hw_lt hH hk ob_dead
  have hadk : ad g k = g.2.2.2.1 + k := ad_lt g (Nat.lt_of_lt_of_le hkn hH.1)
  have hPc : ∀ U : State, U.heap = H → s.WarmedH U.vm → pc_ g n w (.ref k :: as) (Value.ref (ad g k) :: as.map (tr g)).toArray U := fun U hU hW => ⟨rfl, by rw [hU]; exact hH, KK.moved hW (fun q h1 h2 => by rw [hU]; exact hS.2.1 q h1 h2) hK⟩
  have hstk : (as.reverse ++ .ref k :: rest).map (tr g) = (as.map (tr g)).reverse ++ .ref (ad g k) :: rest.map (tr g) := by rw [List.map_append, List.map_reverse]; rfl
  refine ww_after (nL := nL) (L := L) (rest := rest) rfl (va_runIN ⟨hx, hb, hml, hown, hts⟩ hM ⟨va_cnB na hts (ts_goodIn hcd) rfl rfl rfl (hK.2.1 _ hlink) (hts _ hini) hdd hroom, hyi, hts _ hins⟩ ⟨pc_blind, hPc⟩ rfl (by rw [List.length_map]; exact hn) hl.1 hstk (lv_room (by rw [tr_sum]; exact hW)) hd hcs) hS hl kk
theorem ww_cV0v (C : Ck g x cc nL own rt rm n' Post) {y : MethodName} {cy : ByteArray} {my : Nat} {ry : Option FieldType} {rmy : Room} {idx : Nat} {v0 : Value} {w0 : Wd} {rest : List Value} {k ci : Nat} {fs : List Value} (hk : w k = ob ci fs) (hci : (cls_[ci]?).map Prod.fst = some y.cls) (hM : CT g y cy my ry rmy n n w [.ref k] (Rv v0 w0)) (hok : okV own idx y cy my ry 0) (hroom : rmy.frames + 1 ≤ rm.frames ∧ 8 + (my + 11) + rmy.locals ≤ rm.locals) (hz : rmy.cells = 0 ∧ rmy.slots = 0) (hcs : cs ≤ rm.cells ∧ ss ≤ rm.slots) (hW : (rest.map fun v => v.category).sum ≤ 8) (hd : decode cc pc = .ok (.invokevirtual idx, 3)) (kk : WW g x nL cs ss n w0 (pc + 3) L (v0 :: rest)) : WW g x nL cs ss n w pc L (.ref k :: rest) :=
  ww_callV C (as := []) (rest := rest) hk hci hM hok hroom (by rw [hz.1, hz.2]; exact hcs) rfl rfl hW hd (fun r w' h => by obtain ⟨h1, h2⟩ := h; subst h1; subst h2; rw [hz.1, hz.2]; exact kk)
theorem ww_cV00 (C : Ck g x cc nL own rt rm n' Post) {y : MethodName} {cy : ByteArray} {my : Nat} {ry : Option FieldType} {rmy : Room} {idx : Nat} {w0 : Wd} {rest : List Value} {k ci : Nat} {fs : List Value} (hk : w k = ob ci fs) (hci : (cls_[ci]?).map Prod.fst = some y.cls) (hM : CT g y cy my ry rmy n n w [.ref k] (R0 w0)) (hok : okV own idx y cy my ry 0) (hroom : rmy.frames + 1 ≤ rm.frames ∧ 8 + (my + 11) + rmy.locals ≤ rm.locals) (hz : rmy.cells = 0 ∧ rmy.slots = 0) (hcs : cs ≤ rm.cells ∧ ss ≤ rm.slots) (hW : (rest.map fun v => v.category).sum ≤ 8) (hd : decode cc pc = .ok (.invokevirtual idx, 3)) (kk : WW g x nL cs ss n w0 (pc + 3) L rest) : WW g x nL cs ss n w pc L (.ref k :: rest) :=
  ww_callV C (as := []) (rest := rest) hk hci hM hok hroom (by rw [hz.1, hz.2]; exact hcs) rfl rfl hW hd (fun r w' h => by obtain ⟨h1, h2⟩ := h; subst h1; subst h2; rw [hz.1, hz.2]; exact kk)
theorem ww_cV1v (C : Ck g x cc nL own rt rm n' Post) {y : MethodName} {cy : ByteArray} {my : Nat} {ry : Option FieldType} {rmy : Room} {idx : Nat} {v0 : Value} {w0 : Wd} {rest : List Value} {b1 : Value} {k ci : Nat} {fs : List Value} (hk : w k = ob ci fs) (hci : (cls_[ci]?).map Prod.fst = some y.cls) (hM : CT g y cy my ry rmy n n w [.ref k, b1] (Rv v0 w0)) (hok : okV own idx y cy my ry 1) (hroom : rmy.frames + 1 ≤ rm.frames ∧ 8 + (my + 11) + rmy.locals ≤ rm.locals) (hz : rmy.cells = 0 ∧ rmy.slots = 0) (hcs : cs ≤ rm.cells ∧ ss ≤ rm.slots) (hW : (rest.map fun v => v.category).sum ≤ 8) (hd : decode cc pc = .ok (.invokevirtual idx, 3)) (kk : WW g x nL cs ss n w0 (pc + 3) L (v0 :: rest)) : WW g x nL cs ss n w pc L (b1 :: .ref k :: rest) :=
  ww_callV C (as := [b1]) (rest := rest) hk hci hM hok hroom (by rw [hz.1, hz.2]; exact hcs) rfl rfl hW hd (fun r w' h => by obtain ⟨h1, h2⟩ := h; subst h1; subst h2; rw [hz.1, hz.2]; exact kk)
theorem ww_cV10 (C : Ck g x cc nL own rt rm n' Post) {y : MethodName} {cy : ByteArray} {my : Nat} {ry : Option FieldType} {rmy : Room} {idx : Nat} {w0 : Wd} {rest : List Value} {b1 : Value} {k ci : Nat} {fs : List Value} (hk : w k = ob ci fs) (hci : (cls_[ci]?).map Prod.fst = some y.cls) (hM : CT g y cy my ry rmy n n w [.ref k, b1] (R0 w0)) (hok : okV own idx y cy my ry 1) (hroom : rmy.frames + 1 ≤ rm.frames ∧ 8 + (my + 11) + rmy.locals ≤ rm.locals) (hz : rmy.cells = 0 ∧ rmy.slots = 0) (hcs : cs ≤ rm.cells ∧ ss ≤ rm.slots) (hW : (rest.map fun v => v.category).sum ≤ 8) (hd : decode cc pc = .ok (.invokevirtual idx, 3)) (kk : WW g x nL cs ss n w0 (pc + 3) L rest) : WW g x nL cs ss n w pc L (b1 :: .ref k :: rest) :=
  ww_callV C (as := [b1]) (rest := rest) hk hci hM hok hroom (by rw [hz.1, hz.2]; exact hcs) rfl rfl hW hd (fun r w' h => by obtain ⟨h1, h2⟩ := h; subst h1; subst h2; rw [hz.1, hz.2]; exact kk)
theorem ww_cV2v (C : Ck g x cc nL own rt rm n' Post) {y : MethodName} {cy : ByteArray} {my : Nat} {ry : Option FieldType} {rmy : Room} {idx : Nat} {v0 : Value} {w0 : Wd} {rest : List Value} {b1 b2 : Value} {k ci : Nat} {fs : List Value} (hk : w k = ob ci fs) (hci : (cls_[ci]?).map Prod.fst = some y.cls) (hM : CT g y cy my ry rmy n n w [.ref k, b1, b2] (Rv v0 w0)) (hok : okV own idx y cy my ry 2) (hroom : rmy.frames + 1 ≤ rm.frames ∧ 8 + (my + 11) + rmy.locals ≤ rm.locals) (hz : rmy.cells = 0 ∧ rmy.slots = 0) (hcs : cs ≤ rm.cells ∧ ss ≤ rm.slots) (hW : (rest.map fun v => v.category).sum ≤ 8) (hd : decode cc pc = .ok (.invokevirtual idx, 3)) (kk : WW g x nL cs ss n w0 (pc + 3) L (v0 :: rest)) : WW g x nL cs ss n w pc L (b2 :: b1 :: .ref k :: rest) :=
  ww_callV C (as := [b1, b2]) (rest := rest) hk hci hM hok hroom (by rw [hz.1, hz.2]; exact hcs) rfl rfl hW hd (fun r w' h => by obtain ⟨h1, h2⟩ := h; subst h1; subst h2; rw [hz.1, hz.2]; exact kk)
theorem ww_cV20 (C : Ck g x cc nL own rt rm n' Post) {y : MethodName} {cy : ByteArray} {my : Nat} {ry : Option FieldType} {rmy : Room} {idx : Nat} {w0 : Wd} {rest : List Value} {b1 b2 : Value} {k ci : Nat} {fs : List Value} (hk : w k = ob ci fs) (hci : (cls_[ci]?).map Prod.fst = some y.cls) (hM : CT g y cy my ry rmy n n w [.ref k, b1, b2] (R0 w0)) (hok : okV own idx y cy my ry 2) (hroom : rmy.frames + 1 ≤ rm.frames ∧ 8 + (my + 11) + rmy.locals ≤ rm.locals) (hz : rmy.cells = 0 ∧ rmy.slots = 0) (hcs : cs ≤ rm.cells ∧ ss ≤ rm.slots) (hW : (rest.map fun v => v.category).sum ≤ 8) (hd : decode cc pc = .ok (.invokevirtual idx, 3)) (kk : WW g x nL cs ss n w0 (pc + 3) L rest) : WW g x nL cs ss n w pc L (b2 :: b1 :: .ref k :: rest) :=
  ww_callV C (as := [b1, b2]) (rest := rest) hk hci hM hok hroom (by rw [hz.1, hz.2]; exact hcs) rfl rfl hW hd (fun r w' h => by obtain ⟨h1, h2⟩ := h; subst h1; subst h2; rw [hz.1, hz.2]; exact kk)
theorem ww_cV3v (C : Ck g x cc nL own rt rm n' Post) {y : MethodName} {cy : ByteArray} {my : Nat} {ry : Option FieldType} {rmy : Room} {idx : Nat} {v0 : Value} {w0 : Wd} {rest : List Value} {b1 b2 b3 : Value} {k ci : Nat} {fs : List Value} (hk : w k = ob ci fs) (hci : (cls_[ci]?).map Prod.fst = some y.cls) (hM : CT g y cy my ry rmy n n w [.ref k, b1, b2, b3] (Rv v0 w0)) (hok : okV own idx y cy my ry 3) (hroom : rmy.frames + 1 ≤ rm.frames ∧ 8 + (my + 11) + rmy.locals ≤ rm.locals) (hz : rmy.cells = 0 ∧ rmy.slots = 0) (hcs : cs ≤ rm.cells ∧ ss ≤ rm.slots) (hW : (rest.map fun v => v.category).sum ≤ 8) (hd : decode cc pc = .ok (.invokevirtual idx, 3)) (kk : WW g x nL cs ss n w0 (pc + 3) L (v0 :: rest)) : WW g x nL cs ss n w pc L (b3 :: b2 :: b1 :: .ref k :: rest) :=
  ww_callV C (as := [b1, b2, b3]) (rest := rest) hk hci hM hok hroom (by rw [hz.1, hz.2]; exact hcs) rfl rfl hW hd (fun r w' h => by obtain ⟨h1, h2⟩ := h; subst h1; subst h2; rw [hz.1, hz.2]; exact kk)
theorem ww_cV30 (C : Ck g x cc nL own rt rm n' Post) {y : MethodName} {cy : ByteArray} {my : Nat} {ry : Option FieldType} {rmy : Room} {idx : Nat} {w0 : Wd} {rest : List Value} {b1 b2 b3 : Value} {k ci : Nat} {fs : List Value} (hk : w k = ob ci fs) (hci : (cls_[ci]?).map Prod.fst = some y.cls) (hM : CT g y cy my ry rmy n n w [.ref k, b1, b2, b3] (R0 w0)) (hok : okV own idx y cy my ry 3) (hroom : rmy.frames + 1 ≤ rm.frames ∧ 8 + (my + 11) + rmy.locals ≤ rm.locals) (hz : rmy.cells = 0 ∧ rmy.slots = 0) (hcs : cs ≤ rm.cells ∧ ss ≤ rm.slots) (hW : (rest.map fun v => v.category).sum ≤ 8) (hd : decode cc pc = .ok (.invokevirtual idx, 3)) (kk : WW g x nL cs ss n w0 (pc + 3) L rest) : WW g x nL cs ss n w pc L (b3 :: b2 :: b1 :: .ref k :: rest) :=
  ww_callV C (as := [b1, b2, b3]) (rest := rest) hk hci hM hok hroom (by rw [hz.1, hz.2]; exact hcs) rfl rfl hW hd (fun r w' h => by obtain ⟨h1, h2⟩ := h; subst h1; subst h2; rw [hz.1, hz.2]; exact kk)
theorem ww_cV4v (C : Ck g x cc nL own rt rm n' Post) {y : MethodName} {cy : ByteArray} {my : Nat} {ry : Option FieldType} {rmy : Room} {idx : Nat} {v0 : Value} {w0 : Wd} {rest : List Value} {b1 b2 b3 b4 : Value} {k ci : Nat} {fs : List Value} (hk : w k = ob ci fs) (hci : (cls_[ci]?).map Prod.fst = some y.cls) (hM : CT g y cy my ry rmy n n w [.ref k, b1, b2, b3, b4] (Rv v0 w0)) (hok : okV own idx y cy my ry 4) (hroom : rmy.frames + 1 ≤ rm.frames ∧ 8 + (my + 11) + rmy.locals ≤ rm.locals) (hz : rmy.cells = 0 ∧ rmy.slots = 0) (hcs : cs ≤ rm.cells ∧ ss ≤ rm.slots) (hW : (rest.map fun v => v.category).sum ≤ 8) (hd : decode cc pc = .ok (.invokevirtual idx, 3)) (kk : WW g x nL cs ss n w0 (pc + 3) L (v0 :: rest)) : WW g x nL cs ss n w pc L (b4 :: b3 :: b2 :: b1 :: .ref k :: rest) :=
  ww_callV C (as := [b1, b2, b3, b4]) (rest := rest) hk hci hM hok hroom (by rw [hz.1, hz.2]; exact hcs) rfl rfl hW hd (fun r w' h => by obtain ⟨h1, h2⟩ := h; subst h1; subst h2; rw [hz.1, hz.2]; exact kk)
theorem ww_cV40 (C : Ck g x cc nL own rt rm n' Post) {y : MethodName} {cy : ByteArray} {my : Nat} {ry : Option FieldType} {rmy : Room} {idx : Nat} {w0 : Wd} {rest : List Value} {b1 b2 b3 b4 : Value} {k ci : Nat} {fs : List Value} (hk : w k = ob ci fs) (hci : (cls_[ci]?).map Prod.fst = some y.cls) (hM : CT g y cy my ry rmy n n w [.ref k, b1, b2, b3, b4] (R0 w0)) (hok : okV own idx y cy my ry 4) (hroom : rmy.frames + 1 ≤ rm.frames ∧ 8 + (my + 11) + rmy.locals ≤ rm.locals) (hz : rmy.cells = 0 ∧ rmy.slots = 0) (hcs : cs ≤ rm.cells ∧ ss ≤ rm.slots) (hW : (rest.map fun v => v.category).sum ≤ 8) (hd : decode cc pc = .ok (.invokevirtual idx, 3)) (kk : WW g x nL cs ss n w0 (pc + 3) L rest) : WW g x nL cs ss n w pc L (b4 :: b3 :: b2 :: b1 :: .ref k :: rest) :=
  ww_callV C (as := [b1, b2, b3, b4]) (rest := rest) hk hci hM hok hroom (by rw [hz.1, hz.2]; exact hcs) rfl rfl hW hd (fun r w' h => by obtain ⟨h1, h2⟩ := h; subst h1; subst h2; rw [hz.1, hz.2]; exact kk)
theorem ww_cV5v (C : Ck g x cc nL own rt rm n' Post) {y : MethodName} {cy : ByteArray} {my : Nat} {ry : Option FieldType} {rmy : Room} {idx : Nat} {v0 : Value} {w0 : Wd} {rest : List Value} {b1 b2 b3 b4 b5 : Value} {k ci : Nat} {fs : List Value} (hk : w k = ob ci fs) (hci : (cls_[ci]?).map Prod.fst = some y.cls) (hM : CT g y cy my ry rmy n n w [.ref k, b1, b2, b3, b4, b5] (Rv v0 w0)) (hok : okV own idx y cy my ry 5) (hroom : rmy.frames + 1 ≤ rm.frames ∧ 8 + (my + 11) + rmy.locals ≤ rm.locals) (hz : rmy.cells = 0 ∧ rmy.slots = 0) (hcs : cs ≤ rm.cells ∧ ss ≤ rm.slots) (hW : (rest.map fun v => v.category).sum ≤ 8) (hd : decode cc pc = .ok (.invokevirtual idx, 3)) (kk : WW g x nL cs ss n w0 (pc + 3) L (v0 :: rest)) : WW g x nL cs ss n w pc L (b5 :: b4 :: b3 :: b2 :: b1 :: .ref k :: rest) :=
  ww_callV C (as := [b1, b2, b3, b4, b5]) (rest := rest) hk hci hM hok hroom (by rw [hz.1, hz.2]; exact hcs) rfl rfl hW hd (fun r w' h => by obtain ⟨h1, h2⟩ := h; subst h1; subst h2; rw [hz.1, hz.2]; exact kk)
theorem ww_cV50 (C : Ck g x cc nL own rt rm n' Post) {y : MethodName} {cy : ByteArray} {my : Nat} {ry : Option FieldType} {rmy : Room} {idx : Nat} {w0 : Wd} {rest : List Value} {b1 b2 b3 b4 b5 : Value} {k ci : Nat} {fs : List Value} (hk : w k = ob ci fs) (hci : (cls_[ci]?).map Prod.fst = some y.cls) (hM : CT g y cy my ry rmy n n w [.ref k, b1, b2, b3, b4, b5] (R0 w0)) (hok : okV own idx y cy my ry 5) (hroom : rmy.frames + 1 ≤ rm.frames ∧ 8 + (my + 11) + rmy.locals ≤ rm.locals) (hz : rmy.cells = 0 ∧ rmy.slots = 0) (hcs : cs ≤ rm.cells ∧ ss ≤ rm.slots) (hW : (rest.map fun v => v.category).sum ≤ 8) (hd : decode cc pc = .ok (.invokevirtual idx, 3)) (kk : WW g x nL cs ss n w0 (pc + 3) L rest) : WW g x nL cs ss n w pc L (b5 :: b4 :: b3 :: b2 :: b1 :: .ref k :: rest) :=
  ww_callV C (as := [b1, b2, b3, b4, b5]) (rest := rest) hk hci hM hok hroom (by rw [hz.1, hz.2]; exact hcs) rfl rfl hW hd (fun r w' h => by obtain ⟨h1, h2⟩ := h; subst h1; subst h2; rw [hz.1, hz.2]; exact kk)
theorem ww_cS0v (C : Ck g x cc nL own rt rm n' Post) {y : MethodName} {cy : ByteArray} {my : Nat} {ry : Option FieldType} {rmy : Room} {idx : Nat} {v0 : Value} {w0 : Wd} {rest : List Value} (hM : CT g y cy my ry rmy n n w [] (Rv v0 w0)) (hok : okS own idx y cy my ry 0) (hroom : rmy.frames + 1 ≤ rm.frames ∧ 8 + (my + 11) + rmy.locals ≤ rm.locals) (hz : rmy.cells = 0 ∧ rmy.slots = 0) (hcs : cs ≤ rm.cells ∧ ss ≤ rm.slots) (hW : (rest.map fun v => v.category).sum ≤ 8) (hd : decode cc pc = .ok (.invokestatic idx, 3)) (kk : WW g x nL cs ss n w0 (pc + 3) L (v0 :: rest)) : WW g x nL cs ss n w pc L rest :=
  ww_callS C (as := []) (rest := rest) hM hok hroom (by rw [hz.1, hz.2]; exact hcs) rfl rfl hW hd (fun r w' h => by obtain ⟨h1, h2⟩ := h; subst h1; subst h2; rw [hz.1, hz.2]; exact kk)
theorem ww_cS00 (C : Ck g x cc nL own rt rm n' Post) {y : MethodName} {cy : ByteArray} {my : Nat} {ry : Option FieldType} {rmy : Room} {idx : Nat} {w0 : Wd} {rest : List Value} (hM : CT g y cy my ry rmy n n w [] (R0 w0)) (hok : okS own idx y cy my ry 0) (hroom : rmy.frames + 1 ≤ rm.frames ∧ 8 + (my + 11) + rmy.locals ≤ rm.locals) (hz : rmy.cells = 0 ∧ rmy.slots = 0) (hcs : cs ≤ rm.cells ∧ ss ≤ rm.slots) (hW : (rest.map fun v => v.category).sum ≤ 8) (hd : decode cc pc = .ok (.invokestatic idx, 3)) (kk : WW g x nL cs ss n w0 (pc + 3) L rest) : WW g x nL cs ss n w pc L rest :=
  ww_callS C (as := []) (rest := rest) hM hok hroom (by rw [hz.1, hz.2]; exact hcs) rfl rfl hW hd (fun r w' h => by obtain ⟨h1, h2⟩ := h; subst h1; subst h2; rw [hz.1, hz.2]; exact kk)
theorem ww_cS1v (C : Ck g x cc nL own rt rm n' Post) {y : MethodName} {cy : ByteArray} {my : Nat} {ry : Option FieldType} {rmy : Room} {idx : Nat} {v0 : Value} {w0 : Wd} {rest : List Value} {b1 : Value} (hM : CT g y cy my ry rmy n n w [b1] (Rv v0 w0)) (hok : okS own idx y cy my ry 1) (hroom : rmy.frames + 1 ≤ rm.frames ∧ 8 + (my + 11) + rmy.locals ≤ rm.locals) (hz : rmy.cells = 0 ∧ rmy.slots = 0) (hcs : cs ≤ rm.cells ∧ ss ≤ rm.slots) (hW : (rest.map fun v => v.category).sum ≤ 8) (hd : decode cc pc = .ok (.invokestatic idx, 3)) (kk : WW g x nL cs ss n w0 (pc + 3) L (v0 :: rest)) : WW g x nL cs ss n w pc L (b1 :: rest) :=
  ww_callS C (as := [b1]) (rest := rest) hM hok hroom (by rw [hz.1, hz.2]; exact hcs) rfl rfl hW hd (fun r w' h => by obtain ⟨h1, h2⟩ := h; subst h1; subst h2; rw [hz.1, hz.2]; exact kk)
theorem ww_cS10 (C : Ck g x cc nL own rt rm n' Post) {y : MethodName} {cy : ByteArray} {my : Nat} {ry : Option FieldType} {rmy : Room} {idx : Nat} {w0 : Wd} {rest : List Value} {b1 : Value} (hM : CT g y cy my ry rmy n n w [b1] (R0 w0)) (hok : okS own idx y cy my ry 1) (hroom : rmy.frames + 1 ≤ rm.frames ∧ 8 + (my + 11) + rmy.locals ≤ rm.locals) (hz : rmy.cells = 0 ∧ rmy.slots = 0) (hcs : cs ≤ rm.cells ∧ ss ≤ rm.slots) (hW : (rest.map fun v => v.category).sum ≤ 8) (hd : decode cc pc = .ok (.invokestatic idx, 3)) (kk : WW g x nL cs ss n w0 (pc + 3) L rest) : WW g x nL cs ss n w pc L (b1 :: rest) :=
  ww_callS C (as := [b1]) (rest := rest) hM hok hroom (by rw [hz.1, hz.2]; exact hcs) rfl rfl hW hd (fun r w' h => by obtain ⟨h1, h2⟩ := h; subst h1; subst h2; rw [hz.1, hz.2]; exact kk)
theorem ww_cS2v (C : Ck g x cc nL own rt rm n' Post) {y : MethodName} {cy : ByteArray} {my : Nat} {ry : Option FieldType} {rmy : Room} {idx : Nat} {v0 : Value} {w0 : Wd} {rest : List Value} {b1 b2 : Value} (hM : CT g y cy my ry rmy n n w [b1, b2] (Rv v0 w0)) (hok : okS own idx y cy my ry 2) (hroom : rmy.frames + 1 ≤ rm.frames ∧ 8 + (my + 11) + rmy.locals ≤ rm.locals) (hz : rmy.cells = 0 ∧ rmy.slots = 0) (hcs : cs ≤ rm.cells ∧ ss ≤ rm.slots) (hW : (rest.map fun v => v.category).sum ≤ 8) (hd : decode cc pc = .ok (.invokestatic idx, 3)) (kk : WW g x nL cs ss n w0 (pc + 3) L (v0 :: rest)) : WW g x nL cs ss n w pc L (b2 :: b1 :: rest) :=
  ww_callS C (as := [b1, b2]) (rest := rest) hM hok hroom (by rw [hz.1, hz.2]; exact hcs) rfl rfl hW hd (fun r w' h => by obtain ⟨h1, h2⟩ := h; subst h1; subst h2; rw [hz.1, hz.2]; exact kk)
theorem ww_cS20 (C : Ck g x cc nL own rt rm n' Post) {y : MethodName} {cy : ByteArray} {my : Nat} {ry : Option FieldType} {rmy : Room} {idx : Nat} {w0 : Wd} {rest : List Value} {b1 b2 : Value} (hM : CT g y cy my ry rmy n n w [b1, b2] (R0 w0)) (hok : okS own idx y cy my ry 2) (hroom : rmy.frames + 1 ≤ rm.frames ∧ 8 + (my + 11) + rmy.locals ≤ rm.locals) (hz : rmy.cells = 0 ∧ rmy.slots = 0) (hcs : cs ≤ rm.cells ∧ ss ≤ rm.slots) (hW : (rest.map fun v => v.category).sum ≤ 8) (hd : decode cc pc = .ok (.invokestatic idx, 3)) (kk : WW g x nL cs ss n w0 (pc + 3) L rest) : WW g x nL cs ss n w pc L (b2 :: b1 :: rest) :=
  ww_callS C (as := [b1, b2]) (rest := rest) hM hok hroom (by rw [hz.1, hz.2]; exact hcs) rfl rfl hW hd (fun r w' h => by obtain ⟨h1, h2⟩ := h; subst h1; subst h2; rw [hz.1, hz.2]; exact kk)
theorem ww_cS3v (C : Ck g x cc nL own rt rm n' Post) {y : MethodName} {cy : ByteArray} {my : Nat} {ry : Option FieldType} {rmy : Room} {idx : Nat} {v0 : Value} {w0 : Wd} {rest : List Value} {b1 b2 b3 : Value} (hM : CT g y cy my ry rmy n n w [b1, b2, b3] (Rv v0 w0)) (hok : okS own idx y cy my ry 3) (hroom : rmy.frames + 1 ≤ rm.frames ∧ 8 + (my + 11) + rmy.locals ≤ rm.locals) (hz : rmy.cells = 0 ∧ rmy.slots = 0) (hcs : cs ≤ rm.cells ∧ ss ≤ rm.slots) (hW : (rest.map fun v => v.category).sum ≤ 8) (hd : decode cc pc = .ok (.invokestatic idx, 3)) (kk : WW g x nL cs ss n w0 (pc + 3) L (v0 :: rest)) : WW g x nL cs ss n w pc L (b3 :: b2 :: b1 :: rest) :=
  ww_callS C (as := [b1, b2, b3]) (rest := rest) hM hok hroom (by rw [hz.1, hz.2]; exact hcs) rfl rfl hW hd (fun r w' h => by obtain ⟨h1, h2⟩ := h; subst h1; subst h2; rw [hz.1, hz.2]; exact kk)
theorem ww_cS30 (C : Ck g x cc nL own rt rm n' Post) {y : MethodName} {cy : ByteArray} {my : Nat} {ry : Option FieldType} {rmy : Room} {idx : Nat} {w0 : Wd} {rest : List Value} {b1 b2 b3 : Value} (hM : CT g y cy my ry rmy n n w [b1, b2, b3] (R0 w0)) (hok : okS own idx y cy my ry 3) (hroom : rmy.frames + 1 ≤ rm.frames ∧ 8 + (my + 11) + rmy.locals ≤ rm.locals) (hz : rmy.cells = 0 ∧ rmy.slots = 0) (hcs : cs ≤ rm.cells ∧ ss ≤ rm.slots) (hW : (rest.map fun v => v.category).sum ≤ 8) (hd : decode cc pc = .ok (.invokestatic idx, 3)) (kk : WW g x nL cs ss n w0 (pc + 3) L rest) : WW g x nL cs ss n w pc L (b3 :: b2 :: b1 :: rest) :=
  ww_callS C (as := [b1, b2, b3]) (rest := rest) hM hok hroom (by rw [hz.1, hz.2]; exact hcs) rfl rfl hW hd (fun r w' h => by obtain ⟨h1, h2⟩ := h; subst h1; subst h2; rw [hz.1, hz.2]; exact kk)
theorem ww_cS4v (C : Ck g x cc nL own rt rm n' Post) {y : MethodName} {cy : ByteArray} {my : Nat} {ry : Option FieldType} {rmy : Room} {idx : Nat} {v0 : Value} {w0 : Wd} {rest : List Value} {b1 b2 b3 b4 : Value} (hM : CT g y cy my ry rmy n n w [b1, b2, b3, b4] (Rv v0 w0)) (hok : okS own idx y cy my ry 4) (hroom : rmy.frames + 1 ≤ rm.frames ∧ 8 + (my + 11) + rmy.locals ≤ rm.locals) (hz : rmy.cells = 0 ∧ rmy.slots = 0) (hcs : cs ≤ rm.cells ∧ ss ≤ rm.slots) (hW : (rest.map fun v => v.category).sum ≤ 8) (hd : decode cc pc = .ok (.invokestatic idx, 3)) (kk : WW g x nL cs ss n w0 (pc + 3) L (v0 :: rest)) : WW g x nL cs ss n w pc L (b4 :: b3 :: b2 :: b1 :: rest) :=
  ww_callS C (as := [b1, b2, b3, b4]) (rest := rest) hM hok hroom (by rw [hz.1, hz.2]; exact hcs) rfl rfl hW hd (fun r w' h => by obtain ⟨h1, h2⟩ := h; subst h1; subst h2; rw [hz.1, hz.2]; exact kk)
theorem ww_cS40 (C : Ck g x cc nL own rt rm n' Post) {y : MethodName} {cy : ByteArray} {my : Nat} {ry : Option FieldType} {rmy : Room} {idx : Nat} {w0 : Wd} {rest : List Value} {b1 b2 b3 b4 : Value} (hM : CT g y cy my ry rmy n n w [b1, b2, b3, b4] (R0 w0)) (hok : okS own idx y cy my ry 4) (hroom : rmy.frames + 1 ≤ rm.frames ∧ 8 + (my + 11) + rmy.locals ≤ rm.locals) (hz : rmy.cells = 0 ∧ rmy.slots = 0) (hcs : cs ≤ rm.cells ∧ ss ≤ rm.slots) (hW : (rest.map fun v => v.category).sum ≤ 8) (hd : decode cc pc = .ok (.invokestatic idx, 3)) (kk : WW g x nL cs ss n w0 (pc + 3) L rest) : WW g x nL cs ss n w pc L (b4 :: b3 :: b2 :: b1 :: rest) :=
  ww_callS C (as := [b1, b2, b3, b4]) (rest := rest) hM hok hroom (by rw [hz.1, hz.2]; exact hcs) rfl rfl hW hd (fun r w' h => by obtain ⟨h1, h2⟩ := h; subst h1; subst h2; rw [hz.1, hz.2]; exact kk)
theorem ww_cS5v (C : Ck g x cc nL own rt rm n' Post) {y : MethodName} {cy : ByteArray} {my : Nat} {ry : Option FieldType} {rmy : Room} {idx : Nat} {v0 : Value} {w0 : Wd} {rest : List Value} {b1 b2 b3 b4 b5 : Value} (hM : CT g y cy my ry rmy n n w [b1, b2, b3, b4, b5] (Rv v0 w0)) (hok : okS own idx y cy my ry 5) (hroom : rmy.frames + 1 ≤ rm.frames ∧ 8 + (my + 11) + rmy.locals ≤ rm.locals) (hz : rmy.cells = 0 ∧ rmy.slots = 0) (hcs : cs ≤ rm.cells ∧ ss ≤ rm.slots) (hW : (rest.map fun v => v.category).sum ≤ 8) (hd : decode cc pc = .ok (.invokestatic idx, 3)) (kk : WW g x nL cs ss n w0 (pc + 3) L (v0 :: rest)) : WW g x nL cs ss n w pc L (b5 :: b4 :: b3 :: b2 :: b1 :: rest) :=
  ww_callS C (as := [b1, b2, b3, b4, b5]) (rest := rest) hM hok hroom (by rw [hz.1, hz.2]; exact hcs) rfl rfl hW hd (fun r w' h => by obtain ⟨h1, h2⟩ := h; subst h1; subst h2; rw [hz.1, hz.2]; exact kk)
theorem ww_cS50 (C : Ck g x cc nL own rt rm n' Post) {y : MethodName} {cy : ByteArray} {my : Nat} {ry : Option FieldType} {rmy : Room} {idx : Nat} {w0 : Wd} {rest : List Value} {b1 b2 b3 b4 b5 : Value} (hM : CT g y cy my ry rmy n n w [b1, b2, b3, b4, b5] (R0 w0)) (hok : okS own idx y cy my ry 5) (hroom : rmy.frames + 1 ≤ rm.frames ∧ 8 + (my + 11) + rmy.locals ≤ rm.locals) (hz : rmy.cells = 0 ∧ rmy.slots = 0) (hcs : cs ≤ rm.cells ∧ ss ≤ rm.slots) (hW : (rest.map fun v => v.category).sum ≤ 8) (hd : decode cc pc = .ok (.invokestatic idx, 3)) (kk : WW g x nL cs ss n w0 (pc + 3) L rest) : WW g x nL cs ss n w pc L (b5 :: b4 :: b3 :: b2 :: b1 :: rest) :=
  ww_callS C (as := [b1, b2, b3, b4, b5]) (rest := rest) hM hok hroom (by rw [hz.1, hz.2]; exact hcs) rfl rfl hW hd (fun r w' h => by obtain ⟨h1, h2⟩ := h; subst h1; subst h2; rw [hz.1, hz.2]; exact kk)
theorem ww_cSN2v (C : Ck g x cc nL own rt rm n' Post) {y : MethodName} {cy : ByteArray} {my : Nat} {ry : Option FieldType} {rmy : Room} {idx : Nat} {v0 : Value} {w0 : Wd} {rest : List Value} {b1 b2 : Value} (hM : CT g y cy my ry rmy n n w [b1, b2] (Rv v0 w0)) (hok : okSN own idx y cy my ry 2) (hroom : rmy.frames + 1 ≤ rm.frames ∧ 8 + (my + 11) + rmy.locals ≤ rm.locals) (hz : rmy.cells = 0 ∧ rmy.slots = 0) (hcs : cs ≤ rm.cells ∧ ss ≤ rm.slots) (hW : (rest.map fun v => v.category).sum ≤ 8) (hd : decode cc pc = .ok (.invokestatic idx, 3)) (kk : WW g x nL cs ss n w0 (pc + 3) L (v0 :: rest)) : WW g x nL cs ss n w pc L (b2 :: b1 :: rest) :=
  ww_callSN C (as := [b1, b2]) (rest := rest) hM hok hroom (by rw [hz.1, hz.2]; exact hcs) rfl rfl hW hd (fun r w' h => by obtain ⟨h1, h2⟩ := h; subst h1; subst h2; rw [hz.1, hz.2]; exact kk)
theorem ww_cSN20 (C : Ck g x cc nL own rt rm n' Post) {y : MethodName} {cy : ByteArray} {my : Nat} {ry : Option FieldType} {rmy : Room} {idx : Nat} {w0 : Wd} {rest : List Value} {b1 b2 : Value} (hM : CT g y cy my ry rmy n n w [b1, b2] (R0 w0)) (hok : okSN own idx y cy my ry 2) (hroom : rmy.frames + 1 ≤ rm.frames ∧ 8 + (my + 11) + rmy.locals ≤ rm.locals) (hz : rmy.cells = 0 ∧ rmy.slots = 0) (hcs : cs ≤ rm.cells ∧ ss ≤ rm.slots) (hW : (rest.map fun v => v.category).sum ≤ 8) (hd : decode cc pc = .ok (.invokestatic idx, 3)) (kk : WW g x nL cs ss n w0 (pc + 3) L rest) : WW g x nL cs ss n w pc L (b2 :: b1 :: rest) :=
  ww_callSN C (as := [b1, b2]) (rest := rest) hM hok hroom (by rw [hz.1, hz.2]; exact hcs) rfl rfl hW hd (fun r w' h => by obtain ⟨h1, h2⟩ := h; subst h1; subst h2; rw [hz.1, hz.2]; exact kk)
theorem ww_cSN3v (C : Ck g x cc nL own rt rm n' Post) {y : MethodName} {cy : ByteArray} {my : Nat} {ry : Option FieldType} {rmy : Room} {idx : Nat} {v0 : Value} {w0 : Wd} {rest : List Value} {b1 b2 b3 : Value} (hM : CT g y cy my ry rmy n n w [b1, b2, b3] (Rv v0 w0)) (hok : okSN own idx y cy my ry 3) (hroom : rmy.frames + 1 ≤ rm.frames ∧ 8 + (my + 11) + rmy.locals ≤ rm.locals) (hz : rmy.cells = 0 ∧ rmy.slots = 0) (hcs : cs ≤ rm.cells ∧ ss ≤ rm.slots) (hW : (rest.map fun v => v.category).sum ≤ 8) (hd : decode cc pc = .ok (.invokestatic idx, 3)) (kk : WW g x nL cs ss n w0 (pc + 3) L (v0 :: rest)) : WW g x nL cs ss n w pc L (b3 :: b2 :: b1 :: rest) :=
  ww_callSN C (as := [b1, b2, b3]) (rest := rest) hM hok hroom (by rw [hz.1, hz.2]; exact hcs) rfl rfl hW hd (fun r w' h => by obtain ⟨h1, h2⟩ := h; subst h1; subst h2; rw [hz.1, hz.2]; exact kk)
theorem ww_cSN30 (C : Ck g x cc nL own rt rm n' Post) {y : MethodName} {cy : ByteArray} {my : Nat} {ry : Option FieldType} {rmy : Room} {idx : Nat} {w0 : Wd} {rest : List Value} {b1 b2 b3 : Value} (hM : CT g y cy my ry rmy n n w [b1, b2, b3] (R0 w0)) (hok : okSN own idx y cy my ry 3) (hroom : rmy.frames + 1 ≤ rm.frames ∧ 8 + (my + 11) + rmy.locals ≤ rm.locals) (hz : rmy.cells = 0 ∧ rmy.slots = 0) (hcs : cs ≤ rm.cells ∧ ss ≤ rm.slots) (hW : (rest.map fun v => v.category).sum ≤ 8) (hd : decode cc pc = .ok (.invokestatic idx, 3)) (kk : WW g x nL cs ss n w0 (pc + 3) L rest) : WW g x nL cs ss n w pc L (b3 :: b2 :: b1 :: rest) :=
  ww_callSN C (as := [b1, b2, b3]) (rest := rest) hM hok hroom (by rw [hz.1, hz.2]; exact hcs) rfl rfl hW hd (fun r w' h => by obtain ⟨h1, h2⟩ := h; subst h1; subst h2; rw [hz.1, hz.2]; exact kk)
end CALLS
end
section
theorem fa_and (a b : Nat) : nI a &&& nI b = nI (a &&& b) := by
  apply Int32.toBitVec_inj.1
  show BitVec.ofNat 32 a &&& BitVec.ofNat 32 b = BitVec.ofNat 32 (a &&& b)
  apply BitVec.eq_of_getLsbD_eq
  intro i hi
  simp [hi]
theorem fa_or (a b : Nat) : nI a ||| nI b = nI (a ||| b) := by
  apply Int32.toBitVec_inj.1
  show BitVec.ofNat 32 a ||| BitVec.ofNat 32 b = BitVec.ofNat 32 (a ||| b)
  apply BitVec.eq_of_getLsbD_eq
  intro i hi
  simp [hi]
theorem fb_xorI (a b : Nat) : nI a ^^^ nI b = nI (a ^^^ b) := by
  apply Int32.toBitVec_inj.1
  show BitVec.ofNat 32 a ^^^ BitVec.ofNat 32 b = BitVec.ofNat 32 (a ^^^ b)
  apply BitVec.eq_of_getLsbD_eq
  intro i hi
  simp [hi]
theorem fb_bit_nat (n j : Nat) : n &&& 2 ^ j = 0 ↔ n.testBit j = false := by
  constructor
  · intro h
    have h1 : (n &&& 2 ^ j).testBit j = false := by rw [h]; simp
    rw [Nat.testBit_and] at h1
    simpa using h1
  · intro h
    apply Nat.eq_of_testBit_eq
    intro i
    rw [Nat.testBit_and]
    by_cases hi : j = i
    · subst hi; simp [h]
    · first | (simp [Nat.testBit_two_pow, hi]; done) | (simp [Nat.testBit_two_pow_of_ne hi]; done)
theorem fb_bit_set (n j i : Nat) : (n ||| 2 ^ j).testBit i = (n.testBit i || decide (i = j)) := by
  rw [Nat.testBit_or]
  by_cases h : j = i
  · subst h; simp
  · have h2 : ¬ i = j := fun e => h e.symm
    first | (simp [Nat.testBit_two_pow, h, h2]; done) | (simp [Nat.testBit_two_pow_of_ne h, h2]; done)
theorem fb_bit_flip (n j i : Nat) : (n ^^^ 2 ^ j).testBit i = (n.testBit i ^^ decide (i = j)) := by
  rw [Nat.testBit_xor]
  by_cases h : j = i
  · subst h; simp
  · have h2 : ¬ i = j := fun e => h e.symm
    first | (simp [Nat.testBit_two_pow, h, h2]; done) | (simp [Nat.testBit_two_pow_of_ne h, h2]; done)
abbrev ai (m : Nat) (K : Nat → Nat) : Ce := ar 0 m (fun j => nI (K j))
abbrev az (m : Nat) (Z : Nat → Nat) : Ce := ar 1 m (fun j => nI (Z j))
def bz (b : Bool) : Int32 := if b then 1 else 0
theorem bz_t : bz true = 1 := rfl
theorem bz_f : bz false = 0 := rfl
theorem bz0 {b : Bool} : bz b = 0 ↔ b = false := by cases b <;> decide
theorem bz_nar (b : Bool) : narrow .boolean (.int (bz b)) = .int (bz b) := by cases b <;> rfl
theorem vi_N {i m : Nat} (h : i < m) (hm : m ≤ 100000) : vp_in (nI i) m := vp_in_nI h (by omega)
theorem cl_N {i m : Nat} (h : i < m) (hm : m ≤ 100000) : (nI i).toNatClampNeg = i := nI_clamp (by omega)
theorem upd_N (K : Nat → Nat) (i z : Nat) : upd (fun j => nI (K j)) i (nI z) = fun j => nI (va_up K i z j) := by
  funext j
  by_cases h : j = i <;> simp [upd, va_up, h]
theorem nar_z {z : Nat} (h : z ≤ 1) : vp_nar .boolean (nI z) = nI z := by
  rcases (show z = 0 ∨ z = 1 by omega) with rfl | rfl <;> decide
theorem shl1 {i : Nat} (h : i ≤ 30) : (nI 1) <<< ((nI i) &&& 31) = nI (2 ^ i) := by
  have : ∀ i, i ≤ 30 → (nI 1) <<< ((nI i) &&& 31) = nI (2 ^ i) := by decide
  exact this i h
theorem shrN {a i : Nat} (ha : a < 2147483648) (h : i ≤ 31) : (nI a) >>> ((nI i) &&& 31) = nI (a / 2 ^ i) := by
  have : ∀ i, i ≤ 31 → ((nI i &&& 31).toBitVec.smod 32).toNat = i := by decide
  exact pk_shrN ha _ i (this i h)
section NROWS
variable {g : Gx} {x : Cx} {cc : ByteArray} {nL : Nat} {own : String} {rt : Option FieldType} {rm : Room} {n' : Nat} {Post : Option Value → Wd → Prop} {cs ss n : Nat} {w : Wd} {pc : Nat} {L : List (Option Value)} {st : List Value}
theorem ww_iaddN (C : Ck g x cc nL own rt rm n' Post) {a b : Nat} (hd : decode cc pc = .ok (.iadd, 1)) (k : WW g x nL cs ss n w (pc + 1) L (.int (nI (a + b)) :: st)) : WW g x nL cs ss n w (pc) L (.int (nI b) :: .int (nI a) :: st) := ww_iadd C hd (by rw [nI_add]; exact k)
theorem ww_isubN (C : Ck g x cc nL own rt rm n' Post) {a b : Nat} (h : b ≤ a) (hd : decode cc pc = .ok (.isub, 1)) (k : WW g x nL cs ss n w (pc + 1) L (.int (nI (a - b)) :: st)) : WW g x nL cs ss n w (pc) L (.int (nI b) :: .int (nI a) :: st) := ww_isub C hd (by rw [pk_sub h]; exact k)
theorem ww_imulN (C : Ck g x cc nL own rt rm n' Post) {a b : Nat} (hd : decode cc pc = .ok (.imul, 1)) (k : WW g x nL cs ss n w (pc + 1) L (.int (nI (a * b)) :: st)) : WW g x nL cs ss n w (pc) L (.int (nI b) :: .int (nI a) :: st) := ww_imul C hd (by rw [pk_mul]; exact k)
theorem ww_idivN (C : Ck g x cc nL own rt rm n' Post) {a b : Nat} (h : 0 < b ∧ a < 2147483648 ∧ b < 2147483648) (hd : decode cc pc = .ok (.idiv, 1)) (k : WW g x nL cs ss n w (pc + 1) L (.int (nI (a / b)) :: st)) : WW g x nL cs ss n w (pc) L (.int (nI b) :: .int (nI a) :: st) := ww_idiv C hd (nI_ne0 h.1 h.2.2) (by rw [pk_div h.2.1 h.1 h.2.2]; exact k)
theorem ww_iremN (C : Ck g x cc nL own rt rm n' Post) {a b : Nat} (h : 0 < b ∧ a < 2147483648 ∧ b < 2147483648) (hd : decode cc pc = .ok (.irem, 1)) (k : WW g x nL cs ss n w (pc + 1) L (.int (nI (a % b)) :: st)) : WW g x nL cs ss n w (pc) L (.int (nI b) :: .int (nI a) :: st) := ww_irem C hd (nI_ne0 h.1 h.2.2) (by rw [pk_rem h.2.1 h.1 h.2.2]; exact k)
theorem ww_iandN (C : Ck g x cc nL own rt rm n' Post) {a b : Nat} (hd : decode cc pc = .ok (.iand, 1)) (k : WW g x nL cs ss n w (pc + 1) L (.int (nI (a &&& b)) :: st)) : WW g x nL cs ss n w (pc) L (.int (nI b) :: .int (nI a) :: st) := ww_iand C hd (by rw [fa_and]; exact k)
theorem ww_iorN (C : Ck g x cc nL own rt rm n' Post) {a b : Nat} (hd : decode cc pc = .ok (.ior, 1)) (k : WW g x nL cs ss n w (pc + 1) L (.int (nI (a ||| b)) :: st)) : WW g x nL cs ss n w (pc) L (.int (nI b) :: .int (nI a) :: st) := ww_ior C hd (by rw [fa_or]; exact k)
theorem ww_ixorN (C : Ck g x cc nL own rt rm n' Post) {a b : Nat} (hd : decode cc pc = .ok (.ixor, 1)) (k : WW g x nL cs ss n w (pc + 1) L (.int (nI (a ^^^ b)) :: st)) : WW g x nL cs ss n w (pc) L (.int (nI b) :: .int (nI a) :: st) := ww_ixor C hd (by rw [fb_xorI]; exact k)
theorem ww_shl1N (C : Ck g x cc nL own rt rm n' Post) {a : Nat} (h : a ≤ 30) (hd : decode cc pc = .ok (.ishl, 1)) (k : WW g x nL cs ss n w (pc + 1) L (.int (nI (2 ^ a)) :: st)) : WW g x nL cs ss n w (pc) L (.int (nI a) :: .int (nI 1) :: st) := ww_ishl C hd (by rw [shl1 h]; exact k)
theorem ww_ishrN (C : Ck g x cc nL own rt rm n' Post) {a b : Nat} (h : a < 2147483648 ∧ b ≤ 31) (hd : decode cc pc = .ok (.ishr, 1)) (k : WW g x nL cs ss n w (pc + 1) L (.int (nI (a / 2 ^ b)) :: st)) : WW g x nL cs ss n w (pc) L (.int (nI b) :: .int (nI a) :: st) := ww_ishr C hd (by rw [shrN h.1 h.2]; exact k)
theorem ww_iincN0 (C : Ck g x cc nL own rt rm n' Post)  {v : Nat} {t : List (Option Value)} (hd : decode cc pc = .ok (.iinc 0 1, 3)) (hn : 0 < nL) (k : WW g x nL cs ss n w (pc + 3) (some (.int (nI (v + 1))) :: t) st) : WW g x nL cs ss n w (pc) (some (.int (nI v)) :: t) st := ww_iinc0 C (u := nI (v + 1)) hd (by rw [show Int32.ofInt 1 = nI 1 by decide, nI_add]) hn k
theorem ww_iincN_5_0 (C : Ck g x cc nL own rt rm n' Post)  {v : Nat} {t : List (Option Value)} (hd : decode cc pc = .ok (.iinc 0 5, 3)) (hn : 0 < nL) (k : WW g x nL cs ss n w (pc + 3) (some (.int (nI (v + 5))) :: t) st) : WW g x nL cs ss n w (pc) (some (.int (nI v)) :: t) st := ww_iinc0 C (u := nI (v + 5)) hd (by rw [show Int32.ofInt 5 = nI 5 by decide, nI_add]) hn k
theorem ww_iincN1 (C : Ck g x cc nL own rt rm n' Post) {a0 : Option Value} {v : Nat} {t : List (Option Value)} (hd : decode cc pc = .ok (.iinc 1 1, 3)) (hn : 1 < nL) (hp : nl a0 = true) (k : WW g x nL cs ss n w (pc + 3) (a0 :: some (.int (nI (v + 1))) :: t) st) : WW g x nL cs ss n w (pc) (a0 :: some (.int (nI v)) :: t) st := ww_iinc1 C (u := nI (v + 1)) hd (by rw [show Int32.ofInt 1 = nI 1 by decide, nI_add]) hn hp k
theorem ww_iincN_5_1 (C : Ck g x cc nL own rt rm n' Post) {a0 : Option Value} {v : Nat} {t : List (Option Value)} (hd : decode cc pc = .ok (.iinc 1 5, 3)) (hn : 1 < nL) (hp : nl a0 = true) (k : WW g x nL cs ss n w (pc + 3) (a0 :: some (.int (nI (v + 5))) :: t) st) : WW g x nL cs ss n w (pc) (a0 :: some (.int (nI v)) :: t) st := ww_iinc1 C (u := nI (v + 5)) hd (by rw [show Int32.ofInt 5 = nI 5 by decide, nI_add]) hn hp k
theorem ww_iincN2 (C : Ck g x cc nL own rt rm n' Post) {a0 : Option Value} {a1 : Option Value} {v : Nat} {t : List (Option Value)} (hd : decode cc pc = .ok (.iinc 2 1, 3)) (hn : 2 < nL) (hp : nl a1 = true) (k : WW g x nL cs ss n w (pc + 3) (a0 :: a1 :: some (.int (nI (v + 1))) :: t) st) : WW g x nL cs ss n w (pc) (a0 :: a1 :: some (.int (nI v)) :: t) st := ww_iinc2 C (u := nI (v + 1)) hd (by rw [show Int32.ofInt 1 = nI 1 by decide, nI_add]) hn hp k
theorem ww_iincN_5_2 (C : Ck g x cc nL own rt rm n' Post) {a0 : Option Value} {a1 : Option Value} {v : Nat} {t : List (Option Value)} (hd : decode cc pc = .ok (.iinc 2 5, 3)) (hn : 2 < nL) (hp : nl a1 = true) (k : WW g x nL cs ss n w (pc + 3) (a0 :: a1 :: some (.int (nI (v + 5))) :: t) st) : WW g x nL cs ss n w (pc) (a0 :: a1 :: some (.int (nI v)) :: t) st := ww_iinc2 C (u := nI (v + 5)) hd (by rw [show Int32.ofInt 5 = nI 5 by decide, nI_add]) hn hp k
theorem ww_iincN3 (C : Ck g x cc nL own rt rm n' Post) {a0 : Option Value} {a1 : Option Value} {a2 : Option Value} {v : Nat} {t : List (Option Value)} (hd : decode cc pc = .ok (.iinc 3 1, 3)) (hn : 3 < nL) (hp : nl a2 = true) (k : WW g x nL cs ss n w (pc + 3) (a0 :: a1 :: a2 :: some (.int (nI (v + 1))) :: t) st) : WW g x nL cs ss n w (pc) (a0 :: a1 :: a2 :: some (.int (nI v)) :: t) st := ww_iinc3 C (u := nI (v + 1)) hd (by rw [show Int32.ofInt 1 = nI 1 by decide, nI_add]) hn hp k
theorem ww_iincN_5_3 (C : Ck g x cc nL own rt rm n' Post) {a0 : Option Value} {a1 : Option Value} {a2 : Option Value} {v : Nat} {t : List (Option Value)} (hd : decode cc pc = .ok (.iinc 3 5, 3)) (hn : 3 < nL) (hp : nl a2 = true) (k : WW g x nL cs ss n w (pc + 3) (a0 :: a1 :: a2 :: some (.int (nI (v + 5))) :: t) st) : WW g x nL cs ss n w (pc) (a0 :: a1 :: a2 :: some (.int (nI v)) :: t) st := ww_iinc3 C (u := nI (v + 5)) hd (by rw [show Int32.ofInt 5 = nI 5 by decide, nI_add]) hn hp k
theorem ww_iincN4 (C : Ck g x cc nL own rt rm n' Post) {a0 : Option Value} {a1 : Option Value} {a2 : Option Value} {a3 : Option Value} {v : Nat} {t : List (Option Value)} (hd : decode cc pc = .ok (.iinc 4 1, 3)) (hn : 4 < nL) (hp : nl a3 = true) (k : WW g x nL cs ss n w (pc + 3) (a0 :: a1 :: a2 :: a3 :: some (.int (nI (v + 1))) :: t) st) : WW g x nL cs ss n w (pc) (a0 :: a1 :: a2 :: a3 :: some (.int (nI v)) :: t) st := ww_iinc4 C (u := nI (v + 1)) hd (by rw [show Int32.ofInt 1 = nI 1 by decide, nI_add]) hn hp k
theorem ww_iincN_5_4 (C : Ck g x cc nL own rt rm n' Post) {a0 : Option Value} {a1 : Option Value} {a2 : Option Value} {a3 : Option Value} {v : Nat} {t : List (Option Value)} (hd : decode cc pc = .ok (.iinc 4 5, 3)) (hn : 4 < nL) (hp : nl a3 = true) (k : WW g x nL cs ss n w (pc + 3) (a0 :: a1 :: a2 :: a3 :: some (.int (nI (v + 5))) :: t) st) : WW g x nL cs ss n w (pc) (a0 :: a1 :: a2 :: a3 :: some (.int (nI v)) :: t) st := ww_iinc4 C (u := nI (v + 5)) hd (by rw [show Int32.ofInt 5 = nI 5 by decide, nI_add]) hn hp k
theorem ww_iincN5 (C : Ck g x cc nL own rt rm n' Post) {a0 : Option Value} {a1 : Option Value} {a2 : Option Value} {a3 : Option Value} {a4 : Option Value} {v : Nat} {t : List (Option Value)} (hd : decode cc pc = .ok (.iinc 5 1, 3)) (hn : 5 < nL) (hp : nl a4 = true) (k : WW g x nL cs ss n w (pc + 3) (a0 :: a1 :: a2 :: a3 :: a4 :: some (.int (nI (v + 1))) :: t) st) : WW g x nL cs ss n w (pc) (a0 :: a1 :: a2 :: a3 :: a4 :: some (.int (nI v)) :: t) st := ww_iinc5 C (u := nI (v + 1)) hd (by rw [show Int32.ofInt 1 = nI 1 by decide, nI_add]) hn hp k
theorem ww_iincN_5_5 (C : Ck g x cc nL own rt rm n' Post) {a0 : Option Value} {a1 : Option Value} {a2 : Option Value} {a3 : Option Value} {a4 : Option Value} {v : Nat} {t : List (Option Value)} (hd : decode cc pc = .ok (.iinc 5 5, 3)) (hn : 5 < nL) (hp : nl a4 = true) (k : WW g x nL cs ss n w (pc + 3) (a0 :: a1 :: a2 :: a3 :: a4 :: some (.int (nI (v + 5))) :: t) st) : WW g x nL cs ss n w (pc) (a0 :: a1 :: a2 :: a3 :: a4 :: some (.int (nI v)) :: t) st := ww_iinc5 C (u := nI (v + 5)) hd (by rw [show Int32.ofInt 5 = nI 5 by decide, nI_add]) hn hp k
theorem ww_iincN6 (C : Ck g x cc nL own rt rm n' Post) {a0 : Option Value} {a1 : Option Value} {a2 : Option Value} {a3 : Option Value} {a4 : Option Value} {a5 : Option Value} {v : Nat} {t : List (Option Value)} (hd : decode cc pc = .ok (.iinc 6 1, 3)) (hn : 6 < nL) (hp : nl a5 = true) (k : WW g x nL cs ss n w (pc + 3) (a0 :: a1 :: a2 :: a3 :: a4 :: a5 :: some (.int (nI (v + 1))) :: t) st) : WW g x nL cs ss n w (pc) (a0 :: a1 :: a2 :: a3 :: a4 :: a5 :: some (.int (nI v)) :: t) st := ww_iinc6 C (u := nI (v + 1)) hd (by rw [show Int32.ofInt 1 = nI 1 by decide, nI_add]) hn hp k
theorem ww_iincN_5_6 (C : Ck g x cc nL own rt rm n' Post) {a0 : Option Value} {a1 : Option Value} {a2 : Option Value} {a3 : Option Value} {a4 : Option Value} {a5 : Option Value} {v : Nat} {t : List (Option Value)} (hd : decode cc pc = .ok (.iinc 6 5, 3)) (hn : 6 < nL) (hp : nl a5 = true) (k : WW g x nL cs ss n w (pc + 3) (a0 :: a1 :: a2 :: a3 :: a4 :: a5 :: some (.int (nI (v + 5))) :: t) st) : WW g x nL cs ss n w (pc) (a0 :: a1 :: a2 :: a3 :: a4 :: a5 :: some (.int (nI v)) :: t) st := ww_iinc6 C (u := nI (v + 5)) hd (by rw [show Int32.ofInt 5 = nI 5 by decide, nI_add]) hn hp k
theorem ww_iincN7 (C : Ck g x cc nL own rt rm n' Post) {a0 : Option Value} {a1 : Option Value} {a2 : Option Value} {a3 : Option Value} {a4 : Option Value} {a5 : Option Value} {a6 : Option Value} {v : Nat} {t : List (Option Value)} (hd : decode cc pc = .ok (.iinc 7 1, 3)) (hn : 7 < nL) (hp : nl a6 = true) (k : WW g x nL cs ss n w (pc + 3) (a0 :: a1 :: a2 :: a3 :: a4 :: a5 :: a6 :: some (.int (nI (v + 1))) :: t) st) : WW g x nL cs ss n w (pc) (a0 :: a1 :: a2 :: a3 :: a4 :: a5 :: a6 :: some (.int (nI v)) :: t) st := ww_iinc7 C (u := nI (v + 1)) hd (by rw [show Int32.ofInt 1 = nI 1 by decide, nI_add]) hn hp k
theorem ww_iincN_5_7 (C : Ck g x cc nL own rt rm n' Post) {a0 : Option Value} {a1 : Option Value} {a2 : Option Value} {a3 : Option Value} {a4 : Option Value} {a5 : Option Value} {a6 : Option Value} {v : Nat} {t : List (Option Value)} (hd : decode cc pc = .ok (.iinc 7 5, 3)) (hn : 7 < nL) (hp : nl a6 = true) (k : WW g x nL cs ss n w (pc + 3) (a0 :: a1 :: a2 :: a3 :: a4 :: a5 :: a6 :: some (.int (nI (v + 5))) :: t) st) : WW g x nL cs ss n w (pc) (a0 :: a1 :: a2 :: a3 :: a4 :: a5 :: a6 :: some (.int (nI v)) :: t) st := ww_iinc7 C (u := nI (v + 5)) hd (by rw [show Int32.ofInt 5 = nI 5 by decide, nI_add]) hn hp k
theorem ww_iincN8 (C : Ck g x cc nL own rt rm n' Post) {a0 : Option Value} {a1 : Option Value} {a2 : Option Value} {a3 : Option Value} {a4 : Option Value} {a5 : Option Value} {a6 : Option Value} {a7 : Option Value} {v : Nat} {t : List (Option Value)} (hd : decode cc pc = .ok (.iinc 8 1, 3)) (hn : 8 < nL) (hp : nl a7 = true) (k : WW g x nL cs ss n w (pc + 3) (a0 :: a1 :: a2 :: a3 :: a4 :: a5 :: a6 :: a7 :: some (.int (nI (v + 1))) :: t) st) : WW g x nL cs ss n w (pc) (a0 :: a1 :: a2 :: a3 :: a4 :: a5 :: a6 :: a7 :: some (.int (nI v)) :: t) st := ww_iinc8 C (u := nI (v + 1)) hd (by rw [show Int32.ofInt 1 = nI 1 by decide, nI_add]) hn hp k
theorem ww_iincN_5_8 (C : Ck g x cc nL own rt rm n' Post) {a0 : Option Value} {a1 : Option Value} {a2 : Option Value} {a3 : Option Value} {a4 : Option Value} {a5 : Option Value} {a6 : Option Value} {a7 : Option Value} {v : Nat} {t : List (Option Value)} (hd : decode cc pc = .ok (.iinc 8 5, 3)) (hn : 8 < nL) (hp : nl a7 = true) (k : WW g x nL cs ss n w (pc + 3) (a0 :: a1 :: a2 :: a3 :: a4 :: a5 :: a6 :: a7 :: some (.int (nI (v + 5))) :: t) st) : WW g x nL cs ss n w (pc) (a0 :: a1 :: a2 :: a3 :: a4 :: a5 :: a6 :: a7 :: some (.int (nI v)) :: t) st := ww_iinc8 C (u := nI (v + 5)) hd (by rw [show Int32.ofInt 5 = nI 5 by decide, nI_add]) hn hp k
theorem ww_iincN9 (C : Ck g x cc nL own rt rm n' Post) {a0 : Option Value} {a1 : Option Value} {a2 : Option Value} {a3 : Option Value} {a4 : Option Value} {a5 : Option Value} {a6 : Option Value} {a7 : Option Value} {a8 : Option Value} {v : Nat} {t : List (Option Value)} (hd : decode cc pc = .ok (.iinc 9 1, 3)) (hn : 9 < nL) (hp : nl a8 = true) (k : WW g x nL cs ss n w (pc + 3) (a0 :: a1 :: a2 :: a3 :: a4 :: a5 :: a6 :: a7 :: a8 :: some (.int (nI (v + 1))) :: t) st) : WW g x nL cs ss n w (pc) (a0 :: a1 :: a2 :: a3 :: a4 :: a5 :: a6 :: a7 :: a8 :: some (.int (nI v)) :: t) st := ww_iinc9 C (u := nI (v + 1)) hd (by rw [show Int32.ofInt 1 = nI 1 by decide, nI_add]) hn hp k
theorem ww_iincN_5_9 (C : Ck g x cc nL own rt rm n' Post) {a0 : Option Value} {a1 : Option Value} {a2 : Option Value} {a3 : Option Value} {a4 : Option Value} {a5 : Option Value} {a6 : Option Value} {a7 : Option Value} {a8 : Option Value} {v : Nat} {t : List (Option Value)} (hd : decode cc pc = .ok (.iinc 9 5, 3)) (hn : 9 < nL) (hp : nl a8 = true) (k : WW g x nL cs ss n w (pc + 3) (a0 :: a1 :: a2 :: a3 :: a4 :: a5 :: a6 :: a7 :: a8 :: some (.int (nI (v + 5))) :: t) st) : WW g x nL cs ss n w (pc) (a0 :: a1 :: a2 :: a3 :: a4 :: a5 :: a6 :: a7 :: a8 :: some (.int (nI v)) :: t) st := ww_iinc9 C (u := nI (v + 5)) hd (by rw [show Int32.ofInt 5 = nI 5 by decide, nI_add]) hn hp k
theorem ww_iincN10 (C : Ck g x cc nL own rt rm n' Post) {a0 : Option Value} {a1 : Option Value} {a2 : Option Value} {a3 : Option Value} {a4 : Option Value} {a5 : Option Value} {a6 : Option Value} {a7 : Option Value} {a8 : Option Value} {a9 : Option Value} {v : Nat} {t : List (Option Value)} (hd : decode cc pc = .ok (.iinc 10 1, 3)) (hn : 10 < nL) (hp : nl a9 = true) (k : WW g x nL cs ss n w (pc + 3) (a0 :: a1 :: a2 :: a3 :: a4 :: a5 :: a6 :: a7 :: a8 :: a9 :: some (.int (nI (v + 1))) :: t) st) : WW g x nL cs ss n w (pc) (a0 :: a1 :: a2 :: a3 :: a4 :: a5 :: a6 :: a7 :: a8 :: a9 :: some (.int (nI v)) :: t) st := ww_iinc10 C (u := nI (v + 1)) hd (by rw [show Int32.ofInt 1 = nI 1 by decide, nI_add]) hn hp k
theorem ww_iincN_5_10 (C : Ck g x cc nL own rt rm n' Post) {a0 : Option Value} {a1 : Option Value} {a2 : Option Value} {a3 : Option Value} {a4 : Option Value} {a5 : Option Value} {a6 : Option Value} {a7 : Option Value} {a8 : Option Value} {a9 : Option Value} {v : Nat} {t : List (Option Value)} (hd : decode cc pc = .ok (.iinc 10 5, 3)) (hn : 10 < nL) (hp : nl a9 = true) (k : WW g x nL cs ss n w (pc + 3) (a0 :: a1 :: a2 :: a3 :: a4 :: a5 :: a6 :: a7 :: a8 :: a9 :: some (.int (nI (v + 5))) :: t) st) : WW g x nL cs ss n w (pc) (a0 :: a1 :: a2 :: a3 :: a4 :: a5 :: a6 :: a7 :: a8 :: a9 :: some (.int (nI v)) :: t) st := ww_iinc10 C (u := nI (v + 5)) hd (by rw [show Int32.ofInt 5 = nI 5 by decide, nI_add]) hn hp k
theorem ww_iincN11 (C : Ck g x cc nL own rt rm n' Post) {a0 : Option Value} {a1 : Option Value} {a2 : Option Value} {a3 : Option Value} {a4 : Option Value} {a5 : Option Value} {a6 : Option Value} {a7 : Option Value} {a8 : Option Value} {a9 : Option Value} {a10 : Option Value} {v : Nat} {t : List (Option Value)} (hd : decode cc pc = .ok (.iinc 11 1, 3)) (hn : 11 < nL) (hp : nl a10 = true) (k : WW g x nL cs ss n w (pc + 3) (a0 :: a1 :: a2 :: a3 :: a4 :: a5 :: a6 :: a7 :: a8 :: a9 :: a10 :: some (.int (nI (v + 1))) :: t) st) : WW g x nL cs ss n w (pc) (a0 :: a1 :: a2 :: a3 :: a4 :: a5 :: a6 :: a7 :: a8 :: a9 :: a10 :: some (.int (nI v)) :: t) st := ww_iinc11 C (u := nI (v + 1)) hd (by rw [show Int32.ofInt 1 = nI 1 by decide, nI_add]) hn hp k
theorem ww_iincN_5_11 (C : Ck g x cc nL own rt rm n' Post) {a0 : Option Value} {a1 : Option Value} {a2 : Option Value} {a3 : Option Value} {a4 : Option Value} {a5 : Option Value} {a6 : Option Value} {a7 : Option Value} {a8 : Option Value} {a9 : Option Value} {a10 : Option Value} {v : Nat} {t : List (Option Value)} (hd : decode cc pc = .ok (.iinc 11 5, 3)) (hn : 11 < nL) (hp : nl a10 = true) (k : WW g x nL cs ss n w (pc + 3) (a0 :: a1 :: a2 :: a3 :: a4 :: a5 :: a6 :: a7 :: a8 :: a9 :: a10 :: some (.int (nI (v + 5))) :: t) st) : WW g x nL cs ss n w (pc) (a0 :: a1 :: a2 :: a3 :: a4 :: a5 :: a6 :: a7 :: a8 :: a9 :: a10 :: some (.int (nI v)) :: t) st := ww_iinc11 C (u := nI (v + 5)) hd (by rw [show Int32.ofInt 5 = nI 5 by decide, nI_add]) hn hp k
theorem ww_icmpeqN (C : Ck g x cc nL own rt rm n' Post) {a b : Nat} {off : Int} {tgt : Nat} (hab : a < 2147483648 ∧ b < 2147483648) (hd : decode cc pc = .ok (.if_icmp .eq off, 3)) (ht : (pc : Int) + off = (tgt : Int)) (kt : a = b → WW g x nL cs ss n w (tgt) L st) (kf : ¬ a = b → WW g x nL cs ss n w (pc + 3) L st) : WW g x nL cs ss n w (pc) L (.int (nI b) :: .int (nI a) :: st) := ww_icmpeq C hd ht (fun h => kt ((nI_eq hab.1 hab.2).mp h)) (fun h => kf (fun e => h ((nI_eq hab.1 hab.2).mpr e)))
theorem ww_icmpneN (C : Ck g x cc nL own rt rm n' Post) {a b : Nat} {off : Int} {tgt : Nat} (hab : a < 2147483648 ∧ b < 2147483648) (hd : decode cc pc = .ok (.if_icmp .ne off, 3)) (ht : (pc : Int) + off = (tgt : Int)) (kt : ¬ a = b → WW g x nL cs ss n w (tgt) L st) (kf : a = b → WW g x nL cs ss n w (pc + 3) L st) : WW g x nL cs ss n w (pc) L (.int (nI b) :: .int (nI a) :: st) := ww_icmpne C hd ht (fun h => kt (fun e => h ((nI_eq hab.1 hab.2).mpr e))) (fun h => kf ((nI_eq hab.1 hab.2).mp h))
theorem ww_icmpltN (C : Ck g x cc nL own rt rm n' Post) {a b : Nat} {off : Int} {tgt : Nat} (hab : a < 2147483648 ∧ b < 2147483648) (hd : decode cc pc = .ok (.if_icmp .lt off, 3)) (ht : (pc : Int) + off = (tgt : Int)) (kt : a < b → WW g x nL cs ss n w (tgt) L st) (kf : b ≤ a → WW g x nL cs ss n w (pc + 3) L st) : WW g x nL cs ss n w (pc) L (.int (nI b) :: .int (nI a) :: st) := ww_icmplt C hd ht (fun h => kt ((nI_ltI hab.1 hab.2).mp h)) (fun h => kf (Nat.not_lt.mp (fun e => h ((nI_ltI hab.1 hab.2).mpr e))))
theorem ww_icmpgeN (C : Ck g x cc nL own rt rm n' Post) {a b : Nat} {off : Int} {tgt : Nat} (hab : a < 2147483648 ∧ b < 2147483648) (hd : decode cc pc = .ok (.if_icmp .ge off, 3)) (ht : (pc : Int) + off = (tgt : Int)) (kt : b ≤ a → WW g x nL cs ss n w (tgt) L st) (kf : a < b → WW g x nL cs ss n w (pc + 3) L st) : WW g x nL cs ss n w (pc) L (.int (nI b) :: .int (nI a) :: st) := ww_icmpge C hd ht (fun h => kt ((nI_leI hab.2 hab.1).mp h)) (fun h => kf (Nat.not_le.mp (fun e => h ((nI_leI hab.2 hab.1).mpr e))))
theorem ww_icmpgtN (C : Ck g x cc nL own rt rm n' Post) {a b : Nat} {off : Int} {tgt : Nat} (hab : a < 2147483648 ∧ b < 2147483648) (hd : decode cc pc = .ok (.if_icmp .gt off, 3)) (ht : (pc : Int) + off = (tgt : Int)) (kt : b < a → WW g x nL cs ss n w (tgt) L st) (kf : a ≤ b → WW g x nL cs ss n w (pc + 3) L st) : WW g x nL cs ss n w (pc) L (.int (nI b) :: .int (nI a) :: st) := ww_icmpgt C hd ht (fun h => kt ((nI_ltI hab.2 hab.1).mp h)) (fun h => kf (Nat.not_lt.mp (fun e => h ((nI_ltI hab.2 hab.1).mpr e))))
theorem ww_icmpleN (C : Ck g x cc nL own rt rm n' Post) {a b : Nat} {off : Int} {tgt : Nat} (hab : a < 2147483648 ∧ b < 2147483648) (hd : decode cc pc = .ok (.if_icmp .le off, 3)) (ht : (pc : Int) + off = (tgt : Int)) (kt : a ≤ b → WW g x nL cs ss n w (tgt) L st) (kf : b < a → WW g x nL cs ss n w (pc + 3) L st) : WW g x nL cs ss n w (pc) L (.int (nI b) :: .int (nI a) :: st) := ww_icmple C hd ht (fun h => kt ((nI_leI hab.1 hab.2).mp h)) (fun h => kf (Nat.not_le.mp (fun e => h ((nI_leI hab.1 hab.2).mpr e))))
theorem ww_ifeqN (C : Ck g x cc nL own rt rm n' Post) {a : Nat} {off : Int} {tgt : Nat} (ha : a < 2147483648) (hd : decode cc pc = .ok (.ifCond .eq off, 3)) (ht : (pc : Int) + off = (tgt : Int)) (kt : a = 0 → WW g x nL cs ss n w (tgt) L st) (kf : ¬ a = 0 → WW g x nL cs ss n w (pc + 3) L st) : WW g x nL cs ss n w (pc) L (.int (nI a) :: st) := ww_ifeq C hd ht (fun h => kt ((nI_eq ha (by decide)).mp h)) (fun h => kf (fun e => h (by rw [e]; rfl)))
theorem ww_ifneN (C : Ck g x cc nL own rt rm n' Post) {a : Nat} {off : Int} {tgt : Nat} (ha : a < 2147483648) (hd : decode cc pc = .ok (.ifCond .ne off, 3)) (ht : (pc : Int) + off = (tgt : Int)) (kt : ¬ a = 0 → WW g x nL cs ss n w (tgt) L st) (kf : a = 0 → WW g x nL cs ss n w (pc + 3) L st) : WW g x nL cs ss n w (pc) L (.int (nI a) :: st) := ww_ifne C hd ht (fun h => kt (fun e => h (by rw [e]; rfl))) (fun h => kf ((nI_eq ha (by decide)).mp h))
theorem ww_ifeqB (C : Ck g x cc nL own rt rm n' Post) {b : Bool} {off : Int} {tgt : Nat} (hd : decode cc pc = .ok (.ifCond .eq off, 3)) (ht : (pc : Int) + off = (tgt : Int)) (kt : b = false → WW g x nL cs ss n w (tgt) L st) (kf : b = true → WW g x nL cs ss n w (pc + 3) L st) : WW g x nL cs ss n w (pc) L (.int (bz b) :: st) := ww_ifeq C hd ht (fun h => kt (bz0.mp h)) (fun h => kf (by cases b <;> simp_all [bz]))
theorem ww_ifneB (C : Ck g x cc nL own rt rm n' Post) {b : Bool} {off : Int} {tgt : Nat} (hd : decode cc pc = .ok (.ifCond .ne off, 3)) (ht : (pc : Int) + off = (tgt : Int)) (kt : b = true → WW g x nL cs ss n w (tgt) L st) (kf : b = false → WW g x nL cs ss n w (pc + 3) L st) : WW g x nL cs ss n w (pc) L (.int (bz b) :: st) := ww_ifne C hd ht (fun h => kt (by cases b <;> simp_all [bz])) (fun h => kf (bz0.mp h))
theorem ww_ialdN (C : Ck g x cc nL own rt rm n' Post) {k m0 i : Nat} {K : Nat → Nat} (hk : w k = ai m0 K) (hi : i < m0) (hd : decode cc pc = .ok (.iaload, 1)) (hm : m0 ≤ 100000 := by decide) (kk : WW g x nL cs ss n w (pc + 1) L (.int (nI (K i)) :: st)) : WW g x nL cs ss n w (pc) L (.int (nI i) :: .ref k :: st) := ww_iald C hk (vi_N hi hm) hd (by rw [cl_N hi hm]; exact kk)
theorem ww_zaldN (C : Ck g x cc nL own rt rm n' Post) {k m0 i : Nat} {K : Nat → Nat} (hk : w k = az m0 K) (hi : i < m0) (hd : decode cc pc = .ok (.baload, 1)) (hm : m0 ≤ 100000 := by decide) (kk : WW g x nL cs ss n w (pc + 1) L (.int (nI (K i)) :: st)) : WW g x nL cs ss n w (pc) L (.int (nI i) :: .ref k :: st) := ww_zald C hk (vi_N hi hm) hd (by rw [cl_N hi hm]; exact kk)
theorem ww_iastN (C : Ck g x cc nL own rt rm n' Post) {k m0 i z : Nat} {K : Nat → Nat} (hk : w k = ai m0 K) (hi : i < m0) (hd : decode cc pc = .ok (.iastore, 1)) (hm : m0 ≤ 100000 := by decide) (kk : ∀ w1, w1 = va_up w k (ai m0 (va_up K i z)) → WW g x nL cs ss n w1 (pc + 1) L st) : WW g x nL cs ss n w (pc) L (.int (nI z) :: .int (nI i) :: .ref k :: st) := ww_iast C hk (vi_N hi hm) hd (by rw [cl_N hi hm, upd_N]; exact kk _ rfl)
theorem ww_zastN (C : Ck g x cc nL own rt rm n' Post) {k m0 i z : Nat} {K : Nat → Nat} (hk : w k = az m0 K) (hi : i < m0) (hz : z ≤ 1) (hd : decode cc pc = .ok (.bastore, 1)) (hm : m0 ≤ 100000 := by decide) (kk : ∀ w1, w1 = va_up w k (az m0 (va_up K i z)) → WW g x nL cs ss n w1 (pc + 1) L st) : WW g x nL cs ss n w (pc) L (.int (nI z) :: .int (nI i) :: .ref k :: st) := ww_zast C hk (vi_N hi hm) hd (by rw [cl_N hi hm, nar_z hz, upd_N]; exact kk _ rfl)
theorem ww_putI (C : Ck g x cc nL own rt rm n' Post) {idx ci j k : Nat} {fs fs2 : List Value} {v : Int32} (F : FL own idx ci j false .int) (hk : w k = ob ci fs) (hl0 : j < fs.length) (hf2 : fs.set j (.int v) = fs2) (hd : decode cc pc = .ok (.putfield idx, 3)) (kk : ∀ w1, w1 = va_up w k (ob ci fs2) → WW g x nL cs ss n w1 (pc + 3) L st) : WW g x nL cs ss n w (pc) L (.int v :: .ref k :: st) := ww_putf C F hk hl0 rfl rfl hd (by rw [hf2]; exact kk _ rfl)
theorem ww_putR (C : Ck g x cc nL own rt rm n' Post) {idx ci j k r : Nat} {C0 : String} {fs fs2 : List Value} (F : FL own idx ci j false (.object C0)) (hk : w k = ob ci fs) (hl0 : j < fs.length) (hf2 : fs.set j (.ref r) = fs2) (hd : decode cc pc = .ok (.putfield idx, 3)) (kk : ∀ w1, w1 = va_up w k (ob ci fs2) → WW g x nL cs ss n w1 (pc + 3) L st) : WW g x nL cs ss n w (pc) L (.ref r :: .ref k :: st) := ww_putf C F hk hl0 rfl rfl hd (by rw [hf2]; exact kk _ rfl)
theorem ww_topi  {a b : Int32} (h : a = b) (k : WW g x nL cs ss n w (pc) L (.int b :: st)) : WW g x nL cs ss n w (pc) L (.int a :: st) := by subst h; exact k
theorem ww_topl  {a b : Int64} (h : a = b) (k : WW g x nL cs ss n w (pc) L (.long b :: st)) : WW g x nL cs ss n w (pc) L (.long a :: st) := by subst h; exact k
theorem ww_ri {v v0 : Int32} {w0 : Wd} (C : Ck g x cc nL own rt rm n (Rv (.int v0) w0)) (hd : decode cc pc = .ok (.ireturn, 1)) (hr2 : rt = some .int) (hc : cs ≤ rm.cells ∧ ss ≤ rm.slots) (hv : v = v0) (hw : w = w0) : WW g x nL cs ss n w pc L [.int v] := ww_iret C hd hr2 rfl hc.1 hc.2 ⟨by rw [hv], hw⟩
theorem ww_rz {v : Int32} {b0 : Bool} {w0 : Wd} (C : Ck g x cc nL own rt rm n (Rv (.int (bz b0)) w0)) (hd : decode cc pc = .ok (.ireturn, 1)) (hr2 : rt = some .boolean) (hc : cs ≤ rm.cells ∧ ss ≤ rm.slots) (hv : v = bz b0) (hw : w = w0) : WW g x nL cs ss n w pc L [.int v] := ww_zret C hd hr2 (by rw [hv]; exact bz_nar b0) rfl hc.1 hc.2 ⟨by rw [hv], hw⟩
theorem ww_rl {v v0 : Int64} {w0 : Wd} (C : Ck g x cc nL own rt rm n (Rv (.long v0) w0)) (hd : decode cc pc = .ok (.lreturn, 1)) (hr2 : rt = some .long) (hc : cs ≤ rm.cells ∧ ss ≤ rm.slots) (hv : v = v0) (hw : w = w0) : WW g x nL cs ss n w pc L [.long v] := ww_lret C hd hr2 rfl hc.1 hc.2 ⟨by rw [hv], hw⟩
theorem ww_rv {w0 : Wd} (C : Ck g x cc nL own rt rm n (R0 w0)) (hd : decode cc pc = .ok (.return_, 1)) (hr2 : rt = none) (hc : cs ≤ rm.cells ∧ ss ≤ rm.slots) (hw : w = w0) : WW g x nL cs ss n w pc L [] := ww_vret C hd hr2 rfl hc.1 hc.2 ⟨rfl, hw⟩
theorem ww_ra {v v0 : Nat} {C0 : String} {w0 : Wd} (C : Ck g x cc nL own rt rm n (Rv (.ref v0) w0)) (hd : decode cc pc = .ok (.areturn, 1)) (hr2 : rt = some (.object C0)) (hc : cs ≤ rm.cells ∧ ss ≤ rm.slots) (hv : v = v0) (hw : w = w0) : WW g x nL cs ss n w pc L [.ref v] := ww_aret C hd hr2 rfl hc.1 hc.2 ⟨by rw [hv], hw⟩
theorem ww_max (C : Ck g x cc nL own rt rm n' Post) {idx : Nat} {a b : Int32} (hl1 : Cond.methodLink own idx Lib.Math.max.name ∈ TS) (hl2 : Cond.static Lib.Math.max.name ∈ TS) (hl3 : Cond.initialized "java/lang/Math" ∈ TS) (hl4 : Cond.code Lib.Math.max.name Lib.Math.max.code 2 (some .int) ∈ TS) (hfr : 1 ≤ rm.frames ∧ (st.map fun v => v.category).sum + 13 ≤ rm.locals) (hc : cs ≤ rm.cells ∧ ss ≤ rm.slots) (hd : decode cc pc = .ok (.invokestatic idx, 3)) (k : WW g x nL cs ss n w (pc + 3) L (.int (if a < b then b else a) :: st)) : WW g x nL cs ss n w (pc) L (.int b :: .int a :: st) := by
  obtain ⟨p, e, R, s, m, args, below, meth, c, Q⟩ := x
  obtain ⟨hx, hb, hml, hr, hlk, hown, hts, hK, hR, hbs, hQ⟩ := C
  subst hR
  intro H locs ls hH hS hl
  exact va_mmax hx hb (by rw [hml]; exact hl.1.symm) hown (hts _ hl1) (hts _ hl2) (hts _ hl3) (hts _ hl4) hfr.1 (by rw [tr_sum]; exact hfr.2) hc.1 hc.2 hd (k H locs ls hH hS hl)
theorem ww_maxN (C : Ck g x cc nL own rt rm n' Post) {idx : Nat} {a b : Nat} (hab : a < 2147483648 ∧ b < 2147483648) (hl1 : Cond.methodLink own idx Lib.Math.max.name ∈ TS) (hl2 : Cond.static Lib.Math.max.name ∈ TS) (hl3 : Cond.initialized "java/lang/Math" ∈ TS) (hl4 : Cond.code Lib.Math.max.name Lib.Math.max.code 2 (some .int) ∈ TS) (hfr : 1 ≤ rm.frames ∧ (st.map fun v => v.category).sum + 13 ≤ rm.locals) (hc : cs ≤ rm.cells ∧ ss ≤ rm.slots) (hd : decode cc pc = .ok (.invokestatic idx, 3)) (k : WW g x nL cs ss n w (pc + 3) L (.int (nI (max a b)) :: st)) : WW g x nL cs ss n w (pc) L (.int (nI b) :: .int (nI a) :: st) := ww_max C hl1 hl2 hl3 hl4 hfr hc hd (ww_topi (by by_cases h : a < b; (first | rw [if_pos ((nI_ltI hab.1 hab.2).mpr h)] | rw [if_pos ((nI_ltI hab.2 hab.1).mpr h)]); rw [show max a b = b by omega]; (first | rw [if_neg (fun e => h ((nI_ltI hab.1 hab.2).mp e))] | rw [if_neg (fun e => h ((nI_ltI hab.2 hab.1).mp e))]); rw [show max a b = a by omega]) k)
theorem ww_min (C : Ck g x cc nL own rt rm n' Post) {idx : Nat} {a b : Int32} (hl1 : Cond.methodLink own idx Lib.Math.min.name ∈ TS) (hl2 : Cond.static Lib.Math.min.name ∈ TS) (hl3 : Cond.initialized "java/lang/Math" ∈ TS) (hl4 : Cond.code Lib.Math.min.name Lib.Math.min.code 2 (some .int) ∈ TS) (hfr : 1 ≤ rm.frames ∧ (st.map fun v => v.category).sum + 13 ≤ rm.locals) (hc : cs ≤ rm.cells ∧ ss ≤ rm.slots) (hd : decode cc pc = .ok (.invokestatic idx, 3)) (k : WW g x nL cs ss n w (pc + 3) L (.int (if b < a then b else a) :: st)) : WW g x nL cs ss n w (pc) L (.int b :: .int a :: st) := by
  obtain ⟨p, e, R, s, m, args, below, meth, c, Q⟩ := x
  obtain ⟨hx, hb, hml, hr, hlk, hown, hts, hK, hR, hbs, hQ⟩ := C
  subst hR
  intro H locs ls hH hS hl
  exact va_mmin hx hb (by rw [hml]; exact hl.1.symm) hown (hts _ hl1) (hts _ hl2) (hts _ hl3) (hts _ hl4) hfr.1 (by rw [tr_sum]; exact hfr.2) hc.1 hc.2 hd (k H locs ls hH hS hl)
theorem ww_minN (C : Ck g x cc nL own rt rm n' Post) {idx : Nat} {a b : Nat} (hab : a < 2147483648 ∧ b < 2147483648) (hl1 : Cond.methodLink own idx Lib.Math.min.name ∈ TS) (hl2 : Cond.static Lib.Math.min.name ∈ TS) (hl3 : Cond.initialized "java/lang/Math" ∈ TS) (hl4 : Cond.code Lib.Math.min.name Lib.Math.min.code 2 (some .int) ∈ TS) (hfr : 1 ≤ rm.frames ∧ (st.map fun v => v.category).sum + 13 ≤ rm.locals) (hc : cs ≤ rm.cells ∧ ss ≤ rm.slots) (hd : decode cc pc = .ok (.invokestatic idx, 3)) (k : WW g x nL cs ss n w (pc + 3) L (.int (nI (min a b)) :: st)) : WW g x nL cs ss n w (pc) L (.int (nI b) :: .int (nI a) :: st) := ww_min C hl1 hl2 hl3 hl4 hfr hc hd (ww_topi (by by_cases h : b < a; (first | rw [if_pos ((nI_ltI hab.1 hab.2).mpr h)] | rw [if_pos ((nI_ltI hab.2 hab.1).mpr h)]); rw [show min a b = b by omega]; (first | rw [if_neg (fun e => h ((nI_ltI hab.1 hab.2).mp e))] | rw [if_neg (fun e => h ((nI_ltI hab.2 hab.1).mp e))]); rw [show min a b = a by omega]) k)
end NROWS
end
section
theorem itX0 : ∀ w ∈ u_ws RX0 TX0 2, w ∈ TS := by decide +kernel
theorem itX1 : ∀ w ∈ u_ws RX1 TX1 13, w ∈ TS := by decide +kernel
theorem itX2 : ∀ w ∈ u_ws RX2 TX2 9, w ∈ TS := by decide +kernel
theorem itX3 : ∀ w ∈ u_ws RX3 TX3 2, w ∈ TS := by decide +kernel
theorem itX4 : ∀ w ∈ u_ws RX4 TX4 4, w ∈ TS := by decide +kernel
theorem itX5 : ∀ w ∈ u_ws RX5 TX5 4, w ∈ TS := by decide +kernel
theorem itX6 : ∀ w ∈ u_ws RX6 TX6 9, w ∈ TS := by decide +kernel
theorem itX7 : ∀ w ∈ u_ws RX7 TX7 26, w ∈ TS := by decide +kernel
theorem kb_X6_init : okB yX6_init cX6_init 1 none 0 := ⟨ts_of (List.mem_of_getElem? (i := 68) (by decide +kernel)) rfl, ts_of (List.mem_of_getElem? (i := 53) (by decide +kernel)) rfl, by decide +kernel⟩
theorem kb_X5_init : okB yX5_init cX5_init 1 none 0 := ⟨ts_of (List.mem_of_getElem? (i := 76) (by decide +kernel)) rfl, ts_of (List.mem_of_getElem? (i := 54) (by decide +kernel)) rfl, by decide +kernel⟩
theorem kb_X2_init : okB yX2_init cX2_init 1 none 0 := ⟨ts_of (List.mem_of_getElem? (i := 98) (by decide +kernel)) rfl, ts_of (List.mem_of_getElem? (i := 55) (by decide +kernel)) rfl, by decide +kernel⟩
theorem kb_X4_init : okB yX4_init cX4_init 1 none 0 := ⟨ts_of (List.mem_of_getElem? (i := 104) (by decide +kernel)) rfl, ts_of (List.mem_of_getElem? (i := 56) (by decide +kernel)) rfl, by decide +kernel⟩
theorem kb_X2_empty : okB yX2_empty cX2_empty 2 none 0 := ⟨ts_of (List.mem_of_getElem? (i := 125) (by decide +kernel)) rfl, ts_of (List.mem_of_getElem? (i := 55) (by decide +kernel)) rfl, by decide +kernel⟩
theorem kb_X3_init : okB yX3_init cX3_init 1 none 0 := ⟨ts_of (List.mem_of_getElem? (i := 171) (by decide +kernel)) rfl, ts_of (List.mem_of_getElem? (i := 57) (by decide +kernel)) rfl, by decide +kernel⟩
theorem kb_X0_init : okB yX0_init cX0_init 1 none 0 := ⟨ts_of (List.mem_of_getElem? (i := 179) (by decide +kernel)) rfl, ts_of (List.mem_of_getElem? (i := 58) (by decide +kernel)) rfl, by decide +kernel⟩
theorem kb_X1_init : okB yX1_init cX1_init 1 none 0 := ⟨ts_of (List.mem_of_getElem? (i := 202) (by decide +kernel)) rfl, ts_of (List.mem_of_getElem? (i := 59) (by decide +kernel)) rfl, by decide +kernel⟩
theorem kb_X2_settle : okB yX2_settle cX2_settle 7 (some .boolean) 5 := ⟨ts_of (List.mem_of_getElem? (i := 251) (by decide +kernel)) rfl, ts_of (List.mem_of_getElem? (i := 55) (by decide +kernel)) rfl, by decide +kernel⟩
theorem kb_X6_within : okB yX6_within cX6_within 3 (some .boolean) 3 := ⟨ts_of (List.mem_of_getElem? (i := 254) (by decide +kernel)) rfl, ts_of (List.mem_of_getElem? (i := 53) (by decide +kernel)) rfl, by decide +kernel⟩
theorem kb_X4_enter : okB yX4_enter cX4_enter 6 (some .boolean) 3 := ⟨ts_of (List.mem_of_getElem? (i := 258) (by decide +kernel)) rfl, ts_of (List.mem_of_getElem? (i := 56) (by decide +kernel)) rfl, by decide +kernel⟩
theorem kb_X4_gain : okB yX4_gain cX4_gain 3 (some .boolean) 2 := ⟨ts_of (List.mem_of_getElem? (i := 262) (by decide +kernel)) rfl, ts_of (List.mem_of_getElem? (i := 56) (by decide +kernel)) rfl, by decide +kernel⟩
theorem kb_X4_has : okB yX4_has cX4_has 2 (some .boolean) 1 := ⟨ts_of (List.mem_of_getElem? (i := 266) (by decide +kernel)) rfl, ts_of (List.mem_of_getElem? (i := 56) (by decide +kernel)) rfl, by decide +kernel⟩
theorem kb_X4_copyFrom : okB yX4_copyFrom cX4_copyFrom 2 none 1 := ⟨ts_of (List.mem_of_getElem? (i := 271) (by decide +kernel)) rfl, ts_of (List.mem_of_getElem? (i := 56) (by decide +kernel)) rfl, by decide +kernel⟩
theorem kb_X6_write : okB yX6_write cX6_write 4 (some .int) 2 := ⟨ts_of (List.mem_of_getElem? (i := 306) (by decide +kernel)) rfl, ts_of (List.mem_of_getElem? (i := 53) (by decide +kernel)) rfl, by decide +kernel⟩
theorem kb_X5_hasRoom : okB yX5_hasRoom cX5_hasRoom 2 (some .boolean) 1 := ⟨ts_of (List.mem_of_getElem? (i := 311) (by decide +kernel)) rfl, ts_of (List.mem_of_getElem? (i := 54) (by decide +kernel)) rfl, by decide +kernel⟩
theorem kb_X5_put : okB yX5_put cX5_put 5 none 2 := ⟨ts_of (List.mem_of_getElem? (i := 315) (by decide +kernel)) rfl, ts_of (List.mem_of_getElem? (i := 54) (by decide +kernel)) rfl, by decide +kernel⟩
theorem kb_X6_wipe : okB yX6_wipe cX6_wipe 2 (some .int) 0 := ⟨ts_of (List.mem_of_getElem? (i := 319) (by decide +kernel)) rfl, ts_of (List.mem_of_getElem? (i := 53) (by decide +kernel)) rfl, by decide +kernel⟩
theorem kb_X6_fault : okB yX6_fault cX6_fault 1 (some .int) 0 := ⟨ts_of (List.mem_of_getElem? (i := 323) (by decide +kernel)) rfl, ts_of (List.mem_of_getElem? (i := 53) (by decide +kernel)) rfl, by decide +kernel⟩
theorem kb_X5_readInto : okB yX5_readInto cX5_readInto 4 (some .int) 1 := ⟨ts_of (List.mem_of_getElem? (i := 327) (by decide +kernel)) rfl, ts_of (List.mem_of_getElem? (i := 54) (by decide +kernel)) rfl, by decide +kernel⟩
theorem kb_X5_readItem : okB yX5_readItem cX5_readItem 3 (some .boolean) 1 := ⟨ts_of (List.mem_of_getElem? (i := 332) (by decide +kernel)) rfl, ts_of (List.mem_of_getElem? (i := 54) (by decide +kernel)) rfl, by decide +kernel⟩
theorem kb_X5_here : okB yX5_here cX5_here 1 (some .int) 0 := ⟨ts_of (List.mem_of_getElem? (i := 336) (by decide +kernel)) rfl, ts_of (List.mem_of_getElem? (i := 54) (by decide +kernel)) rfl, by decide +kernel⟩
theorem kb_X5_readPerson : okB yX5_readPerson cX5_readPerson 6 (some .boolean) 1 := ⟨ts_of (List.mem_of_getElem? (i := 341) (by decide +kernel)) rfl, ts_of (List.mem_of_getElem? (i := 54) (by decide +kernel)) rfl, by decide +kernel⟩
theorem kb_X5_number : okB yX5_number cX5_number 6 (some .int) 3 := ⟨ts_of (List.mem_of_getElem? (i := 345) (by decide +kernel)) rfl, ts_of (List.mem_of_getElem? (i := 54) (by decide +kernel)) rfl, by decide +kernel⟩
theorem kb_X5_readName : okB yX5_readName cX5_readName 2 (some .int) 0 := ⟨ts_of (List.mem_of_getElem? (i := 349) (by decide +kernel)) rfl, ts_of (List.mem_of_getElem? (i := 54) (by decide +kernel)) rfl, by decide +kernel⟩
theorem kb_X5_readWorth : okB yX5_readWorth cX5_readWorth 4 (some .boolean) 1 := ⟨ts_of (List.mem_of_getElem? (i := 354) (by decide +kernel)) rfl, ts_of (List.mem_of_getElem? (i := 54) (by decide +kernel)) rfl, by decide +kernel⟩
theorem kb_X5_readShame : okB yX5_readShame cX5_readShame 3 (some .boolean) 1 := ⟨ts_of (List.mem_of_getElem? (i := 358) (by decide +kernel)) rfl, ts_of (List.mem_of_getElem? (i := 54) (by decide +kernel)) rfl, by decide +kernel⟩
theorem kb_X5_readBeats : okB yX5_readBeats cX5_readBeats 4 (some .boolean) 1 := ⟨ts_of (List.mem_of_getElem? (i := 362) (by decide +kernel)) rfl, ts_of (List.mem_of_getElem? (i := 54) (by decide +kernel)) rfl, by decide +kernel⟩
theorem kb_X5_readBreath : okB yX5_readBreath cX5_readBreath 4 (some .boolean) 1 := ⟨ts_of (List.mem_of_getElem? (i := 366) (by decide +kernel)) rfl, ts_of (List.mem_of_getElem? (i := 54) (by decide +kernel)) rfl, by decide +kernel⟩
theorem kb_X5_readMisheard : okB yX5_readMisheard cX5_readMisheard 3 (some .boolean) 1 := ⟨ts_of (List.mem_of_getElem? (i := 370) (by decide +kernel)) rfl, ts_of (List.mem_of_getElem? (i := 54) (by decide +kernel)) rfl, by decide +kernel⟩
theorem kb_X6_lay : okB yX6_lay cX6_lay 2 (some .int) 0 := ⟨ts_of (List.mem_of_getElem? (i := 374) (by decide +kernel)) rfl, ts_of (List.mem_of_getElem? (i := 53) (by decide +kernel)) rfl, by decide +kernel⟩
theorem kb_X0_empty : okB yX0_empty cX0_empty 1 none 0 := ⟨ts_of (List.mem_of_getElem? (i := 378) (by decide +kernel)) rfl, ts_of (List.mem_of_getElem? (i := 58) (by decide +kernel)) rfl, by decide +kernel⟩
theorem kb_X6_person : okB yX6_person cX6_person 3 (some .int) 2 := ⟨ts_of (List.mem_of_getElem? (i := 382) (by decide +kernel)) rfl, ts_of (List.mem_of_getElem? (i := 53) (by decide +kernel)) rfl, by decide +kernel⟩
theorem kb_X4_kindOf : okB yX4_kindOf cX4_kindOf 2 (some .int) 1 := ⟨ts_of (List.mem_of_getElem? (i := 387) (by decide +kernel)) rfl, ts_of (List.mem_of_getElem? (i := 56) (by decide +kernel)) rfl, by decide +kernel⟩
theorem kb_X2_pacesOf : okB yX2_pacesOf cX2_pacesOf 2 (some .int) 1 := ⟨ts_of (List.mem_of_getElem? (i := 391) (by decide +kernel)) rfl, ts_of (List.mem_of_getElem? (i := 55) (by decide +kernel)) rfl, by decide +kernel⟩
theorem kb_X2_rankOf : okB yX2_rankOf cX2_rankOf 2 (some .int) 1 := ⟨ts_of (List.mem_of_getElem? (i := 396) (by decide +kernel)) rfl, ts_of (List.mem_of_getElem? (i := 55) (by decide +kernel)) rfl, by decide +kernel⟩
theorem kb_X4_sizeOf : okB yX4_sizeOf cX4_sizeOf 2 (some .int) 1 := ⟨ts_of (List.mem_of_getElem? (i := 400) (by decide +kernel)) rfl, ts_of (List.mem_of_getElem? (i := 56) (by decide +kernel)) rfl, by decide +kernel⟩
theorem kb_X4_longOf : okB yX4_longOf cX4_longOf 3 (some .int) 1 := ⟨ts_of (List.mem_of_getElem? (i := 404) (by decide +kernel)) rfl, ts_of (List.mem_of_getElem? (i := 56) (by decide +kernel)) rfl, by decide +kernel⟩
theorem kb_X2_beatsOf : okB yX2_beatsOf cX2_beatsOf 7 (some .int) 2 := ⟨ts_of (List.mem_of_getElem? (i := 410) (by decide +kernel)) rfl, ts_of (List.mem_of_getElem? (i := 55) (by decide +kernel)) rfl, by decide +kernel⟩
theorem kb_X4_saidAt : okB yX4_saidAt cX4_saidAt 4 (some .int) 2 := ⟨ts_of (List.mem_of_getElem? (i := 415) (by decide +kernel)) rfl, ts_of (List.mem_of_getElem? (i := 56) (by decide +kernel)) rfl, by decide +kernel⟩
theorem kb_X4_syllableAt : okB yX4_syllableAt cX4_syllableAt 3 (some .int) 2 := ⟨ts_of (List.mem_of_getElem? (i := 420) (by decide +kernel)) rfl, ts_of (List.mem_of_getElem? (i := 56) (by decide +kernel)) rfl, by decide +kernel⟩
theorem kb_X6_said : okB yX6_said cX6_said 3 (some .int) 2 := ⟨ts_of (List.mem_of_getElem? (i := 425) (by decide +kernel)) rfl, ts_of (List.mem_of_getElem? (i := 53) (by decide +kernel)) rfl, by decide +kernel⟩
theorem kb_X6_deed : okB yX6_deed cX6_deed 3 (some .int) 2 := ⟨ts_of (List.mem_of_getElem? (i := 430) (by decide +kernel)) rfl, ts_of (List.mem_of_getElem? (i := 53) (by decide +kernel)) rfl, by decide +kernel⟩
theorem kb_X2_doDeed : okB yX2_doDeed cX2_doDeed 4 (some .boolean) 3 := ⟨ts_of (List.mem_of_getElem? (i := 434) (by decide +kernel)) rfl, ts_of (List.mem_of_getElem? (i := 55) (by decide +kernel)) rfl, by decide +kernel⟩
theorem kb_X4_lose : okB yX4_lose cX4_lose 2 none 1 := ⟨ts_of (List.mem_of_getElem? (i := 438) (by decide +kernel)) rfl, ts_of (List.mem_of_getElem? (i := 56) (by decide +kernel)) rfl, by decide +kernel⟩
theorem kb_X6_kind : okB yX6_kind cX6_kind 3 (some .int) 2 := ⟨ts_of (List.mem_of_getElem? (i := 443) (by decide +kernel)) rfl, ts_of (List.mem_of_getElem? (i := 53) (by decide +kernel)) rfl, by decide +kernel⟩
theorem kb_X4_changeKind : okB yX4_changeKind cX4_changeKind 4 (some .int) 2 := ⟨ts_of (List.mem_of_getElem? (i := 447) (by decide +kernel)) rfl, ts_of (List.mem_of_getElem? (i := 56) (by decide +kernel)) rfl, by decide +kernel⟩
theorem kb_X6_cry : okB yX6_cry cX6_cry 2 (some .int) 1 := ⟨ts_of (List.mem_of_getElem? (i := 451) (by decide +kernel)) rfl, ts_of (List.mem_of_getElem? (i := 53) (by decide +kernel)) rfl, by decide +kernel⟩
theorem kb_X6_isSet : okB yX6_isSet cX6_isSet 2 (some .boolean) 1 := ⟨ts_of (List.mem_of_getElem? (i := 455) (by decide +kernel)) rfl, ts_of (List.mem_of_getElem? (i := 53) (by decide +kernel)) rfl, by decide +kernel⟩
theorem kb_X6_everyone : okB yX6_everyone cX6_everyone 1 (some .int) 0 := ⟨ts_of (List.mem_of_getElem? (i := 459) (by decide +kernel)) rfl, ts_of (List.mem_of_getElem? (i := 53) (by decide +kernel)) rfl, by decide +kernel⟩
theorem kb_X1_learn : okB yX1_learn cX1_learn 4 none 2 := ⟨ts_of (List.mem_of_getElem? (i := 463) (by decide +kernel)) rfl, ts_of (List.mem_of_getElem? (i := 59) (by decide +kernel)) rfl, by decide +kernel⟩
theorem kb_X1_beatsToCall : okB yX1_beatsToCall cX1_beatsToCall 5 (some .int) 1 := ⟨ts_of (List.mem_of_getElem? (i := 474) (by decide +kernel)) rfl, ts_of (List.mem_of_getElem? (i := 59) (by decide +kernel)) rfl, by decide +kernel⟩
theorem kb_X6_isOf : okB yX6_isOf cX6_isOf 2 (some .boolean) 2 := ⟨ts_of (List.mem_of_getElem? (i := 477) (by decide +kernel)) rfl, ts_of (List.mem_of_getElem? (i := 53) (by decide +kernel)) rfl, by decide +kernel⟩
theorem kb_X1_breathsFor : okB yX1_breathsFor cX1_breathsFor 2 (some .int) 1 := ⟨ts_of (List.mem_of_getElem? (i := 481) (by decide +kernel)) rfl, ts_of (List.mem_of_getElem? (i := 59) (by decide +kernel)) rfl, by decide +kernel⟩
theorem kb_X6_warn : okB yX6_warn cX6_warn 4 (some .int) 2 := ⟨ts_of (List.mem_of_getElem? (i := 485) (by decide +kernel)) rfl, ts_of (List.mem_of_getElem? (i := 53) (by decide +kernel)) rfl, by decide +kernel⟩
theorem kb_X1_mostSaved : okB yX1_mostSaved cX1_mostSaved 4 (some .int) 1 := ⟨ts_of (List.mem_of_getElem? (i := 489) (by decide +kernel)) rfl, ts_of (List.mem_of_getElem? (i := 59) (by decide +kernel)) rfl, by decide +kernel⟩
theorem kb_X1_someoneCanBeLast : okB yX1_someoneCanBeLast cX1_someoneCanBeLast 4 (some .boolean) 2 := ⟨ts_of (List.mem_of_getElem? (i := 494) (by decide +kernel)) rfl, ts_of (List.mem_of_getElem? (i := 59) (by decide +kernel)) rfl, by decide +kernel⟩
theorem kb_J6_bitCount_0f7a4 : okB yJ6_bitCount_0f7a4 cJ6_bitCount_0f7a4 1 (some .int) 1 := ⟨ts_of (List.mem_of_getElem? (i := 497) (by decide +kernel)) rfl, ts_of (List.mem_of_getElem? (i := 63) (by decide +kernel)) rfl, by decide +kernel⟩
theorem kb_X6_called : okB yX6_called cX6_called 3 (some .int) 2 := ⟨ts_of (List.mem_of_getElem? (i := 505) (by decide +kernel)) rfl, ts_of (List.mem_of_getElem? (i := 53) (by decide +kernel)) rfl, by decide +kernel⟩
theorem kb_X1_orderWarning : okB yX1_orderWarning cX1_orderWarning 6 none 2 := ⟨ts_of (List.mem_of_getElem? (i := 509) (by decide +kernel)) rfl, ts_of (List.mem_of_getElem? (i := 59) (by decide +kernel)) rfl, by decide +kernel⟩
theorem kb_X1_nextSaved : okB yX1_nextSaved cX1_nextSaved 6 (some .int) 3 := ⟨ts_of (List.mem_of_getElem? (i := 513) (by decide +kernel)) rfl, ts_of (List.mem_of_getElem? (i := 59) (by decide +kernel)) rfl, by decide +kernel⟩
theorem kb_X1_inOrder : okB yX1_inOrder cX1_inOrder 2 (some .int) 1 := ⟨ts_of (List.mem_of_getElem? (i := 517) (by decide +kernel)) rfl, ts_of (List.mem_of_getElem? (i := 59) (by decide +kernel)) rfl, by decide +kernel⟩
theorem kb_X6_greet : okB yX6_greet cX6_greet 4 (some .int) 2 := ⟨ts_of (List.mem_of_getElem? (i := 522) (by decide +kernel)) rfl, ts_of (List.mem_of_getElem? (i := 53) (by decide +kernel)) rfl, by decide +kernel⟩
theorem kb_X1_fewestBreaths : okB yX1_fewestBreaths cX1_fewestBreaths 3 (some .int) 1 := ⟨ts_of (List.mem_of_getElem? (i := 526) (by decide +kernel)) rfl, ts_of (List.mem_of_getElem? (i := 59) (by decide +kernel)) rfl, by decide +kernel⟩
theorem kb_X1_rankAll : okB yX1_rankAll cX1_rankAll 4 none 1 := ⟨ts_of (List.mem_of_getElem? (i := 530) (by decide +kernel)) rfl, ts_of (List.mem_of_getElem? (i := 59) (by decide +kernel)) rfl, by decide +kernel⟩
theorem kb_X1_nothingPacked : okB yX1_nothingPacked cX1_nothingPacked 1 (some .int) 0 := ⟨ts_of (List.mem_of_getElem? (i := 534) (by decide +kernel)) rfl, ts_of (List.mem_of_getElem? (i := 59) (by decide +kernel)) rfl, by decide +kernel⟩
theorem kb_X1_leastPacking : okB yX1_leastPacking cX1_leastPacking 5 (some .int) 1 := ⟨ts_of (List.mem_of_getElem? (i := 538) (by decide +kernel)) rfl, ts_of (List.mem_of_getElem? (i := 59) (by decide +kernel)) rfl, by decide +kernel⟩
theorem kb_X1_mayBeFirst : okB yX1_mayBeFirst cX1_mayBeFirst 3 (some .boolean) 2 := ⟨ts_of (List.mem_of_getElem? (i := 542) (by decide +kernel)) rfl, ts_of (List.mem_of_getElem? (i := 59) (by decide +kernel)) rfl, by decide +kernel⟩
theorem kb_X1_packed : okB yX1_packed cX1_packed 5 (some .int) 2 := ⟨ts_of (List.mem_of_getElem? (i := 546) (by decide +kernel)) rfl, ts_of (List.mem_of_getElem? (i := 59) (by decide +kernel)) rfl, by decide +kernel⟩
theorem kb_X1_orderCouncil : okB yX1_orderCouncil cX1_orderCouncil 7 none 2 := ⟨ts_of (List.mem_of_getElem? (i := 550) (by decide +kernel)) rfl, ts_of (List.mem_of_getElem? (i := 59) (by decide +kernel)) rfl, by decide +kernel⟩
theorem kb_X1_nextGreeted : okB yX1_nextGreeted cX1_nextGreeted 5 (some .int) 3 := ⟨ts_of (List.mem_of_getElem? (i := 554) (by decide +kernel)) rfl, ts_of (List.mem_of_getElem? (i := 59) (by decide +kernel)) rfl, by decide +kernel⟩
theorem kb_X1_joined : okB yX1_joined cX1_joined 4 (some .int) 2 := ⟨ts_of (List.mem_of_getElem? (i := 558) (by decide +kernel)) rfl, ts_of (List.mem_of_getElem? (i := 59) (by decide +kernel)) rfl, by decide +kernel⟩
theorem kb_X6_shortCall : okB yX6_shortCall cX6_shortCall 3 (some .int) 2 := ⟨ts_of (List.mem_of_getElem? (i := 562) (by decide +kernel)) rfl, ts_of (List.mem_of_getElem? (i := 53) (by decide +kernel)) rfl, by decide +kernel⟩
theorem kb_X4_shortest : okB yX4_shortest cX4_shortest 5 (some .int) 2 := ⟨ts_of (List.mem_of_getElem? (i := 567) (by decide +kernel)) rfl, ts_of (List.mem_of_getElem? (i := 56) (by decide +kernel)) rfl, by decide +kernel⟩
theorem kb_X4_alike : okB yX4_alike cX4_alike 5 (some .int) 2 := ⟨ts_of (List.mem_of_getElem? (i := 572) (by decide +kernel)) rfl, ts_of (List.mem_of_getElem? (i := 56) (by decide +kernel)) rfl, by decide +kernel⟩
theorem kb_X6_allShort : okB yX6_allShort cX6_allShort 2 (some .int) 1 := ⟨ts_of (List.mem_of_getElem? (i := 581) (by decide +kernel)) rfl, ts_of (List.mem_of_getElem? (i := 53) (by decide +kernel)) rfl, by decide +kernel⟩
theorem kb_X4_sumOfShortest : okB yX4_sumOfShortest cX4_sumOfShortest 5 (some .int) 1 := ⟨ts_of (List.mem_of_getElem? (i := 585) (by decide +kernel)) rfl, ts_of (List.mem_of_getElem? (i := 56) (by decide +kernel)) rfl, by decide +kernel⟩
theorem kb_X6_apart : okB yX6_apart cX6_apart 8 (some .int) 3 := ⟨ts_of (List.mem_of_getElem? (i := 590) (by decide +kernel)) rfl, ts_of (List.mem_of_getElem? (i := 53) (by decide +kernel)) rfl, by decide +kernel⟩
theorem kb_X6_hear : okB yX6_hear cX6_hear 2 (some .int) 1 := ⟨ts_of (List.mem_of_getElem? (i := 596) (by decide +kernel)) rfl, ts_of (List.mem_of_getElem? (i := 53) (by decide +kernel)) rfl, by decide +kernel⟩
theorem kb_X0_take : okB yX0_take cX0_take 2 (some .boolean) 1 := ⟨ts_of (List.mem_of_getElem? (i := 600) (by decide +kernel)) rfl, ts_of (List.mem_of_getElem? (i := 58) (by decide +kernel)) rfl, by decide +kernel⟩
theorem kb_X6_forget : okB yX6_forget cX6_forget 2 (some .int) 0 := ⟨ts_of (List.mem_of_getElem? (i := 604) (by decide +kernel)) rfl, ts_of (List.mem_of_getElem? (i := 53) (by decide +kernel)) rfl, by decide +kernel⟩
theorem kb_X6_odds : okB yX6_odds cX6_odds 9 (some .long) 2 := ⟨ts_of (List.mem_of_getElem? (i := 608) (by decide +kernel)) rfl, ts_of (List.mem_of_getElem? (i := 53) (by decide +kernel)) rfl, by decide +kernel⟩
theorem kb_X6_weightOf : okB yX6_weightOf cX6_weightOf 2 (some .long) 1 := ⟨ts_of (List.mem_of_getElem? (i := 613) (by decide +kernel)) rfl, ts_of (List.mem_of_getElem? (i := 53) (by decide +kernel)) rfl, by decide +kernel⟩
theorem kb_X0_likeness : okB yX0_likeness cX0_likeness 7 (some .long) 3 := ⟨ts_of (List.mem_of_getElem? (i := 617) (by decide +kernel)) rfl, ts_of (List.mem_of_getElem? (i := 58) (by decide +kernel)) rfl, by decide +kernel⟩
theorem kb_X6_commonDivisor : okB yX6_commonDivisor cX6_commonDivisor 7 (some .long) 2 := ⟨ts_of (List.mem_of_getElem? (i := 623) (by decide +kernel)) rfl, ts_of (List.mem_of_getElem? (i := 53) (by decide +kernel)) rfl, by decide +kernel⟩
theorem kb_X6_meant : okB yX6_meant cX6_meant 7 (some .int) 0 := ⟨ts_of (List.mem_of_getElem? (i := 628) (by decide +kernel)) rfl, ts_of (List.mem_of_getElem? (i := 53) (by decide +kernel)) rfl, by decide +kernel⟩
theorem kb_X6_years : okB yX6_years cX6_years 4 (some .int) 3 := ⟨ts_of (List.mem_of_getElem? (i := 632) (by decide +kernel)) rfl, ts_of (List.mem_of_getElem? (i := 53) (by decide +kernel)) rfl, by decide +kernel⟩
theorem kb_X6_isHillTime : okB yX6_isHillTime cX6_isHillTime 2 (some .boolean) 2 := ⟨ts_of (List.mem_of_getElem? (i := 635) (by decide +kernel)) rfl, ts_of (List.mem_of_getElem? (i := 53) (by decide +kernel)) rfl, by decide +kernel⟩
theorem kb_X2_liveYears : okB yX2_liveYears cX2_liveYears 7 none 4 := ⟨ts_of (List.mem_of_getElem? (i := 639) (by decide +kernel)) rfl, ts_of (List.mem_of_getElem? (i := 55) (by decide +kernel)) rfl, by decide +kernel⟩
theorem kb_X2_drawnDeed : okB yX2_drawnDeed cX2_drawnDeed 5 (some .int) 3 := ⟨ts_of (List.mem_of_getElem? (i := 643) (by decide +kernel)) rfl, ts_of (List.mem_of_getElem? (i := 55) (by decide +kernel)) rfl, by decide +kernel⟩
theorem kb_X4_longest : okB yX4_longest cX4_longest 3 (some .int) 0 := ⟨ts_of (List.mem_of_getElem? (i := 653) (by decide +kernel)) rfl, ts_of (List.mem_of_getElem? (i := 56) (by decide +kernel)) rfl, by decide +kernel⟩
theorem kb_X4_numberOfShort : okB yX4_numberOfShort cX4_numberOfShort 4 (some .int) 1 := ⟨ts_of (List.mem_of_getElem? (i := 657) (by decide +kernel)) rfl, ts_of (List.mem_of_getElem? (i := 56) (by decide +kernel)) rfl, by decide +kernel⟩
theorem kb_X6_then : okB yX6_then cX6_then 5 (some .int) 4 := ⟨ts_of (List.mem_of_getElem? (i := 661) (by decide +kernel)) rfl, ts_of (List.mem_of_getElem? (i := 53) (by decide +kernel)) rfl, by decide +kernel⟩
theorem kb_X6_keep : okB yX6_keep cX6_keep 1 (some .int) 0 := ⟨ts_of (List.mem_of_getElem? (i := 666) (by decide +kernel)) rfl, ts_of (List.mem_of_getElem? (i := 53) (by decide +kernel)) rfl, by decide +kernel⟩
theorem kb_X6_keptPlace : okB yX6_keptPlace cX6_keptPlace 2 (some (.object "DeedNames$Memory")) 1 := ⟨ts_of (List.mem_of_getElem? (i := 670) (by decide +kernel)) rfl, ts_of (List.mem_of_getElem? (i := 53) (by decide +kernel)) rfl, by decide +kernel⟩
theorem kb_X3_copyFrom : okB yX3_copyFrom cX3_copyFrom 2 none 1 := ⟨ts_of (List.mem_of_getElem? (i := 674) (by decide +kernel)) rfl, ts_of (List.mem_of_getElem? (i := 57) (by decide +kernel)) rfl, by decide +kernel⟩
theorem kb_X0_copyFrom : okB yX0_copyFrom cX0_copyFrom 2 none 1 := ⟨ts_of (List.mem_of_getElem? (i := 679) (by decide +kernel)) rfl, ts_of (List.mem_of_getElem? (i := 58) (by decide +kernel)) rfl, by decide +kernel⟩
theorem kb_X6_back : okB yX6_back cX6_back 1 (some .int) 0 := ⟨ts_of (List.mem_of_getElem? (i := 684) (by decide +kernel)) rfl, ts_of (List.mem_of_getElem? (i := 53) (by decide +kernel)) rfl, by decide +kernel⟩
theorem kb_X6_count : okB yX6_count cX6_count 2 (some .int) 1 := ⟨ts_of (List.mem_of_getElem? (i := 688) (by decide +kernel)) rfl, ts_of (List.mem_of_getElem? (i := 53) (by decide +kernel)) rfl, by decide +kernel⟩
theorem kb_X7_init : okB yX7_init cX7_init 1 none 0 := ⟨ts_of (List.mem_of_getElem? (i := 693) (by decide +kernel)) rfl, ts_of (List.mem_of_getElem? (i := 61) (by decide +kernel)) rfl, by decide +kernel⟩
theorem kb_X7_noHill : okB yX7_noHill cX7_noHill 3 none 1 := ⟨ts_of (List.mem_of_getElem? (i := 698) (by decide +kernel)) rfl, ts_of (List.mem_of_getElem? (i := 61) (by decide +kernel)) rfl, by decide +kernel⟩
theorem kb_X7_layHill : okB yX7_layHill cX7_layHill 3 none 0 := ⟨ts_of (List.mem_of_getElem? (i := 702) (by decide +kernel)) rfl, ts_of (List.mem_of_getElem? (i := 61) (by decide +kernel)) rfl, by decide +kernel⟩
theorem kb_X7_write : okB yX7_write cX7_write 5 (some .int) 2 := ⟨ts_of (List.mem_of_getElem? (i := 785) (by decide +kernel)) rfl, ts_of (List.mem_of_getElem? (i := 61) (by decide +kernel)) rfl, by decide +kernel⟩
theorem kb_X7_in : okB yX7_in cX7_in 6 (some .boolean) 3 := ⟨ts_of (List.mem_of_getElem? (i := 789) (by decide +kernel)) rfl, ts_of (List.mem_of_getElem? (i := 61) (by decide +kernel)) rfl, by decide +kernel⟩
theorem kb_X7_wipe : okB yX7_wipe cX7_wipe 2 (some .int) 0 := ⟨ts_of (List.mem_of_getElem? (i := 794) (by decide +kernel)) rfl, ts_of (List.mem_of_getElem? (i := 61) (by decide +kernel)) rfl, by decide +kernel⟩
theorem kb_X7_fault : okB yX7_fault cX7_fault 1 (some .int) 0 := ⟨ts_of (List.mem_of_getElem? (i := 798) (by decide +kernel)) rfl, ts_of (List.mem_of_getElem? (i := 61) (by decide +kernel)) rfl, by decide +kernel⟩
theorem kb_X7_readAll : okB yX7_readAll cX7_readAll 2 (some .int) 0 := ⟨ts_of (List.mem_of_getElem? (i := 802) (by decide +kernel)) rfl, ts_of (List.mem_of_getElem? (i := 61) (by decide +kernel)) rfl, by decide +kernel⟩
theorem kb_X7_item : okB yX7_item cX7_item 2 (some .boolean) 0 := ⟨ts_of (List.mem_of_getElem? (i := 806) (by decide +kernel)) rfl, ts_of (List.mem_of_getElem? (i := 61) (by decide +kernel)) rfl, by decide +kernel⟩
theorem kb_X7_byteAt : okB yX7_byteAt cX7_byteAt 2 (some .int) 1 := ⟨ts_of (List.mem_of_getElem? (i := 810) (by decide +kernel)) rfl, ts_of (List.mem_of_getElem? (i := 61) (by decide +kernel)) rfl, by decide +kernel⟩
theorem kb_X7_personItem : okB yX7_personItem cX7_personItem 3 (some .boolean) 0 := ⟨ts_of (List.mem_of_getElem? (i := 814) (by decide +kernel)) rfl, ts_of (List.mem_of_getElem? (i := 61) (by decide +kernel)) rfl, by decide +kernel⟩
theorem kb_X7_figures : okB yX7_figures cX7_figures 6 (some .boolean) 2 := ⟨ts_of (List.mem_of_getElem? (i := 818) (by decide +kernel)) rfl, ts_of (List.mem_of_getElem? (i := 61) (by decide +kernel)) rfl, by decide +kernel⟩
theorem kb_X7_lay : okB yX7_lay cX7_lay 2 (some .int) 0 := ⟨ts_of (List.mem_of_getElem? (i := 828) (by decide +kernel)) rfl, ts_of (List.mem_of_getElem? (i := 61) (by decide +kernel)) rfl, by decide +kernel⟩
theorem kb_X7_person : okB yX7_person cX7_person 3 (some .int) 2 := ⟨ts_of (List.mem_of_getElem? (i := 832) (by decide +kernel)) rfl, ts_of (List.mem_of_getElem? (i := 61) (by decide +kernel)) rfl, by decide +kernel⟩
theorem kb_X7_isPerson : okB yX7_isPerson cX7_isPerson 2 (some .boolean) 1 := ⟨ts_of (List.mem_of_getElem? (i := 836) (by decide +kernel)) rfl, ts_of (List.mem_of_getElem? (i := 61) (by decide +kernel)) rfl, by decide +kernel⟩
theorem kb_X7_sayNow : okB yX7_sayNow cX7_sayNow 1 none 0 := ⟨ts_of (List.mem_of_getElem? (i := 841) (by decide +kernel)) rfl, ts_of (List.mem_of_getElem? (i := 61) (by decide +kernel)) rfl, by decide +kernel⟩
theorem kb_X7_laySaid : okB yX7_laySaid cX7_laySaid 10 none 3 := ⟨ts_of (List.mem_of_getElem? (i := 845) (by decide +kernel)) rfl, ts_of (List.mem_of_getElem? (i := 61) (by decide +kernel)) rfl, by decide +kernel⟩
theorem kb_X7_said : okB yX7_said cX7_said 3 (some .int) 2 := ⟨ts_of (List.mem_of_getElem? (i := 849) (by decide +kernel)) rfl, ts_of (List.mem_of_getElem? (i := 61) (by decide +kernel)) rfl, by decide +kernel⟩
theorem kb_X7_deed : okB yX7_deed cX7_deed 3 (some .int) 2 := ⟨ts_of (List.mem_of_getElem? (i := 854) (by decide +kernel)) rfl, ts_of (List.mem_of_getElem? (i := 61) (by decide +kernel)) rfl, by decide +kernel⟩
theorem kb_X7_doDeed : okB yX7_doDeed cX7_doDeed 3 (some .boolean) 2 := ⟨ts_of (List.mem_of_getElem? (i := 858) (by decide +kernel)) rfl, ts_of (List.mem_of_getElem? (i := 61) (by decide +kernel)) rfl, by decide +kernel⟩
theorem kb_X7_kind : okB yX7_kind cX7_kind 4 (some .int) 2 := ⟨ts_of (List.mem_of_getElem? (i := 862) (by decide +kernel)) rfl, ts_of (List.mem_of_getElem? (i := 61) (by decide +kernel)) rfl, by decide +kernel⟩
theorem kb_X7_cry : okB yX7_cry cX7_cry 2 (some .int) 1 := ⟨ts_of (List.mem_of_getElem? (i := 866) (by decide +kernel)) rfl, ts_of (List.mem_of_getElem? (i := 61) (by decide +kernel)) rfl, by decide +kernel⟩
theorem kb_X7_isSet : okB yX7_isSet cX7_isSet 2 (some .boolean) 1 := ⟨ts_of (List.mem_of_getElem? (i := 870) (by decide +kernel)) rfl, ts_of (List.mem_of_getElem? (i := 61) (by decide +kernel)) rfl, by decide +kernel⟩
theorem kb_X7_cryOf : okB yX7_cryOf cX7_cryOf 5 (some .int) 1 := ⟨ts_of (List.mem_of_getElem? (i := 874) (by decide +kernel)) rfl, ts_of (List.mem_of_getElem? (i := 61) (by decide +kernel)) rfl, by decide +kernel⟩
theorem kb_X7_has : okB yX7_has cX7_has 2 (some .boolean) 2 := ⟨ts_of (List.mem_of_getElem? (i := 877) (by decide +kernel)) rfl, ts_of (List.mem_of_getElem? (i := 61) (by decide +kernel)) rfl, by decide +kernel⟩
theorem kb_X7_warn : okB yX7_warn cX7_warn 4 (some .int) 2 := ⟨ts_of (List.mem_of_getElem? (i := 881) (by decide +kernel)) rfl, ts_of (List.mem_of_getElem? (i := 61) (by decide +kernel)) rfl, by decide +kernel⟩
theorem kb_X7_layWarning : okB yX7_layWarning cX7_layWarning 5 (some .int) 1 := ⟨ts_of (List.mem_of_getElem? (i := 886) (by decide +kernel)) rfl, ts_of (List.mem_of_getElem? (i := 61) (by decide +kernel)) rfl, by decide +kernel⟩
theorem kb_X7_isInTime : okB yX7_isInTime cX7_isInTime 4 (some .boolean) 3 := ⟨ts_of (List.mem_of_getElem? (i := 890) (by decide +kernel)) rfl, ts_of (List.mem_of_getElem? (i := 61) (by decide +kernel)) rfl, by decide +kernel⟩
theorem kb_X7_bits : okB yX7_bits cX7_bits 3 (some .int) 1 := ⟨ts_of (List.mem_of_getElem? (i := 893) (by decide +kernel)) rfl, ts_of (List.mem_of_getElem? (i := 61) (by decide +kernel)) rfl, by decide +kernel⟩
theorem kb_X7_called : okB yX7_called cX7_called 7 (some .int) 2 := ⟨ts_of (List.mem_of_getElem? (i := 897) (by decide +kernel)) rfl, ts_of (List.mem_of_getElem? (i := 61) (by decide +kernel)) rfl, by decide +kernel⟩
theorem kb_X7_layFollows : okB yX7_layFollows cX7_layFollows 6 none 2 := ⟨ts_of (List.mem_of_getElem? (i := 902) (by decide +kernel)) rfl, ts_of (List.mem_of_getElem? (i := 61) (by decide +kernel)) rfl, by decide +kernel⟩
theorem kb_X7_greet : okB yX7_greet cX7_greet 7 (some .int) 2 := ⟨ts_of (List.mem_of_getElem? (i := 906) (by decide +kernel)) rfl, ts_of (List.mem_of_getElem? (i := 61) (by decide +kernel)) rfl, by decide +kernel⟩
theorem kb_X7_layNeeds : okB yX7_layNeeds cX7_layNeeds 7 none 1 := ⟨ts_of (List.mem_of_getElem? (i := 911) (by decide +kernel)) rfl, ts_of (List.mem_of_getElem? (i := 61) (by decide +kernel)) rfl, by decide +kernel⟩
theorem kb_X7_mayGreet : okB yX7_mayGreet cX7_mayGreet 6 (some .boolean) 3 := ⟨ts_of (List.mem_of_getElem? (i := 915) (by decide +kernel)) rfl, ts_of (List.mem_of_getElem? (i := 61) (by decide +kernel)) rfl, by decide +kernel⟩
theorem kb_X7_breathsFor : okB yX7_breathsFor cX7_breathsFor 3 (some .int) 2 := ⟨ts_of (List.mem_of_getElem? (i := 919) (by decide +kernel)) rfl, ts_of (List.mem_of_getElem? (i := 61) (by decide +kernel)) rfl, by decide +kernel⟩
theorem kb_X7_roomBehind : okB yX7_roomBehind cX7_roomBehind 3 (some .int) 2 := ⟨ts_of (List.mem_of_getElem? (i := 923) (by decide +kernel)) rfl, ts_of (List.mem_of_getElem? (i := 61) (by decide +kernel)) rfl, by decide +kernel⟩
theorem kb_X7_shortCall : okB yX7_shortCall cX7_shortCall 3 (some .int) 2 := ⟨ts_of (List.mem_of_getElem? (i := 927) (by decide +kernel)) rfl, ts_of (List.mem_of_getElem? (i := 61) (by decide +kernel)) rfl, by decide +kernel⟩
theorem kb_X7_shortOf : okB yX7_shortOf cX7_shortOf 7 (some .int) 3 := ⟨ts_of (List.mem_of_getElem? (i := 931) (by decide +kernel)) rfl, ts_of (List.mem_of_getElem? (i := 61) (by decide +kernel)) rfl, by decide +kernel⟩
theorem kb_X7_answers : okB yX7_answers cX7_answers 6 (some .boolean) 3 := ⟨ts_of (List.mem_of_getElem? (i := 935) (by decide +kernel)) rfl, ts_of (List.mem_of_getElem? (i := 61) (by decide +kernel)) rfl, by decide +kernel⟩
theorem kb_X7_allShort : okB yX7_allShort cX7_allShort 2 (some .int) 1 := ⟨ts_of (List.mem_of_getElem? (i := 939) (by decide +kernel)) rfl, ts_of (List.mem_of_getElem? (i := 61) (by decide +kernel)) rfl, by decide +kernel⟩
theorem kb_X7_allShortOf : okB yX7_allShortOf cX7_allShortOf 6 (some .int) 2 := ⟨ts_of (List.mem_of_getElem? (i := 943) (by decide +kernel)) rfl, ts_of (List.mem_of_getElem? (i := 61) (by decide +kernel)) rfl, by decide +kernel⟩
theorem kb_X7_apart : okB yX7_apart cX7_apart 8 (some .int) 3 := ⟨ts_of (List.mem_of_getElem? (i := 947) (by decide +kernel)) rfl, ts_of (List.mem_of_getElem? (i := 61) (by decide +kernel)) rfl, by decide +kernel⟩
theorem kb_X7_hear : okB yX7_hear cX7_hear 2 (some .int) 1 := ⟨ts_of (List.mem_of_getElem? (i := 951) (by decide +kernel)) rfl, ts_of (List.mem_of_getElem? (i := 61) (by decide +kernel)) rfl, by decide +kernel⟩
theorem kb_X7_forget : okB yX7_forget cX7_forget 2 (some .int) 0 := ⟨ts_of (List.mem_of_getElem? (i := 955) (by decide +kernel)) rfl, ts_of (List.mem_of_getElem? (i := 61) (by decide +kernel)) rfl, by decide +kernel⟩
theorem kb_X7_odds : okB yX7_odds cX7_odds 11 (some .long) 2 := ⟨ts_of (List.mem_of_getElem? (i := 959) (by decide +kernel)) rfl, ts_of (List.mem_of_getElem? (i := 61) (by decide +kernel)) rfl, by decide +kernel⟩
theorem kb_X7_weightOf : okB yX7_weightOf cX7_weightOf 5 (some .long) 1 := ⟨ts_of (List.mem_of_getElem? (i := 963) (by decide +kernel)) rfl, ts_of (List.mem_of_getElem? (i := 61) (by decide +kernel)) rfl, by decide +kernel⟩
theorem kb_X7_meant : okB yX7_meant cX7_meant 4 (some .int) 0 := ⟨ts_of (List.mem_of_getElem? (i := 969) (by decide +kernel)) rfl, ts_of (List.mem_of_getElem? (i := 61) (by decide +kernel)) rfl, by decide +kernel⟩
theorem kb_X7_years : okB yX7_years cX7_years 8 (some .int) 3 := ⟨ts_of (List.mem_of_getElem? (i := 973) (by decide +kernel)) rfl, ts_of (List.mem_of_getElem? (i := 61) (by decide +kernel)) rfl, by decide +kernel⟩
theorem kb_X7_isHill : okB yX7_isHill cX7_isHill 2 (some .boolean) 2 := ⟨ts_of (List.mem_of_getElem? (i := 976) (by decide +kernel)) rfl, ts_of (List.mem_of_getElem? (i := 61) (by decide +kernel)) rfl, by decide +kernel⟩
theorem kb_X7_goYears : okB yX7_goYears cX7_goYears 8 none 2 := ⟨ts_of (List.mem_of_getElem? (i := 983) (by decide +kernel)) rfl, ts_of (List.mem_of_getElem? (i := 61) (by decide +kernel)) rfl, by decide +kernel⟩
theorem kb_X7_copy : okB yX7_copy cX7_copy 4 none 2 := ⟨ts_of (List.mem_of_getElem? (i := 987) (by decide +kernel)) rfl, ts_of (List.mem_of_getElem? (i := 61) (by decide +kernel)) rfl, by decide +kernel⟩
theorem kb_X7_then : okB yX7_then cX7_then 5 (some .int) 4 := ⟨ts_of (List.mem_of_getElem? (i := 995) (by decide +kernel)) rfl, ts_of (List.mem_of_getElem? (i := 61) (by decide +kernel)) rfl, by decide +kernel⟩
theorem kb_X7_keep : okB yX7_keep cX7_keep 1 (some .int) 0 := ⟨ts_of (List.mem_of_getElem? (i := 999) (by decide +kernel)) rfl, ts_of (List.mem_of_getElem? (i := 61) (by decide +kernel)) rfl, by decide +kernel⟩
theorem kb_X7_copyHeard : okB yX7_copyHeard cX7_copyHeard 4 none 2 := ⟨ts_of (List.mem_of_getElem? (i := 1003) (by decide +kernel)) rfl, ts_of (List.mem_of_getElem? (i := 61) (by decide +kernel)) rfl, by decide +kernel⟩
theorem kb_X7_back : okB yX7_back cX7_back 1 (some .int) 0 := ⟨ts_of (List.mem_of_getElem? (i := 1007) (by decide +kernel)) rfl, ts_of (List.mem_of_getElem? (i := 61) (by decide +kernel)) rfl, by decide +kernel⟩
theorem kb_X7_count : okB yX7_count cX7_count 2 (some .int) 1 := ⟨ts_of (List.mem_of_getElem? (i := 1011) (by decide +kernel)) rfl, ts_of (List.mem_of_getElem? (i := 61) (by decide +kernel)) rfl, by decide +kernel⟩
theorem kI_L_9 : okI RL 9 yX6_init cX6_init 1 0 := ⟨kb_X6_init, ts_of (List.mem_of_getElem? (i := 66) (by decide +kernel)) rfl, rfl, ts_of (List.mem_of_getElem? (i := 67) (by decide +kernel)) rfl⟩
theorem ml_X6_1 : Cond.methodLink RX6 1 objectInit ∈ TS := ts_of (List.mem_of_getElem? (i := 69) (by decide +kernel)) rfl
theorem kIN_X6_9 : okIN RX6 9 yX5_init cX5_init 1 0 := ⟨kb_X5_init, by decide +kernel, rfl, ts_of (List.mem_of_getElem? (i := 75) (by decide +kernel)) rfl⟩
theorem ml_X5_3 : Cond.methodLink RX5 3 objectInit ∈ TS := ts_of (List.mem_of_getElem? (i := 77) (by decide +kernel)) rfl
theorem fl_X5_9 : FL RX5 9 5 0 true (.array .byte) := ⟨RX5, TX5, 4, tyX5, rfl, by decide, itX5, tyX5_ok, nmX5, ts_of (List.mem_of_getElem? (i := 78) (by decide +kernel)) rfl, rfl, rfl, rfl⟩
theorem fl_X5_15 : FL RX5 15 5 1 false (.int) := ⟨RX5, TX5, 4, tyX5, rfl, by decide, itX5, tyX5_ok, nmX5, ts_of (List.mem_of_getElem? (i := 79) (by decide +kernel)) rfl, rfl, rfl, rfl⟩
theorem fl_X6_85 : FL RX6 85 5 1 false (.int) := ⟨RX5, TX5, 4, tyX5, rfl, by decide, itX5, tyX5_ok, nmX5, ts_of (List.mem_of_getElem? (i := 80) (by decide +kernel)) rfl, rfl, rfl, rfl⟩
theorem fl_X5_19 : FL RX5 19 5 2 false (.int) := ⟨RX5, TX5, 4, tyX5, rfl, by decide, itX5, tyX5_ok, nmX5, ts_of (List.mem_of_getElem? (i := 81) (by decide +kernel)) rfl, rfl, rfl, rfl⟩
theorem fl_X5_22 : FL RX5 22 5 3 true (.array .int) := ⟨RX5, TX5, 4, tyX5, rfl, by decide, itX5, tyX5_ok, nmX5, ts_of (List.mem_of_getElem? (i := 82) (by decide +kernel)) rfl, rfl, rfl, rfl⟩
theorem kI_X6_18 : okI RX6 18 yX2_init cX2_init 1 0 := ⟨kb_X2_init, ts_of (List.mem_of_getElem? (i := 96) (by decide +kernel)) rfl, rfl, ts_of (List.mem_of_getElem? (i := 97) (by decide +kernel)) rfl⟩
theorem ml_X2_3 : Cond.methodLink RX2 3 objectInit ∈ TS := ts_of (List.mem_of_getElem? (i := 99) (by decide +kernel)) rfl
theorem kIN_X2_11 : okIN RX2 11 yX4_init cX4_init 1 0 := ⟨kb_X4_init, by decide +kernel, rfl, ts_of (List.mem_of_getElem? (i := 103) (by decide +kernel)) rfl⟩
theorem ml_X4_3 : Cond.methodLink RX4 3 objectInit ∈ TS := ts_of (List.mem_of_getElem? (i := 105) (by decide +kernel)) rfl
theorem fl_X4_9 : FL RX4 9 4 0 true (.array .int) := ⟨RX4, TX4, 4, tyX4, rfl, by decide, itX4, tyX4_ok, nmX4, ts_of (List.mem_of_getElem? (i := 106) (by decide +kernel)) rfl, rfl, rfl, rfl⟩
theorem fl_X4_15 : FL RX4 15 4 1 true (.array .int) := ⟨RX4, TX4, 4, tyX4, rfl, by decide, itX4, tyX4_ok, nmX4, ts_of (List.mem_of_getElem? (i := 107) (by decide +kernel)) rfl, rfl, rfl, rfl⟩
theorem fl_X4_18 : FL RX4 18 4 2 true (.array .int) := ⟨RX4, TX4, 4, tyX4, rfl, by decide, itX4, tyX4_ok, nmX4, ts_of (List.mem_of_getElem? (i := 108) (by decide +kernel)) rfl, rfl, rfl, rfl⟩
theorem fl_X4_21 : FL RX4 21 4 3 false (.int) := ⟨RX4, TX4, 4, tyX4, rfl, by decide, itX4, tyX4_ok, nmX4, ts_of (List.mem_of_getElem? (i := 109) (by decide +kernel)) rfl, rfl, rfl, rfl⟩
theorem fl_X1_53 : FL RX1 53 4 3 false (.int) := ⟨RX4, TX4, 4, tyX4, rfl, by decide, itX4, tyX4_ok, nmX4, ts_of (List.mem_of_getElem? (i := 110) (by decide +kernel)) rfl, rfl, rfl, rfl⟩
theorem fl_X2_38 : FL RX2 38 4 3 false (.int) := ⟨RX4, TX4, 4, tyX4, rfl, by decide, itX4, tyX4_ok, nmX4, ts_of (List.mem_of_getElem? (i := 111) (by decide +kernel)) rfl, rfl, rfl, rfl⟩
theorem fl_X6_92 : FL RX6 92 4 3 false (.int) := ⟨RX4, TX4, 4, tyX4, rfl, by decide, itX4, tyX4_ok, nmX4, ts_of (List.mem_of_getElem? (i := 112) (by decide +kernel)) rfl, rfl, rfl, rfl⟩
theorem kV_X2_35 : okV RX2 35 yX2_empty cX2_empty 2 none 0 := ⟨kb_X2_empty, ts_of (List.mem_of_getElem? (i := 122) (by decide +kernel)) rfl, ts_of (List.mem_of_getElem? (i := 123) (by decide +kernel)) rfl, ts_of (List.mem_of_getElem? (i := 124) (by decide +kernel)) rfl⟩
theorem fl_X2_12 : FL RX2 12 2 0 true (.object "DeedNames$Names") := ⟨RX2, TX2, 9, tyX2, rfl, by decide, itX2, tyX2_ok, nmX2, ts_of (List.mem_of_getElem? (i := 126) (by decide +kernel)) rfl, rfl, rfl, rfl⟩
theorem fl_X6_68 : FL RX6 68 2 0 true (.object "DeedNames$Names") := ⟨RX2, TX2, 9, tyX2, rfl, by decide, itX2, tyX2_ok, nmX2, ts_of (List.mem_of_getElem? (i := 127) (by decide +kernel)) rfl, rfl, rfl, rfl⟩
theorem fl_X2_18 : FL RX2 18 2 1 true (.array .int) := ⟨RX2, TX2, 9, tyX2, rfl, by decide, itX2, tyX2_ok, nmX2, ts_of (List.mem_of_getElem? (i := 128) (by decide +kernel)) rfl, rfl, rfl, rfl⟩
theorem fl_X2_22 : FL RX2 22 2 2 true (.array .int) := ⟨RX2, TX2, 9, tyX2, rfl, by decide, itX2, tyX2_ok, nmX2, ts_of (List.mem_of_getElem? (i := 129) (by decide +kernel)) rfl, rfl, rfl, rfl⟩
theorem fl_X2_25 : FL RX2 25 2 3 true (.array .int) := ⟨RX2, TX2, 9, tyX2, rfl, by decide, itX2, tyX2_ok, nmX2, ts_of (List.mem_of_getElem? (i := 130) (by decide +kernel)) rfl, rfl, rfl, rfl⟩
theorem fl_X5_68 : FL RX5 68 2 3 true (.array .int) := ⟨RX2, TX2, 9, tyX2, rfl, by decide, itX2, tyX2_ok, nmX2, ts_of (List.mem_of_getElem? (i := 131) (by decide +kernel)) rfl, rfl, rfl, rfl⟩
theorem fl_X2_28 : FL RX2 28 2 4 true (.array .boolean) := ⟨RX2, TX2, 9, tyX2, rfl, by decide, itX2, tyX2_ok, nmX2, ts_of (List.mem_of_getElem? (i := 132) (by decide +kernel)) rfl, rfl, rfl, rfl⟩
theorem fl_X5_71 : FL RX5 71 2 4 true (.array .boolean) := ⟨RX2, TX2, 9, tyX2, rfl, by decide, itX2, tyX2_ok, nmX2, ts_of (List.mem_of_getElem? (i := 133) (by decide +kernel)) rfl, rfl, rfl, rfl⟩
theorem fl_X2_32 : FL RX2 32 2 5 true (.array .int) := ⟨RX2, TX2, 9, tyX2, rfl, by decide, itX2, tyX2_ok, nmX2, ts_of (List.mem_of_getElem? (i := 134) (by decide +kernel)) rfl, rfl, rfl, rfl⟩
theorem fl_X5_75 : FL RX5 75 2 5 true (.array .int) := ⟨RX2, TX2, 9, tyX2, rfl, by decide, itX2, tyX2_ok, nmX2, ts_of (List.mem_of_getElem? (i := 135) (by decide +kernel)) rfl, rfl, rfl, rfl⟩
theorem fl_X1_62 : FL RX1 62 2 6 false (.int) := ⟨RX2, TX2, 9, tyX2, rfl, by decide, itX2, tyX2_ok, nmX2, ts_of (List.mem_of_getElem? (i := 136) (by decide +kernel)) rfl, rfl, rfl, rfl⟩
theorem fl_X2_42 : FL RX2 42 2 6 false (.int) := ⟨RX2, TX2, 9, tyX2, rfl, by decide, itX2, tyX2_ok, nmX2, ts_of (List.mem_of_getElem? (i := 137) (by decide +kernel)) rfl, rfl, rfl, rfl⟩
theorem fl_X5_78 : FL RX5 78 2 6 false (.int) := ⟨RX2, TX2, 9, tyX2, rfl, by decide, itX2, tyX2_ok, nmX2, ts_of (List.mem_of_getElem? (i := 138) (by decide +kernel)) rfl, rfl, rfl, rfl⟩
theorem fl_X6_231 : FL RX6 231 2 6 false (.int) := ⟨RX2, TX2, 9, tyX2, rfl, by decide, itX2, tyX2_ok, nmX2, ts_of (List.mem_of_getElem? (i := 139) (by decide +kernel)) rfl, rfl, rfl, rfl⟩
theorem fl_X1_65 : FL RX1 65 2 7 false (.int) := ⟨RX2, TX2, 9, tyX2, rfl, by decide, itX2, tyX2_ok, nmX2, ts_of (List.mem_of_getElem? (i := 140) (by decide +kernel)) rfl, rfl, rfl, rfl⟩
theorem fl_X2_45 : FL RX2 45 2 7 false (.int) := ⟨RX2, TX2, 9, tyX2, rfl, by decide, itX2, tyX2_ok, nmX2, ts_of (List.mem_of_getElem? (i := 141) (by decide +kernel)) rfl, rfl, rfl, rfl⟩
theorem fl_X5_81 : FL RX5 81 2 7 false (.int) := ⟨RX2, TX2, 9, tyX2, rfl, by decide, itX2, tyX2_ok, nmX2, ts_of (List.mem_of_getElem? (i := 142) (by decide +kernel)) rfl, rfl, rfl, rfl⟩
theorem fl_X6_234 : FL RX6 234 2 7 false (.int) := ⟨RX2, TX2, 9, tyX2, rfl, by decide, itX2, tyX2_ok, nmX2, ts_of (List.mem_of_getElem? (i := 143) (by decide +kernel)) rfl, rfl, rfl, rfl⟩
theorem fl_X2_48 : FL RX2 48 2 8 false (.int) := ⟨RX2, TX2, 9, tyX2, rfl, by decide, itX2, tyX2_ok, nmX2, ts_of (List.mem_of_getElem? (i := 144) (by decide +kernel)) rfl, rfl, rfl, rfl⟩
theorem fl_X5_84 : FL RX5 84 2 8 false (.int) := ⟨RX2, TX2, 9, tyX2, rfl, by decide, itX2, tyX2_ok, nmX2, ts_of (List.mem_of_getElem? (i := 145) (by decide +kernel)) rfl, rfl, rfl, rfl⟩
theorem fl_X6_237 : FL RX6 237 2 8 false (.int) := ⟨RX2, TX2, 9, tyX2, rfl, by decide, itX2, tyX2_ok, nmX2, ts_of (List.mem_of_getElem? (i := 146) (by decide +kernel)) rfl, rfl, rfl, rfl⟩
theorem kIN_X6_28 : okIN RX6 28 yX3_init cX3_init 1 0 := ⟨kb_X3_init, by decide +kernel, rfl, ts_of (List.mem_of_getElem? (i := 170) (by decide +kernel)) rfl⟩
theorem ml_X3_1 : Cond.methodLink RX3 1 objectInit ∈ TS := ts_of (List.mem_of_getElem? (i := 172) (by decide +kernel)) rfl
theorem kIN_X3_9 : okIN RX3 9 yX4_init cX4_init 1 0 := ⟨kb_X4_init, by decide +kernel, rfl, ts_of (List.mem_of_getElem? (i := 103) (by decide +kernel)) rfl⟩
theorem kIN_X3_18 : okIN RX3 18 yX0_init cX0_init 1 0 := ⟨kb_X0_init, by decide +kernel, rfl, ts_of (List.mem_of_getElem? (i := 178) (by decide +kernel)) rfl⟩
theorem ml_X0_3 : Cond.methodLink RX0 3 objectInit ∈ TS := ts_of (List.mem_of_getElem? (i := 180) (by decide +kernel)) rfl
theorem fl_X0_9 : FL RX0 9 0 0 true (.array .int) := ⟨RX0, TX0, 2, tyX0, rfl, by decide, itX0, tyX0_ok, nmX0, ts_of (List.mem_of_getElem? (i := 181) (by decide +kernel)) rfl, rfl, rfl, rfl⟩
theorem fl_X0_15 : FL RX0 15 0 1 false (.int) := ⟨RX0, TX0, 2, tyX0, rfl, by decide, itX0, tyX0_ok, nmX0, ts_of (List.mem_of_getElem? (i := 182) (by decide +kernel)) rfl, rfl, rfl, rfl⟩
theorem fl_X6_189 : FL RX6 189 0 1 false (.int) := ⟨RX0, TX0, 2, tyX0, rfl, by decide, itX0, tyX0_ok, nmX0, ts_of (List.mem_of_getElem? (i := 183) (by decide +kernel)) rfl, rfl, rfl, rfl⟩
theorem fl_X3_10 : FL RX3 10 3 0 true (.object "DeedNames$Names") := ⟨RX3, TX3, 2, tyX3, rfl, by decide, itX3, tyX3_ok, nmX3, ts_of (List.mem_of_getElem? (i := 189) (by decide +kernel)) rfl, rfl, rfl, rfl⟩
theorem fl_X6_65 : FL RX6 65 3 0 true (.object "DeedNames$Names") := ⟨RX3, TX3, 2, tyX3, rfl, by decide, itX3, tyX3_ok, nmX3, ts_of (List.mem_of_getElem? (i := 190) (by decide +kernel)) rfl, rfl, rfl, rfl⟩
theorem fl_X3_19 : FL RX3 19 3 1 true (.object "DeedNames$Ear") := ⟨RX3, TX3, 2, tyX3, rfl, by decide, itX3, tyX3_ok, nmX3, ts_of (List.mem_of_getElem? (i := 191) (by decide +kernel)) rfl, rfl, rfl, rfl⟩
theorem fl_X6_95 : FL RX6 95 3 1 true (.object "DeedNames$Ear") := ⟨RX3, TX3, 2, tyX3, rfl, by decide, itX3, tyX3_ok, nmX3, ts_of (List.mem_of_getElem? (i := 192) (by decide +kernel)) rfl, rfl, rfl, rfl⟩
theorem kIN_X6_45 : okIN RX6 45 yX1_init cX1_init 1 0 := ⟨kb_X1_init, by decide +kernel, rfl, ts_of (List.mem_of_getElem? (i := 201) (by decide +kernel)) rfl⟩
theorem ml_X1_3 : Cond.methodLink RX1 3 objectInit ∈ TS := ts_of (List.mem_of_getElem? (i := 203) (by decide +kernel)) rfl
theorem fl_X1_9 : FL RX1 9 1 0 false (.int) := ⟨RX1, TX1, 13, tyX1, rfl, by decide, itX1, tyX1_ok, nmX1, ts_of (List.mem_of_getElem? (i := 204) (by decide +kernel)) rfl, rfl, rfl, rfl⟩
theorem fl_X1_15 : FL RX1 15 1 1 false (.int) := ⟨RX1, TX1, 13, tyX1, rfl, by decide, itX1, tyX1_ok, nmX1, ts_of (List.mem_of_getElem? (i := 205) (by decide +kernel)) rfl, rfl, rfl, rfl⟩
theorem fl_X1_18 : FL RX1 18 1 2 false (.int) := ⟨RX1, TX1, 13, tyX1, rfl, by decide, itX1, tyX1_ok, nmX1, ts_of (List.mem_of_getElem? (i := 206) (by decide +kernel)) rfl, rfl, rfl, rfl⟩
theorem fl_X1_21 : FL RX1 21 1 3 true (.array .int) := ⟨RX1, TX1, 13, tyX1, rfl, by decide, itX1, tyX1_ok, nmX1, ts_of (List.mem_of_getElem? (i := 207) (by decide +kernel)) rfl, rfl, rfl, rfl⟩
theorem fl_X1_25 : FL RX1 25 1 4 true (.array .int) := ⟨RX1, TX1, 13, tyX1, rfl, by decide, itX1, tyX1_ok, nmX1, ts_of (List.mem_of_getElem? (i := 208) (by decide +kernel)) rfl, rfl, rfl, rfl⟩
theorem fl_X1_28 : FL RX1 28 1 5 true (.array .int) := ⟨RX1, TX1, 13, tyX1, rfl, by decide, itX1, tyX1_ok, nmX1, ts_of (List.mem_of_getElem? (i := 209) (by decide +kernel)) rfl, rfl, rfl, rfl⟩
theorem fl_X1_31 : FL RX1 31 1 6 true (.array .int) := ⟨RX1, TX1, 13, tyX1, rfl, by decide, itX1, tyX1_ok, nmX1, ts_of (List.mem_of_getElem? (i := 210) (by decide +kernel)) rfl, rfl, rfl, rfl⟩
theorem fl_X1_34 : FL RX1 34 1 7 true (.array .int) := ⟨RX1, TX1, 13, tyX1, rfl, by decide, itX1, tyX1_ok, nmX1, ts_of (List.mem_of_getElem? (i := 211) (by decide +kernel)) rfl, rfl, rfl, rfl⟩
theorem fl_X1_37 : FL RX1 37 1 8 true (.array .boolean) := ⟨RX1, TX1, 13, tyX1, rfl, by decide, itX1, tyX1_ok, nmX1, ts_of (List.mem_of_getElem? (i := 212) (by decide +kernel)) rfl, rfl, rfl, rfl⟩
theorem fl_X1_41 : FL RX1 41 1 9 true (.array .int) := ⟨RX1, TX1, 13, tyX1, rfl, by decide, itX1, tyX1_ok, nmX1, ts_of (List.mem_of_getElem? (i := 213) (by decide +kernel)) rfl, rfl, rfl, rfl⟩
theorem fl_X1_44 : FL RX1 44 1 10 true (.array .int) := ⟨RX1, TX1, 13, tyX1, rfl, by decide, itX1, tyX1_ok, nmX1, ts_of (List.mem_of_getElem? (i := 214) (by decide +kernel)) rfl, rfl, rfl, rfl⟩
theorem fl_X1_47 : FL RX1 47 1 11 true (.array .int) := ⟨RX1, TX1, 13, tyX1, rfl, by decide, itX1, tyX1_ok, nmX1, ts_of (List.mem_of_getElem? (i := 215) (by decide +kernel)) rfl, rfl, rfl, rfl⟩
theorem fl_X1_50 : FL RX1 50 1 12 false (.int) := ⟨RX1, TX1, 13, tyX1, rfl, by decide, itX1, tyX1_ok, nmX1, ts_of (List.mem_of_getElem? (i := 216) (by decide +kernel)) rfl, rfl, rfl, rfl⟩
theorem kIN_X6_52 : okIN RX6 52 yX4_init cX4_init 1 0 := ⟨kb_X4_init, by decide +kernel, rfl, ts_of (List.mem_of_getElem? (i := 103) (by decide +kernel)) rfl⟩
theorem kV_X6_61 : okV RX6 61 yX2_settle cX2_settle 7 (some .boolean) 5 := ⟨kb_X2_settle, ts_of (List.mem_of_getElem? (i := 248) (by decide +kernel)) rfl, ts_of (List.mem_of_getElem? (i := 249) (by decide +kernel)) rfl, ts_of (List.mem_of_getElem? (i := 250) (by decide +kernel)) rfl⟩
theorem kSN_X2_51 : okSN RX2 51 yX6_within cX6_within 3 (some .boolean) 3 := ⟨kb_X6_within, by decide +kernel, ts_of (List.mem_of_getElem? (i := 253) (by decide +kernel)) rfl⟩
theorem kV_X2_55 : okV RX2 55 yX4_enter cX4_enter 6 (some .boolean) 3 := ⟨kb_X4_enter, ts_of (List.mem_of_getElem? (i := 255) (by decide +kernel)) rfl, ts_of (List.mem_of_getElem? (i := 256) (by decide +kernel)) rfl, ts_of (List.mem_of_getElem? (i := 257) (by decide +kernel)) rfl⟩
theorem kV_X4_35 : okV RX4 35 yX4_gain cX4_gain 3 (some .boolean) 2 := ⟨kb_X4_gain, ts_of (List.mem_of_getElem? (i := 259) (by decide +kernel)) rfl, ts_of (List.mem_of_getElem? (i := 260) (by decide +kernel)) rfl, ts_of (List.mem_of_getElem? (i := 261) (by decide +kernel)) rfl⟩
theorem kV_X4_39 : okV RX4 39 yX4_has cX4_has 2 (some .boolean) 1 := ⟨kb_X4_has, ts_of (List.mem_of_getElem? (i := 263) (by decide +kernel)) rfl, ts_of (List.mem_of_getElem? (i := 264) (by decide +kernel)) rfl, ts_of (List.mem_of_getElem? (i := 265) (by decide +kernel)) rfl⟩
theorem kSN_X4_31 : okSN RX4 31 yX6_within cX6_within 3 (some .boolean) 3 := ⟨kb_X6_within, by decide +kernel, ts_of (List.mem_of_getElem? (i := 253) (by decide +kernel)) rfl⟩
theorem kV_X6_69 : okV RX6 69 yX4_copyFrom cX4_copyFrom 2 none 1 := ⟨kb_X4_copyFrom, ts_of (List.mem_of_getElem? (i := 268) (by decide +kernel)) rfl, ts_of (List.mem_of_getElem? (i := 269) (by decide +kernel)) rfl, ts_of (List.mem_of_getElem? (i := 270) (by decide +kernel)) rfl⟩
theorem ml_X4_25 : Cond.methodLink RX4 25 arraycopyName ∈ TS := ts_of (List.mem_of_getElem? (i := 272) (by decide +kernel)) rfl
theorem fl_X6_10 : FL RX6 10 6 0 true (.object "DeedNames$Scroll") := ⟨RX6, TX6, 9, tyX6, rfl, by decide, itX6, tyX6_ok, nmX6, ts_of (List.mem_of_getElem? (i := 275) (by decide +kernel)) rfl, rfl, rfl, rfl⟩
theorem fl_X6_19 : FL RX6 19 6 1 false (.object "DeedNames$Hill") := ⟨RX6, TX6, 9, tyX6, rfl, by decide, itX6, tyX6_ok, nmX6, ts_of (List.mem_of_getElem? (i := 276) (by decide +kernel)) rfl, rfl, rfl, rfl⟩
theorem fl_X6_23 : FL RX6 23 6 2 false (.object "DeedNames$Hill") := ⟨RX6, TX6, 9, tyX6, rfl, by decide, itX6, tyX6_ok, nmX6, ts_of (List.mem_of_getElem? (i := 277) (by decide +kernel)) rfl, rfl, rfl, rfl⟩
theorem fl_X6_29 : FL RX6 29 6 3 true (.object "DeedNames$Memory") := ⟨RX6, TX6, 9, tyX6, rfl, by decide, itX6, tyX6_ok, nmX6, ts_of (List.mem_of_getElem? (i := 278) (by decide +kernel)) rfl, rfl, rfl, rfl⟩
theorem fl_X6_33 : FL RX6 33 6 4 true (.object "DeedNames$Memory") := ⟨RX6, TX6, 9, tyX6, rfl, by decide, itX6, tyX6_ok, nmX6, ts_of (List.mem_of_getElem? (i := 279) (by decide +kernel)) rfl, rfl, rfl, rfl⟩
theorem fl_X6_36 : FL RX6 36 6 5 true (.object "DeedNames$Memory") := ⟨RX6, TX6, 9, tyX6, rfl, by decide, itX6, tyX6_ok, nmX6, ts_of (List.mem_of_getElem? (i := 280) (by decide +kernel)) rfl, rfl, rfl, rfl⟩
theorem fl_X6_39 : FL RX6 39 6 6 false (.int) := ⟨RX6, TX6, 9, tyX6, rfl, by decide, itX6, tyX6_ok, nmX6, ts_of (List.mem_of_getElem? (i := 281) (by decide +kernel)) rfl, rfl, rfl, rfl⟩
theorem fl_X6_46 : FL RX6 46 6 7 true (.object "DeedNames$Herald") := ⟨RX6, TX6, 9, tyX6, rfl, by decide, itX6, tyX6_ok, nmX6, ts_of (List.mem_of_getElem? (i := 282) (by decide +kernel)) rfl, rfl, rfl, rfl⟩
theorem fl_X6_53 : FL RX6 53 6 8 true (.object "DeedNames$Names") := ⟨RX6, TX6, 9, tyX6, rfl, by decide, itX6, tyX6_ok, nmX6, ts_of (List.mem_of_getElem? (i := 283) (by decide +kernel)) rfl, rfl, rfl, rfl⟩
theorem kV_L_15 : okV RL 15 yX6_write cX6_write 4 (some .int) 2 := ⟨kb_X6_write, ts_of (List.mem_of_getElem? (i := 303) (by decide +kernel)) rfl, ts_of (List.mem_of_getElem? (i := 304) (by decide +kernel)) rfl, ts_of (List.mem_of_getElem? (i := 305) (by decide +kernel)) rfl⟩
theorem kS_X6_73 : okS RX6 73 yX6_within cX6_within 3 (some .boolean) 3 := ⟨kb_X6_within, ts_of (List.mem_of_getElem? (i := 307) (by decide +kernel)) rfl, ts_of (List.mem_of_getElem? (i := 253) (by decide +kernel)) rfl⟩
theorem kV_X6_77 : okV RX6 77 yX5_hasRoom cX5_hasRoom 2 (some .boolean) 1 := ⟨kb_X5_hasRoom, ts_of (List.mem_of_getElem? (i := 308) (by decide +kernel)) rfl, ts_of (List.mem_of_getElem? (i := 309) (by decide +kernel)) rfl, ts_of (List.mem_of_getElem? (i := 310) (by decide +kernel)) rfl⟩
theorem kV_X6_81 : okV RX6 81 yX5_put cX5_put 5 none 2 := ⟨kb_X5_put, ts_of (List.mem_of_getElem? (i := 312) (by decide +kernel)) rfl, ts_of (List.mem_of_getElem? (i := 313) (by decide +kernel)) rfl, ts_of (List.mem_of_getElem? (i := 314) (by decide +kernel)) rfl⟩
theorem kV_L_20 : okV RL 20 yX6_wipe cX6_wipe 2 (some .int) 0 := ⟨kb_X6_wipe, ts_of (List.mem_of_getElem? (i := 316) (by decide +kernel)) rfl, ts_of (List.mem_of_getElem? (i := 317) (by decide +kernel)) rfl, ts_of (List.mem_of_getElem? (i := 318) (by decide +kernel)) rfl⟩
theorem kV_L_25 : okV RL 25 yX6_fault cX6_fault 1 (some .int) 0 := ⟨kb_X6_fault, ts_of (List.mem_of_getElem? (i := 320) (by decide +kernel)) rfl, ts_of (List.mem_of_getElem? (i := 321) (by decide +kernel)) rfl, ts_of (List.mem_of_getElem? (i := 322) (by decide +kernel)) rfl⟩
theorem kV_X6_88 : okV RX6 88 yX5_readInto cX5_readInto 4 (some .int) 1 := ⟨kb_X5_readInto, ts_of (List.mem_of_getElem? (i := 324) (by decide +kernel)) rfl, ts_of (List.mem_of_getElem? (i := 325) (by decide +kernel)) rfl, ts_of (List.mem_of_getElem? (i := 326) (by decide +kernel)) rfl⟩
theorem kV_X5_26 : okV RX5 26 yX2_empty cX2_empty 2 none 0 := ⟨kb_X2_empty, ts_of (List.mem_of_getElem? (i := 328) (by decide +kernel)) rfl, ts_of (List.mem_of_getElem? (i := 123) (by decide +kernel)) rfl, ts_of (List.mem_of_getElem? (i := 124) (by decide +kernel)) rfl⟩
theorem kV_X5_31 : okV RX5 31 yX5_readItem cX5_readItem 3 (some .boolean) 1 := ⟨kb_X5_readItem, ts_of (List.mem_of_getElem? (i := 329) (by decide +kernel)) rfl, ts_of (List.mem_of_getElem? (i := 331) (by decide +kernel)) rfl, ts_of (List.mem_of_getElem? (i := 0) (by decide +kernel)) rfl⟩
theorem kV_X5_35 : okV RX5 35 yX5_here cX5_here 1 (some .int) 0 := ⟨kb_X5_here, ts_of (List.mem_of_getElem? (i := 333) (by decide +kernel)) rfl, ts_of (List.mem_of_getElem? (i := 335) (by decide +kernel)) rfl, ts_of (List.mem_of_getElem? (i := 1) (by decide +kernel)) rfl⟩
theorem kSN_X5_87 : okSN RX5 87 yX6_within cX6_within 3 (some .boolean) 3 := ⟨kb_X6_within, by decide +kernel, ts_of (List.mem_of_getElem? (i := 253) (by decide +kernel)) rfl⟩
theorem kV_X5_39 : okV RX5 39 yX5_readPerson cX5_readPerson 6 (some .boolean) 1 := ⟨kb_X5_readPerson, ts_of (List.mem_of_getElem? (i := 338) (by decide +kernel)) rfl, ts_of (List.mem_of_getElem? (i := 340) (by decide +kernel)) rfl, ts_of (List.mem_of_getElem? (i := 2) (by decide +kernel)) rfl⟩
theorem kV_X5_57 : okV RX5 57 yX5_number cX5_number 6 (some .int) 3 := ⟨kb_X5_number, ts_of (List.mem_of_getElem? (i := 342) (by decide +kernel)) rfl, ts_of (List.mem_of_getElem? (i := 344) (by decide +kernel)) rfl, ts_of (List.mem_of_getElem? (i := 3) (by decide +kernel)) rfl⟩
theorem kV_X5_61 : okV RX5 61 yX5_readName cX5_readName 2 (some .int) 0 := ⟨kb_X5_readName, ts_of (List.mem_of_getElem? (i := 346) (by decide +kernel)) rfl, ts_of (List.mem_of_getElem? (i := 348) (by decide +kernel)) rfl, ts_of (List.mem_of_getElem? (i := 4) (by decide +kernel)) rfl⟩
theorem kV_X5_64 : okV RX5 64 yX2_settle cX2_settle 7 (some .boolean) 5 := ⟨kb_X2_settle, ts_of (List.mem_of_getElem? (i := 350) (by decide +kernel)) rfl, ts_of (List.mem_of_getElem? (i := 249) (by decide +kernel)) rfl, ts_of (List.mem_of_getElem? (i := 250) (by decide +kernel)) rfl⟩
theorem kV_X5_42 : okV RX5 42 yX5_readWorth cX5_readWorth 4 (some .boolean) 1 := ⟨kb_X5_readWorth, ts_of (List.mem_of_getElem? (i := 351) (by decide +kernel)) rfl, ts_of (List.mem_of_getElem? (i := 353) (by decide +kernel)) rfl, ts_of (List.mem_of_getElem? (i := 5) (by decide +kernel)) rfl⟩
theorem kV_X5_45 : okV RX5 45 yX5_readShame cX5_readShame 3 (some .boolean) 1 := ⟨kb_X5_readShame, ts_of (List.mem_of_getElem? (i := 355) (by decide +kernel)) rfl, ts_of (List.mem_of_getElem? (i := 357) (by decide +kernel)) rfl, ts_of (List.mem_of_getElem? (i := 6) (by decide +kernel)) rfl⟩
theorem kV_X5_48 : okV RX5 48 yX5_readBeats cX5_readBeats 4 (some .boolean) 1 := ⟨kb_X5_readBeats, ts_of (List.mem_of_getElem? (i := 359) (by decide +kernel)) rfl, ts_of (List.mem_of_getElem? (i := 361) (by decide +kernel)) rfl, ts_of (List.mem_of_getElem? (i := 7) (by decide +kernel)) rfl⟩
theorem kV_X5_51 : okV RX5 51 yX5_readBreath cX5_readBreath 4 (some .boolean) 1 := ⟨kb_X5_readBreath, ts_of (List.mem_of_getElem? (i := 363) (by decide +kernel)) rfl, ts_of (List.mem_of_getElem? (i := 365) (by decide +kernel)) rfl, ts_of (List.mem_of_getElem? (i := 8) (by decide +kernel)) rfl⟩
theorem kV_X5_54 : okV RX5 54 yX5_readMisheard cX5_readMisheard 3 (some .boolean) 1 := ⟨kb_X5_readMisheard, ts_of (List.mem_of_getElem? (i := 367) (by decide +kernel)) rfl, ts_of (List.mem_of_getElem? (i := 369) (by decide +kernel)) rfl, ts_of (List.mem_of_getElem? (i := 9) (by decide +kernel)) rfl⟩
theorem kV_L_29 : okV RL 29 yX6_lay cX6_lay 2 (some .int) 0 := ⟨kb_X6_lay, ts_of (List.mem_of_getElem? (i := 371) (by decide +kernel)) rfl, ts_of (List.mem_of_getElem? (i := 372) (by decide +kernel)) rfl, ts_of (List.mem_of_getElem? (i := 373) (by decide +kernel)) rfl⟩
theorem kV_X6_99 : okV RX6 99 yX0_empty cX0_empty 1 none 0 := ⟨kb_X0_empty, ts_of (List.mem_of_getElem? (i := 375) (by decide +kernel)) rfl, ts_of (List.mem_of_getElem? (i := 376) (by decide +kernel)) rfl, ts_of (List.mem_of_getElem? (i := 377) (by decide +kernel)) rfl⟩
theorem kV_L_33 : okV RL 33 yX6_person cX6_person 3 (some .int) 2 := ⟨kb_X6_person, ts_of (List.mem_of_getElem? (i := 379) (by decide +kernel)) rfl, ts_of (List.mem_of_getElem? (i := 380) (by decide +kernel)) rfl, ts_of (List.mem_of_getElem? (i := 381) (by decide +kernel)) rfl⟩
theorem kV_X6_104 : okV RX6 104 yX4_has cX4_has 2 (some .boolean) 1 := ⟨kb_X4_has, ts_of (List.mem_of_getElem? (i := 383) (by decide +kernel)) rfl, ts_of (List.mem_of_getElem? (i := 264) (by decide +kernel)) rfl, ts_of (List.mem_of_getElem? (i := 265) (by decide +kernel)) rfl⟩
theorem kV_X6_107 : okV RX6 107 yX4_kindOf cX4_kindOf 2 (some .int) 1 := ⟨kb_X4_kindOf, ts_of (List.mem_of_getElem? (i := 384) (by decide +kernel)) rfl, ts_of (List.mem_of_getElem? (i := 385) (by decide +kernel)) rfl, ts_of (List.mem_of_getElem? (i := 386) (by decide +kernel)) rfl⟩
theorem kV_X6_111 : okV RX6 111 yX2_pacesOf cX2_pacesOf 2 (some .int) 1 := ⟨kb_X2_pacesOf, ts_of (List.mem_of_getElem? (i := 388) (by decide +kernel)) rfl, ts_of (List.mem_of_getElem? (i := 389) (by decide +kernel)) rfl, ts_of (List.mem_of_getElem? (i := 390) (by decide +kernel)) rfl⟩
theorem kV_X2_59 : okV RX2 59 yX4_has cX4_has 2 (some .boolean) 1 := ⟨kb_X4_has, ts_of (List.mem_of_getElem? (i := 392) (by decide +kernel)) rfl, ts_of (List.mem_of_getElem? (i := 264) (by decide +kernel)) rfl, ts_of (List.mem_of_getElem? (i := 265) (by decide +kernel)) rfl⟩
theorem kV_X6_114 : okV RX6 114 yX2_rankOf cX2_rankOf 2 (some .int) 1 := ⟨kb_X2_rankOf, ts_of (List.mem_of_getElem? (i := 393) (by decide +kernel)) rfl, ts_of (List.mem_of_getElem? (i := 394) (by decide +kernel)) rfl, ts_of (List.mem_of_getElem? (i := 395) (by decide +kernel)) rfl⟩
theorem kV_X6_117 : okV RX6 117 yX4_sizeOf cX4_sizeOf 2 (some .int) 1 := ⟨kb_X4_sizeOf, ts_of (List.mem_of_getElem? (i := 397) (by decide +kernel)) rfl, ts_of (List.mem_of_getElem? (i := 398) (by decide +kernel)) rfl, ts_of (List.mem_of_getElem? (i := 399) (by decide +kernel)) rfl⟩
theorem kV_X6_120 : okV RX6 120 yX4_longOf cX4_longOf 3 (some .int) 1 := ⟨kb_X4_longOf, ts_of (List.mem_of_getElem? (i := 401) (by decide +kernel)) rfl, ts_of (List.mem_of_getElem? (i := 402) (by decide +kernel)) rfl, ts_of (List.mem_of_getElem? (i := 403) (by decide +kernel)) rfl⟩
theorem kV_X4_47 : okV RX4 47 yX4_sizeOf cX4_sizeOf 2 (some .int) 1 := ⟨kb_X4_sizeOf, ts_of (List.mem_of_getElem? (i := 405) (by decide +kernel)) rfl, ts_of (List.mem_of_getElem? (i := 398) (by decide +kernel)) rfl, ts_of (List.mem_of_getElem? (i := 399) (by decide +kernel)) rfl⟩
theorem kV_X4_43 : okV RX4 43 yX4_kindOf cX4_kindOf 2 (some .int) 1 := ⟨kb_X4_kindOf, ts_of (List.mem_of_getElem? (i := 406) (by decide +kernel)) rfl, ts_of (List.mem_of_getElem? (i := 385) (by decide +kernel)) rfl, ts_of (List.mem_of_getElem? (i := 386) (by decide +kernel)) rfl⟩
theorem kV_X6_123 : okV RX6 123 yX2_beatsOf cX2_beatsOf 7 (some .int) 2 := ⟨kb_X2_beatsOf, ts_of (List.mem_of_getElem? (i := 407) (by decide +kernel)) rfl, ts_of (List.mem_of_getElem? (i := 408) (by decide +kernel)) rfl, ts_of (List.mem_of_getElem? (i := 409) (by decide +kernel)) rfl⟩
theorem kV_X2_63 : okV RX2 63 yX4_longOf cX4_longOf 3 (some .int) 1 := ⟨kb_X4_longOf, ts_of (List.mem_of_getElem? (i := 411) (by decide +kernel)) rfl, ts_of (List.mem_of_getElem? (i := 402) (by decide +kernel)) rfl, ts_of (List.mem_of_getElem? (i := 403) (by decide +kernel)) rfl⟩
theorem kV_X2_67 : okV RX2 67 yX4_saidAt cX4_saidAt 4 (some .int) 2 := ⟨kb_X4_saidAt, ts_of (List.mem_of_getElem? (i := 412) (by decide +kernel)) rfl, ts_of (List.mem_of_getElem? (i := 413) (by decide +kernel)) rfl, ts_of (List.mem_of_getElem? (i := 414) (by decide +kernel)) rfl⟩
theorem kV_X4_50 : okV RX4 50 yX4_longOf cX4_longOf 3 (some .int) 1 := ⟨kb_X4_longOf, ts_of (List.mem_of_getElem? (i := 416) (by decide +kernel)) rfl, ts_of (List.mem_of_getElem? (i := 402) (by decide +kernel)) rfl, ts_of (List.mem_of_getElem? (i := 403) (by decide +kernel)) rfl⟩
theorem kV_X4_59 : okV RX4 59 yX4_syllableAt cX4_syllableAt 3 (some .int) 2 := ⟨kb_X4_syllableAt, ts_of (List.mem_of_getElem? (i := 417) (by decide +kernel)) rfl, ts_of (List.mem_of_getElem? (i := 418) (by decide +kernel)) rfl, ts_of (List.mem_of_getElem? (i := 419) (by decide +kernel)) rfl⟩
theorem kV_X2_71 : okV RX2 71 yX4_kindOf cX4_kindOf 2 (some .int) 1 := ⟨kb_X4_kindOf, ts_of (List.mem_of_getElem? (i := 421) (by decide +kernel)) rfl, ts_of (List.mem_of_getElem? (i := 385) (by decide +kernel)) rfl, ts_of (List.mem_of_getElem? (i := 386) (by decide +kernel)) rfl⟩
theorem kV_L_38 : okV RL 38 yX6_said cX6_said 3 (some .int) 2 := ⟨kb_X6_said, ts_of (List.mem_of_getElem? (i := 422) (by decide +kernel)) rfl, ts_of (List.mem_of_getElem? (i := 423) (by decide +kernel)) rfl, ts_of (List.mem_of_getElem? (i := 424) (by decide +kernel)) rfl⟩
theorem kV_X6_127 : okV RX6 127 yX4_saidAt cX4_saidAt 4 (some .int) 2 := ⟨kb_X4_saidAt, ts_of (List.mem_of_getElem? (i := 426) (by decide +kernel)) rfl, ts_of (List.mem_of_getElem? (i := 413) (by decide +kernel)) rfl, ts_of (List.mem_of_getElem? (i := 414) (by decide +kernel)) rfl⟩
theorem kV_L_42 : okV RL 42 yX6_deed cX6_deed 3 (some .int) 2 := ⟨kb_X6_deed, ts_of (List.mem_of_getElem? (i := 427) (by decide +kernel)) rfl, ts_of (List.mem_of_getElem? (i := 428) (by decide +kernel)) rfl, ts_of (List.mem_of_getElem? (i := 429) (by decide +kernel)) rfl⟩
theorem kV_X6_131 : okV RX6 131 yX2_doDeed cX2_doDeed 4 (some .boolean) 3 := ⟨kb_X2_doDeed, ts_of (List.mem_of_getElem? (i := 431) (by decide +kernel)) rfl, ts_of (List.mem_of_getElem? (i := 432) (by decide +kernel)) rfl, ts_of (List.mem_of_getElem? (i := 433) (by decide +kernel)) rfl⟩
theorem kV_X2_74 : okV RX2 74 yX4_lose cX4_lose 2 none 1 := ⟨kb_X4_lose, ts_of (List.mem_of_getElem? (i := 435) (by decide +kernel)) rfl, ts_of (List.mem_of_getElem? (i := 436) (by decide +kernel)) rfl, ts_of (List.mem_of_getElem? (i := 437) (by decide +kernel)) rfl⟩
theorem kV_X2_78 : okV RX2 78 yX4_gain cX4_gain 3 (some .boolean) 2 := ⟨kb_X4_gain, ts_of (List.mem_of_getElem? (i := 439) (by decide +kernel)) rfl, ts_of (List.mem_of_getElem? (i := 260) (by decide +kernel)) rfl, ts_of (List.mem_of_getElem? (i := 261) (by decide +kernel)) rfl⟩
theorem kV_L_46 : okV RL 46 yX6_kind cX6_kind 3 (some .int) 2 := ⟨kb_X6_kind, ts_of (List.mem_of_getElem? (i := 440) (by decide +kernel)) rfl, ts_of (List.mem_of_getElem? (i := 441) (by decide +kernel)) rfl, ts_of (List.mem_of_getElem? (i := 442) (by decide +kernel)) rfl⟩
theorem kV_X6_135 : okV RX6 135 yX4_changeKind cX4_changeKind 4 (some .int) 2 := ⟨kb_X4_changeKind, ts_of (List.mem_of_getElem? (i := 444) (by decide +kernel)) rfl, ts_of (List.mem_of_getElem? (i := 445) (by decide +kernel)) rfl, ts_of (List.mem_of_getElem? (i := 446) (by decide +kernel)) rfl⟩
theorem kV_L_50 : okV RL 50 yX6_cry cX6_cry 2 (some .int) 1 := ⟨kb_X6_cry, ts_of (List.mem_of_getElem? (i := 448) (by decide +kernel)) rfl, ts_of (List.mem_of_getElem? (i := 449) (by decide +kernel)) rfl, ts_of (List.mem_of_getElem? (i := 450) (by decide +kernel)) rfl⟩
theorem kV_X6_138 : okV RX6 138 yX6_isSet cX6_isSet 2 (some .boolean) 1 := ⟨kb_X6_isSet, ts_of (List.mem_of_getElem? (i := 452) (by decide +kernel)) rfl, ts_of (List.mem_of_getElem? (i := 454) (by decide +kernel)) rfl, ts_of (List.mem_of_getElem? (i := 10) (by decide +kernel)) rfl⟩
theorem kV_X6_211 : okV RX6 211 yX6_everyone cX6_everyone 1 (some .int) 0 := ⟨kb_X6_everyone, ts_of (List.mem_of_getElem? (i := 456) (by decide +kernel)) rfl, ts_of (List.mem_of_getElem? (i := 458) (by decide +kernel)) rfl, ts_of (List.mem_of_getElem? (i := 11) (by decide +kernel)) rfl⟩
theorem kV_X6_141 : okV RX6 141 yX1_learn cX1_learn 4 none 2 := ⟨kb_X1_learn, ts_of (List.mem_of_getElem? (i := 460) (by decide +kernel)) rfl, ts_of (List.mem_of_getElem? (i := 461) (by decide +kernel)) rfl, ts_of (List.mem_of_getElem? (i := 462) (by decide +kernel)) rfl⟩
theorem ml_X1_56 : Cond.methodLink RX1 56 Lib.Math.min.name ∈ TS := ts_of (List.mem_of_getElem? (i := 464) (by decide +kernel)) rfl
theorem kV_X1_66 : okV RX1 66 yX4_longOf cX4_longOf 3 (some .int) 1 := ⟨kb_X4_longOf, ts_of (List.mem_of_getElem? (i := 467) (by decide +kernel)) rfl, ts_of (List.mem_of_getElem? (i := 402) (by decide +kernel)) rfl, ts_of (List.mem_of_getElem? (i := 403) (by decide +kernel)) rfl⟩
theorem kV_X1_70 : okV RX1 70 yX2_beatsOf cX2_beatsOf 7 (some .int) 2 := ⟨kb_X2_beatsOf, ts_of (List.mem_of_getElem? (i := 468) (by decide +kernel)) rfl, ts_of (List.mem_of_getElem? (i := 408) (by decide +kernel)) rfl, ts_of (List.mem_of_getElem? (i := 409) (by decide +kernel)) rfl⟩
theorem kV_X1_74 : okV RX1 74 yX2_pacesOf cX2_pacesOf 2 (some .int) 1 := ⟨kb_X2_pacesOf, ts_of (List.mem_of_getElem? (i := 469) (by decide +kernel)) rfl, ts_of (List.mem_of_getElem? (i := 389) (by decide +kernel)) rfl, ts_of (List.mem_of_getElem? (i := 390) (by decide +kernel)) rfl⟩
theorem kV_X1_77 : okV RX1 77 yX2_rankOf cX2_rankOf 2 (some .int) 1 := ⟨kb_X2_rankOf, ts_of (List.mem_of_getElem? (i := 470) (by decide +kernel)) rfl, ts_of (List.mem_of_getElem? (i := 394) (by decide +kernel)) rfl, ts_of (List.mem_of_getElem? (i := 395) (by decide +kernel)) rfl⟩
theorem kV_X6_145 : okV RX6 145 yX1_beatsToCall cX1_beatsToCall 5 (some .int) 1 := ⟨kb_X1_beatsToCall, ts_of (List.mem_of_getElem? (i := 471) (by decide +kernel)) rfl, ts_of (List.mem_of_getElem? (i := 472) (by decide +kernel)) rfl, ts_of (List.mem_of_getElem? (i := 473) (by decide +kernel)) rfl⟩
theorem kSN_X1_84 : okSN RX1 84 yX6_isOf cX6_isOf 2 (some .boolean) 2 := ⟨kb_X6_isOf, by decide +kernel, ts_of (List.mem_of_getElem? (i := 476) (by decide +kernel)) rfl⟩
theorem kV_X1_88 : okV RX1 88 yX1_breathsFor cX1_breathsFor 2 (some .int) 1 := ⟨kb_X1_breathsFor, ts_of (List.mem_of_getElem? (i := 478) (by decide +kernel)) rfl, ts_of (List.mem_of_getElem? (i := 480) (by decide +kernel)) rfl, ts_of (List.mem_of_getElem? (i := 12) (by decide +kernel)) rfl⟩
theorem kV_L_55 : okV RL 55 yX6_warn cX6_warn 4 (some .int) 2 := ⟨kb_X6_warn, ts_of (List.mem_of_getElem? (i := 482) (by decide +kernel)) rfl, ts_of (List.mem_of_getElem? (i := 483) (by decide +kernel)) rfl, ts_of (List.mem_of_getElem? (i := 484) (by decide +kernel)) rfl⟩
theorem kV_X6_148 : okV RX6 148 yX1_mostSaved cX1_mostSaved 4 (some .int) 1 := ⟨kb_X1_mostSaved, ts_of (List.mem_of_getElem? (i := 486) (by decide +kernel)) rfl, ts_of (List.mem_of_getElem? (i := 487) (by decide +kernel)) rfl, ts_of (List.mem_of_getElem? (i := 488) (by decide +kernel)) rfl⟩
theorem kV_X1_91 : okV RX1 91 yX1_beatsToCall cX1_beatsToCall 5 (some .int) 1 := ⟨kb_X1_beatsToCall, ts_of (List.mem_of_getElem? (i := 490) (by decide +kernel)) rfl, ts_of (List.mem_of_getElem? (i := 472) (by decide +kernel)) rfl, ts_of (List.mem_of_getElem? (i := 473) (by decide +kernel)) rfl⟩
theorem kV_X1_94 : okV RX1 94 yX1_someoneCanBeLast cX1_someoneCanBeLast 4 (some .boolean) 2 := ⟨kb_X1_someoneCanBeLast, ts_of (List.mem_of_getElem? (i := 491) (by decide +kernel)) rfl, ts_of (List.mem_of_getElem? (i := 493) (by decide +kernel)) rfl, ts_of (List.mem_of_getElem? (i := 13) (by decide +kernel)) rfl⟩
theorem kS_X1_97 : okS RX1 97 yJ6_bitCount_0f7a4 cJ6_bitCount_0f7a4 1 (some .int) 1 := ⟨kb_J6_bitCount_0f7a4, ts_of (List.mem_of_getElem? (i := 495) (by decide +kernel)) rfl, ts_of (List.mem_of_getElem? (i := 496) (by decide +kernel)) rfl⟩
theorem kc_J6_265 : Cond.constant RJ6 265 (1431655765) ∈ TS := ts_of (List.mem_of_getElem? (i := 498) (by decide +kernel)) rfl
theorem kc_J6_266 : Cond.constant RJ6 266 (858993459) ∈ TS := ts_of (List.mem_of_getElem? (i := 499) (by decide +kernel)) rfl
theorem kc_J6_267 : Cond.constant RJ6 267 (252645135) ∈ TS := ts_of (List.mem_of_getElem? (i := 500) (by decide +kernel)) rfl
theorem kS_X6_151 : okS RX6 151 yJ6_bitCount_0f7a4 cJ6_bitCount_0f7a4 1 (some .int) 1 := ⟨kb_J6_bitCount_0f7a4, ts_of (List.mem_of_getElem? (i := 501) (by decide +kernel)) rfl, ts_of (List.mem_of_getElem? (i := 496) (by decide +kernel)) rfl⟩
theorem kV_L_59 : okV RL 59 yX6_called cX6_called 3 (some .int) 2 := ⟨kb_X6_called, ts_of (List.mem_of_getElem? (i := 502) (by decide +kernel)) rfl, ts_of (List.mem_of_getElem? (i := 503) (by decide +kernel)) rfl, ts_of (List.mem_of_getElem? (i := 504) (by decide +kernel)) rfl⟩
theorem kV_X6_156 : okV RX6 156 yX1_orderWarning cX1_orderWarning 6 none 2 := ⟨kb_X1_orderWarning, ts_of (List.mem_of_getElem? (i := 506) (by decide +kernel)) rfl, ts_of (List.mem_of_getElem? (i := 507) (by decide +kernel)) rfl, ts_of (List.mem_of_getElem? (i := 508) (by decide +kernel)) rfl⟩
theorem kV_X1_102 : okV RX1 102 yX1_nextSaved cX1_nextSaved 6 (some .int) 3 := ⟨kb_X1_nextSaved, ts_of (List.mem_of_getElem? (i := 510) (by decide +kernel)) rfl, ts_of (List.mem_of_getElem? (i := 512) (by decide +kernel)) rfl, ts_of (List.mem_of_getElem? (i := 14) (by decide +kernel)) rfl⟩
theorem kV_X6_160 : okV RX6 160 yX1_inOrder cX1_inOrder 2 (some .int) 1 := ⟨kb_X1_inOrder, ts_of (List.mem_of_getElem? (i := 514) (by decide +kernel)) rfl, ts_of (List.mem_of_getElem? (i := 515) (by decide +kernel)) rfl, ts_of (List.mem_of_getElem? (i := 516) (by decide +kernel)) rfl⟩
theorem kSN_X1_80 : okSN RX1 80 yX6_within cX6_within 3 (some .boolean) 3 := ⟨kb_X6_within, by decide +kernel, ts_of (List.mem_of_getElem? (i := 253) (by decide +kernel)) rfl⟩
theorem kV_L_63 : okV RL 63 yX6_greet cX6_greet 4 (some .int) 2 := ⟨kb_X6_greet, ts_of (List.mem_of_getElem? (i := 519) (by decide +kernel)) rfl, ts_of (List.mem_of_getElem? (i := 520) (by decide +kernel)) rfl, ts_of (List.mem_of_getElem? (i := 521) (by decide +kernel)) rfl⟩
theorem kV_X6_163 : okV RX6 163 yX1_fewestBreaths cX1_fewestBreaths 3 (some .int) 1 := ⟨kb_X1_fewestBreaths, ts_of (List.mem_of_getElem? (i := 523) (by decide +kernel)) rfl, ts_of (List.mem_of_getElem? (i := 524) (by decide +kernel)) rfl, ts_of (List.mem_of_getElem? (i := 525) (by decide +kernel)) rfl⟩
theorem kV_X1_106 : okV RX1 106 yX1_rankAll cX1_rankAll 4 none 1 := ⟨kb_X1_rankAll, ts_of (List.mem_of_getElem? (i := 527) (by decide +kernel)) rfl, ts_of (List.mem_of_getElem? (i := 529) (by decide +kernel)) rfl, ts_of (List.mem_of_getElem? (i := 15) (by decide +kernel)) rfl⟩
theorem kV_X1_110 : okV RX1 110 yX1_nothingPacked cX1_nothingPacked 1 (some .int) 0 := ⟨kb_X1_nothingPacked, ts_of (List.mem_of_getElem? (i := 531) (by decide +kernel)) rfl, ts_of (List.mem_of_getElem? (i := 533) (by decide +kernel)) rfl, ts_of (List.mem_of_getElem? (i := 16) (by decide +kernel)) rfl⟩
theorem kV_X1_114 : okV RX1 114 yX1_leastPacking cX1_leastPacking 5 (some .int) 1 := ⟨kb_X1_leastPacking, ts_of (List.mem_of_getElem? (i := 535) (by decide +kernel)) rfl, ts_of (List.mem_of_getElem? (i := 537) (by decide +kernel)) rfl, ts_of (List.mem_of_getElem? (i := 17) (by decide +kernel)) rfl⟩
theorem kV_X1_117 : okV RX1 117 yX1_mayBeFirst cX1_mayBeFirst 3 (some .boolean) 2 := ⟨kb_X1_mayBeFirst, ts_of (List.mem_of_getElem? (i := 539) (by decide +kernel)) rfl, ts_of (List.mem_of_getElem? (i := 541) (by decide +kernel)) rfl, ts_of (List.mem_of_getElem? (i := 18) (by decide +kernel)) rfl⟩
theorem kV_X1_120 : okV RX1 120 yX1_packed cX1_packed 5 (some .int) 2 := ⟨kb_X1_packed, ts_of (List.mem_of_getElem? (i := 543) (by decide +kernel)) rfl, ts_of (List.mem_of_getElem? (i := 545) (by decide +kernel)) rfl, ts_of (List.mem_of_getElem? (i := 19) (by decide +kernel)) rfl⟩
theorem kV_X6_166 : okV RX6 166 yX1_orderCouncil cX1_orderCouncil 7 none 2 := ⟨kb_X1_orderCouncil, ts_of (List.mem_of_getElem? (i := 547) (by decide +kernel)) rfl, ts_of (List.mem_of_getElem? (i := 548) (by decide +kernel)) rfl, ts_of (List.mem_of_getElem? (i := 549) (by decide +kernel)) rfl⟩
theorem kV_X1_123 : okV RX1 123 yX1_nextGreeted cX1_nextGreeted 5 (some .int) 3 := ⟨kb_X1_nextGreeted, ts_of (List.mem_of_getElem? (i := 551) (by decide +kernel)) rfl, ts_of (List.mem_of_getElem? (i := 553) (by decide +kernel)) rfl, ts_of (List.mem_of_getElem? (i := 20) (by decide +kernel)) rfl⟩
theorem kV_X1_126 : okV RX1 126 yX1_joined cX1_joined 4 (some .int) 2 := ⟨kb_X1_joined, ts_of (List.mem_of_getElem? (i := 555) (by decide +kernel)) rfl, ts_of (List.mem_of_getElem? (i := 557) (by decide +kernel)) rfl, ts_of (List.mem_of_getElem? (i := 21) (by decide +kernel)) rfl⟩
theorem kV_L_67 : okV RL 67 yX6_shortCall cX6_shortCall 3 (some .int) 2 := ⟨kb_X6_shortCall, ts_of (List.mem_of_getElem? (i := 559) (by decide +kernel)) rfl, ts_of (List.mem_of_getElem? (i := 560) (by decide +kernel)) rfl, ts_of (List.mem_of_getElem? (i := 561) (by decide +kernel)) rfl⟩
theorem kS_X6_169 : okS RX6 169 yX6_isOf cX6_isOf 2 (some .boolean) 2 := ⟨kb_X6_isOf, ts_of (List.mem_of_getElem? (i := 563) (by decide +kernel)) rfl, ts_of (List.mem_of_getElem? (i := 476) (by decide +kernel)) rfl⟩
theorem kV_X6_173 : okV RX6 173 yX4_shortest cX4_shortest 5 (some .int) 2 := ⟨kb_X4_shortest, ts_of (List.mem_of_getElem? (i := 564) (by decide +kernel)) rfl, ts_of (List.mem_of_getElem? (i := 565) (by decide +kernel)) rfl, ts_of (List.mem_of_getElem? (i := 566) (by decide +kernel)) rfl⟩
theorem kSN_X4_68 : okSN RX4 68 yX6_isOf cX6_isOf 2 (some .boolean) 2 := ⟨kb_X6_isOf, by decide +kernel, ts_of (List.mem_of_getElem? (i := 476) (by decide +kernel)) rfl⟩
theorem kV_X4_71 : okV RX4 71 yX4_alike cX4_alike 5 (some .int) 2 := ⟨kb_X4_alike, ts_of (List.mem_of_getElem? (i := 569) (by decide +kernel)) rfl, ts_of (List.mem_of_getElem? (i := 571) (by decide +kernel)) rfl, ts_of (List.mem_of_getElem? (i := 22) (by decide +kernel)) rfl⟩
theorem ml_X4_62 : Cond.methodLink RX4 62 Lib.Math.min.name ∈ TS := ts_of (List.mem_of_getElem? (i := 573) (by decide +kernel)) rfl
theorem kV_X4_65 : okV RX4 65 yX4_saidAt cX4_saidAt 4 (some .int) 2 := ⟨kb_X4_saidAt, ts_of (List.mem_of_getElem? (i := 574) (by decide +kernel)) rfl, ts_of (List.mem_of_getElem? (i := 413) (by decide +kernel)) rfl, ts_of (List.mem_of_getElem? (i := 414) (by decide +kernel)) rfl⟩
theorem ml_X4_53 : Cond.methodLink RX4 53 Lib.Math.max.name ∈ TS := ts_of (List.mem_of_getElem? (i := 575) (by decide +kernel)) rfl
theorem kV_L_71 : okV RL 71 yX6_allShort cX6_allShort 2 (some .int) 1 := ⟨kb_X6_allShort, ts_of (List.mem_of_getElem? (i := 578) (by decide +kernel)) rfl, ts_of (List.mem_of_getElem? (i := 579) (by decide +kernel)) rfl, ts_of (List.mem_of_getElem? (i := 580) (by decide +kernel)) rfl⟩
theorem kV_X6_176 : okV RX6 176 yX4_sumOfShortest cX4_sumOfShortest 5 (some .int) 1 := ⟨kb_X4_sumOfShortest, ts_of (List.mem_of_getElem? (i := 582) (by decide +kernel)) rfl, ts_of (List.mem_of_getElem? (i := 583) (by decide +kernel)) rfl, ts_of (List.mem_of_getElem? (i := 584) (by decide +kernel)) rfl⟩
theorem kV_X4_74 : okV RX4 74 yX4_shortest cX4_shortest 5 (some .int) 2 := ⟨kb_X4_shortest, ts_of (List.mem_of_getElem? (i := 586) (by decide +kernel)) rfl, ts_of (List.mem_of_getElem? (i := 565) (by decide +kernel)) rfl, ts_of (List.mem_of_getElem? (i := 566) (by decide +kernel)) rfl⟩
theorem kV_L_75 : okV RL 75 yX6_apart cX6_apart 8 (some .int) 3 := ⟨kb_X6_apart, ts_of (List.mem_of_getElem? (i := 587) (by decide +kernel)) rfl, ts_of (List.mem_of_getElem? (i := 588) (by decide +kernel)) rfl, ts_of (List.mem_of_getElem? (i := 589) (by decide +kernel)) rfl⟩
theorem kV_X6_179 : okV RX6 179 yX4_gain cX4_gain 3 (some .boolean) 2 := ⟨kb_X4_gain, ts_of (List.mem_of_getElem? (i := 591) (by decide +kernel)) rfl, ts_of (List.mem_of_getElem? (i := 260) (by decide +kernel)) rfl, ts_of (List.mem_of_getElem? (i := 261) (by decide +kernel)) rfl⟩
theorem kV_X6_182 : okV RX6 182 yX4_lose cX4_lose 2 none 1 := ⟨kb_X4_lose, ts_of (List.mem_of_getElem? (i := 592) (by decide +kernel)) rfl, ts_of (List.mem_of_getElem? (i := 436) (by decide +kernel)) rfl, ts_of (List.mem_of_getElem? (i := 437) (by decide +kernel)) rfl⟩
theorem kV_L_80 : okV RL 80 yX6_hear cX6_hear 2 (some .int) 1 := ⟨kb_X6_hear, ts_of (List.mem_of_getElem? (i := 593) (by decide +kernel)) rfl, ts_of (List.mem_of_getElem? (i := 594) (by decide +kernel)) rfl, ts_of (List.mem_of_getElem? (i := 595) (by decide +kernel)) rfl⟩
theorem kV_X6_186 : okV RX6 186 yX0_take cX0_take 2 (some .boolean) 1 := ⟨kb_X0_take, ts_of (List.mem_of_getElem? (i := 597) (by decide +kernel)) rfl, ts_of (List.mem_of_getElem? (i := 598) (by decide +kernel)) rfl, ts_of (List.mem_of_getElem? (i := 599) (by decide +kernel)) rfl⟩
theorem kV_L_84 : okV RL 84 yX6_forget cX6_forget 2 (some .int) 0 := ⟨kb_X6_forget, ts_of (List.mem_of_getElem? (i := 601) (by decide +kernel)) rfl, ts_of (List.mem_of_getElem? (i := 602) (by decide +kernel)) rfl, ts_of (List.mem_of_getElem? (i := 603) (by decide +kernel)) rfl⟩
theorem kV_L_88 : okV RL 88 yX6_odds cX6_odds 9 (some .long) 2 := ⟨kb_X6_odds, ts_of (List.mem_of_getElem? (i := 605) (by decide +kernel)) rfl, ts_of (List.mem_of_getElem? (i := 606) (by decide +kernel)) rfl, ts_of (List.mem_of_getElem? (i := 607) (by decide +kernel)) rfl⟩
theorem kc_X6_192 : Cond.constantLong RX6 192 (-1) ∈ TS := ts_of (List.mem_of_getElem? (i := 609) (by decide +kernel)) rfl
theorem kV_X6_194 : okV RX6 194 yX6_weightOf cX6_weightOf 2 (some .long) 1 := ⟨kb_X6_weightOf, ts_of (List.mem_of_getElem? (i := 610) (by decide +kernel)) rfl, ts_of (List.mem_of_getElem? (i := 612) (by decide +kernel)) rfl, ts_of (List.mem_of_getElem? (i := 23) (by decide +kernel)) rfl⟩
theorem kV_X6_240 : okV RX6 240 yX0_likeness cX0_likeness 7 (some .long) 3 := ⟨kb_X0_likeness, ts_of (List.mem_of_getElem? (i := 614) (by decide +kernel)) rfl, ts_of (List.mem_of_getElem? (i := 615) (by decide +kernel)) rfl, ts_of (List.mem_of_getElem? (i := 616) (by decide +kernel)) rfl⟩
theorem kV_X0_25 : okV RX0 25 yX4_longOf cX4_longOf 3 (some .int) 1 := ⟨kb_X4_longOf, ts_of (List.mem_of_getElem? (i := 618) (by decide +kernel)) rfl, ts_of (List.mem_of_getElem? (i := 402) (by decide +kernel)) rfl, ts_of (List.mem_of_getElem? (i := 403) (by decide +kernel)) rfl⟩
theorem kc_X0_31 : Cond.constantLong RX0 31 (10) ∈ TS := ts_of (List.mem_of_getElem? (i := 619) (by decide +kernel)) rfl
theorem kV_X0_33 : okV RX0 33 yX4_saidAt cX4_saidAt 4 (some .int) 2 := ⟨kb_X4_saidAt, ts_of (List.mem_of_getElem? (i := 620) (by decide +kernel)) rfl, ts_of (List.mem_of_getElem? (i := 413) (by decide +kernel)) rfl, ts_of (List.mem_of_getElem? (i := 414) (by decide +kernel)) rfl⟩
theorem kS_X6_198 : okS RX6 198 yX6_commonDivisor cX6_commonDivisor 7 (some .long) 2 := ⟨kb_X6_commonDivisor, ts_of (List.mem_of_getElem? (i := 621) (by decide +kernel)) rfl, ts_of (List.mem_of_getElem? (i := 622) (by decide +kernel)) rfl⟩
theorem kc_X6_202 : Cond.constantLong RX6 202 (-4) ∈ TS := ts_of (List.mem_of_getElem? (i := 624) (by decide +kernel)) rfl
theorem kV_L_93 : okV RL 93 yX6_meant cX6_meant 7 (some .int) 0 := ⟨kb_X6_meant, ts_of (List.mem_of_getElem? (i := 625) (by decide +kernel)) rfl, ts_of (List.mem_of_getElem? (i := 626) (by decide +kernel)) rfl, ts_of (List.mem_of_getElem? (i := 627) (by decide +kernel)) rfl⟩
theorem kV_L_97 : okV RL 97 yX6_years cX6_years 4 (some .int) 3 := ⟨kb_X6_years, ts_of (List.mem_of_getElem? (i := 629) (by decide +kernel)) rfl, ts_of (List.mem_of_getElem? (i := 630) (by decide +kernel)) rfl, ts_of (List.mem_of_getElem? (i := 631) (by decide +kernel)) rfl⟩
theorem kS_X6_204 : okS RX6 204 yX6_isHillTime cX6_isHillTime 2 (some .boolean) 2 := ⟨kb_X6_isHillTime, ts_of (List.mem_of_getElem? (i := 633) (by decide +kernel)) rfl, ts_of (List.mem_of_getElem? (i := 634) (by decide +kernel)) rfl⟩
theorem kV_X6_207 : okV RX6 207 yX2_liveYears cX2_liveYears 7 none 4 := ⟨kb_X2_liveYears, ts_of (List.mem_of_getElem? (i := 636) (by decide +kernel)) rfl, ts_of (List.mem_of_getElem? (i := 637) (by decide +kernel)) rfl, ts_of (List.mem_of_getElem? (i := 638) (by decide +kernel)) rfl⟩
theorem kV_X2_82 : okV RX2 82 yX4_copyFrom cX4_copyFrom 2 none 1 := ⟨kb_X4_copyFrom, ts_of (List.mem_of_getElem? (i := 640) (by decide +kernel)) rfl, ts_of (List.mem_of_getElem? (i := 269) (by decide +kernel)) rfl, ts_of (List.mem_of_getElem? (i := 270) (by decide +kernel)) rfl⟩
theorem kS_X2_86 : okS RX2 86 yX2_drawnDeed cX2_drawnDeed 5 (some .int) 3 := ⟨kb_X2_drawnDeed, ts_of (List.mem_of_getElem? (i := 641) (by decide +kernel)) rfl, ts_of (List.mem_of_getElem? (i := 642) (by decide +kernel)) rfl⟩
theorem kc_X2_94 : Cond.constantLong RX2 94 (7919) ∈ TS := ts_of (List.mem_of_getElem? (i := 644) (by decide +kernel)) rfl
theorem kc_X2_96 : Cond.constantLong RX2 96 (6151) ∈ TS := ts_of (List.mem_of_getElem? (i := 645) (by decide +kernel)) rfl
theorem kc_X2_98 : Cond.constantLong RX2 98 (3571) ∈ TS := ts_of (List.mem_of_getElem? (i := 646) (by decide +kernel)) rfl
theorem kc_X2_100 : Cond.constantLong RX2 100 (65521) ∈ TS := ts_of (List.mem_of_getElem? (i := 647) (by decide +kernel)) rfl
theorem kc_X2_102 : Cond.constantLong RX2 102 (12) ∈ TS := ts_of (List.mem_of_getElem? (i := 648) (by decide +kernel)) rfl
theorem kV_X2_90 : okV RX2 90 yX2_doDeed cX2_doDeed 4 (some .boolean) 3 := ⟨kb_X2_doDeed, ts_of (List.mem_of_getElem? (i := 649) (by decide +kernel)) rfl, ts_of (List.mem_of_getElem? (i := 432) (by decide +kernel)) rfl, ts_of (List.mem_of_getElem? (i := 433) (by decide +kernel)) rfl⟩
theorem kV_X6_215 : okV RX6 215 yX4_longest cX4_longest 3 (some .int) 0 := ⟨kb_X4_longest, ts_of (List.mem_of_getElem? (i := 650) (by decide +kernel)) rfl, ts_of (List.mem_of_getElem? (i := 651) (by decide +kernel)) rfl, ts_of (List.mem_of_getElem? (i := 652) (by decide +kernel)) rfl⟩
theorem kV_X6_218 : okV RX6 218 yX4_numberOfShort cX4_numberOfShort 4 (some .int) 1 := ⟨kb_X4_numberOfShort, ts_of (List.mem_of_getElem? (i := 654) (by decide +kernel)) rfl, ts_of (List.mem_of_getElem? (i := 655) (by decide +kernel)) rfl, ts_of (List.mem_of_getElem? (i := 656) (by decide +kernel)) rfl⟩
theorem kV_L_101 : okV RL 101 yX6_then cX6_then 5 (some .int) 4 := ⟨kb_X6_then, ts_of (List.mem_of_getElem? (i := 658) (by decide +kernel)) rfl, ts_of (List.mem_of_getElem? (i := 659) (by decide +kernel)) rfl, ts_of (List.mem_of_getElem? (i := 660) (by decide +kernel)) rfl⟩
theorem kV_X6_221 : okV RX6 221 yX4_syllableAt cX4_syllableAt 3 (some .int) 2 := ⟨kb_X4_syllableAt, ts_of (List.mem_of_getElem? (i := 662) (by decide +kernel)) rfl, ts_of (List.mem_of_getElem? (i := 418) (by decide +kernel)) rfl, ts_of (List.mem_of_getElem? (i := 419) (by decide +kernel)) rfl⟩
theorem kV_L_106 : okV RL 106 yX6_keep cX6_keep 1 (some .int) 0 := ⟨kb_X6_keep, ts_of (List.mem_of_getElem? (i := 663) (by decide +kernel)) rfl, ts_of (List.mem_of_getElem? (i := 664) (by decide +kernel)) rfl, ts_of (List.mem_of_getElem? (i := 665) (by decide +kernel)) rfl⟩
theorem kV_X6_224 : okV RX6 224 yX6_keptPlace cX6_keptPlace 2 (some (.object "DeedNames$Memory")) 1 := ⟨kb_X6_keptPlace, ts_of (List.mem_of_getElem? (i := 667) (by decide +kernel)) rfl, ts_of (List.mem_of_getElem? (i := 669) (by decide +kernel)) rfl, ts_of (List.mem_of_getElem? (i := 24) (by decide +kernel)) rfl⟩
theorem kV_X6_228 : okV RX6 228 yX3_copyFrom cX3_copyFrom 2 none 1 := ⟨kb_X3_copyFrom, ts_of (List.mem_of_getElem? (i := 671) (by decide +kernel)) rfl, ts_of (List.mem_of_getElem? (i := 672) (by decide +kernel)) rfl, ts_of (List.mem_of_getElem? (i := 673) (by decide +kernel)) rfl⟩
theorem kV_X3_23 : okV RX3 23 yX4_copyFrom cX4_copyFrom 2 none 1 := ⟨kb_X4_copyFrom, ts_of (List.mem_of_getElem? (i := 675) (by decide +kernel)) rfl, ts_of (List.mem_of_getElem? (i := 269) (by decide +kernel)) rfl, ts_of (List.mem_of_getElem? (i := 270) (by decide +kernel)) rfl⟩
theorem kV_X3_27 : okV RX3 27 yX0_copyFrom cX0_copyFrom 2 none 1 := ⟨kb_X0_copyFrom, ts_of (List.mem_of_getElem? (i := 676) (by decide +kernel)) rfl, ts_of (List.mem_of_getElem? (i := 677) (by decide +kernel)) rfl, ts_of (List.mem_of_getElem? (i := 678) (by decide +kernel)) rfl⟩
theorem ml_X0_19 : Cond.methodLink RX0 19 arraycopyName ∈ TS := ts_of (List.mem_of_getElem? (i := 680) (by decide +kernel)) rfl
theorem kV_L_110 : okV RL 110 yX6_back cX6_back 1 (some .int) 0 := ⟨kb_X6_back, ts_of (List.mem_of_getElem? (i := 681) (by decide +kernel)) rfl, ts_of (List.mem_of_getElem? (i := 682) (by decide +kernel)) rfl, ts_of (List.mem_of_getElem? (i := 683) (by decide +kernel)) rfl⟩
theorem kV_L_114 : okV RL 114 yX6_count cX6_count 2 (some .int) 1 := ⟨kb_X6_count, ts_of (List.mem_of_getElem? (i := 685) (by decide +kernel)) rfl, ts_of (List.mem_of_getElem? (i := 686) (by decide +kernel)) rfl, ts_of (List.mem_of_getElem? (i := 687) (by decide +kernel)) rfl⟩
theorem kI_L_12 : okI RL 12 yX7_init cX7_init 1 0 := ⟨kb_X7_init, ts_of (List.mem_of_getElem? (i := 691) (by decide +kernel)) rfl, rfl, ts_of (List.mem_of_getElem? (i := 692) (by decide +kernel)) rfl⟩
theorem ml_X7_1 : Cond.methodLink RX7 1 objectInit ∈ TS := ts_of (List.mem_of_getElem? (i := 694) (by decide +kernel)) rfl
theorem kV_X7_79 : okV RX7 79 yX7_noHill cX7_noHill 3 none 1 := ⟨kb_X7_noHill, ts_of (List.mem_of_getElem? (i := 695) (by decide +kernel)) rfl, ts_of (List.mem_of_getElem? (i := 697) (by decide +kernel)) rfl, ts_of (List.mem_of_getElem? (i := 25) (by decide +kernel)) rfl⟩
theorem kV_X7_83 : okV RX7 83 yX7_layHill cX7_layHill 3 none 0 := ⟨kb_X7_layHill, ts_of (List.mem_of_getElem? (i := 699) (by decide +kernel)) rfl, ts_of (List.mem_of_getElem? (i := 701) (by decide +kernel)) rfl, ts_of (List.mem_of_getElem? (i := 26) (by decide +kernel)) rfl⟩
theorem fl_X7_92 : FL RX7 92 7 0 false (.int) := ⟨RX7, TX7, 26, tyX7, rfl, by decide, itX7, tyX7_ok, nmX7, ts_of (List.mem_of_getElem? (i := 703) (by decide +kernel)) rfl, rfl, rfl, rfl⟩
theorem fl_X7_7 : FL RX7 7 7 1 true (.array .int) := ⟨RX7, TX7, 26, tyX7, rfl, by decide, itX7, tyX7_ok, nmX7, ts_of (List.mem_of_getElem? (i := 704) (by decide +kernel)) rfl, rfl, rfl, rfl⟩
theorem fl_X7_13 : FL RX7 13 7 2 true (.array .int) := ⟨RX7, TX7, 26, tyX7, rfl, by decide, itX7, tyX7_ok, nmX7, ts_of (List.mem_of_getElem? (i := 705) (by decide +kernel)) rfl, rfl, rfl, rfl⟩
theorem fl_X7_16 : FL RX7 16 7 3 true (.array .int) := ⟨RX7, TX7, 26, tyX7, rfl, by decide, itX7, tyX7_ok, nmX7, ts_of (List.mem_of_getElem? (i := 706) (by decide +kernel)) rfl, rfl, rfl, rfl⟩
theorem fl_X7_19 : FL RX7 19 7 4 true (.array .int) := ⟨RX7, TX7, 26, tyX7, rfl, by decide, itX7, tyX7_ok, nmX7, ts_of (List.mem_of_getElem? (i := 707) (by decide +kernel)) rfl, rfl, rfl, rfl⟩
theorem fl_X7_22 : FL RX7 22 7 5 true (.array .int) := ⟨RX7, TX7, 26, tyX7, rfl, by decide, itX7, tyX7_ok, nmX7, ts_of (List.mem_of_getElem? (i := 708) (by decide +kernel)) rfl, rfl, rfl, rfl⟩
theorem fl_X7_25 : FL RX7 25 7 6 true (.array .int) := ⟨RX7, TX7, 26, tyX7, rfl, by decide, itX7, tyX7_ok, nmX7, ts_of (List.mem_of_getElem? (i := 709) (by decide +kernel)) rfl, rfl, rfl, rfl⟩
theorem fl_X7_28 : FL RX7 28 7 7 true (.array .int) := ⟨RX7, TX7, 26, tyX7, rfl, by decide, itX7, tyX7_ok, nmX7, ts_of (List.mem_of_getElem? (i := 710) (by decide +kernel)) rfl, rfl, rfl, rfl⟩
theorem fl_X7_31 : FL RX7 31 7 8 true (.array .int) := ⟨RX7, TX7, 26, tyX7, rfl, by decide, itX7, tyX7_ok, nmX7, ts_of (List.mem_of_getElem? (i := 711) (by decide +kernel)) rfl, rfl, rfl, rfl⟩
theorem fl_X7_34 : FL RX7 34 7 9 true (.array .int) := ⟨RX7, TX7, 26, tyX7, rfl, by decide, itX7, tyX7_ok, nmX7, ts_of (List.mem_of_getElem? (i := 712) (by decide +kernel)) rfl, rfl, rfl, rfl⟩
theorem fl_X7_37 : FL RX7 37 7 10 true (.array .int) := ⟨RX7, TX7, 26, tyX7, rfl, by decide, itX7, tyX7_ok, nmX7, ts_of (List.mem_of_getElem? (i := 713) (by decide +kernel)) rfl, rfl, rfl, rfl⟩
theorem fl_X7_40 : FL RX7 40 7 11 true (.array .int) := ⟨RX7, TX7, 26, tyX7, rfl, by decide, itX7, tyX7_ok, nmX7, ts_of (List.mem_of_getElem? (i := 714) (by decide +kernel)) rfl, rfl, rfl, rfl⟩
theorem fl_X7_43 : FL RX7 43 7 12 true (.array .int) := ⟨RX7, TX7, 26, tyX7, rfl, by decide, itX7, tyX7_ok, nmX7, ts_of (List.mem_of_getElem? (i := 715) (by decide +kernel)) rfl, rfl, rfl, rfl⟩
theorem fl_X7_46 : FL RX7 46 7 13 true (.array .int) := ⟨RX7, TX7, 26, tyX7, rfl, by decide, itX7, tyX7_ok, nmX7, ts_of (List.mem_of_getElem? (i := 716) (by decide +kernel)) rfl, rfl, rfl, rfl⟩
theorem fl_X7_49 : FL RX7 49 7 14 true (.array .int) := ⟨RX7, TX7, 26, tyX7, rfl, by decide, itX7, tyX7_ok, nmX7, ts_of (List.mem_of_getElem? (i := 717) (by decide +kernel)) rfl, rfl, rfl, rfl⟩
theorem fl_X7_52 : FL RX7 52 7 15 true (.array .int) := ⟨RX7, TX7, 26, tyX7, rfl, by decide, itX7, tyX7_ok, nmX7, ts_of (List.mem_of_getElem? (i := 718) (by decide +kernel)) rfl, rfl, rfl, rfl⟩
theorem fl_X7_55 : FL RX7 55 7 16 true (.array .int) := ⟨RX7, TX7, 26, tyX7, rfl, by decide, itX7, tyX7_ok, nmX7, ts_of (List.mem_of_getElem? (i := 719) (by decide +kernel)) rfl, rfl, rfl, rfl⟩
theorem fl_X7_132 : FL RX7 132 7 17 false (.int) := ⟨RX7, TX7, 26, tyX7, rfl, by decide, itX7, tyX7_ok, nmX7, ts_of (List.mem_of_getElem? (i := 720) (by decide +kernel)) rfl, rfl, rfl, rfl⟩
theorem fl_X7_98 : FL RX7 98 7 18 false (.int) := ⟨RX7, TX7, 26, tyX7, rfl, by decide, itX7, tyX7_ok, nmX7, ts_of (List.mem_of_getElem? (i := 721) (by decide +kernel)) rfl, rfl, rfl, rfl⟩
theorem fl_X7_58 : FL RX7 58 7 19 true (.array .int) := ⟨RX7, TX7, 26, tyX7, rfl, by decide, itX7, tyX7_ok, nmX7, ts_of (List.mem_of_getElem? (i := 722) (by decide +kernel)) rfl, rfl, rfl, rfl⟩
theorem fl_X7_61 : FL RX7 61 7 20 true (.array .int) := ⟨RX7, TX7, 26, tyX7, rfl, by decide, itX7, tyX7_ok, nmX7, ts_of (List.mem_of_getElem? (i := 723) (by decide +kernel)) rfl, rfl, rfl, rfl⟩
theorem fl_X7_64 : FL RX7 64 7 21 true (.array .int) := ⟨RX7, TX7, 26, tyX7, rfl, by decide, itX7, tyX7_ok, nmX7, ts_of (List.mem_of_getElem? (i := 724) (by decide +kernel)) rfl, rfl, rfl, rfl⟩
theorem fl_X7_67 : FL RX7 67 7 22 true (.array .int) := ⟨RX7, TX7, 26, tyX7, rfl, by decide, itX7, tyX7_ok, nmX7, ts_of (List.mem_of_getElem? (i := 725) (by decide +kernel)) rfl, rfl, rfl, rfl⟩
theorem fl_X7_70 : FL RX7 70 7 23 true (.array .int) := ⟨RX7, TX7, 26, tyX7, rfl, by decide, itX7, tyX7_ok, nmX7, ts_of (List.mem_of_getElem? (i := 726) (by decide +kernel)) rfl, rfl, rfl, rfl⟩
theorem fl_X7_73 : FL RX7 73 7 24 true (.array .int) := ⟨RX7, TX7, 26, tyX7, rfl, by decide, itX7, tyX7_ok, nmX7, ts_of (List.mem_of_getElem? (i := 727) (by decide +kernel)) rfl, rfl, rfl, rfl⟩
theorem fl_X7_76 : FL RX7 76 7 25 true (.array .int) := ⟨RX7, TX7, 26, tyX7, rfl, by decide, itX7, tyX7_ok, nmX7, ts_of (List.mem_of_getElem? (i := 728) (by decide +kernel)) rfl, rfl, rfl, rfl⟩
theorem kV_L_19 : okV RL 19 yX7_write cX7_write 5 (some .int) 2 := ⟨kb_X7_write, ts_of (List.mem_of_getElem? (i := 782) (by decide +kernel)) rfl, ts_of (List.mem_of_getElem? (i := 783) (by decide +kernel)) rfl, ts_of (List.mem_of_getElem? (i := 784) (by decide +kernel)) rfl⟩
theorem kc_X7_86 : Cond.constantLong RX7 86 (8) ∈ TS := ts_of (List.mem_of_getElem? (i := 786) (by decide +kernel)) rfl
theorem kS_X7_88 : okS RX7 88 yX7_in cX7_in 6 (some .boolean) 3 := ⟨kb_X7_in, ts_of (List.mem_of_getElem? (i := 787) (by decide +kernel)) rfl, ts_of (List.mem_of_getElem? (i := 788) (by decide +kernel)) rfl⟩
theorem kc_X7_96 : Cond.constantLong RX7 96 (255) ∈ TS := ts_of (List.mem_of_getElem? (i := 790) (by decide +kernel)) rfl
theorem kV_L_24 : okV RL 24 yX7_wipe cX7_wipe 2 (some .int) 0 := ⟨kb_X7_wipe, ts_of (List.mem_of_getElem? (i := 791) (by decide +kernel)) rfl, ts_of (List.mem_of_getElem? (i := 792) (by decide +kernel)) rfl, ts_of (List.mem_of_getElem? (i := 793) (by decide +kernel)) rfl⟩
theorem kV_L_28 : okV RL 28 yX7_fault cX7_fault 1 (some .int) 0 := ⟨kb_X7_fault, ts_of (List.mem_of_getElem? (i := 795) (by decide +kernel)) rfl, ts_of (List.mem_of_getElem? (i := 796) (by decide +kernel)) rfl, ts_of (List.mem_of_getElem? (i := 797) (by decide +kernel)) rfl⟩
theorem kV_X7_128 : okV RX7 128 yX7_readAll cX7_readAll 2 (some .int) 0 := ⟨kb_X7_readAll, ts_of (List.mem_of_getElem? (i := 799) (by decide +kernel)) rfl, ts_of (List.mem_of_getElem? (i := 801) (by decide +kernel)) rfl, ts_of (List.mem_of_getElem? (i := 27) (by decide +kernel)) rfl⟩
theorem kV_X7_125 : okV RX7 125 yX7_item cX7_item 2 (some .boolean) 0 := ⟨kb_X7_item, ts_of (List.mem_of_getElem? (i := 803) (by decide +kernel)) rfl, ts_of (List.mem_of_getElem? (i := 805) (by decide +kernel)) rfl, ts_of (List.mem_of_getElem? (i := 28) (by decide +kernel)) rfl⟩
theorem kV_X7_101 : okV RX7 101 yX7_byteAt cX7_byteAt 2 (some .int) 1 := ⟨kb_X7_byteAt, ts_of (List.mem_of_getElem? (i := 807) (by decide +kernel)) rfl, ts_of (List.mem_of_getElem? (i := 809) (by decide +kernel)) rfl, ts_of (List.mem_of_getElem? (i := 29) (by decide +kernel)) rfl⟩
theorem kV_X7_117 : okV RX7 117 yX7_personItem cX7_personItem 3 (some .boolean) 0 := ⟨kb_X7_personItem, ts_of (List.mem_of_getElem? (i := 811) (by decide +kernel)) rfl, ts_of (List.mem_of_getElem? (i := 813) (by decide +kernel)) rfl, ts_of (List.mem_of_getElem? (i := 30) (by decide +kernel)) rfl⟩
theorem kV_X7_111 : okV RX7 111 yX7_figures cX7_figures 6 (some .boolean) 2 := ⟨kb_X7_figures, ts_of (List.mem_of_getElem? (i := 815) (by decide +kernel)) rfl, ts_of (List.mem_of_getElem? (i := 817) (by decide +kernel)) rfl, ts_of (List.mem_of_getElem? (i := 31) (by decide +kernel)) rfl⟩
theorem kc_X7_105 : Cond.constantLong RX7 105 (48) ∈ TS := ts_of (List.mem_of_getElem? (i := 819) (by decide +kernel)) rfl
theorem kc_X7_107 : Cond.constantLong RX7 107 (57) ∈ TS := ts_of (List.mem_of_getElem? (i := 820) (by decide +kernel)) rfl
theorem kc_X7_109 : Cond.constantLong RX7 109 (3) ∈ TS := ts_of (List.mem_of_getElem? (i := 821) (by decide +kernel)) rfl
theorem kc_X7_115 : Cond.constantLong RX7 115 (53) ∈ TS := ts_of (List.mem_of_getElem? (i := 822) (by decide +kernel)) rfl
theorem kc_X7_121 : Cond.constantLong RX7 121 (9) ∈ TS := ts_of (List.mem_of_getElem? (i := 823) (by decide +kernel)) rfl
theorem kc_X7_123 : Cond.constantLong RX7 123 (12) ∈ TS := ts_of (List.mem_of_getElem? (i := 824) (by decide +kernel)) rfl
theorem kV_L_32 : okV RL 32 yX7_lay cX7_lay 2 (some .int) 0 := ⟨kb_X7_lay, ts_of (List.mem_of_getElem? (i := 825) (by decide +kernel)) rfl, ts_of (List.mem_of_getElem? (i := 826) (by decide +kernel)) rfl, ts_of (List.mem_of_getElem? (i := 827) (by decide +kernel)) rfl⟩
theorem kV_L_37 : okV RL 37 yX7_person cX7_person 3 (some .int) 2 := ⟨kb_X7_person, ts_of (List.mem_of_getElem? (i := 829) (by decide +kernel)) rfl, ts_of (List.mem_of_getElem? (i := 830) (by decide +kernel)) rfl, ts_of (List.mem_of_getElem? (i := 831) (by decide +kernel)) rfl⟩
theorem kV_X7_139 : okV RX7 139 yX7_isPerson cX7_isPerson 2 (some .boolean) 1 := ⟨kb_X7_isPerson, ts_of (List.mem_of_getElem? (i := 833) (by decide +kernel)) rfl, ts_of (List.mem_of_getElem? (i := 835) (by decide +kernel)) rfl, ts_of (List.mem_of_getElem? (i := 32) (by decide +kernel)) rfl⟩
theorem kc_X7_143 : Cond.constantLong RX7 143 (5) ∈ TS := ts_of (List.mem_of_getElem? (i := 837) (by decide +kernel)) rfl
theorem kV_X7_145 : okV RX7 145 yX7_sayNow cX7_sayNow 1 none 0 := ⟨kb_X7_sayNow, ts_of (List.mem_of_getElem? (i := 838) (by decide +kernel)) rfl, ts_of (List.mem_of_getElem? (i := 840) (by decide +kernel)) rfl, ts_of (List.mem_of_getElem? (i := 33) (by decide +kernel)) rfl⟩
theorem kV_X7_135 : okV RX7 135 yX7_laySaid cX7_laySaid 10 none 3 := ⟨kb_X7_laySaid, ts_of (List.mem_of_getElem? (i := 842) (by decide +kernel)) rfl, ts_of (List.mem_of_getElem? (i := 844) (by decide +kernel)) rfl, ts_of (List.mem_of_getElem? (i := 34) (by decide +kernel)) rfl⟩
theorem kV_L_41 : okV RL 41 yX7_said cX7_said 3 (some .int) 2 := ⟨kb_X7_said, ts_of (List.mem_of_getElem? (i := 846) (by decide +kernel)) rfl, ts_of (List.mem_of_getElem? (i := 847) (by decide +kernel)) rfl, ts_of (List.mem_of_getElem? (i := 848) (by decide +kernel)) rfl⟩
theorem kc_X7_148 : Cond.constantLong RX7 148 (19) ∈ TS := ts_of (List.mem_of_getElem? (i := 850) (by decide +kernel)) rfl
theorem kV_L_45 : okV RL 45 yX7_deed cX7_deed 3 (some .int) 2 := ⟨kb_X7_deed, ts_of (List.mem_of_getElem? (i := 851) (by decide +kernel)) rfl, ts_of (List.mem_of_getElem? (i := 852) (by decide +kernel)) rfl, ts_of (List.mem_of_getElem? (i := 853) (by decide +kernel)) rfl⟩
theorem kV_X7_150 : okV RX7 150 yX7_doDeed cX7_doDeed 3 (some .boolean) 2 := ⟨kb_X7_doDeed, ts_of (List.mem_of_getElem? (i := 855) (by decide +kernel)) rfl, ts_of (List.mem_of_getElem? (i := 857) (by decide +kernel)) rfl, ts_of (List.mem_of_getElem? (i := 35) (by decide +kernel)) rfl⟩
theorem kV_L_49 : okV RL 49 yX7_kind cX7_kind 4 (some .int) 2 := ⟨kb_X7_kind, ts_of (List.mem_of_getElem? (i := 859) (by decide +kernel)) rfl, ts_of (List.mem_of_getElem? (i := 860) (by decide +kernel)) rfl, ts_of (List.mem_of_getElem? (i := 861) (by decide +kernel)) rfl⟩
theorem kV_L_54 : okV RL 54 yX7_cry cX7_cry 2 (some .int) 1 := ⟨kb_X7_cry, ts_of (List.mem_of_getElem? (i := 863) (by decide +kernel)) rfl, ts_of (List.mem_of_getElem? (i := 864) (by decide +kernel)) rfl, ts_of (List.mem_of_getElem? (i := 865) (by decide +kernel)) rfl⟩
theorem kV_X7_156 : okV RX7 156 yX7_isSet cX7_isSet 2 (some .boolean) 1 := ⟨kb_X7_isSet, ts_of (List.mem_of_getElem? (i := 867) (by decide +kernel)) rfl, ts_of (List.mem_of_getElem? (i := 869) (by decide +kernel)) rfl, ts_of (List.mem_of_getElem? (i := 36) (by decide +kernel)) rfl⟩
theorem kV_X7_159 : okV RX7 159 yX7_cryOf cX7_cryOf 5 (some .int) 1 := ⟨kb_X7_cryOf, ts_of (List.mem_of_getElem? (i := 871) (by decide +kernel)) rfl, ts_of (List.mem_of_getElem? (i := 873) (by decide +kernel)) rfl, ts_of (List.mem_of_getElem? (i := 37) (by decide +kernel)) rfl⟩
theorem kS_X7_153 : okS RX7 153 yX7_has cX7_has 2 (some .boolean) 2 := ⟨kb_X7_has, ts_of (List.mem_of_getElem? (i := 875) (by decide +kernel)) rfl, ts_of (List.mem_of_getElem? (i := 876) (by decide +kernel)) rfl⟩
theorem kV_L_58 : okV RL 58 yX7_warn cX7_warn 4 (some .int) 2 := ⟨kb_X7_warn, ts_of (List.mem_of_getElem? (i := 878) (by decide +kernel)) rfl, ts_of (List.mem_of_getElem? (i := 879) (by decide +kernel)) rfl, ts_of (List.mem_of_getElem? (i := 880) (by decide +kernel)) rfl⟩
theorem kc_X7_169 : Cond.constantLong RX7 169 (999) ∈ TS := ts_of (List.mem_of_getElem? (i := 882) (by decide +kernel)) rfl
theorem kV_X7_171 : okV RX7 171 yX7_layWarning cX7_layWarning 5 (some .int) 1 := ⟨kb_X7_layWarning, ts_of (List.mem_of_getElem? (i := 883) (by decide +kernel)) rfl, ts_of (List.mem_of_getElem? (i := 885) (by decide +kernel)) rfl, ts_of (List.mem_of_getElem? (i := 38) (by decide +kernel)) rfl⟩
theorem kV_X7_162 : okV RX7 162 yX7_isInTime cX7_isInTime 4 (some .boolean) 3 := ⟨kb_X7_isInTime, ts_of (List.mem_of_getElem? (i := 887) (by decide +kernel)) rfl, ts_of (List.mem_of_getElem? (i := 889) (by decide +kernel)) rfl, ts_of (List.mem_of_getElem? (i := 39) (by decide +kernel)) rfl⟩
theorem kS_X7_166 : okS RX7 166 yX7_bits cX7_bits 3 (some .int) 1 := ⟨kb_X7_bits, ts_of (List.mem_of_getElem? (i := 891) (by decide +kernel)) rfl, ts_of (List.mem_of_getElem? (i := 892) (by decide +kernel)) rfl⟩
theorem kV_L_62 : okV RL 62 yX7_called cX7_called 7 (some .int) 2 := ⟨kb_X7_called, ts_of (List.mem_of_getElem? (i := 894) (by decide +kernel)) rfl, ts_of (List.mem_of_getElem? (i := 895) (by decide +kernel)) rfl, ts_of (List.mem_of_getElem? (i := 896) (by decide +kernel)) rfl⟩
theorem kc_X7_174 : Cond.constantLong RX7 174 (7) ∈ TS := ts_of (List.mem_of_getElem? (i := 898) (by decide +kernel)) rfl
theorem kV_X7_176 : okV RX7 176 yX7_layFollows cX7_layFollows 6 none 2 := ⟨kb_X7_layFollows, ts_of (List.mem_of_getElem? (i := 899) (by decide +kernel)) rfl, ts_of (List.mem_of_getElem? (i := 901) (by decide +kernel)) rfl, ts_of (List.mem_of_getElem? (i := 40) (by decide +kernel)) rfl⟩
theorem kV_L_66 : okV RL 66 yX7_greet cX7_greet 7 (some .int) 2 := ⟨kb_X7_greet, ts_of (List.mem_of_getElem? (i := 903) (by decide +kernel)) rfl, ts_of (List.mem_of_getElem? (i := 904) (by decide +kernel)) rfl, ts_of (List.mem_of_getElem? (i := 905) (by decide +kernel)) rfl⟩
theorem kc_X7_190 : Cond.constantLong RX7 190 (-1) ∈ TS := ts_of (List.mem_of_getElem? (i := 907) (by decide +kernel)) rfl
theorem kV_X7_192 : okV RX7 192 yX7_layNeeds cX7_layNeeds 7 none 1 := ⟨kb_X7_layNeeds, ts_of (List.mem_of_getElem? (i := 908) (by decide +kernel)) rfl, ts_of (List.mem_of_getElem? (i := 910) (by decide +kernel)) rfl, ts_of (List.mem_of_getElem? (i := 41) (by decide +kernel)) rfl⟩
theorem kV_X7_180 : okV RX7 180 yX7_mayGreet cX7_mayGreet 6 (some .boolean) 3 := ⟨kb_X7_mayGreet, ts_of (List.mem_of_getElem? (i := 912) (by decide +kernel)) rfl, ts_of (List.mem_of_getElem? (i := 914) (by decide +kernel)) rfl, ts_of (List.mem_of_getElem? (i := 42) (by decide +kernel)) rfl⟩
theorem kV_X7_183 : okV RX7 183 yX7_breathsFor cX7_breathsFor 3 (some .int) 2 := ⟨kb_X7_breathsFor, ts_of (List.mem_of_getElem? (i := 916) (by decide +kernel)) rfl, ts_of (List.mem_of_getElem? (i := 918) (by decide +kernel)) rfl, ts_of (List.mem_of_getElem? (i := 43) (by decide +kernel)) rfl⟩
theorem kV_X7_187 : okV RX7 187 yX7_roomBehind cX7_roomBehind 3 (some .int) 2 := ⟨kb_X7_roomBehind, ts_of (List.mem_of_getElem? (i := 920) (by decide +kernel)) rfl, ts_of (List.mem_of_getElem? (i := 922) (by decide +kernel)) rfl, ts_of (List.mem_of_getElem? (i := 44) (by decide +kernel)) rfl⟩
theorem kV_L_70 : okV RL 70 yX7_shortCall cX7_shortCall 3 (some .int) 2 := ⟨kb_X7_shortCall, ts_of (List.mem_of_getElem? (i := 924) (by decide +kernel)) rfl, ts_of (List.mem_of_getElem? (i := 925) (by decide +kernel)) rfl, ts_of (List.mem_of_getElem? (i := 926) (by decide +kernel)) rfl⟩
theorem kV_X7_198 : okV RX7 198 yX7_shortOf cX7_shortOf 7 (some .int) 3 := ⟨kb_X7_shortOf, ts_of (List.mem_of_getElem? (i := 928) (by decide +kernel)) rfl, ts_of (List.mem_of_getElem? (i := 930) (by decide +kernel)) rfl, ts_of (List.mem_of_getElem? (i := 45) (by decide +kernel)) rfl⟩
theorem kV_X7_195 : okV RX7 195 yX7_answers cX7_answers 6 (some .boolean) 3 := ⟨kb_X7_answers, ts_of (List.mem_of_getElem? (i := 932) (by decide +kernel)) rfl, ts_of (List.mem_of_getElem? (i := 934) (by decide +kernel)) rfl, ts_of (List.mem_of_getElem? (i := 46) (by decide +kernel)) rfl⟩
theorem kV_L_74 : okV RL 74 yX7_allShort cX7_allShort 2 (some .int) 1 := ⟨kb_X7_allShort, ts_of (List.mem_of_getElem? (i := 936) (by decide +kernel)) rfl, ts_of (List.mem_of_getElem? (i := 937) (by decide +kernel)) rfl, ts_of (List.mem_of_getElem? (i := 938) (by decide +kernel)) rfl⟩
theorem kV_X7_202 : okV RX7 202 yX7_allShortOf cX7_allShortOf 6 (some .int) 2 := ⟨kb_X7_allShortOf, ts_of (List.mem_of_getElem? (i := 940) (by decide +kernel)) rfl, ts_of (List.mem_of_getElem? (i := 942) (by decide +kernel)) rfl, ts_of (List.mem_of_getElem? (i := 47) (by decide +kernel)) rfl⟩
theorem kV_L_79 : okV RL 79 yX7_apart cX7_apart 8 (some .int) 3 := ⟨kb_X7_apart, ts_of (List.mem_of_getElem? (i := 944) (by decide +kernel)) rfl, ts_of (List.mem_of_getElem? (i := 945) (by decide +kernel)) rfl, ts_of (List.mem_of_getElem? (i := 946) (by decide +kernel)) rfl⟩
theorem kV_L_83 : okV RL 83 yX7_hear cX7_hear 2 (some .int) 1 := ⟨kb_X7_hear, ts_of (List.mem_of_getElem? (i := 948) (by decide +kernel)) rfl, ts_of (List.mem_of_getElem? (i := 949) (by decide +kernel)) rfl, ts_of (List.mem_of_getElem? (i := 950) (by decide +kernel)) rfl⟩
theorem kV_L_87 : okV RL 87 yX7_forget cX7_forget 2 (some .int) 0 := ⟨kb_X7_forget, ts_of (List.mem_of_getElem? (i := 952) (by decide +kernel)) rfl, ts_of (List.mem_of_getElem? (i := 953) (by decide +kernel)) rfl, ts_of (List.mem_of_getElem? (i := 954) (by decide +kernel)) rfl⟩
theorem kV_L_92 : okV RL 92 yX7_odds cX7_odds 11 (some .long) 2 := ⟨kb_X7_odds, ts_of (List.mem_of_getElem? (i := 956) (by decide +kernel)) rfl, ts_of (List.mem_of_getElem? (i := 957) (by decide +kernel)) rfl, ts_of (List.mem_of_getElem? (i := 958) (by decide +kernel)) rfl⟩
theorem kV_X7_207 : okV RX7 207 yX7_weightOf cX7_weightOf 5 (some .long) 1 := ⟨kb_X7_weightOf, ts_of (List.mem_of_getElem? (i := 960) (by decide +kernel)) rfl, ts_of (List.mem_of_getElem? (i := 962) (by decide +kernel)) rfl, ts_of (List.mem_of_getElem? (i := 48) (by decide +kernel)) rfl⟩
theorem kc_X7_205 : Cond.constantLong RX7 205 (10) ∈ TS := ts_of (List.mem_of_getElem? (i := 964) (by decide +kernel)) rfl
theorem kc_X7_211 : Cond.constantLong RX7 211 (-4) ∈ TS := ts_of (List.mem_of_getElem? (i := 965) (by decide +kernel)) rfl
theorem kV_L_96 : okV RL 96 yX7_meant cX7_meant 4 (some .int) 0 := ⟨kb_X7_meant, ts_of (List.mem_of_getElem? (i := 966) (by decide +kernel)) rfl, ts_of (List.mem_of_getElem? (i := 967) (by decide +kernel)) rfl, ts_of (List.mem_of_getElem? (i := 968) (by decide +kernel)) rfl⟩
theorem kV_L_100 : okV RL 100 yX7_years cX7_years 8 (some .int) 3 := ⟨kb_X7_years, ts_of (List.mem_of_getElem? (i := 970) (by decide +kernel)) rfl, ts_of (List.mem_of_getElem? (i := 971) (by decide +kernel)) rfl, ts_of (List.mem_of_getElem? (i := 972) (by decide +kernel)) rfl⟩
theorem kS_X7_228 : okS RX7 228 yX7_isHill cX7_isHill 2 (some .boolean) 2 := ⟨kb_X7_isHill, ts_of (List.mem_of_getElem? (i := 974) (by decide +kernel)) rfl, ts_of (List.mem_of_getElem? (i := 975) (by decide +kernel)) rfl⟩
theorem kc_X7_224 : Cond.constantLong RX7 224 (9999) ∈ TS := ts_of (List.mem_of_getElem? (i := 977) (by decide +kernel)) rfl
theorem kc_X7_226 : Cond.constantLong RX7 226 (60) ∈ TS := ts_of (List.mem_of_getElem? (i := 978) (by decide +kernel)) rfl
theorem kc_X7_231 : Cond.constantLong RX7 231 (2) ∈ TS := ts_of (List.mem_of_getElem? (i := 979) (by decide +kernel)) rfl
theorem kV_X7_233 : okV RX7 233 yX7_goYears cX7_goYears 8 none 2 := ⟨kb_X7_goYears, ts_of (List.mem_of_getElem? (i := 980) (by decide +kernel)) rfl, ts_of (List.mem_of_getElem? (i := 982) (by decide +kernel)) rfl, ts_of (List.mem_of_getElem? (i := 49) (by decide +kernel)) rfl⟩
theorem kV_X7_213 : okV RX7 213 yX7_copy cX7_copy 4 none 2 := ⟨kb_X7_copy, ts_of (List.mem_of_getElem? (i := 984) (by decide +kernel)) rfl, ts_of (List.mem_of_getElem? (i := 986) (by decide +kernel)) rfl, ts_of (List.mem_of_getElem? (i := 50) (by decide +kernel)) rfl⟩
theorem kc_X7_216 : Cond.constantLong RX7 216 (7919) ∈ TS := ts_of (List.mem_of_getElem? (i := 988) (by decide +kernel)) rfl
theorem kc_X7_218 : Cond.constantLong RX7 218 (6151) ∈ TS := ts_of (List.mem_of_getElem? (i := 989) (by decide +kernel)) rfl
theorem kc_X7_220 : Cond.constantLong RX7 220 (3571) ∈ TS := ts_of (List.mem_of_getElem? (i := 990) (by decide +kernel)) rfl
theorem kc_X7_222 : Cond.constantLong RX7 222 (65521) ∈ TS := ts_of (List.mem_of_getElem? (i := 991) (by decide +kernel)) rfl
theorem kV_L_105 : okV RL 105 yX7_then cX7_then 5 (some .int) 4 := ⟨kb_X7_then, ts_of (List.mem_of_getElem? (i := 992) (by decide +kernel)) rfl, ts_of (List.mem_of_getElem? (i := 993) (by decide +kernel)) rfl, ts_of (List.mem_of_getElem? (i := 994) (by decide +kernel)) rfl⟩
theorem kV_L_109 : okV RL 109 yX7_keep cX7_keep 1 (some .int) 0 := ⟨kb_X7_keep, ts_of (List.mem_of_getElem? (i := 996) (by decide +kernel)) rfl, ts_of (List.mem_of_getElem? (i := 997) (by decide +kernel)) rfl, ts_of (List.mem_of_getElem? (i := 998) (by decide +kernel)) rfl⟩
theorem kV_X7_236 : okV RX7 236 yX7_copyHeard cX7_copyHeard 4 none 2 := ⟨kb_X7_copyHeard, ts_of (List.mem_of_getElem? (i := 1000) (by decide +kernel)) rfl, ts_of (List.mem_of_getElem? (i := 1002) (by decide +kernel)) rfl, ts_of (List.mem_of_getElem? (i := 51) (by decide +kernel)) rfl⟩
theorem kV_L_113 : okV RL 113 yX7_back cX7_back 1 (some .int) 0 := ⟨kb_X7_back, ts_of (List.mem_of_getElem? (i := 1004) (by decide +kernel)) rfl, ts_of (List.mem_of_getElem? (i := 1005) (by decide +kernel)) rfl, ts_of (List.mem_of_getElem? (i := 1006) (by decide +kernel)) rfl⟩
theorem kV_L_117 : okV RL 117 yX7_count cX7_count 2 (some .int) 1 := ⟨kb_X7_count, ts_of (List.mem_of_getElem? (i := 1008) (by decide +kernel)) rfl, ts_of (List.mem_of_getElem? (i := 1009) (by decide +kernel)) rfl, ts_of (List.mem_of_getElem? (i := 1010) (by decide +kernel)) rfl⟩
theorem kc_L_13 : Cond.constantLong RL 13 (4294967295) ∈ TS := ts_of (List.mem_of_getElem? (i := 1012) (by decide +kernel)) rfl
theorem kj_copy_n : Cond.native arraycopyName ∈ TS := ts_of (List.mem_of_getElem? (i := 274) (by decide +kernel)) rfl
theorem kj_copy_s : Cond.static arraycopyName ∈ TS := ts_of (List.mem_of_getElem? (i := 273) (by decide +kernel)) rfl
theorem kj_copy_i : Cond.initialized "java/lang/System" ∈ TS := ts_of (List.mem_of_getElem? (i := 60) (by decide +kernel)) rfl
theorem kj_math_i : Cond.initialized "java/lang/Math" ∈ TS := ts_of (List.mem_of_getElem? (i := 62) (by decide +kernel)) rfl
theorem kj_max_s : Cond.static Lib.Math.max.name ∈ TS := ts_of (List.mem_of_getElem? (i := 576) (by decide +kernel)) rfl
theorem kj_max_c : Cond.code Lib.Math.max.name Lib.Math.max.code 2 (some .int) ∈ TS := ts_of (List.mem_of_getElem? (i := 577) (by decide +kernel)) rfl
theorem kj_min_s : Cond.static Lib.Math.min.name ∈ TS := ts_of (List.mem_of_getElem? (i := 465) (by decide +kernel)) rfl
theorem kj_min_c : Cond.code Lib.Math.min.name Lib.Math.min.code 2 (some .int) ∈ TS := ts_of (List.mem_of_getElem? (i := 466) (by decide +kernel)) rfl
end
section
abbrev rm_X0_init : Room := { frames := 1, cells := 0, slots := 0, locals := 20 }
abbrev rm_X0_empty : Room := { frames := 0, cells := 0, slots := 0, locals := 0 }
abbrev rm_X0_copyFrom : Room := { frames := 1, cells := 0, slots := 0, locals := 26 }
abbrev rm_X0_take : Room := { frames := 0, cells := 0, slots := 0, locals := 0 }
abbrev rm_X0_likeness : Room := { frames := 5, cells := 0, slots := 0, locals := 109 }
abbrev rm_X1_init : Room := { frames := 1, cells := 0, slots := 0, locals := 20 }
abbrev rm_X1_learn : Room := { frames := 6, cells := 0, slots := 0, locals := 135 }
abbrev rm_X1_inOrder : Room := { frames := 1, cells := 0, slots := 0, locals := 22 }
abbrev rm_X1_breathsFor : Room := { frames := 0, cells := 0, slots := 0, locals := 0 }
abbrev rm_X1_beatsToCall : Room := { frames := 2, cells := 0, slots := 0, locals := 43 }
abbrev rm_X1_mostSaved : Room := { frames := 3, cells := 0, slots := 0, locals := 67 }
abbrev rm_X1_someoneCanBeLast : Room := { frames := 2, cells := 0, slots := 0, locals := 43 }
abbrev rm_X1_orderWarning : Room := { frames := 3, cells := 0, slots := 0, locals := 68 }
abbrev rm_X1_nextSaved : Room := { frames := 2, cells := 0, slots := 0, locals := 43 }
abbrev rm_X1_fewestBreaths : Room := { frames := 4, cells := 0, slots := 0, locals := 89 }
abbrev rm_X1_rankAll : Room := { frames := 2, cells := 0, slots := 0, locals := 43 }
abbrev rm_X1_mayBeFirst : Room := { frames := 2, cells := 0, slots := 0, locals := 43 }
abbrev rm_X1_leastPacking : Room := { frames := 3, cells := 0, slots := 0, locals := 65 }
abbrev rm_X1_nothingPacked : Room := { frames := 0, cells := 0, slots := 0, locals := 0 }
abbrev rm_X1_packed : Room := { frames := 1, cells := 0, slots := 0, locals := 21 }
abbrev rm_X1_joined : Room := { frames := 0, cells := 0, slots := 0, locals := 0 }
abbrev rm_X1_orderCouncil : Room := { frames := 4, cells := 0, slots := 0, locals := 89 }
abbrev rm_X1_nextGreeted : Room := { frames := 3, cells := 0, slots := 0, locals := 65 }
abbrev rm_X2_init : Room := { frames := 2, cells := 0, slots := 0, locals := 40 }
abbrev rm_X2_empty : Room := { frames := 0, cells := 0, slots := 0, locals := 0 }
abbrev rm_X2_settle : Room := { frames := 4, cells := 0, slots := 0, locals := 90 }
abbrev rm_X2_pacesOf : Room := { frames := 2, cells := 0, slots := 0, locals := 43 }
abbrev rm_X2_rankOf : Room := { frames := 2, cells := 0, slots := 0, locals := 43 }
abbrev rm_X2_beatsOf : Room := { frames := 5, cells := 0, slots := 0, locals := 109 }
abbrev rm_X2_doDeed : Room := { frames := 3, cells := 0, slots := 0, locals := 65 }
abbrev rm_X2_liveYears : Room := { frames := 4, cells := 0, slots := 0, locals := 88 }
abbrev rm_X2_drawnDeed : Room := { frames := 0, cells := 0, slots := 0, locals := 0 }
abbrev rm_X3_init : Room := { frames := 2, cells := 0, slots := 0, locals := 40 }
abbrev rm_X3_copyFrom : Room := { frames := 2, cells := 0, slots := 0, locals := 47 }
abbrev rm_X4_init : Room := { frames := 1, cells := 0, slots := 0, locals := 20 }
abbrev rm_X4_copyFrom : Room := { frames := 1, cells := 0, slots := 0, locals := 26 }
abbrev rm_X4_has : Room := { frames := 1, cells := 0, slots := 0, locals := 22 }
abbrev rm_X4_enter : Room := { frames := 3, cells := 0, slots := 0, locals := 65 }
abbrev rm_X4_kindOf : Room := { frames := 2, cells := 0, slots := 0, locals := 43 }
abbrev rm_X4_changeKind : Room := { frames := 3, cells := 0, slots := 0, locals := 64 }
abbrev rm_X4_sizeOf : Room := { frames := 2, cells := 0, slots := 0, locals := 43 }
abbrev rm_X4_longOf : Room := { frames := 3, cells := 0, slots := 0, locals := 64 }
abbrev rm_X4_longest : Room := { frames := 4, cells := 0, slots := 0, locals := 86 }
abbrev rm_X4_syllableAt : Room := { frames := 3, cells := 0, slots := 0, locals := 64 }
abbrev rm_X4_saidAt : Room := { frames := 4, cells := 0, slots := 0, locals := 86 }
abbrev rm_X4_gain : Room := { frames := 2, cells := 0, slots := 0, locals := 43 }
abbrev rm_X4_lose : Room := { frames := 2, cells := 0, slots := 0, locals := 43 }
abbrev rm_X4_alike : Room := { frames := 5, cells := 0, slots := 0, locals := 109 }
abbrev rm_X4_shortest : Room := { frames := 6, cells := 0, slots := 0, locals := 133 }
abbrev rm_X4_sumOfShortest : Room := { frames := 7, cells := 0, slots := 0, locals := 157 }
abbrev rm_X4_numberOfShort : Room := { frames := 7, cells := 0, slots := 0, locals := 157 }
abbrev rm_X5_init : Room := { frames := 1, cells := 0, slots := 0, locals := 20 }
abbrev rm_X5_hasRoom : Room := { frames := 0, cells := 0, slots := 0, locals := 0 }
abbrev rm_X5_put : Room := { frames := 0, cells := 0, slots := 0, locals := 0 }
abbrev rm_X5_readInto : Room := { frames := 7, cells := 0, slots := 0, locals := 163 }
abbrev rm_X5_readItem : Room := { frames := 6, cells := 0, slots := 0, locals := 141 }
abbrev rm_X5_readPerson : Room := { frames := 5, cells := 0, slots := 0, locals := 116 }
abbrev rm_X5_readWorth : Room := { frames := 3, cells := 0, slots := 0, locals := 67 }
abbrev rm_X5_readShame : Room := { frames := 3, cells := 0, slots := 0, locals := 67 }
abbrev rm_X5_readBeats : Room := { frames := 3, cells := 0, slots := 0, locals := 67 }
abbrev rm_X5_readBreath : Room := { frames := 3, cells := 0, slots := 0, locals := 67 }
abbrev rm_X5_readMisheard : Room := { frames := 3, cells := 0, slots := 0, locals := 67 }
abbrev rm_X5_here : Room := { frames := 1, cells := 0, slots := 0, locals := 22 }
abbrev rm_X5_number : Room := { frames := 2, cells := 0, slots := 0, locals := 42 }
abbrev rm_X5_readName : Room := { frames := 2, cells := 0, slots := 0, locals := 42 }
abbrev rm_X6_init : Room := { frames := 5, cells := 0, slots := 0, locals := 116 }
abbrev rm_X6_write : Room := { frames := 1, cells := 0, slots := 0, locals := 24 }
abbrev rm_X6_wipe : Room := { frames := 0, cells := 0, slots := 0, locals := 0 }
abbrev rm_X6_fault : Room := { frames := 8, cells := 0, slots := 0, locals := 186 }
abbrev rm_X6_lay : Room := { frames := 8, cells := 0, slots := 0, locals := 186 }
abbrev rm_X6_person : Room := { frames := 6, cells := 0, slots := 0, locals := 135 }
abbrev rm_X6_said : Room := { frames := 5, cells := 0, slots := 0, locals := 109 }
abbrev rm_X6_deed : Room := { frames := 4, cells := 0, slots := 0, locals := 88 }
abbrev rm_X6_kind : Room := { frames := 4, cells := 0, slots := 0, locals := 87 }
abbrev rm_X6_cry : Room := { frames := 7, cells := 0, slots := 0, locals := 158 }
abbrev rm_X6_warn : Room := { frames := 7, cells := 0, slots := 0, locals := 158 }
abbrev rm_X6_called : Room := { frames := 7, cells := 0, slots := 0, locals := 158 }
abbrev rm_X6_greet : Room := { frames := 7, cells := 0, slots := 0, locals := 158 }
abbrev rm_X6_shortCall : Room := { frames := 7, cells := 0, slots := 0, locals := 157 }
abbrev rm_X6_allShort : Room := { frames := 8, cells := 0, slots := 0, locals := 181 }
abbrev rm_X6_apart : Room := { frames := 8, cells := 0, slots := 0, locals := 181 }
abbrev rm_X6_hear : Room := { frames := 1, cells := 0, slots := 0, locals := 22 }
abbrev rm_X6_forget : Room := { frames := 1, cells := 0, slots := 0, locals := 20 }
abbrev rm_X6_odds : Room := { frames := 7, cells := 0, slots := 0, locals := 156 }
abbrev rm_X6_meant : Room := { frames := 7, cells := 0, slots := 0, locals := 156 }
abbrev rm_X6_years : Room := { frames := 8, cells := 0, slots := 0, locals := 180 }
abbrev rm_X6_then : Room := { frames := 5, cells := 0, slots := 0, locals := 114 }
abbrev rm_X6_keep : Room := { frames := 3, cells := 0, slots := 0, locals := 68 }
abbrev rm_X6_back : Room := { frames := 3, cells := 0, slots := 0, locals := 68 }
abbrev rm_X6_count : Room := { frames := 0, cells := 0, slots := 0, locals := 0 }
abbrev rm_X6_within : Room := { frames := 0, cells := 0, slots := 0, locals := 0 }
abbrev rm_X6_isOf : Room := { frames := 1, cells := 0, slots := 0, locals := 22 }
abbrev rm_X6_isHillTime : Room := { frames := 1, cells := 0, slots := 0, locals := 22 }
abbrev rm_X6_commonDivisor : Room := { frames := 0, cells := 0, slots := 0, locals := 0 }
abbrev rm_X6_everyone : Room := { frames := 0, cells := 0, slots := 0, locals := 0 }
abbrev rm_X6_isSet : Room := { frames := 1, cells := 0, slots := 0, locals := 22 }
abbrev rm_X6_weightOf : Room := { frames := 6, cells := 0, slots := 0, locals := 135 }
abbrev rm_X6_keptPlace : Room := { frames := 0, cells := 0, slots := 0, locals := 0 }
abbrev rm_X7_init : Room := { frames := 1, cells := 0, slots := 0, locals := 22 }
abbrev rm_X7_in : Room := { frames := 0, cells := 0, slots := 0, locals := 0 }
abbrev rm_X7_has : Room := { frames := 0, cells := 0, slots := 0, locals := 0 }
abbrev rm_X7_noHill : Room := { frames := 0, cells := 0, slots := 0, locals := 0 }
abbrev rm_X7_write : Room := { frames := 1, cells := 0, slots := 0, locals := 25 }
abbrev rm_X7_wipe : Room := { frames := 0, cells := 0, slots := 0, locals := 0 }
abbrev rm_X7_byteAt : Room := { frames := 0, cells := 0, slots := 0, locals := 0 }
abbrev rm_X7_figures : Room := { frames := 1, cells := 0, slots := 0, locals := 25 }
abbrev rm_X7_personItem : Room := { frames := 2, cells := 0, slots := 0, locals := 50 }
abbrev rm_X7_item : Room := { frames := 3, cells := 0, slots := 0, locals := 72 }
abbrev rm_X7_readAll : Room := { frames := 4, cells := 0, slots := 0, locals := 93 }
abbrev rm_X7_fault : Room := { frames := 5, cells := 0, slots := 0, locals := 114 }
abbrev rm_X7_layHill : Room := { frames := 0, cells := 0, slots := 0, locals := 0 }
abbrev rm_X7_lay : Room := { frames := 5, cells := 0, slots := 0, locals := 114 }
abbrev rm_X7_isPerson : Room := { frames := 1, cells := 0, slots := 0, locals := 25 }
abbrev rm_X7_isSet : Room := { frames := 1, cells := 0, slots := 0, locals := 25 }
abbrev rm_X7_laySaid : Room := { frames := 0, cells := 0, slots := 0, locals := 0 }
abbrev rm_X7_sayNow : Room := { frames := 1, cells := 0, slots := 0, locals := 29 }
abbrev rm_X7_person : Room := { frames := 2, cells := 0, slots := 0, locals := 49 }
abbrev rm_X7_said : Room := { frames := 2, cells := 0, slots := 0, locals := 49 }
abbrev rm_X7_doDeed : Room := { frames := 0, cells := 0, slots := 0, locals := 0 }
abbrev rm_X7_deed : Room := { frames := 2, cells := 0, slots := 0, locals := 46 }
abbrev rm_X7_kind : Room := { frames := 2, cells := 0, slots := 0, locals := 46 }
abbrev rm_X7_cryOf : Room := { frames := 1, cells := 0, slots := 0, locals := 21 }
abbrev rm_X7_cry : Room := { frames := 2, cells := 0, slots := 0, locals := 49 }
abbrev rm_X7_isInTime : Room := { frames := 2, cells := 0, slots := 0, locals := 45 }
abbrev rm_X7_bits : Room := { frames := 0, cells := 0, slots := 0, locals := 0 }
abbrev rm_X7_layWarning : Room := { frames := 3, cells := 0, slots := 0, locals := 68 }
abbrev rm_X7_warn : Room := { frames := 4, cells := 0, slots := 0, locals := 92 }
abbrev rm_X7_layFollows : Room := { frames := 3, cells := 0, slots := 0, locals := 68 }
abbrev rm_X7_called : Room := { frames := 4, cells := 0, slots := 0, locals := 93 }
abbrev rm_X7_breathsFor : Room := { frames := 0, cells := 0, slots := 0, locals := 0 }
abbrev rm_X7_roomBehind : Room := { frames := 0, cells := 0, slots := 0, locals := 0 }
abbrev rm_X7_mayGreet : Room := { frames := 1, cells := 0, slots := 0, locals := 21 }
abbrev rm_X7_layNeeds : Room := { frames := 2, cells := 0, slots := 0, locals := 46 }
abbrev rm_X7_greet : Room := { frames := 3, cells := 0, slots := 0, locals := 72 }
abbrev rm_X7_answers : Room := { frames := 0, cells := 0, slots := 0, locals := 0 }
abbrev rm_X7_shortOf : Room := { frames := 1, cells := 0, slots := 0, locals := 25 }
abbrev rm_X7_allShortOf : Room := { frames := 2, cells := 0, slots := 0, locals := 51 }
abbrev rm_X7_shortCall : Room := { frames := 2, cells := 0, slots := 0, locals := 51 }
abbrev rm_X7_allShort : Room := { frames := 3, cells := 0, slots := 0, locals := 76 }
abbrev rm_X7_apart : Room := { frames := 3, cells := 0, slots := 0, locals := 76 }
abbrev rm_X7_hear : Room := { frames := 1, cells := 0, slots := 0, locals := 25 }
abbrev rm_X7_forget : Room := { frames := 0, cells := 0, slots := 0, locals := 0 }
abbrev rm_X7_weightOf : Room := { frames := 0, cells := 0, slots := 0, locals := 0 }
abbrev rm_X7_odds : Room := { frames := 2, cells := 0, slots := 0, locals := 49 }
abbrev rm_X7_meant : Room := { frames := 2, cells := 0, slots := 0, locals := 49 }
abbrev rm_X7_copy : Room := { frames := 0, cells := 0, slots := 0, locals := 0 }
abbrev rm_X7_goYears : Room := { frames := 1, cells := 0, slots := 0, locals := 23 }
abbrev rm_X7_isHill : Room := { frames := 1, cells := 0, slots := 0, locals := 25 }
abbrev rm_X7_years : Room := { frames := 2, cells := 0, slots := 0, locals := 51 }
abbrev rm_X7_then : Room := { frames := 2, cells := 0, slots := 0, locals := 50 }
abbrev rm_X7_copyHeard : Room := { frames := 0, cells := 0, slots := 0, locals := 0 }
abbrev rm_X7_keep : Room := { frames := 1, cells := 0, slots := 0, locals := 23 }
abbrev rm_X7_back : Room := { frames := 1, cells := 0, slots := 0, locals := 23 }
abbrev rm_X7_count : Room := { frames := 0, cells := 0, slots := 0, locals := 0 }
abbrev rm_J6_bitCount_0f7a4 : Room := { frames := 0, cells := 0, slots := 0, locals := 0 }
abbrev rm_J9_max_7cf53 : Room := { frames := 0, cells := 0, slots := 0, locals := 0 }
abbrev rm_J9_min_7cf53 : Room := { frames := 0, cells := 0, slots := 0, locals := 0 }

/-- a number between two, as within says -/
def wb (a b v : Int32) : Bool := decide (a.toInt ≤ v.toInt ∧ v.toInt ≤ b.toInt)
def hb (p : Nat) (i : Int32) : Bool := decide (0 ≤ i.toInt ∧ i.toInt < p)
theorem hb_N {p i : Nat} (h : i < p) (hp : p ≤ 100000) : hb p (nI i) = true := decide_eq_true (by rw [nI_toInt (by omega)]; omega)
theorem hb_of {p : Nat} {i : Int32} (h : hb p i = true) : ∃ j : Nat, j < p ∧ i = nI j := by
  have h := of_decide_eq_true h
  refine ⟨i.toInt.toNat, by omega, ?_⟩
  apply Int32.toInt_inj.mp
  have := i.toInt_lt
  rw [nI_toInt (by omega)]
  omega
theorem wb_N {a b v : Nat} (ha : a < 2147483648) (hb : b < 2147483648) (hv : v < 2147483648) : wb (nI a) (nI b) (nI v) = decide (a ≤ v ∧ v ≤ b) := by
  unfold wb
  rw [nI_toInt ha, nI_toInt hb, nI_toInt hv]
  exact decide_eq_decide.mpr (by omega)
theorem wb_P {v : Int32} {p : Nat} (hp : p < 1073741824) : wb (nI 0) (nI p - nI 1) v = hb p v := by
  unfold wb hb
  rw [pk_sub_toInt hp (by decide), nI_toInt (by decide)]
  exact decide_eq_decide.mpr (by omega)
theorem wb_R {v : Int32} {p : Nat} (hp : p < 1073741824) : wb (nI 0) (nI p) v = hb (p + 1) v := by
  unfold wb hb
  rw [nI_toInt (n := p) (by omega), nI_toInt (n := 0) (by decide)]
  exact decide_eq_decide.mpr (by omega)
/-- a person's bit in a set -/
def tb (s i : Nat) : Bool := s.testBit i
theorem tb_and {s i : Nat} (hs : s < 2147483648) : s &&& 2 ^ i < 2147483648 := Nat.lt_of_le_of_lt Nat.and_le_left hs
theorem tb_0 {s i : Nat} (h : s &&& 2 ^ i = 0) : tb s i = false := (fb_bit_nat s i).mp h
theorem tb_1 {s i : Nat} (h : ¬ s &&& 2 ^ i = 0) : tb s i = true := by
  cases e : tb s i with
  | true => rfl
  | false => exact absurd ((fb_bit_nat s i).mpr e) h

theorem c_within (g : Gx) (n : Nat) (w : Wd) (v a b : Int32) : CT g yX6_within cX6_within 3 (some .boolean) rm_X6_within n n w [.int v, .int a, .int b] (Rv (.int (bz (wb a b v))) w) := by
  refine CT.start [some (.int v), some (.int a), some (.int b)] (by decide +kernel) rfl (Nat.le_of_ble_eq_true rfl) (fun x C hnm => ?_)
  refine ww_iload0 C dX6_within_0 ?_
  refine ww_iload1 C dX6_within_1 ?_
  refine ww_icmplt C (tgt := 14) dX6_within_2 (by decide) (fun c => ?_) (fun c => ?_)
  · refine ww_iconst C (v := 0) dX6_within_14 (by decide) ?_
    exact ww_rz C dX6_within_15 rfl ⟨Nat.le_of_ble_eq_true rfl, Nat.le_of_ble_eq_true rfl⟩ (by rw [show wb a b v = false from decide_eq_false (by have := Int32.lt_iff_toInt_lt.mp c; omega)]; rfl) rfl
  · refine ww_iload0 C dX6_within_5 ?_
    refine ww_iload2 C dX6_within_6 ?_
    refine ww_icmpgt C (tgt := 14) dX6_within_7 (by decide) (fun d => ?_) (fun d => ?_)
    · refine ww_iconst C (v := 0) dX6_within_14 (by decide) ?_
      exact ww_rz C dX6_within_15 rfl ⟨Nat.le_of_ble_eq_true rfl, Nat.le_of_ble_eq_true rfl⟩ (by rw [show wb a b v = false from decide_eq_false (by have := Int32.lt_iff_toInt_lt.mp d; omega)]; rfl) rfl
    · refine ww_iconst C (v := 1) dX6_within_10 (by decide) ?_
      refine ww_goto C (tgt := 15) dX6_within_11 (by decide) ?_
      exact ww_rz C dX6_within_15 rfl ⟨Nat.le_of_ble_eq_true rfl, Nat.le_of_ble_eq_true rfl⟩ (by
        have c := Int32.not_lt.mp c
        have d := Int32.not_lt.mp d
        rw [show wb a b v = true from decide_eq_true ⟨Int32.le_iff_toInt_le.mp c, Int32.le_iff_toInt_le.mp d⟩]; rfl) rfl

theorem c_isOf (g : Gx) (n : Nat) (w : Wd) (i s : Nat) (hi : i ≤ 7) (hs : s < 2147483648) : CT g yX6_isOf cX6_isOf 2 (some .boolean) rm_X6_isOf n n w [.int (nI i), .int (nI s)] (Rv (.int (bz (tb s i))) w) := by
  refine CT.start [some (.int (nI i)), some (.int (nI s))] (by decide +kernel) rfl (Nat.le_of_ble_eq_true rfl) (fun x C hnm => ?_)
  refine ww_iload0 C dX6_isOf_0 ?_
  refine ww_iconst C (v := nI 0) dX6_isOf_1 (by decide) ?_
  refine ww_bipush C (v := nI 7) dX6_isOf_2 (by decide) ?_
  refine ww_cS3v C (c_within g n w _ _ _) kS_X6_73 ⟨Nat.le_of_ble_eq_true rfl, Nat.le_of_ble_eq_true rfl⟩ ⟨rfl, rfl⟩ ⟨Nat.le_of_ble_eq_true rfl, Nat.le_of_ble_eq_true rfl⟩ (Nat.le_of_ble_eq_true rfl) dX6_isOf_4 ?_
  refine ww_topi (show bz (wb (nI 0) (nI 7) (nI i)) = bz true by rw [wb_N (by decide) (by decide) (by omega), decide_eq_true (by omega)]) ?_
  refine ww_ifeqB C (tgt := 22) dX6_isOf_7 (by decide) (fun c7 => ?_) (fun c7 => ?_)
  · skip
    cases c7
  · skip
    refine ww_iload1 C dX6_isOf_10 ?_
    refine ww_iconst C (v := nI 1) dX6_isOf_11 (by decide) ?_
    refine ww_iload0 C dX6_isOf_12 ?_
    refine ww_shl1N C (by omega) dX6_isOf_13 ?_
    refine ww_iandN C dX6_isOf_14 ?_
    refine ww_ifeqN C (tb_and hs) (tgt := 22) dX6_isOf_15 (by decide) (fun c15 => ?_) (fun c15 => ?_)
    · skip
      refine ww_iconst C (v := nI 0) dX6_isOf_22 (by decide) ?_
      exact ww_rz C dX6_isOf_23 rfl ⟨Nat.le_of_ble_eq_true rfl, Nat.le_of_ble_eq_true rfl⟩ (by first | (rw [tb_0 c15]; rfl) | (rw [tb_1 c15]; rfl)) rfl
    · skip
      refine ww_iconst C (v := nI 1) dX6_isOf_18 (by decide) ?_
      refine ww_goto C (tgt := 23) dX6_isOf_19 (by decide) ?_
      exact ww_rz C dX6_isOf_23 rfl ⟨Nat.le_of_ble_eq_true rfl, Nat.le_of_ble_eq_true rfl⟩ (by first | (rw [tb_0 c15]; rfl) | (rw [tb_1 c15]; rfl)) rfl
/-- names: kinds, sizes, syllables, people, in the four cells from k on -/
def NR (w : Wd) (k : Nat) (K M S : Nat → Nat) (p : Nat) : Prop := w k = ob 4 [.ref (k + 1), .ref (k + 2), .ref (k + 3), .int (nI p)] ∧ w (k + 1) = ai 8 K ∧ w (k + 2) = ai 8 M ∧ w (k + 3) = ai 80 S ∧ p ≤ 8 ∧ (∀ i, K i ≤ 3) ∧ (∀ i, M i ≤ 10) ∧ ∀ i, S i ≤ 5
def longN (K M : Nat → Nat) (i : Nat) : Nat := if K i = 1 then (if 2 ≤ M i then M i - 1 else M i) else if K i = 2 then 2 * M i else if K i = 3 then 2 * M i else M i
def saidN (M S : Nat → Nat) (i k : Nat) : Nat := S (10 * i + if k < M i then k else k - M i)
theorem longN_le {K M : Nat → Nat} {i : Nat} (h : M i ≤ 10) : longN K M i ≤ 20 := by
  unfold longN
  repeat' split
  all_goals omega
theorem longN_2 {K M : Nat → Nat} (i : Nat) : longN K M i ≤ 2 * M i := by
  unfold longN
  repeat' split
  all_goals omega
theorem c_has (g : Gx) (n : Nat) (w : Wd) {k : Nat} {K M S : Nat → Nat} {p : Nat} (hN : NR w k K M S p) (i : Int32) : CT g yX4_has cX4_has 2 (some .boolean) rm_X4_has n n w [.ref k, .int i] (Rv (.int (bz (hb p i))) w) := by
  refine CT.start [some (.ref k), some (.int i)] (by decide +kernel) rfl (Nat.le_of_ble_eq_true rfl) (fun x C hnm => ?_)
  refine ww_iload1 C dX4_has_0 ?_
  refine ww_iconst C (v := nI 0) dX4_has_1 (by decide) ?_
  refine ww_aload0 C dX4_has_2 ?_
  refine ww_getf C fl_X4_21 hN.1 rfl dX4_has_3 ?_
  refine ww_iconst C (v := nI 1) dX4_has_6 (by decide) ?_
  refine ww_isub C dX4_has_7 ?_
  refine ww_cSN3v C (c_within g n w _ _ _) kSN_X4_31 ⟨Nat.le_of_ble_eq_true rfl, Nat.le_of_ble_eq_true rfl⟩ ⟨rfl, rfl⟩ ⟨Nat.le_of_ble_eq_true rfl, Nat.le_of_ble_eq_true rfl⟩ (Nat.le_of_ble_eq_true rfl) dX4_has_8 ?_
  exact ww_rz C dX4_has_11 rfl ⟨Nat.le_of_ble_eq_true rfl, Nat.le_of_ble_eq_true rfl⟩ (by rw [wb_P (by have := hN.2.2.2.2.1; omega)]) rfl
theorem c_sizeOf (g : Gx) (n : Nat) (w : Wd) {k : Nat} {K M S : Nat → Nat} {p : Nat} (hN : NR w k K M S p) {i : Nat} (hi : i < p) : CT g yX4_sizeOf cX4_sizeOf 2 (some .int) rm_X4_sizeOf n n w [.ref k, .int (nI i)] (Rv (.int (nI (M i))) w) := by
  refine CT.start [some (.ref k), some (.int (nI i))] (by decide +kernel) rfl (Nat.le_of_ble_eq_true rfl) (fun x C hnm => ?_)
  refine ww_aload0 C dX4_sizeOf_0 ?_
  refine ww_iload1 C dX4_sizeOf_1 ?_
  refine ww_cV1v C hN.1 rfl (c_has g n w hN _) kV_X4_39 ⟨Nat.le_of_ble_eq_true rfl, Nat.le_of_ble_eq_true rfl⟩ ⟨rfl, rfl⟩ ⟨Nat.le_of_ble_eq_true rfl, Nat.le_of_ble_eq_true rfl⟩ (Nat.le_of_ble_eq_true rfl) dX4_sizeOf_2 ?_
  refine ww_topi (show bz (hb p (nI i)) = bz true by rw [hb_N hi (by have := hN.2.2.2.2.1; omega)]) ?_
  refine ww_ifeqB C (tgt := 17) dX4_sizeOf_5 (by decide) (fun c => ?_) (fun c => ?_)
  · skip
    cases c
  · skip
    refine ww_aload0 C dX4_sizeOf_8 ?_
    refine ww_getf C fl_X4_15 hN.1 rfl dX4_sizeOf_9 ?_
    refine ww_iload1 C dX4_sizeOf_12 ?_
    refine ww_ialdN C hN.2.2.1 (by have := hN.2.2.2.2.1; omega) dX4_sizeOf_13 (kk := ?_)
    refine ww_goto C (tgt := 18) dX4_sizeOf_14 (by decide) ?_
    exact ww_ri C dX4_sizeOf_18 rfl ⟨Nat.le_of_ble_eq_true rfl, Nat.le_of_ble_eq_true rfl⟩ rfl rfl
theorem c_kindOf (g : Gx) (n : Nat) (w : Wd) {k : Nat} {K M S : Nat → Nat} {p : Nat} (hN : NR w k K M S p) {i : Nat} (hi : i < p) : CT g yX4_kindOf cX4_kindOf 2 (some .int) rm_X4_kindOf n n w [.ref k, .int (nI i)] (Rv (.int (nI (K i))) w) := by
  refine CT.start [some (.ref k), some (.int (nI i))] (by decide +kernel) rfl (Nat.le_of_ble_eq_true rfl) (fun x C hnm => ?_)
  refine ww_aload0 C dX4_kindOf_0 ?_
  refine ww_iload1 C dX4_kindOf_1 ?_
  refine ww_cV1v C hN.1 rfl (c_has g n w hN _) kV_X4_39 ⟨Nat.le_of_ble_eq_true rfl, Nat.le_of_ble_eq_true rfl⟩ ⟨rfl, rfl⟩ ⟨Nat.le_of_ble_eq_true rfl, Nat.le_of_ble_eq_true rfl⟩ (Nat.le_of_ble_eq_true rfl) dX4_kindOf_2 ?_
  refine ww_topi (show bz (hb p (nI i)) = bz true by rw [hb_N hi (by have := hN.2.2.2.2.1; omega)]) ?_
  refine ww_ifeqB C (tgt := 17) dX4_kindOf_5 (by decide) (fun c => ?_) (fun c => ?_)
  · skip
    cases c
  · skip
    refine ww_aload0 C dX4_kindOf_8 ?_
    refine ww_getf C fl_X4_9 hN.1 rfl dX4_kindOf_9 ?_
    refine ww_iload1 C dX4_kindOf_12 ?_
    refine ww_ialdN C hN.2.1 (by have := hN.2.2.2.2.1; omega) dX4_kindOf_13 (kk := ?_)
    refine ww_goto C (tgt := 18) dX4_kindOf_14 (by decide) ?_
    exact ww_ri C dX4_kindOf_18 rfl ⟨Nat.le_of_ble_eq_true rfl, Nat.le_of_ble_eq_true rfl⟩ rfl rfl
theorem c_longOf (g : Gx) (n : Nat) (w : Wd) {k : Nat} {K M S : Nat → Nat} {p : Nat} (hN : NR w k K M S p) {i : Nat} (hi : i < p) : CT g yX4_longOf cX4_longOf 3 (some .int) rm_X4_longOf n n w [.ref k, .int (nI i)] (Rv (.int (nI (longN K M i))) w) := by
  refine CT.start [some (.ref k), some (.int (nI i)), none] (by decide +kernel) rfl (Nat.le_of_ble_eq_true rfl) (fun x C hnm => ?_)
  refine ww_aload0 C dX4_longOf_0 ?_
  refine ww_iload1 C dX4_longOf_1 ?_
  refine ww_cV1v C hN.1 rfl (c_sizeOf g n w hN hi) kV_X4_47 ⟨Nat.le_of_ble_eq_true rfl, Nat.le_of_ble_eq_true rfl⟩ ⟨rfl, rfl⟩ ⟨Nat.le_of_ble_eq_true rfl, Nat.le_of_ble_eq_true rfl⟩ (Nat.le_of_ble_eq_true rfl) dX4_longOf_2 ?_
  refine ww_istore2 C dX4_longOf_5 (by decide) rfl ?_
  refine ww_aload0 C dX4_longOf_6 ?_
  refine ww_iload1 C dX4_longOf_7 ?_
  refine ww_cV1v C hN.1 rfl (c_kindOf g n w hN hi) kV_X4_43 ⟨Nat.le_of_ble_eq_true rfl, Nat.le_of_ble_eq_true rfl⟩ ⟨rfl, rfl⟩ ⟨Nat.le_of_ble_eq_true rfl, Nat.le_of_ble_eq_true rfl⟩ (Nat.le_of_ble_eq_true rfl) dX4_longOf_8 ?_
  have hk3 := hN.2.2.2.2.2.1 i
  rcases (show K i = 0 ∨ K i = 1 ∨ K i = 2 ∨ K i = 3 by omega) with q | q | q | q
  · rw [q]
    refine ww_tabOut C (tgt := 53) dX4_longOf_11 (by decide) (by decide) ?_
    refine ww_iload2 C dX4_longOf_53 ?_
    exact ww_ri C dX4_longOf_54 rfl ⟨Nat.le_of_ble_eq_true rfl, Nat.le_of_ble_eq_true rfl⟩ (by congr 1; unfold longN; (repeat' split) <;> omega) rfl
  · rw [q]
    refine ww_tabIn C (tgt := 36) dX4_longOf_11 (by decide) (by decide) rfl (by decide) ?_
    refine ww_iload2 C dX4_longOf_36 ?_
    refine ww_iconst C (v := nI 2) dX4_longOf_37 (by decide) ?_
    refine ww_icmpltN C (by have := hN.2.2.2.2.2.2.1 i; omega) (tgt := 47) dX4_longOf_38 (by decide) (fun c38 => ?_) (fun c38 => ?_)
    · skip
      refine ww_iload2 C dX4_longOf_47 ?_
      exact ww_ri C dX4_longOf_48 rfl ⟨Nat.le_of_ble_eq_true rfl, Nat.le_of_ble_eq_true rfl⟩ (by congr 1; unfold longN; (repeat' split) <;> omega) rfl
    · skip
      refine ww_iload2 C dX4_longOf_41 ?_
      refine ww_iconst C (v := nI 1) dX4_longOf_42 (by decide) ?_
      refine ww_isubN C (by omega) dX4_longOf_43 ?_
      refine ww_goto C (tgt := 48) dX4_longOf_44 (by decide) ?_
      exact ww_ri C dX4_longOf_48 rfl ⟨Nat.le_of_ble_eq_true rfl, Nat.le_of_ble_eq_true rfl⟩ (by congr 1; unfold longN; (repeat' split) <;> omega) rfl
  · rw [q]
    refine ww_tabIn C (tgt := 49) dX4_longOf_11 (by decide) (by decide) rfl (by decide) ?_
    refine ww_iconst C (v := nI 2) dX4_longOf_49 (by decide) ?_
    refine ww_iload2 C dX4_longOf_50 ?_
    refine ww_imulN C dX4_longOf_51 ?_
    exact ww_ri C dX4_longOf_52 rfl ⟨Nat.le_of_ble_eq_true rfl, Nat.le_of_ble_eq_true rfl⟩ (by congr 1; unfold longN; (repeat' split) <;> omega) rfl
  · rw [q]
    refine ww_tabIn C (tgt := 49) dX4_longOf_11 (by decide) (by decide) rfl (by decide) ?_
    refine ww_iconst C (v := nI 2) dX4_longOf_49 (by decide) ?_
    refine ww_iload2 C dX4_longOf_50 ?_
    refine ww_imulN C dX4_longOf_51 ?_
    exact ww_ri C dX4_longOf_52 rfl ⟨Nat.le_of_ble_eq_true rfl, Nat.le_of_ble_eq_true rfl⟩ (by congr 1; unfold longN; (repeat' split) <;> omega) rfl
theorem c_syllableAt (g : Gx) (n : Nat) (w : Wd) {k : Nat} {K M S : Nat → Nat} {p : Nat} (hN : NR w k K M S p) {i j : Nat} (hi : i < p) (hj : j < M i) : CT g yX4_syllableAt cX4_syllableAt 3 (some .int) rm_X4_syllableAt n n w [.ref k, .int (nI i), .int (nI j)] (Rv (.int (nI (S (10 * i + j)))) w) := by
  have hM := hN.2.2.2.2.2.2.1 i
  have hp := hN.2.2.2.2.1
  refine CT.start [some (.ref k), some (.int (nI i)), some (.int (nI j))] (by decide +kernel) rfl (Nat.le_of_ble_eq_true rfl) (fun x C hnm => ?_)
  refine ww_iload2 C dX4_syllableAt_0 ?_
  refine ww_iconst C (v := nI 0) dX4_syllableAt_1 (by decide) ?_
  refine ww_aload0 C dX4_syllableAt_2 ?_
  refine ww_iload1 C dX4_syllableAt_3 ?_
  refine ww_cV1v C hN.1 rfl (c_sizeOf g n w hN hi) kV_X4_47 ⟨Nat.le_of_ble_eq_true rfl, Nat.le_of_ble_eq_true rfl⟩ ⟨rfl, rfl⟩ ⟨Nat.le_of_ble_eq_true rfl, Nat.le_of_ble_eq_true rfl⟩ (Nat.le_of_ble_eq_true rfl) dX4_syllableAt_4 ?_
  refine ww_iconst C (v := nI 1) dX4_syllableAt_7 (by decide) ?_
  refine ww_isub C dX4_syllableAt_8 ?_
  refine ww_cSN3v C (c_within g n w _ _ _) kSN_X4_31 ⟨Nat.le_of_ble_eq_true rfl, Nat.le_of_ble_eq_true rfl⟩ ⟨rfl, rfl⟩ ⟨Nat.le_of_ble_eq_true rfl, Nat.le_of_ble_eq_true rfl⟩ (Nat.le_of_ble_eq_true rfl) dX4_syllableAt_9 ?_
  refine ww_topi (show bz _ = bz true by rw [wb_P (by omega), hb_N hj (by omega)]) ?_
  refine ww_ifeqB C (tgt := 29) dX4_syllableAt_12 (by decide) (fun c => ?_) (fun c => ?_)
  · skip
    cases c
  · skip
    refine ww_aload0 C dX4_syllableAt_15 ?_
    refine ww_getf C fl_X4_18 hN.1 rfl dX4_syllableAt_16 ?_
    refine ww_iload1 C dX4_syllableAt_19 ?_
    refine ww_bipush C (v := nI 10) dX4_syllableAt_20 (by decide) ?_
    refine ww_imulN C dX4_syllableAt_22 ?_
    refine ww_iload2 C dX4_syllableAt_23 ?_
    refine ww_iaddN C dX4_syllableAt_24 ?_
    refine ww_ialdN C hN.2.2.2.1 (by omega) dX4_syllableAt_25 (kk := ?_)
    refine ww_goto C (tgt := 31) dX4_syllableAt_26 (by decide) ?_
    exact ww_ri C dX4_syllableAt_31 rfl ⟨Nat.le_of_ble_eq_true rfl, Nat.le_of_ble_eq_true rfl⟩ (by rw [Nat.mul_comm i 10]) rfl
theorem c_saidAt (g : Gx) (n : Nat) (w : Wd) {k : Nat} {K M S : Nat → Nat} {p : Nat} (hN : NR w k K M S p) {i j : Nat} (hi : i < p) (hj : j < longN K M i) : CT g yX4_saidAt cX4_saidAt 4 (some .int) rm_X4_saidAt n n w [.ref k, .int (nI i), .int (nI j)] (Rv (.int (nI (saidN M S i j))) w) := by
  have hM := hN.2.2.2.2.2.2.1 i
  have hp := hN.2.2.2.2.1
  have hL := longN_le (K := K) hM
  have hL2 := longN_2 (K := K) (M := M) i
  refine CT.start [some (.ref k), some (.int (nI i)), some (.int (nI j)), none] (by decide +kernel) rfl (Nat.le_of_ble_eq_true rfl) (fun x C hnm => ?_)
  refine ww_iload2 C dX4_saidAt_0 ?_
  refine ww_iconst C (v := nI 0) dX4_saidAt_1 (by decide) ?_
  refine ww_aload0 C dX4_saidAt_2 ?_
  refine ww_iload1 C dX4_saidAt_3 ?_
  refine ww_cV1v C hN.1 rfl (c_longOf g n w hN hi) kV_X4_50 ⟨Nat.le_of_ble_eq_true rfl, Nat.le_of_ble_eq_true rfl⟩ ⟨rfl, rfl⟩ ⟨Nat.le_of_ble_eq_true rfl, Nat.le_of_ble_eq_true rfl⟩ (Nat.le_of_ble_eq_true rfl) dX4_saidAt_4 ?_
  refine ww_iconst C (v := nI 1) dX4_saidAt_7 (by decide) ?_
  refine ww_isub C dX4_saidAt_8 ?_
  refine ww_cSN3v C (c_within g n w _ _ _) kSN_X4_31 ⟨Nat.le_of_ble_eq_true rfl, Nat.le_of_ble_eq_true rfl⟩ ⟨rfl, rfl⟩ ⟨Nat.le_of_ble_eq_true rfl, Nat.le_of_ble_eq_true rfl⟩ (Nat.le_of_ble_eq_true rfl) dX4_saidAt_9 ?_
  refine ww_topi (show bz _ = bz true by rw [wb_P (by omega), hb_N hj (by omega)]) ?_
  refine ww_ifneB C (tgt := 18) dX4_saidAt_12 (by decide) (fun c => ?_) (fun c => ?_)
  · skip
    refine ww_aload0 C dX4_saidAt_18 ?_
    refine ww_iload1 C dX4_saidAt_19 ?_
    refine ww_cV1v C hN.1 rfl (c_sizeOf g n w hN hi) kV_X4_47 ⟨Nat.le_of_ble_eq_true rfl, Nat.le_of_ble_eq_true rfl⟩ ⟨rfl, rfl⟩ ⟨Nat.le_of_ble_eq_true rfl, Nat.le_of_ble_eq_true rfl⟩ (Nat.le_of_ble_eq_true rfl) dX4_saidAt_20 ?_
    refine ww_istore3 C dX4_saidAt_23 (by decide) rfl ?_
    refine ww_aload0 C dX4_saidAt_24 ?_
    refine ww_iload1 C dX4_saidAt_25 ?_
    refine ww_iload2 C dX4_saidAt_26 ?_
    refine ww_iload3 C dX4_saidAt_27 ?_
    refine ww_icmpgeN C (by omega) (tgt := 35) dX4_saidAt_28 (by decide) (fun c28 => ?_) (fun c28 => ?_)
    · skip
      refine ww_iload2 C dX4_saidAt_35 ?_
      refine ww_iload3 C dX4_saidAt_36 ?_
      refine ww_isubN C (by omega) dX4_saidAt_37 ?_
      refine ww_cV2v C hN.1 rfl (c_syllableAt g n w hN hi (by omega)) kV_X4_59 ⟨Nat.le_of_ble_eq_true rfl, Nat.le_of_ble_eq_true rfl⟩ ⟨rfl, rfl⟩ ⟨Nat.le_of_ble_eq_true rfl, Nat.le_of_ble_eq_true rfl⟩ (Nat.le_of_ble_eq_true rfl) dX4_saidAt_38 ?_
      exact ww_ri C dX4_saidAt_41 rfl ⟨Nat.le_of_ble_eq_true rfl, Nat.le_of_ble_eq_true rfl⟩ (by congr 1; unfold saidN; split <;> first | rfl | omega) rfl
    · skip
      refine ww_iload2 C dX4_saidAt_31 ?_
      refine ww_goto C (tgt := 38) dX4_saidAt_32 (by decide) ?_
      refine ww_cV2v C hN.1 rfl (c_syllableAt g n w hN hi (by omega)) kV_X4_59 ⟨Nat.le_of_ble_eq_true rfl, Nat.le_of_ble_eq_true rfl⟩ ⟨rfl, rfl⟩ ⟨Nat.le_of_ble_eq_true rfl, Nat.le_of_ble_eq_true rfl⟩ (Nat.le_of_ble_eq_true rfl) dX4_saidAt_38 ?_
      exact ww_ri C dX4_saidAt_41 rfl ⟨Nat.le_of_ble_eq_true rfl, Nat.le_of_ble_eq_true rfl⟩ (by congr 1; unfold saidN; split <;> first | rfl | omega) rfl
  · skip
    cases c
end
section
theorem cpy_all (F H : Nat → Int32) {m : Nat} : ∀ j, j < m → va_cpy F H 0 0 m j = F j := fun j h => by unfold va_cpy; rw [if_pos ⟨by omega, by omega⟩, Nat.sub_zero, Nat.zero_add]
theorem ofFn_cong {m : Nat} {f f2 : Nat → Value} (h : ∀ j, j < m → f j = f2 j) (c : ClassId) : arrV c m f = arrV c m f2 := by
  unfold arrV
  congr 2
  funext j
  exact h j.val j.isLt
theorem HW.eqv {g : Gx} {n : Nat} {w w1 : Wd} {H : Heap} (h : HW g n w H) (he : ∀ k, w1 k = w k ∨ ∃ t m f f1, w k = ar t m f ∧ w1 k = ar t m f1 ∧ (∀ j, j < m → f1 j = f j) ∧ ¬ t = 7) : HW g n w1 H := by
  refine ⟨h.1, h.2.1, fun k hk => ?_, fun k hk => ?_⟩
  · rcases he k with e | ⟨t, m, f, f1, e, e1, e2, -⟩
    · rw [e]; exact h.2.2.1 k hk
    · have := h.2.2.1 k hk
      rw [e] at this
      rw [e1]
      have h1 : H[g.2.2.2.1 + k]? = some (arrV (g.2.2.1 t) m (fun j => .int (f j))) := this
      show H[g.2.2.2.1 + k]? = some (arrV (g.2.2.1 t) m (fun j => .int (f1 j)))
      rw [h1]
      exact congrArg some (ofFn_cong (fun j hj => by rw [e2 j hj]) _)
  · rcases he k with e | ⟨t, m, f, f1, e, e1, e2, e3⟩
    · rw [e]; exact h.2.2.2 k hk
    · exact absurd (e.symm.trans (h.2.2.2 k hk)) (ar_dead e3)
theorem WW.eqv {g : Gx} {x : Cx} {nL cs ss n : Nat} {w w1 : Wd} {pc : Nat} {L : List (Option Value)} {st : List Value} (k : WW g x nL cs ss n w1 pc L st) (he : ∀ k, w1 k = w k ∨ ∃ t m f f1, w k = ar t m f ∧ w1 k = ar t m f1 ∧ (∀ j, j < m → f1 j = f j) ∧ ¬ t = 7) : WW g x nL cs ss n w pc L st := fun H locs ls hH hS hl => k H locs ls (hH.eqv he) hS hl
theorem up_le {f : Nat → Nat} {b i v : Nat} (h : ∀ j, f j ≤ b) (hv : v ≤ b) : ∀ j, va_up f i v j ≤ b := fun j => by
  unfold va_up
  split
  · exact hv
  · exact h j
theorem ww_copyN {g : Gx} {x : Cx} {cc : ByteArray} {nL : Nat} {own : String} {rt : Option FieldType} {rm : Room} {n' : Nat} {Post : Option Value → Wd → Prop} {cs ss n : Nat} {w : Wd} {pc : Nat} {L : List (Option Value)} {st : List Value} (C : Ck g x cc nL own rt rm n' Post) {idx k j m : Nat} {F F2 : Nat → Nat} (hl1 : Cond.methodLink own idx arraycopyName ∈ TS) (hk : w k = ai m F) (hj : w j = ai m F2) (hm : m ≤ 100000)
    (hfr : 1 ≤ rm.frames) (hlo : (st.map fun v => v.category).sum + 18 ≤ rm.locals) (hd : decode cc pc = .ok (.invokestatic idx, 3)) (kk : ∀ w1, w1 = va_up w j (ai m F) → WW g x nL cs ss n w1 (pc + 3) L st) : WW g x nL cs ss n w pc L (.int (nI m) :: .int (nI 0) :: .ref j :: .int (nI 0) :: .ref k :: st) := by
  have hc : (nI m).toNatClampNeg = m := nI_clamp (by omega)
  refine ww_copy (N := nI m) C hl1 kj_copy_n kj_copy_s kj_copy_i hk hj (nI_pos (by omega)) (by rw [hc]; exact Nat.le_refl _) (by rw [hc]; exact Nat.le_refl _) hfr hlo hd ?_
  rw [hc]
  refine WW.eqv (kk _ rfl) (fun i => ?_)
  by_cases h : i = j
  · subst h
    refine Or.inr ⟨0, m, _, _, va_upd_self _ _ _, va_upd_self _ _ _, fun q hq => (cpy_all (fun j => nI (F j)) (fun j => nI (F2 j)) q hq).symm, by decide⟩
  · rw [va_upd_ne _ _ h, va_upd_ne _ _ h]
    exact Or.inl rfl
/-- nothing outside a block has changed -/
def fr (w w1 : Wd) (a b : Nat) : Prop := ∀ j, (j < a ∨ b ≤ j) → w1 j = w j
theorem fr.rf {w : Wd} {a b : Nat} : fr w w a b := fun _ _ => rfl
theorem fr.tr {w w1 w2 : Wd} {a b : Nat} (h : fr w w1 a b) (h2 : fr w1 w2 a b) : fr w w2 a b := fun j hj => (h2 j hj).trans (h j hj)
theorem fr.wide {w w1 : Wd} {a b c d : Nat} (h : fr w w1 a b) (h1 : c ≤ a) (h2 : b ≤ d) : fr w w1 c d := fun j hj => h j (by omega)
theorem fr.up {w w1 : Wd} {a b k : Nat} {c : Ce} (hw : w1 = va_up w k c) (h1 : a ≤ k) (h2 : k < b) : fr w w1 a b := fun j hj => by rw [hw]; exact va_upd_ne _ _ (by omega)
theorem NR.fr {w w1 : Wd} {k a b : Nat} {K M S : Nat → Nat} {p : Nat} (h : NR w k K M S p) (hf : fr w w1 a b) (hd : k + 4 ≤ a ∨ b ≤ k) : NR w1 k K M S p := ⟨(hf _ (by omega)).trans h.1, (hf _ (by omega)).trans h.2.1, (hf _ (by omega)).trans h.2.2.1, (hf _ (by omega)).trans h.2.2.2.1, h.2.2.2.2⟩
theorem NR.setK {w w1 : Wd} {k : Nat} {K M S K2 : Nat → Nat} {p : Nat} (h : NR w k K M S p) (hw : w1 = va_up w (k + 1) (ai 8 K2)) (hb : ∀ i, K2 i ≤ 3) : NR w1 k K2 M S p := by
  subst hw
  exact ⟨(va_upd_ne _ _ (by omega)).trans h.1, va_upd_self _ _ _, (va_upd_ne _ _ (by omega)).trans h.2.2.1, (va_upd_ne _ _ (by omega)).trans h.2.2.2.1, h.2.2.2.2.1, hb, h.2.2.2.2.2.2⟩
theorem NR.setM {w w1 : Wd} {k : Nat} {K M S M2 : Nat → Nat} {p : Nat} (h : NR w k K M S p) (hw : w1 = va_up w (k + 2) (ai 8 M2)) (hb : ∀ i, M2 i ≤ 10) : NR w1 k K M2 S p := by
  subst hw
  exact ⟨(va_upd_ne _ _ (by omega)).trans h.1, (va_upd_ne _ _ (by omega)).trans h.2.1, va_upd_self _ _ _, (va_upd_ne _ _ (by omega)).trans h.2.2.2.1, h.2.2.2.2.1, h.2.2.2.2.2.1, hb, h.2.2.2.2.2.2.2⟩
theorem NR.setS {w w1 : Wd} {k : Nat} {K M S S2 : Nat → Nat} {p : Nat} (h : NR w k K M S p) (hw : w1 = va_up w (k + 3) (ai 80 S2)) (hb : ∀ i, S2 i ≤ 5) : NR w1 k K M S2 p := by
  subst hw
  exact ⟨(va_upd_ne _ _ (by omega)).trans h.1, (va_upd_ne _ _ (by omega)).trans h.2.1, (va_upd_ne _ _ (by omega)).trans h.2.2.1, va_upd_self _ _ _, h.2.2.2.2.1, h.2.2.2.2.2.1, h.2.2.2.2.2.2.1, hb⟩
theorem NR.setP {w w1 : Wd} {k : Nat} {K M S : Nat → Nat} {p q : Nat} (h : NR w k K M S p) (hw : w1 = va_up w k (ob 4 [.ref (k + 1), .ref (k + 2), .ref (k + 3), .int (nI q)])) (hb : q ≤ 8) : NR w1 k K M S q := by
  subst hw
  exact ⟨va_upd_self _ _ _, (va_upd_ne _ _ (by omega)).trans h.2.1, (va_upd_ne _ _ (by omega)).trans h.2.2.1, (va_upd_ne _ _ (by omega)).trans h.2.2.2.1, hb, h.2.2.2.2.2⟩
def maxN (f : Nat → Nat) : Nat → Nat
  | 0 => 0
  | n + 1 => max (maxN f n) (f n)
theorem maxN_le {f : Nat → Nat} {b : Nat} (h : ∀ i, f i ≤ b) : ∀ n, maxN f n ≤ b
  | 0 => Nat.zero_le _
  | n + 1 => by have := maxN_le h n; have := h n; unfold maxN; omega
/-- how many stand at the beginning for which e holds, of m -/
def preN (e : Nat → Bool) : Nat → Nat
  | 0 => 0
  | m + 1 => if preN e m = m ∧ e m = true then m + 1 else preN e m
theorem preN_le (e : Nat → Bool) : ∀ m, preN e m ≤ m
  | 0 => Nat.le_refl _
  | m + 1 => by have := preN_le e m; unfold preN; split <;> omega
theorem preN_all (e : Nat → Bool) : ∀ m k, k < preN e m → e k = true
  | 0, k, h => absurd h (by unfold preN; omega)
  | m + 1, k, h => by
    unfold preN at h
    split at h
    · rename_i c
      by_cases hk : k = m
      · rw [hk]; exact c.2
      · exact preN_all e m k (by omega)
    · exact preN_all e m k h
theorem preN_stop (e : Nat → Bool) : ∀ m, preN e m < m → e (preN e m) = false
  | 0, h => absurd h (by omega)
  | m + 1, h => by
    unfold preN at h ⊢
    split
    · rename_i c; rw [if_pos c] at h; omega
    · rename_i c
      by_cases hm : preN e m = m
      · rw [hm]
        cases q : e m with
        | false => rfl
        | true => exact absurd ⟨hm, q⟩ c
      · exact preN_stop e m (by have := preN_le e m; omega)
theorem preN_eq {e : Nat → Bool} {m k : Nat} (h1 : ∀ j, j < k → e j = true) (h2 : k = m ∨ (k < m ∧ e k = false)) : preN e m = k := by
  rcases Nat.lt_trichotomy (preN e m) k with h | h | h
  · have a := preN_stop e m (by have := preN_le e m; omega)
    rw [h1 _ h] at a
    cases a
  · exact h
  · have a := preN_all e m k h
    rcases h2 with h2 | h2
    · have := preN_le e m; omega
    · rw [h2.2] at a; cases a
def alikeN (K M S : Nat → Nat) (i j : Nat) : Nat := preN (fun k => decide (saidN M S i k = saidN M S j k)) (min (longN K M i) (longN K M j))
def ansN (K M S : Nat → Nat) (p s i : Nat) : Nat := maxN (fun j => if j = i then 0 else if tb s j = true then alikeN K M S i j else 0) p
def shortN (K M S : Nat → Nat) (p s i : Nat) : Option Nat := if ansN K M S p s i < longN K M i then (if K i = 3 then some (longN K M i) else some (ansN K M S p s i + 1)) else none
def oI (r : Option Nat) : Int32 := match r with
  | some v => nI v
  | none => -4
/-- the sum over those of the set; none, if one has none -/
def soN (f : Nat → Option Nat) (b : Nat → Bool) : Nat → Option Nat
  | 0 => some 0
  | n + 1 => match soN f b n with
    | none => none
    | some a => if b n = true then (match f n with
      | none => none
      | some v => some (a + v)) else some a
theorem soN_none {f : Nat → Option Nat} {b : Nat → Bool} {i : Nat} (h : soN f b i = none) : ∀ d, soN f b (i + d) = none
  | 0 => h
  | d + 1 => by
    have := soN_none h d
    show soN f b (i + d + 1) = none
    unfold soN
    rw [this]
def cnN (b : Nat → Bool) : Nat → Nat
  | 0 => 0
  | n + 1 => if b n = true then cnN b n + 1 else cnN b n
theorem cnN_le (b : Nat → Bool) : ∀ n, cnN b n ≤ n
  | 0 => Nat.le_refl _
  | n + 1 => by have := cnN_le b n; unfold cnN; split <;> omega
theorem alikeN_le (K M S : Nat → Nat) (i j : Nat) : alikeN K M S i j ≤ longN K M i := Nat.le_trans (preN_le _ _) (Nat.min_le_left _ _)
theorem ansN_le {K M S : Nat → Nat} (hM : ∀ i, M i ≤ 10) (p s i : Nat) : ansN K M S p s i ≤ 20 := maxN_le (fun j => by
  split
  · omega
  · split
    · have := alikeN_le K M S i j
      have := longN_le (K := K) (hM i)
      omega
    · omega) p
theorem shortN_le {K M S : Nat → Nat} (hM : ∀ i, M i ≤ 10) {p s i v : Nat} (h : shortN K M S p s i = some v) : 1 ≤ v ∧ v ≤ 20 := by
  have h1 := longN_le (K := K) (hM i)
  unfold shortN at h
  split at h
  · split at h
    · cases h; omega
    · cases h; omega
  · cases h
theorem soN_le {f : Nat → Option Nat} {b : Nat → Bool} {c : Nat} (h : ∀ i v, f i = some v → v ≤ c) : ∀ n a, soN f b n = some a → a ≤ n * c
  | 0, a, e => by cases e; omega
  | n + 1, a, e => by
    unfold soN at e
    have sm : (n + 1) * c = n * c + c := Nat.succ_mul n c
    split at e
    · cases e
    · rename_i a0 h0
      have := soN_le h n a0 h0
      split at e
      · split at e
        · cases e
        · rename_i v hv
          have := h n v hv
          cases e
          omega
      · cases e
        omega

theorem c_longest (g : Gx) (n : Nat) (w : Wd) {k : Nat} {K M S : Nat → Nat} {p : Nat} (hN : NR w k K M S p) : CT g yX4_longest cX4_longest 3 (some .int) rm_X4_longest n n w [.ref k] (Rv (.int (nI (maxN (longN K M) p))) w) := by
  have hp := hN.2.2.2.2.1
  have hM := hN.2.2.2.2.2.2.1
  refine CT.start [some (.ref k), none, none] (by decide +kernel) rfl (Nat.le_of_ble_eq_true rfl) (fun x C hnm => ?_)
  refine ww_iconst C (v := nI 0) dX4_longest_0 (by decide) ?_
  refine ww_istore1 C dX4_longest_1 (by decide) rfl ?_
  refine ww_iconst C (v := nI 0) dX4_longest_2 (by decide) ?_
  refine ww_istore2 C dX4_longest_3 (by decide) rfl ?_
  have lp4 : ∀ (m : Nat) (i : Nat), i ≤ p → p < i + m → WW g x 3 0 0 n w 4 [some (.ref k), some (.int (nI (maxN (longN K M) i))), some (.int (nI i))] [] := by
    intro m
    induction m with
    | zero =>
      intro i hi0 hm
      exact absurd hm (by omega)
    | succ m ih4 =>
      intro i hi0 hm
      refine ww_iload2 C dX4_longest_4 ?_
      refine ww_aload0 C dX4_longest_5 ?_
      refine ww_getf C fl_X4_21 hN.1 rfl dX4_longest_6 ?_
      refine ww_icmpgeN C (by omega) (tgt := 28) dX4_longest_9 (by decide) (fun c9 => ?_) (fun c9 => ?_)
      · skip
        have e : p = i := by omega
        subst e
        refine ww_iload1 C dX4_longest_28 ?_
        exact ww_ri C dX4_longest_29 rfl ⟨Nat.le_of_ble_eq_true rfl, Nat.le_of_ble_eq_true rfl⟩ rfl rfl
      · skip
        refine ww_iload1 C dX4_longest_12 ?_
        refine ww_aload0 C dX4_longest_13 ?_
        refine ww_iload2 C dX4_longest_14 ?_
        have hi := c9
        have hL := longN_le (K := K) (hM i)
        have hx := maxN_le (f := longN K M) (b := 20) (fun j => longN_le (hM j)) i
        refine ww_cV1v C hN.1 rfl (c_longOf g n w hN hi) kV_X4_50 ⟨Nat.le_of_ble_eq_true rfl, Nat.le_of_ble_eq_true rfl⟩ ⟨rfl, rfl⟩ ⟨Nat.le_of_ble_eq_true rfl, Nat.le_of_ble_eq_true rfl⟩ (Nat.le_of_ble_eq_true rfl) dX4_longest_15 ?_
        refine ww_maxN C (by omega) ml_X4_53 kj_max_s kj_math_i kj_max_c ⟨Nat.le_of_ble_eq_true rfl, Nat.le_of_ble_eq_true rfl⟩ ⟨Nat.le_of_ble_eq_true rfl, Nat.le_of_ble_eq_true rfl⟩ dX4_longest_18 ?_
        refine ww_istore1 C dX4_longest_21 (by decide) rfl ?_
        refine ww_iincN2 C dX4_longest_22 (by decide) rfl ?_
        refine ww_goto C (tgt := 4) dX4_longest_25 (by decide) ?_
        exact ih4 (i + 1) (by omega) (by omega)
  exact lp4 (p + 1) 0 (by omega) (by omega)
def gM (M : Nat → Nat) (i : Nat) : Nat → Nat := if M i < 10 then va_up M i (M i + 1) else M
def gS (M S : Nat → Nat) (i s : Nat) : Nat → Nat := if M i < 10 then va_up S (10 * i + M i) s else S
def lM (M : Nat → Nat) (i : Nat) : Nat → Nat := if 2 ≤ M i then va_up M i (M i - 1) else M
theorem c_gain (g : Gx) (n : Nat) (w : Wd) {k : Nat} {K M S : Nat → Nat} {p : Nat} (hN : NR w k K M S p) {i s : Nat} (hi : i < p) (hs : s ≤ 5) : ∃ w1, NR w1 k K (gM M i) (gS M S i s) p ∧ fr w w1 k (k + 4) ∧ CT g yX4_gain cX4_gain 3 (some .boolean) rm_X4_gain n n w [.ref k, .int (nI i), .int (nI s)] (Rv (.int (bz (decide (M i < 10)))) w1) := by
  have hp := hN.2.2.2.2.1
  have hM := hN.2.2.2.2.2.2.1
  have hMi := hM i
  by_cases c0 : M i < 10
  · skip
    refine ⟨va_up (va_up w (k + 3) (ai 80 (va_up S (10 * i + M i) s))) (k + 2) (ai 8 (va_up M i (M i + 1))), by unfold gM gS; rw [if_pos c0, if_pos c0]; exact (hN.setS rfl (up_le hN.2.2.2.2.2.2.2 hs)).setM rfl (up_le hM (by omega)), (fr.up (k := k + 3) rfl (by omega) (by omega)).tr (fr.up (k := k + 2) rfl (by omega) (by omega)), ?_⟩
    refine CT.start [some (.ref k), some (.int (nI i)), some (.int (nI s))] (by decide +kernel) rfl (Nat.le_of_ble_eq_true rfl) (fun x C hnm => ?_)
    refine ww_aload0 C dX4_gain_0 ?_
    refine ww_iload1 C dX4_gain_1 ?_
    refine ww_cV1v C hN.1 rfl (c_has g n w hN _) kV_X4_39 ⟨Nat.le_of_ble_eq_true rfl, Nat.le_of_ble_eq_true rfl⟩ ⟨rfl, rfl⟩ ⟨Nat.le_of_ble_eq_true rfl, Nat.le_of_ble_eq_true rfl⟩ (Nat.le_of_ble_eq_true rfl) dX4_gain_2 ?_
    refine ww_topi (show bz (hb p (nI i)) = bz true by rw [hb_N hi (by have := hN.2.2.2.2.1; omega)]) ?_
    refine ww_ifeqB C (tgt := 19) dX4_gain_5 (by decide) (fun c5 => ?_) (fun c5 => ?_)
    · skip
      cases c5
    · skip
      refine ww_aload0 C dX4_gain_8 ?_
      refine ww_getf C fl_X4_15 hN.1 rfl dX4_gain_9 ?_
      refine ww_iload1 C dX4_gain_12 ?_
      refine ww_ialdN C hN.2.2.1 (by omega) dX4_gain_13 (kk := ?_)
      refine ww_bipush C (v := nI 10) dX4_gain_14 (by decide) ?_
      refine ww_icmpltN C (by omega) (tgt := 21) dX4_gain_16 (by decide) (fun c16 => ?_) (fun c16 => ?_)
      · skip
        refine ww_aload0 C dX4_gain_21 ?_
        refine ww_getf C fl_X4_18 hN.1 rfl dX4_gain_22 ?_
        refine ww_iload1 C dX4_gain_25 ?_
        refine ww_bipush C (v := nI 10) dX4_gain_26 (by decide) ?_
        refine ww_imulN C dX4_gain_28 ?_
        refine ww_aload0 C dX4_gain_29 ?_
        refine ww_getf C fl_X4_15 hN.1 rfl dX4_gain_30 ?_
        refine ww_iload1 C dX4_gain_33 ?_
        refine ww_ialdN C hN.2.2.1 (by omega) dX4_gain_34 (kk := ?_)
        refine ww_iaddN C dX4_gain_35 ?_
        refine ww_iload2 C dX4_gain_36 ?_
        rw [Nat.mul_comm i 10]
        refine ww_iastN C hN.2.2.2.1 (by omega) dX4_gain_37 (kk := fun w1 hw1 => ?_)
        have hN := hN.setS hw1 (up_le hN.2.2.2.2.2.2.2 (by omega))
        refine ww_aload0 C dX4_gain_38 ?_
        refine ww_getf C fl_X4_15 hN.1 rfl dX4_gain_39 ?_
        refine ww_iload1 C dX4_gain_42 ?_
        refine ww_dup2 C dX4_gain_43 rfl rfl ?_
        refine ww_ialdN C hN.2.2.1 (by omega) dX4_gain_44 (kk := ?_)
        refine ww_iconst C (v := nI 1) dX4_gain_45 (by decide) ?_
        refine ww_iaddN C dX4_gain_46 ?_
        refine ww_iastN C hN.2.2.1 (by omega) dX4_gain_47 (kk := fun w2 hw2 => ?_)
        have hN := hN.setM hw2 (up_le hN.2.2.2.2.2.2.1 (by omega))
        refine ww_iconst C (v := nI 1) dX4_gain_48 (by decide) ?_
        exact ww_rz C dX4_gain_49 rfl ⟨Nat.le_of_ble_eq_true rfl, Nat.le_of_ble_eq_true rfl⟩ (by rw [decide_eq_true c0]; rfl) (by rw [hw2, hw1])
      · skip
        omega
  · skip
    refine ⟨w, by unfold gM gS; rw [if_neg c0, if_neg c0]; exact hN, fr.rf, ?_⟩
    refine CT.start [some (.ref k), some (.int (nI i)), some (.int (nI s))] (by decide +kernel) rfl (Nat.le_of_ble_eq_true rfl) (fun x C hnm => ?_)
    refine ww_aload0 C dX4_gain_0 ?_
    refine ww_iload1 C dX4_gain_1 ?_
    refine ww_cV1v C hN.1 rfl (c_has g n w hN _) kV_X4_39 ⟨Nat.le_of_ble_eq_true rfl, Nat.le_of_ble_eq_true rfl⟩ ⟨rfl, rfl⟩ ⟨Nat.le_of_ble_eq_true rfl, Nat.le_of_ble_eq_true rfl⟩ (Nat.le_of_ble_eq_true rfl) dX4_gain_2 ?_
    refine ww_topi (show bz (hb p (nI i)) = bz true by rw [hb_N hi (by have := hN.2.2.2.2.1; omega)]) ?_
    refine ww_ifeqB C (tgt := 19) dX4_gain_5 (by decide) (fun c5 => ?_) (fun c5 => ?_)
    · skip
      cases c5
    · skip
      refine ww_aload0 C dX4_gain_8 ?_
      refine ww_getf C fl_X4_15 hN.1 rfl dX4_gain_9 ?_
      refine ww_iload1 C dX4_gain_12 ?_
      refine ww_ialdN C hN.2.2.1 (by omega) dX4_gain_13 (kk := ?_)
      refine ww_bipush C (v := nI 10) dX4_gain_14 (by decide) ?_
      refine ww_icmpltN C (by omega) (tgt := 21) dX4_gain_16 (by decide) (fun c16 => ?_) (fun c16 => ?_)
      · skip
        omega
      · skip
        refine ww_iconst C (v := nI 0) dX4_gain_19 (by decide) ?_
        exact ww_rz C dX4_gain_20 rfl ⟨Nat.le_of_ble_eq_true rfl, Nat.le_of_ble_eq_true rfl⟩ (by rw [decide_eq_false c0]; rfl) rfl
theorem c_lose (g : Gx) (n : Nat) (w : Wd) {k : Nat} {K M S : Nat → Nat} {p : Nat} (hN : NR w k K M S p) {i : Nat} (hi : i < p) : ∃ w1, NR w1 k K (lM M i) S p ∧ fr w w1 k (k + 4) ∧ CT g yX4_lose cX4_lose 2 none rm_X4_lose n n w [.ref k, .int (nI i)] (R0 w1) := by
  have hp := hN.2.2.2.2.1
  have hM := hN.2.2.2.2.2.2.1
  have hMi := hM i
  by_cases c0 : 2 ≤ M i
  · skip
    refine ⟨va_up w (k + 2) (ai 8 (va_up M i (M i - 1))), by unfold lM; rw [if_pos c0]; exact hN.setM rfl (up_le hM (by omega)), fr.up (k := k + 2) rfl (by omega) (by omega), ?_⟩
    refine CT.start [some (.ref k), some (.int (nI i))] (by decide +kernel) rfl (Nat.le_of_ble_eq_true rfl) (fun x C hnm => ?_)
    refine ww_aload0 C dX4_lose_0 ?_
    refine ww_iload1 C dX4_lose_1 ?_
    refine ww_cV1v C hN.1 rfl (c_has g n w hN _) kV_X4_39 ⟨Nat.le_of_ble_eq_true rfl, Nat.le_of_ble_eq_true rfl⟩ ⟨rfl, rfl⟩ ⟨Nat.le_of_ble_eq_true rfl, Nat.le_of_ble_eq_true rfl⟩ (Nat.le_of_ble_eq_true rfl) dX4_lose_2 ?_
    refine ww_topi (show bz (hb p (nI i)) = bz true by rw [hb_N hi (by have := hN.2.2.2.2.1; omega)]) ?_
    refine ww_ifeqB C (tgt := 28) dX4_lose_5 (by decide) (fun c5 => ?_) (fun c5 => ?_)
    · skip
      cases c5
    · skip
      refine ww_aload0 C dX4_lose_8 ?_
      refine ww_getf C fl_X4_15 hN.1 rfl dX4_lose_9 ?_
      refine ww_iload1 C dX4_lose_12 ?_
      refine ww_ialdN C hN.2.2.1 (by omega) dX4_lose_13 (kk := ?_)
      refine ww_iconst C (v := nI 2) dX4_lose_14 (by decide) ?_
      refine ww_icmpltN C (by omega) (tgt := 28) dX4_lose_15 (by decide) (fun c15 => ?_) (fun c15 => ?_)
      · skip
        omega
      · skip
        refine ww_aload0 C dX4_lose_18 ?_
        refine ww_getf C fl_X4_15 hN.1 rfl dX4_lose_19 ?_
        refine ww_iload1 C dX4_lose_22 ?_
        refine ww_dup2 C dX4_lose_23 rfl rfl ?_
        refine ww_ialdN C hN.2.2.1 (by omega) dX4_lose_24 (kk := ?_)
        refine ww_iconst C (v := nI 1) dX4_lose_25 (by decide) ?_
        refine ww_isubN C (by omega) dX4_lose_26 ?_
        refine ww_iastN C hN.2.2.1 (by omega) dX4_lose_27 (kk := fun w1 hw1 => ?_)
        have hN := hN.setM hw1 (up_le hN.2.2.2.2.2.2.1 (by omega))
        exact ww_rv C dX4_lose_28 rfl ⟨Nat.le_of_ble_eq_true rfl, Nat.le_of_ble_eq_true rfl⟩ hw1
  · skip
    refine ⟨w, by unfold lM; rw [if_neg c0]; exact hN, fr.rf, ?_⟩
    refine CT.start [some (.ref k), some (.int (nI i))] (by decide +kernel) rfl (Nat.le_of_ble_eq_true rfl) (fun x C hnm => ?_)
    refine ww_aload0 C dX4_lose_0 ?_
    refine ww_iload1 C dX4_lose_1 ?_
    refine ww_cV1v C hN.1 rfl (c_has g n w hN _) kV_X4_39 ⟨Nat.le_of_ble_eq_true rfl, Nat.le_of_ble_eq_true rfl⟩ ⟨rfl, rfl⟩ ⟨Nat.le_of_ble_eq_true rfl, Nat.le_of_ble_eq_true rfl⟩ (Nat.le_of_ble_eq_true rfl) dX4_lose_2 ?_
    refine ww_topi (show bz (hb p (nI i)) = bz true by rw [hb_N hi (by have := hN.2.2.2.2.1; omega)]) ?_
    refine ww_ifeqB C (tgt := 28) dX4_lose_5 (by decide) (fun c5 => ?_) (fun c5 => ?_)
    · skip
      cases c5
    · skip
      refine ww_aload0 C dX4_lose_8 ?_
      refine ww_getf C fl_X4_15 hN.1 rfl dX4_lose_9 ?_
      refine ww_iload1 C dX4_lose_12 ?_
      refine ww_ialdN C hN.2.2.1 (by omega) dX4_lose_13 (kk := ?_)
      refine ww_iconst C (v := nI 2) dX4_lose_14 (by decide) ?_
      refine ww_icmpltN C (by omega) (tgt := 28) dX4_lose_15 (by decide) (fun c15 => ?_) (fun c15 => ?_)
      · skip
        exact ww_rv C dX4_lose_28 rfl ⟨Nat.le_of_ble_eq_true rfl, Nat.le_of_ble_eq_true rfl⟩ rfl
      · skip
        omega
theorem c_changeKind (g : Gx) (n : Nat) (w : Wd) {k : Nat} {K M S : Nat → Nat} {p : Nat} (hN : NR w k K M S p) {i t : Nat} (hi : i < p) (ht : t ≤ 3) : ∃ w1, NR w1 k (va_up K i t) M S p ∧ fr w w1 k (k + 4) ∧ CT g yX4_changeKind cX4_changeKind 4 (some .int) rm_X4_changeKind n n w [.ref k, .int (nI i), .int (nI t)] (Rv (.int (nI (K i))) w1) := by
  have hp := hN.2.2.2.2.1
  have hM := hN.2.2.2.2.2.2.1
  refine ⟨va_up w (k + 1) (ai 8 (va_up K i t)), hN.setK rfl (up_le hN.2.2.2.2.2.1 ht), fr.up (k := k + 1) rfl (by omega) (by omega), ?_⟩
  refine CT.start [some (.ref k), some (.int (nI i)), some (.int (nI t)), none] (by decide +kernel) rfl (Nat.le_of_ble_eq_true rfl) (fun x C hnm => ?_)
  refine ww_aload0 C dX4_changeKind_0 ?_
  refine ww_iload1 C dX4_changeKind_1 ?_
  refine ww_cV1v C hN.1 rfl (c_kindOf g n w hN hi) kV_X4_43 ⟨Nat.le_of_ble_eq_true rfl, Nat.le_of_ble_eq_true rfl⟩ ⟨rfl, rfl⟩ ⟨Nat.le_of_ble_eq_true rfl, Nat.le_of_ble_eq_true rfl⟩ (Nat.le_of_ble_eq_true rfl) dX4_changeKind_2 ?_
  refine ww_istore3 C dX4_changeKind_5 (by decide) rfl ?_
  refine ww_aload0 C dX4_changeKind_6 ?_
  refine ww_iload1 C dX4_changeKind_7 ?_
  refine ww_cV1v C hN.1 rfl (c_has g n w hN _) kV_X4_39 ⟨Nat.le_of_ble_eq_true rfl, Nat.le_of_ble_eq_true rfl⟩ ⟨rfl, rfl⟩ ⟨Nat.le_of_ble_eq_true rfl, Nat.le_of_ble_eq_true rfl⟩ (Nat.le_of_ble_eq_true rfl) dX4_changeKind_8 ?_
  refine ww_topi (show bz (hb p (nI i)) = bz true by rw [hb_N hi (by have := hN.2.2.2.2.1; omega)]) ?_
  refine ww_ifeqB C (tgt := 21) dX4_changeKind_11 (by decide) (fun c5 => ?_) (fun c5 => ?_)
  · skip
    cases c5
  · skip
    refine ww_aload0 C dX4_changeKind_14 ?_
    refine ww_getf C fl_X4_9 hN.1 rfl dX4_changeKind_15 ?_
    refine ww_iload1 C dX4_changeKind_18 ?_
    refine ww_iload2 C dX4_changeKind_19 ?_
    refine ww_iastN C hN.2.1 (by omega) dX4_changeKind_20 (kk := fun w1 hw1 => ?_)
    have hN := hN.setK hw1 (up_le hN.2.2.2.2.2.1 (by omega))
    refine ww_iload3 C dX4_changeKind_21 ?_
    exact ww_ri C dX4_changeKind_22 rfl ⟨Nat.le_of_ble_eq_true rfl, Nat.le_of_ble_eq_true rfl⟩ rfl hw1
theorem c_copyFrom (g : Gx) (n : Nat) (w : Wd) {k j : Nat} {K M S K2 M2 S2 : Nat → Nat} {p p2 : Nat} (hN : NR w k K M S p) (hT : NR w j K2 M2 S2 p2) (hd : j + 4 ≤ k ∨ k + 4 ≤ j) : ∃ w1, NR w1 k K2 M2 S2 p2 ∧ fr w w1 k (k + 4) ∧ CT g yX4_copyFrom cX4_copyFrom 2 none rm_X4_copyFrom n n w [.ref k, .ref j] (R0 w1) := by
  have hp := hT.2.2.2.2.1
  refine ⟨va_up (va_up (va_up (va_up w (k + 1) (ai 8 K2)) (k + 2) (ai 8 M2)) (k + 3) (ai 80 S2)) k (ob 4 [.ref (k + 1), .ref (k + 2), .ref (k + 3), .int (nI p2)]), ?_, ?_, ?_⟩
  · exact (((hN.setK rfl hT.2.2.2.2.2.1).setM rfl hT.2.2.2.2.2.2.1).setS rfl hT.2.2.2.2.2.2.2).setP rfl hp
  · exact (((fr.up (k := k + 1) rfl (by omega) (by omega)).tr (fr.up (k := k + 2) rfl (by omega) (by omega))).tr (fr.up (k := k + 3) rfl (by omega) (by omega))).tr (fr.up (k := k) rfl (by omega) (by omega))
  · refine CT.start [some (.ref k), some (.ref j)] (by decide +kernel) rfl (Nat.le_of_ble_eq_true rfl) (fun x C hnm => ?_)
    refine ww_aload1 C dX4_copyFrom_0 ?_
    refine ww_getf C fl_X4_9 hT.1 rfl dX4_copyFrom_1 ?_
    refine ww_iconst C (v := nI 0) dX4_copyFrom_4 (by decide) ?_
    refine ww_aload0 C dX4_copyFrom_5 ?_
    refine ww_getf C fl_X4_9 hN.1 rfl dX4_copyFrom_6 ?_
    refine ww_iconst C (v := nI 0) dX4_copyFrom_9 (by decide) ?_
    refine ww_bipush C (v := nI 8) dX4_copyFrom_10 (by decide) ?_
    refine ww_copyN C ml_X4_25 hT.2.1 hN.2.1 (by decide) (Nat.le_of_ble_eq_true rfl) (Nat.le_of_ble_eq_true rfl) dX4_copyFrom_12 (fun w1 hw1 => ?_)
    have hT := hT.fr (fr.up (a := k) (b := k + 4) hw1 (by omega) (by omega)) (by omega)
    have hN := hN.setK hw1 hT.2.2.2.2.2.1
    refine ww_aload1 C dX4_copyFrom_15 ?_
    refine ww_getf C fl_X4_15 hT.1 rfl dX4_copyFrom_16 ?_
    refine ww_iconst C (v := nI 0) dX4_copyFrom_19 (by decide) ?_
    refine ww_aload0 C dX4_copyFrom_20 ?_
    refine ww_getf C fl_X4_15 hN.1 rfl dX4_copyFrom_21 ?_
    refine ww_iconst C (v := nI 0) dX4_copyFrom_24 (by decide) ?_
    refine ww_bipush C (v := nI 8) dX4_copyFrom_25 (by decide) ?_
    refine ww_copyN C ml_X4_25 hT.2.2.1 hN.2.2.1 (by decide) (Nat.le_of_ble_eq_true rfl) (Nat.le_of_ble_eq_true rfl) dX4_copyFrom_27 (fun w2 hw2 => ?_)
    have hT := hT.fr (fr.up (a := k) (b := k + 4) hw2 (by omega) (by omega)) (by omega)
    have hN := hN.setM hw2 hT.2.2.2.2.2.2.1
    refine ww_aload1 C dX4_copyFrom_30 ?_
    refine ww_getf C fl_X4_18 hT.1 rfl dX4_copyFrom_31 ?_
    refine ww_iconst C (v := nI 0) dX4_copyFrom_34 (by decide) ?_
    refine ww_aload0 C dX4_copyFrom_35 ?_
    refine ww_getf C fl_X4_18 hN.1 rfl dX4_copyFrom_36 ?_
    refine ww_iconst C (v := nI 0) dX4_copyFrom_39 (by decide) ?_
    refine ww_bipush C (v := nI 80) dX4_copyFrom_40 (by decide) ?_
    refine ww_copyN C ml_X4_25 hT.2.2.2.1 hN.2.2.2.1 (by decide) (Nat.le_of_ble_eq_true rfl) (Nat.le_of_ble_eq_true rfl) dX4_copyFrom_42 (fun w3 hw3 => ?_)
    have hT := hT.fr (fr.up (a := k) (b := k + 4) hw3 (by omega) (by omega)) (by omega)
    have hN := hN.setS hw3 hT.2.2.2.2.2.2.2
    refine ww_aload0 C dX4_copyFrom_45 ?_
    refine ww_aload1 C dX4_copyFrom_46 ?_
    refine ww_getf C fl_X4_21 hT.1 rfl dX4_copyFrom_47 ?_
    refine ww_putI C fl_X4_21 hN.1 (Nat.le_of_ble_eq_true rfl) rfl dX4_copyFrom_50 (fun w4 hw4 => ?_)
    skip
    exact ww_rv C dX4_copyFrom_53 rfl ⟨Nat.le_of_ble_eq_true rfl, Nat.le_of_ble_eq_true rfl⟩ (by rw [hw4, hw3, hw2, hw1]; try rfl)
theorem c_alike (g : Gx) (n : Nat) (w : Wd) {k : Nat} {K M S : Nat → Nat} {p : Nat} (hN : NR w k K M S p) {i j : Nat} (hi : i < p) (hj : j < p) : CT g yX4_alike cX4_alike 5 (some .int) rm_X4_alike n n w [.ref k, .int (nI i), .int (nI j)] (Rv (.int (nI (alikeN K M S i j))) w) := by
  have hp := hN.2.2.2.2.1
  have hM := hN.2.2.2.2.2.2.1
  have hLi := longN_le (K := K) (hM i)
  have hLj := longN_le (K := K) (hM j)
  refine CT.start [some (.ref k), some (.int (nI i)), some (.int (nI j)), none, none] (by decide +kernel) rfl (Nat.le_of_ble_eq_true rfl) (fun x C hnm => ?_)
  refine ww_aload0 C dX4_alike_0 ?_
  refine ww_iload1 C dX4_alike_1 ?_
  refine ww_cV1v C hN.1 rfl (c_longOf g n w hN hi) kV_X4_50 ⟨Nat.le_of_ble_eq_true rfl, Nat.le_of_ble_eq_true rfl⟩ ⟨rfl, rfl⟩ ⟨Nat.le_of_ble_eq_true rfl, Nat.le_of_ble_eq_true rfl⟩ (Nat.le_of_ble_eq_true rfl) dX4_alike_2 ?_
  refine ww_aload0 C dX4_alike_5 ?_
  refine ww_iload2 C dX4_alike_6 ?_
  refine ww_cV1v C hN.1 rfl (c_longOf g n w hN hj) kV_X4_50 ⟨Nat.le_of_ble_eq_true rfl, Nat.le_of_ble_eq_true rfl⟩ ⟨rfl, rfl⟩ ⟨Nat.le_of_ble_eq_true rfl, Nat.le_of_ble_eq_true rfl⟩ (Nat.le_of_ble_eq_true rfl) dX4_alike_7 ?_
  refine ww_minN C (by omega) ml_X4_62 kj_min_s kj_math_i kj_min_c ⟨Nat.le_of_ble_eq_true rfl, Nat.le_of_ble_eq_true rfl⟩ ⟨Nat.le_of_ble_eq_true rfl, Nat.le_of_ble_eq_true rfl⟩ dX4_alike_10 ?_
  refine ww_istore3 C dX4_alike_13 (by decide) rfl ?_
  refine ww_iconst C (v := nI 0) dX4_alike_14 (by decide) ?_
  refine ww_istore4 C dX4_alike_15 (by decide) rfl ?_
  have lp17 : ∀ (m : Nat) (q : Nat), q ≤ min (longN K M i) (longN K M j) → min (longN K M i) (longN K M j) < q + m → (∀ r, r < q → decide (saidN M S i r = saidN M S j r) = true) → WW g x 5 0 0 n w 17 [some (.ref k), some (.int (nI i)), some (.int (nI j)), some (.int (nI (min (longN K M i) (longN K M j)))), some (.int (nI q))] [] := by
    intro m
    induction m with
    | zero =>
      intro q hq hm ha
      exact absurd hm (by omega)
    | succ m ih17 =>
      intro q hq hm ha
      refine ww_iload4 C dX4_alike_17 ?_
      refine ww_iload3 C dX4_alike_19 ?_
      refine ww_icmpgeN C (by omega) (tgt := 46) dX4_alike_20 (by decide) (fun c20 => ?_) (fun c20 => ?_)
      · skip
        refine ww_iload4 C dX4_alike_46 ?_
        exact ww_ri C dX4_alike_48 rfl ⟨Nat.le_of_ble_eq_true rfl, Nat.le_of_ble_eq_true rfl⟩ (by congr 1; exact (preN_eq ha (by first | exact Or.inl (by omega) | exact Or.inr ⟨by omega, decide_eq_false c37⟩)).symm) rfl
      · skip
        refine ww_aload0 C dX4_alike_23 ?_
        refine ww_iload1 C dX4_alike_24 ?_
        refine ww_iload4 C dX4_alike_25 ?_
        refine ww_cV2v C hN.1 rfl (c_saidAt g n w hN hi (by omega)) kV_X4_65 ⟨Nat.le_of_ble_eq_true rfl, Nat.le_of_ble_eq_true rfl⟩ ⟨rfl, rfl⟩ ⟨Nat.le_of_ble_eq_true rfl, Nat.le_of_ble_eq_true rfl⟩ (Nat.le_of_ble_eq_true rfl) dX4_alike_27 ?_
        refine ww_aload0 C dX4_alike_30 ?_
        refine ww_iload2 C dX4_alike_31 ?_
        refine ww_iload4 C dX4_alike_32 ?_
        refine ww_cV2v C hN.1 rfl (c_saidAt g n w hN hj (by omega)) kV_X4_65 ⟨Nat.le_of_ble_eq_true rfl, Nat.le_of_ble_eq_true rfl⟩ ⟨rfl, rfl⟩ ⟨Nat.le_of_ble_eq_true rfl, Nat.le_of_ble_eq_true rfl⟩ (Nat.le_of_ble_eq_true rfl) dX4_alike_34 ?_
        refine ww_icmpneN C (by have := hN.2.2.2.2.2.2.2 (10 * i + if q < M i then q else q - M i); have := hN.2.2.2.2.2.2.2 (10 * j + if q < M j then q else q - M j); unfold saidN; omega) (tgt := 46) dX4_alike_37 (by decide) (fun c37 => ?_) (fun c37 => ?_)
        · skip
          refine ww_iload4 C dX4_alike_46 ?_
          exact ww_ri C dX4_alike_48 rfl ⟨Nat.le_of_ble_eq_true rfl, Nat.le_of_ble_eq_true rfl⟩ (by congr 1; exact (preN_eq ha (by first | exact Or.inl (by omega) | exact Or.inr ⟨by omega, decide_eq_false c37⟩)).symm) rfl
        · skip
          refine ww_iincN4 C dX4_alike_40 (by decide) rfl ?_
          refine ww_goto C (tgt := 17) dX4_alike_43 (by decide) ?_
          exact ih17 (q + 1) (by omega) (by omega) (fun r h => by rcases Nat.lt_or_ge r q with c | c; exact ha r c; rw [show r = q by omega]; exact decide_eq_true c37)
  exact lp17 (min (longN K M i) (longN K M j) + 1) 0 (by omega) (by omega) (fun r h => absurd h (by omega))
theorem ansN_s (K M S : Nat → Nat) (s i j : Nat) : ansN K M S (j + 1) s i = max (ansN K M S j s i) (if j = i then 0 else if tb s j = true then alikeN K M S i j else 0) := rfl
theorem c_shortest (g : Gx) (n : Nat) (w : Wd) {k : Nat} {K M S : Nat → Nat} {p : Nat} (hN : NR w k K M S p) {i s : Nat} (hi : i < p) (hs : s < 2147483648) : CT g yX4_shortest cX4_shortest 5 (some .int) rm_X4_shortest n n w [.ref k, .int (nI i), .int (nI s)] (Rv (.int (oI (shortN K M S p s i))) w) := by
  have hp := hN.2.2.2.2.1
  have hM := hN.2.2.2.2.2.2.1
  have hLi := longN_le (K := K) (hM i)
  refine CT.start [some (.ref k), some (.int (nI i)), some (.int (nI s)), none, none] (by decide +kernel) rfl (Nat.le_of_ble_eq_true rfl) (fun x C hnm => ?_)
  refine ww_iconst C (v := nI 0) dX4_shortest_0 (by decide) ?_
  refine ww_istore3 C dX4_shortest_1 (by decide) rfl ?_
  refine ww_iconst C (v := nI 0) dX4_shortest_2 (by decide) ?_
  refine ww_istore4 C dX4_shortest_3 (by decide) rfl ?_
  have lp5 : ∀ (m : Nat) (j a : Nat), j ≤ p → p < j + m → a = ansN K M S j s i → WW g x 5 0 0 n w 5 [some (.ref k), some (.int (nI i)), some (.int (nI s)), some (.int (nI a)), some (.int (nI j))] [] := by
    intro m
    induction m with
    | zero =>
      intro j a hj0 hm ha
      exact absurd hm (by omega)
    | succ m ih5 =>
      intro j a hj0 hm ha
      subst ha
      refine ww_iload4 C dX4_shortest_5 ?_
      refine ww_aload0 C dX4_shortest_7 ?_
      refine ww_getf C fl_X4_21 hN.1 rfl dX4_shortest_8 ?_
      refine ww_icmpgeN C (by omega) (tgt := 47) dX4_shortest_11 (by decide) (fun c11 => ?_) (fun c11 => ?_)
      · skip
        have e : p = j := by omega
        subst e
        refine ww_aload0 C dX4_shortest_47 ?_
        refine ww_iload1 C dX4_shortest_48 ?_
        refine ww_cV1v C hN.1 rfl (c_longOf g n w hN hi) kV_X4_50 ⟨Nat.le_of_ble_eq_true rfl, Nat.le_of_ble_eq_true rfl⟩ ⟨rfl, rfl⟩ ⟨Nat.le_of_ble_eq_true rfl, Nat.le_of_ble_eq_true rfl⟩ (Nat.le_of_ble_eq_true rfl) dX4_shortest_49 ?_
        refine ww_istore4 C dX4_shortest_52 (by decide) rfl ?_
        refine ww_iload3 C dX4_shortest_54 ?_
        refine ww_iload4 C dX4_shortest_55 ?_
        refine ww_icmpltN C (by have := ansN_le (K := K) (S := S) hM p s i; omega) (tgt := 63) dX4_shortest_57 (by decide) (fun c57 => ?_) (fun c57 => ?_)
        · skip
          refine ww_aload0 C dX4_shortest_63 ?_
          refine ww_iload1 C dX4_shortest_64 ?_
          refine ww_cV1v C hN.1 rfl (c_kindOf g n w hN hi) kV_X4_43 ⟨Nat.le_of_ble_eq_true rfl, Nat.le_of_ble_eq_true rfl⟩ ⟨rfl, rfl⟩ ⟨Nat.le_of_ble_eq_true rfl, Nat.le_of_ble_eq_true rfl⟩ (Nat.le_of_ble_eq_true rfl) dX4_shortest_65 ?_
          refine ww_iconst C (v := nI 3) dX4_shortest_68 (by decide) ?_
          refine ww_icmpneN C (by have := hN.2.2.2.2.2.1 i; omega) (tgt := 77) dX4_shortest_69 (by decide) (fun c69 => ?_) (fun c69 => ?_)
          · skip
            refine ww_iload3 C dX4_shortest_77 ?_
            refine ww_iconst C (v := nI 1) dX4_shortest_78 (by decide) ?_
            refine ww_iaddN C dX4_shortest_79 ?_
            exact ww_ri C dX4_shortest_80 rfl ⟨Nat.le_of_ble_eq_true rfl, Nat.le_of_ble_eq_true rfl⟩ (by unfold shortN; first | (rw [if_neg (by omega)]; rfl) | (rw [if_pos c57, if_pos c69]; rfl) | (rw [if_pos c57, if_neg c69]; rfl)) rfl
          · skip
            refine ww_iload4 C dX4_shortest_72 ?_
            refine ww_goto C (tgt := 80) dX4_shortest_74 (by decide) ?_
            exact ww_ri C dX4_shortest_80 rfl ⟨Nat.le_of_ble_eq_true rfl, Nat.le_of_ble_eq_true rfl⟩ (by unfold shortN; first | (rw [if_neg (by omega)]; rfl) | (rw [if_pos c57, if_pos c69]; rfl) | (rw [if_pos c57, if_neg c69]; rfl)) rfl
        · skip
          refine ww_bipush C (v := -4) dX4_shortest_60 (by decide) ?_
          exact ww_ri C dX4_shortest_62 rfl ⟨Nat.le_of_ble_eq_true rfl, Nat.le_of_ble_eq_true rfl⟩ (by unfold shortN; first | (rw [if_neg (by omega)]; rfl) | (rw [if_pos c57, if_pos c69]; rfl) | (rw [if_pos c57, if_neg c69]; rfl)) rfl
      · skip
        refine ww_iload4 C dX4_shortest_14 ?_
        refine ww_iload1 C dX4_shortest_16 ?_
        refine ww_icmpeqN C (by omega) (tgt := 41) dX4_shortest_17 (by decide) (fun c17 => ?_) (fun c17 => ?_)
        · skip
          refine ww_iincN4 C dX4_shortest_41 (by decide) rfl ?_
          refine ww_goto C (tgt := 5) dX4_shortest_44 (by decide) ?_
          exact ih5 (j + 1) _ (by omega) (by omega) (by rw [ansN_s]; first | (rw [if_pos c17]; omega) | (rw [if_neg c17, if_neg (by rw [c26]; decide)]; omega) | (rw [if_neg c17, if_pos c26]))
        · skip
          refine ww_iload4 C dX4_shortest_20 ?_
          refine ww_iload2 C dX4_shortest_22 ?_
          refine ww_cSN2v C (c_isOf g n w _ _ (by omega) hs) kSN_X4_68 ⟨Nat.le_of_ble_eq_true rfl, Nat.le_of_ble_eq_true rfl⟩ ⟨rfl, rfl⟩ ⟨Nat.le_of_ble_eq_true rfl, Nat.le_of_ble_eq_true rfl⟩ (Nat.le_of_ble_eq_true rfl) dX4_shortest_23 ?_
          refine ww_ifeqB C (tgt := 41) dX4_shortest_26 (by decide) (fun c26 => ?_) (fun c26 => ?_)
          · skip
            refine ww_iincN4 C dX4_shortest_41 (by decide) rfl ?_
            refine ww_goto C (tgt := 5) dX4_shortest_44 (by decide) ?_
            exact ih5 (j + 1) _ (by omega) (by omega) (by rw [ansN_s]; first | (rw [if_pos c17]; omega) | (rw [if_neg c17, if_neg (by rw [c26]; decide)]; omega) | (rw [if_neg c17, if_pos c26]))
          · skip
            refine ww_iload3 C dX4_shortest_29 ?_
            refine ww_aload0 C dX4_shortest_30 ?_
            refine ww_iload1 C dX4_shortest_31 ?_
            refine ww_iload4 C dX4_shortest_32 ?_
            refine ww_cV2v C hN.1 rfl (c_alike g n w hN hi c11) kV_X4_71 ⟨Nat.le_of_ble_eq_true rfl, Nat.le_of_ble_eq_true rfl⟩ ⟨rfl, rfl⟩ ⟨Nat.le_of_ble_eq_true rfl, Nat.le_of_ble_eq_true rfl⟩ (Nat.le_of_ble_eq_true rfl) dX4_shortest_34 ?_
            refine ww_maxN C (by have := ansN_le (K := K) (S := S) hM j s i; have := alikeN_le K M S i j; omega) ml_X4_53 kj_max_s kj_math_i kj_max_c ⟨Nat.le_of_ble_eq_true rfl, Nat.le_of_ble_eq_true rfl⟩ ⟨Nat.le_of_ble_eq_true rfl, Nat.le_of_ble_eq_true rfl⟩ dX4_shortest_37 ?_
            refine ww_istore3 C dX4_shortest_40 (by decide) rfl ?_
            refine ww_iincN4 C dX4_shortest_41 (by decide) rfl ?_
            refine ww_goto C (tgt := 5) dX4_shortest_44 (by decide) ?_
            exact ih5 (j + 1) _ (by omega) (by omega) (by rw [ansN_s]; first | (rw [if_pos c17]; omega) | (rw [if_neg c17, if_neg (by rw [c26]; decide)]; omega) | (rw [if_neg c17, if_pos c26]))
  exact lp5 (p + 1) 0 0 (by omega) (by omega) rfl
theorem soN_t {f : Nat → Option Nat} {b : Nat → Bool} {i a v : Nat} (h : soN f b i = some a) (hb : b i = true) (hv : f i = some v) : soN f b (i + 1) = some (a + v) := by
  unfold soN
  rw [h]
  dsimp only
  rw [if_pos hb, hv]
theorem soN_f {f : Nat → Option Nat} {b : Nat → Bool} {i a : Nat} (h : soN f b i = some a) (hb : b i = false) : soN f b (i + 1) = some a := by
  unfold soN
  rw [h]
  dsimp only
  rw [if_neg (by rw [hb]; decide)]
theorem soN_x {f : Nat → Option Nat} {b : Nat → Bool} {i p a : Nat} (h : soN f b i = some a) (hb : b i = true) (hv : f i = none) (hp : i < p) : soN f b p = none := by
  have e : soN f b (i + 1) = none := by
    unfold soN
    rw [h]
    dsimp only
    rw [if_pos hb, hv]
  have := soN_none e (p - (i + 1))
  rwa [show i + 1 + (p - (i + 1)) = p by omega] at this
theorem oI_ne {v : Nat} (h : v < 2147483648) : ¬ nI v = -4 := fun e => by
  have := congrArg Int32.toInt e
  rw [nI_toInt h] at this
  exact absurd this (by show ¬ (v : Int) = -4; omega)
theorem c_sumOfShortest (g : Gx) (n : Nat) (w : Wd) {k : Nat} {K M S : Nat → Nat} {p : Nat} (hN : NR w k K M S p) {s : Nat} (hs : s < 2147483648) : CT g yX4_sumOfShortest cX4_sumOfShortest 5 (some .int) rm_X4_sumOfShortest n n w [.ref k, .int (nI s)] (Rv (.int (oI (soN (shortN K M S p s) (tb s) p))) w) := by
  have hp := hN.2.2.2.2.1
  have hM := hN.2.2.2.2.2.2.1
  have hb : ∀ i v, shortN K M S p s i = some v → v ≤ 20 := fun i v h => (shortN_le hM h).2
  refine CT.start [some (.ref k), some (.int (nI s)), none, none, none] (by decide +kernel) rfl (Nat.le_of_ble_eq_true rfl) (fun x C hnm => ?_)
  refine ww_iconst C (v := nI 0) dX4_sumOfShortest_0 (by decide) ?_
  refine ww_istore2 C dX4_sumOfShortest_1 (by decide) rfl ?_
  refine ww_iconst C (v := nI 0) dX4_sumOfShortest_2 (by decide) ?_
  refine ww_istore3 C dX4_sumOfShortest_3 (by decide) rfl ?_
  have lp4 : ∀ (m : Nat) (i a : Nat) (z : Option Value), i ≤ p → p < i + m → soN (shortN K M S p s) (tb s) i = some a → WW g x 5 0 0 n w 4 [some (.ref k), some (.int (nI s)), some (.int (nI a)), some (.int (nI i)), z] [] := by
    intro m
    induction m with
    | zero =>
      intro i a z hi0 hm ha
      exact absurd hm (by omega)
    | succ m ih4 =>
      intro i a z hi0 hm ha
      refine ww_iload3 C dX4_sumOfShortest_4 ?_
      refine ww_aload0 C dX4_sumOfShortest_5 ?_
      refine ww_getf C fl_X4_21 hN.1 rfl dX4_sumOfShortest_6 ?_
      refine ww_icmpgeN C (by omega) (tgt := 49) dX4_sumOfShortest_9 (by decide) (fun c9 => ?_) (fun c9 => ?_)
      · skip
        have e : p = i := by omega
        subst e
        refine ww_iload2 C dX4_sumOfShortest_49 ?_
        exact ww_ri C dX4_sumOfShortest_50 rfl ⟨Nat.le_of_ble_eq_true rfl, Nat.le_of_ble_eq_true rfl⟩ (by rw [ha]; rfl) rfl
      · skip
        refine ww_iload3 C dX4_sumOfShortest_12 ?_
        refine ww_iload1 C dX4_sumOfShortest_13 ?_
        refine ww_cSN2v C (c_isOf g n w _ _ (by omega) hs) kSN_X4_68 ⟨Nat.le_of_ble_eq_true rfl, Nat.le_of_ble_eq_true rfl⟩ ⟨rfl, rfl⟩ ⟨Nat.le_of_ble_eq_true rfl, Nat.le_of_ble_eq_true rfl⟩ (Nat.le_of_ble_eq_true rfl) dX4_sumOfShortest_14 ?_
        refine ww_ifeqB C (tgt := 43) dX4_sumOfShortest_17 (by decide) (fun c17 => ?_) (fun c17 => ?_)
        · skip
          refine ww_iincN3 C dX4_sumOfShortest_43 (by decide) rfl ?_
          refine ww_goto C (tgt := 4) dX4_sumOfShortest_46 (by decide) ?_
          exact ih4 (i + 1) a _ (by omega) (by omega) (soN_f ha c17)
        · skip
          refine ww_aload0 C dX4_sumOfShortest_20 ?_
          refine ww_iload3 C dX4_sumOfShortest_21 ?_
          refine ww_iload1 C dX4_sumOfShortest_22 ?_
          refine ww_cV2v C hN.1 rfl (c_shortest g n w hN (by omega) hs) kV_X4_74 ⟨Nat.le_of_ble_eq_true rfl, Nat.le_of_ble_eq_true rfl⟩ ⟨rfl, rfl⟩ ⟨Nat.le_of_ble_eq_true rfl, Nat.le_of_ble_eq_true rfl⟩ (Nat.le_of_ble_eq_true rfl) dX4_sumOfShortest_23 ?_
          rcases hq : shortN K M S p s i with _ | v
          · skip
            refine ww_istore4 C dX4_sumOfShortest_26 (by decide) rfl ?_
            refine ww_iload4 C dX4_sumOfShortest_28 ?_
            skip
            refine ww_bipush C (v := -4) dX4_sumOfShortest_30 (by decide) ?_
            refine ww_icmpne C (tgt := 38) dX4_sumOfShortest_32 (by decide) (fun c32 => ?_) (fun c32 => ?_)
            · skip
              exact absurd rfl c32
            · skip
              refine ww_bipush C (v := -4) dX4_sumOfShortest_35 (by decide) ?_
              exact ww_ri C dX4_sumOfShortest_37 rfl ⟨Nat.le_of_ble_eq_true rfl, Nat.le_of_ble_eq_true rfl⟩ (by rw [soN_x ha c17 hq (by omega)]; rfl) rfl
          · skip
            refine ww_topi (show oI (some v) = nI v from rfl) ?_
            have hv := shortN_le hM hq
            refine ww_istore4 C dX4_sumOfShortest_26 (by decide) rfl ?_
            refine ww_iload4 C dX4_sumOfShortest_28 ?_
            skip
            refine ww_bipush C (v := -4) dX4_sumOfShortest_30 (by decide) ?_
            refine ww_icmpne C (tgt := 38) dX4_sumOfShortest_32 (by decide) (fun c32 => ?_) (fun c32 => ?_)
            · skip
              refine ww_iload2 C dX4_sumOfShortest_38 ?_
              refine ww_iload4 C dX4_sumOfShortest_39 ?_
              refine ww_iaddN C dX4_sumOfShortest_41 ?_
              refine ww_istore2 C dX4_sumOfShortest_42 (by decide) rfl ?_
              refine ww_iincN3 C dX4_sumOfShortest_43 (by decide) rfl ?_
              refine ww_goto C (tgt := 4) dX4_sumOfShortest_46 (by decide) ?_
              exact ih4 (i + 1) (a + v) _ (by omega) (by omega) (soN_t ha c17 hq)
            · skip
              exact absurd c32 (oI_ne (by omega))
  exact lp4 (p + 1) 0 0 none (by omega) (by omega) rfl
theorem cnN_t {b : Nat → Bool} {i : Nat} (h : b i = true) : cnN b (i + 1) = cnN b i + 1 := by show (if b i = true then _ else _) = _; rw [if_pos h]
theorem cnN_f {b : Nat → Bool} {i : Nat} (h : b i = false) : cnN b (i + 1) = cnN b i := by show (if b i = true then _ else _) = _; rw [if_neg (by rw [h]; decide)]
theorem c_numberOfShort (g : Gx) (n : Nat) (w : Wd) {k : Nat} {K M S : Nat → Nat} {p : Nat} (hN : NR w k K M S p) {s : Nat} (hs : s < 2147483648) : CT g yX4_numberOfShort cX4_numberOfShort 4 (some .int) rm_X4_numberOfShort n n w [.ref k, .int (nI s)] (Rv (.int (nI (cnN (fun i => tb s i && (shortN K M S p s i).isSome) p))) w) := by
  have hp := hN.2.2.2.2.1
  have hM := hN.2.2.2.2.2.2.1
  refine CT.start [some (.ref k), some (.int (nI s)), none, none] (by decide +kernel) rfl (Nat.le_of_ble_eq_true rfl) (fun x C hnm => ?_)
  refine ww_iconst C (v := nI 0) dX4_numberOfShort_0 (by decide) ?_
  refine ww_istore2 C dX4_numberOfShort_1 (by decide) rfl ?_
  refine ww_iconst C (v := nI 0) dX4_numberOfShort_2 (by decide) ?_
  refine ww_istore3 C dX4_numberOfShort_3 (by decide) rfl ?_
  have lp4 : ∀ (m : Nat) (i c : Nat), i ≤ p → p < i + m → c = cnN (fun i => tb s i && (shortN K M S p s i).isSome) i → WW g x 4 0 0 n w 4 [some (.ref k), some (.int (nI s)), some (.int (nI c)), some (.int (nI i))] [] := by
    intro m
    induction m with
    | zero =>
      intro i c hi0 hm hc
      exact absurd hm (by omega)
    | succ m ih4 =>
      intro i c hi0 hm hc
      refine ww_iload3 C dX4_numberOfShort_4 ?_
      refine ww_aload0 C dX4_numberOfShort_5 ?_
      refine ww_getf C fl_X4_21 hN.1 rfl dX4_numberOfShort_6 ?_
      refine ww_icmpgeN C (by omega) (tgt := 40) dX4_numberOfShort_9 (by decide) (fun c9 => ?_) (fun c9 => ?_)
      · skip
        have e : p = i := by omega
        subst e
        refine ww_iload2 C dX4_numberOfShort_40 ?_
        exact ww_ri C dX4_numberOfShort_41 rfl ⟨Nat.le_of_ble_eq_true rfl, Nat.le_of_ble_eq_true rfl⟩ (by rw [hc]) rfl
      · skip
        refine ww_iload3 C dX4_numberOfShort_12 ?_
        refine ww_iload1 C dX4_numberOfShort_13 ?_
        refine ww_cSN2v C (c_isOf g n w _ _ (by omega) hs) kSN_X4_68 ⟨Nat.le_of_ble_eq_true rfl, Nat.le_of_ble_eq_true rfl⟩ ⟨rfl, rfl⟩ ⟨Nat.le_of_ble_eq_true rfl, Nat.le_of_ble_eq_true rfl⟩ (Nat.le_of_ble_eq_true rfl) dX4_numberOfShort_14 ?_
        refine ww_ifeqB C (tgt := 34) dX4_numberOfShort_17 (by decide) (fun c17 => ?_) (fun c17 => ?_)
        · skip
          refine ww_iincN3 C dX4_numberOfShort_34 (by decide) rfl ?_
          refine ww_goto C (tgt := 4) dX4_numberOfShort_37 (by decide) ?_
          exact ih4 (i + 1) c (by omega) (by omega) (by rw [hc, cnN_f (by simp [c17])])
        · skip
          refine ww_aload0 C dX4_numberOfShort_20 ?_
          refine ww_iload3 C dX4_numberOfShort_21 ?_
          refine ww_iload1 C dX4_numberOfShort_22 ?_
          refine ww_cV2v C hN.1 rfl (c_shortest g n w hN (by omega) hs) kV_X4_74 ⟨Nat.le_of_ble_eq_true rfl, Nat.le_of_ble_eq_true rfl⟩ ⟨rfl, rfl⟩ ⟨Nat.le_of_ble_eq_true rfl, Nat.le_of_ble_eq_true rfl⟩ (Nat.le_of_ble_eq_true rfl) dX4_numberOfShort_23 ?_
          rcases hq : shortN K M S p s i with _ | v
          · skip
            refine ww_bipush C (v := -4) dX4_numberOfShort_26 (by decide) ?_
            refine ww_icmpeq C (tgt := 34) dX4_numberOfShort_28 (by decide) (fun c28 => ?_) (fun c28 => ?_)
            · skip
              refine ww_iincN3 C dX4_numberOfShort_34 (by decide) rfl ?_
              refine ww_goto C (tgt := 4) dX4_numberOfShort_37 (by decide) ?_
              exact ih4 (i + 1) c (by omega) (by omega) (by rw [hc, cnN_f (by simp [hq])])
            · skip
              exact absurd rfl c28
          · skip
            refine ww_topi (show oI (some v) = nI v from rfl) ?_
            have hv := shortN_le hM hq
            refine ww_bipush C (v := -4) dX4_numberOfShort_26 (by decide) ?_
            refine ww_icmpeq C (tgt := 34) dX4_numberOfShort_28 (by decide) (fun c28 => ?_) (fun c28 => ?_)
            · skip
              exact absurd c28 (oI_ne (by omega))
            · skip
              refine ww_iincN2 C dX4_numberOfShort_31 (by decide) rfl ?_
              refine ww_iincN3 C dX4_numberOfShort_34 (by decide) rfl ?_
              refine ww_goto C (tgt := 4) dX4_numberOfShort_37 (by decide) ?_
              exact ih4 (i + 1) (c + 1) (by omega) (by omega) (by rw [hc, cnN_t (by simp [c17, hq])])
  exact lp4 (p + 1) 0 0 (by omega) (by omega) rfl
end
