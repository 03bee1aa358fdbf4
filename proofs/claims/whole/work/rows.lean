section
-- ===== PART A: goes FIRST, ahead of the names: the tables' words, and 'selects' of the private methods out of them =====
/-- a private method of a class that the tables say can be made, by its rows of tables_1 -/
def lw_okq (q : MethodName × Nat) : Prop := (q.1.cls ≠ "java/lang/invoke/MethodHandle" ∧ q.1.cls ≠ "java/lang/invoke/VarHandle") ∧ Cond.instantiable q.1.cls q.2 ∈ tables_1 ∧ Cond.privateMethod q.1 ∈ tables_1 ∧ Cond.instanceMethod q.1 ∈ tables_1
theorem lw_p0 : lw_okq (⟨"BishopsPeace$Roads", "settle", "()V"⟩, 8) := ⟨⟨by decide +kernel, by decide +kernel⟩, List.mem_of_getElem? (i := 23) (by decide +kernel), List.mem_of_getElem? (i := 271) (by decide +kernel), List.mem_of_getElem? (i := 272) (by decide +kernel)⟩
theorem lw_p1 : lw_okq (⟨"BishopsPeace$Roads", "firstFault", "()I"⟩, 8) := ⟨⟨by decide +kernel, by decide +kernel⟩, List.mem_of_getElem? (i := 23) (by decide +kernel), List.mem_of_getElem? (i := 275) (by decide +kernel), List.mem_of_getElem? (i := 276) (by decide +kernel)⟩
theorem lw_p2 : lw_okq (⟨"BishopsPeace$Roads", "goesOn", "(I)Z"⟩, 8) := ⟨⟨by decide +kernel, by decide +kernel⟩, List.mem_of_getElem? (i := 23) (by decide +kernel), List.mem_of_getElem? (i := 279) (by decide +kernel), List.mem_of_getElem? (i := 280) (by decide +kernel)⟩
theorem lw_p3 : lw_okq (⟨"BishopsPeace$Roads", "measure", "()V"⟩, 8) := ⟨⟨by decide +kernel, by decide +kernel⟩, List.mem_of_getElem? (i := 23) (by decide +kernel), List.mem_of_getElem? (i := 283) (by decide +kernel), List.mem_of_getElem? (i := 284) (by decide +kernel)⟩
theorem lw_p4 : lw_okq (⟨"BishopsPeace$Roads", "shortenWay", "(III)V"⟩, 8) := ⟨⟨by decide +kernel, by decide +kernel⟩, List.mem_of_getElem? (i := 23) (by decide +kernel), List.mem_of_getElem? (i := 287) (by decide +kernel), List.mem_of_getElem? (i := 288) (by decide +kernel)⟩
theorem lw_p5 : lw_okq (⟨"BishopsPeace", "found", "(I)I"⟩, 9) := ⟨⟨by decide +kernel, by decide +kernel⟩, List.mem_of_getElem? (i := 15) (by decide +kernel), List.mem_of_getElem? (i := 358) (by decide +kernel), List.mem_of_getElem? (i := 359) (by decide +kernel)⟩
theorem lw_p6 : lw_okq (⟨"BishopsPeace$Peace", "gatherFeasts", "()V"⟩, 6) := ⟨⟨by decide +kernel, by decide +kernel⟩, List.mem_of_getElem? (i := 75) (by decide +kernel), List.mem_of_getElem? (i := 371) (by decide +kernel), List.mem_of_getElem? (i := 372) (by decide +kernel)⟩
theorem lw_p7 : lw_okq (⟨"BishopsPeace$Peace", "isOpenDay", "(II)Z"⟩, 6) := ⟨⟨by decide +kernel, by decide +kernel⟩, List.mem_of_getElem? (i := 75) (by decide +kernel), List.mem_of_getElem? (i := 398) (by decide +kernel), List.mem_of_getElem? (i := 399) (by decide +kernel)⟩
theorem lw_p8 : lw_okq (⟨"BishopsPeace$Peace", "bellOf", "(II)I"⟩, 6) := ⟨⟨by decide +kernel, by decide +kernel⟩, List.mem_of_getElem? (i := 75) (by decide +kernel), List.mem_of_getElem? (i := 402) (by decide +kernel), List.mem_of_getElem? (i := 403) (by decide +kernel)⟩
theorem lw_p9 : lw_okq (⟨"BishopsPeace$March", "goBetween", "(III)V"⟩, 5) := ⟨⟨by decide +kernel, by decide +kernel⟩, List.mem_of_getElem? (i := 102) (by decide +kernel), List.mem_of_getElem? (i := 477) (by decide +kernel), List.mem_of_getElem? (i := 478) (by decide +kernel)⟩
theorem lw_p10 : lw_okq (⟨"BishopsPeace$March", "need", "(II)V"⟩, 5) := ⟨⟨by decide +kernel, by decide +kernel⟩, List.mem_of_getElem? (i := 102) (by decide +kernel), List.mem_of_getElem? (i := 482) (by decide +kernel), List.mem_of_getElem? (i := 483) (by decide +kernel)⟩
theorem lw_p11 : lw_okq (⟨"BishopsPeace$March", "isAllowed", "(I)Z"⟩, 5) := ⟨⟨by decide +kernel, by decide +kernel⟩, List.mem_of_getElem? (i := 102) (by decide +kernel), List.mem_of_getElem? (i := 486) (by decide +kernel), List.mem_of_getElem? (i := 487) (by decide +kernel)⟩
theorem lw_p12 : lw_okq (⟨"BishopsPeace$Homeward", "walk", "(III)V"⟩, 10) := ⟨⟨by decide +kernel, by decide +kernel⟩, List.mem_of_getElem? (i := 146) (by decide +kernel), List.mem_of_getElem? (i := 526) (by decide +kernel), List.mem_of_getElem? (i := 527) (by decide +kernel)⟩
theorem lw_p13 : lw_okq (⟨"BishopsPeace$Homeward", "arrive", "(III)V"⟩, 10) := ⟨⟨by decide +kernel, by decide +kernel⟩, List.mem_of_getElem? (i := 146) (by decide +kernel), List.mem_of_getElem? (i := 530) (by decide +kernel), List.mem_of_getElem? (i := 531) (by decide +kernel)⟩
theorem lw_p14 : lw_okq (⟨"BishopsPeace$Homeward", "isBetter", "(II)Z"⟩, 10) := ⟨⟨by decide +kernel, by decide +kernel⟩, List.mem_of_getElem? (i := 146) (by decide +kernel), List.mem_of_getElem? (i := 534) (by decide +kernel), List.mem_of_getElem? (i := 535) (by decide +kernel)⟩
theorem lw_p15 : lw_okq (⟨"BishopsPeace$Homeward", "freeOf", "(I)I"⟩, 10) := ⟨⟨by decide +kernel, by decide +kernel⟩, List.mem_of_getElem? (i := 146) (by decide +kernel), List.mem_of_getElem? (i := 543) (by decide +kernel), List.mem_of_getElem? (i := 544) (by decide +kernel)⟩
def lw_privs_1 : List (MethodName × Nat) := [(⟨"BishopsPeace$Roads", "settle", "()V"⟩, 8), (⟨"BishopsPeace$Roads", "firstFault", "()I"⟩, 8), (⟨"BishopsPeace$Roads", "goesOn", "(I)Z"⟩, 8), (⟨"BishopsPeace$Roads", "measure", "()V"⟩, 8), (⟨"BishopsPeace$Roads", "shortenWay", "(III)V"⟩, 8), (⟨"BishopsPeace", "found", "(I)I"⟩, 9), (⟨"BishopsPeace$Peace", "gatherFeasts", "()V"⟩, 6), (⟨"BishopsPeace$Peace", "isOpenDay", "(II)Z"⟩, 6), (⟨"BishopsPeace$Peace", "bellOf", "(II)I"⟩, 6), (⟨"BishopsPeace$March", "goBetween", "(III)V"⟩, 5), (⟨"BishopsPeace$March", "need", "(II)V"⟩, 5), (⟨"BishopsPeace$March", "isAllowed", "(I)Z"⟩, 5), (⟨"BishopsPeace$Homeward", "walk", "(III)V"⟩, 10), (⟨"BishopsPeace$Homeward", "arrive", "(III)V"⟩, 10), (⟨"BishopsPeace$Homeward", "isBetter", "(II)Z"⟩, 10), (⟨"BishopsPeace$Homeward", "freeOf", "(I)I"⟩, 10)]
theorem lw_r1 : ∀ q ∈ lw_privs_1, lw_okq q := List.forall_mem_cons.mpr ⟨lw_p0, List.forall_mem_cons.mpr ⟨lw_p1, List.forall_mem_cons.mpr ⟨lw_p2, List.forall_mem_cons.mpr ⟨lw_p3, List.forall_mem_cons.mpr ⟨lw_p4, List.forall_mem_cons.mpr ⟨lw_p5, List.forall_mem_cons.mpr ⟨lw_p6, List.forall_mem_cons.mpr ⟨lw_p7, List.forall_mem_cons.mpr ⟨lw_p8, List.forall_mem_cons.mpr ⟨lw_p9, List.forall_mem_cons.mpr ⟨lw_p10, List.forall_mem_cons.mpr ⟨lw_p11, List.forall_mem_cons.mpr ⟨lw_p12, List.forall_mem_cons.mpr ⟨lw_p13, List.forall_mem_cons.mpr ⟨lw_p14, List.forall_mem_cons.mpr ⟨lw_p15, fun _ h => absurd h List.not_mem_nil⟩⟩⟩⟩⟩⟩⟩⟩⟩⟩⟩⟩⟩⟩⟩⟩
theorem lw_p16 : lw_okq (⟨"BishopsPeace$Homeward", "commonBits", "()I"⟩, 10) := ⟨⟨by decide +kernel, by decide +kernel⟩, List.mem_of_getElem? (i := 146) (by decide +kernel), List.mem_of_getElem? (i := 552) (by decide +kernel), List.mem_of_getElem? (i := 553) (by decide +kernel)⟩
theorem lw_p17 : lw_okq (⟨"BishopsPeace$Bells", "rank", "(I)I"⟩, 1) := ⟨⟨by decide +kernel, by decide +kernel⟩, List.mem_of_getElem? (i := 64) (by decide +kernel), List.mem_of_getElem? (i := 577) (by decide +kernel), List.mem_of_getElem? (i := 578) (by decide +kernel)⟩
theorem lw_p18 : lw_okq (⟨"BishopsPeace", "wrongItem", "(III)I"⟩, 9) := ⟨⟨by decide +kernel, by decide +kernel⟩, List.mem_of_getElem? (i := 15) (by decide +kernel), List.mem_of_getElem? (i := 643) (by decide +kernel), List.mem_of_getElem? (i := 644) (by decide +kernel)⟩
theorem lw_p19 : lw_okq (⟨"BishopsPeace", "digestOfRoads", "(J)J"⟩, 9) := ⟨⟨by decide +kernel, by decide +kernel⟩, List.mem_of_getElem? (i := 15) (by decide +kernel), List.mem_of_getElem? (i := 689) (by decide +kernel), List.mem_of_getElem? (i := 690) (by decide +kernel)⟩
theorem lw_p20 : lw_okq (⟨"BishopsPeace", "digestOfLands", "(J)J"⟩, 9) := ⟨⟨by decide +kernel, by decide +kernel⟩, List.mem_of_getElem? (i := 15) (by decide +kernel), List.mem_of_getElem? (i := 694) (by decide +kernel), List.mem_of_getElem? (i := 695) (by decide +kernel)⟩
theorem lw_p21 : lw_okq (⟨"BishopsPeace", "digestOfJourneys", "(J)J"⟩, 9) := ⟨⟨by decide +kernel, by decide +kernel⟩, List.mem_of_getElem? (i := 15) (by decide +kernel), List.mem_of_getElem? (i := 704) (by decide +kernel), List.mem_of_getElem? (i := 705) (by decide +kernel)⟩
theorem lw_p22 : lw_okq (⟨"BishopsPeace", "digestOfKinds", "(J)J"⟩, 9) := ⟨⟨by decide +kernel, by decide +kernel⟩, List.mem_of_getElem? (i := 15) (by decide +kernel), List.mem_of_getElem? (i := 711) (by decide +kernel), List.mem_of_getElem? (i := 712) (by decide +kernel)⟩
theorem lw_p23 : lw_okq (⟨"BishopsPeace", "digestOfParishes", "(J)J"⟩, 9) := ⟨⟨by decide +kernel, by decide +kernel⟩, List.mem_of_getElem? (i := 15) (by decide +kernel), List.mem_of_getElem? (i := 716) (by decide +kernel), List.mem_of_getElem? (i := 717) (by decide +kernel)⟩
theorem lw_p24 : lw_okq (⟨"BishopsPeaceModel", "finds", "(I)I"⟩, 29) := ⟨⟨by decide +kernel, by decide +kernel⟩, List.mem_of_getElem? (i := 724) (by decide +kernel), List.mem_of_getElem? (i := 830) (by decide +kernel), List.mem_of_getElem? (i := 831) (by decide +kernel)⟩
theorem lw_p25 : lw_okq (⟨"BishopsPeaceModel", "lacks", "(III)I"⟩, 29) := ⟨⟨by decide +kernel, by decide +kernel⟩, List.mem_of_getElem? (i := 724) (by decide +kernel), List.mem_of_getElem? (i := 842) (by decide +kernel), List.mem_of_getElem? (i := 843) (by decide +kernel)⟩
theorem lw_p26 : lw_okq (⟨"BishopsPeaceModel", "reads", "()I"⟩, 29) := ⟨⟨by decide +kernel, by decide +kernel⟩, List.mem_of_getElem? (i := 724) (by decide +kernel), List.mem_of_getElem? (i := 875) (by decide +kernel), List.mem_of_getElem? (i := 876) (by decide +kernel)⟩
theorem lw_p27 : lw_okq (⟨"BishopsPeaceModel", "readsRoad", "()Z"⟩, 29) := ⟨⟨by decide +kernel, by decide +kernel⟩, List.mem_of_getElem? (i := 724) (by decide +kernel), List.mem_of_getElem? (i := 879) (by decide +kernel), List.mem_of_getElem? (i := 880) (by decide +kernel)⟩
theorem lw_p28 : lw_okq (⟨"BishopsPeaceModel", "tellsOf", "(II)I"⟩, 29) := ⟨⟨by decide +kernel, by decide +kernel⟩, List.mem_of_getElem? (i := 724) (by decide +kernel), List.mem_of_getElem? (i := 883) (by decide +kernel), List.mem_of_getElem? (i := 884) (by decide +kernel)⟩
theorem lw_p29 : lw_okq (⟨"BishopsPeaceModel", "isWar", "(II)Z"⟩, 29) := ⟨⟨by decide +kernel, by decide +kernel⟩, List.mem_of_getElem? (i := 724) (by decide +kernel), List.mem_of_getElem? (i := 945) (by decide +kernel), List.mem_of_getElem? (i := 946) (by decide +kernel)⟩
theorem lw_p30 : lw_okq (⟨"BishopsPeaceModel", "isWarBy", "(II)Z"⟩, 29) := ⟨⟨by decide +kernel, by decide +kernel⟩, List.mem_of_getElem? (i := 724) (by decide +kernel), List.mem_of_getElem? (i := 952) (by decide +kernel), List.mem_of_getElem? (i := 953) (by decide +kernel)⟩
theorem lw_p31 : lw_okq (⟨"BishopsPeaceModel", "isFeast", "(I)Z"⟩, 29) := ⟨⟨by decide +kernel, by decide +kernel⟩, List.mem_of_getElem? (i := 724) (by decide +kernel), List.mem_of_getElem? (i := 956) (by decide +kernel), List.mem_of_getElem? (i := 957) (by decide +kernel)⟩
def lw_privs_2 : List (MethodName × Nat) := [(⟨"BishopsPeace$Homeward", "commonBits", "()I"⟩, 10), (⟨"BishopsPeace$Bells", "rank", "(I)I"⟩, 1), (⟨"BishopsPeace", "wrongItem", "(III)I"⟩, 9), (⟨"BishopsPeace", "digestOfRoads", "(J)J"⟩, 9), (⟨"BishopsPeace", "digestOfLands", "(J)J"⟩, 9), (⟨"BishopsPeace", "digestOfJourneys", "(J)J"⟩, 9), (⟨"BishopsPeace", "digestOfKinds", "(J)J"⟩, 9), (⟨"BishopsPeace", "digestOfParishes", "(J)J"⟩, 9), (⟨"BishopsPeaceModel", "finds", "(I)I"⟩, 29), (⟨"BishopsPeaceModel", "lacks", "(III)I"⟩, 29), (⟨"BishopsPeaceModel", "reads", "()I"⟩, 29), (⟨"BishopsPeaceModel", "readsRoad", "()Z"⟩, 29), (⟨"BishopsPeaceModel", "tellsOf", "(II)I"⟩, 29), (⟨"BishopsPeaceModel", "isWar", "(II)Z"⟩, 29), (⟨"BishopsPeaceModel", "isWarBy", "(II)Z"⟩, 29), (⟨"BishopsPeaceModel", "isFeast", "(I)Z"⟩, 29)]
theorem lw_r2 : ∀ q ∈ lw_privs_2, lw_okq q := List.forall_mem_cons.mpr ⟨lw_p16, List.forall_mem_cons.mpr ⟨lw_p17, List.forall_mem_cons.mpr ⟨lw_p18, List.forall_mem_cons.mpr ⟨lw_p19, List.forall_mem_cons.mpr ⟨lw_p20, List.forall_mem_cons.mpr ⟨lw_p21, List.forall_mem_cons.mpr ⟨lw_p22, List.forall_mem_cons.mpr ⟨lw_p23, List.forall_mem_cons.mpr ⟨lw_p24, List.forall_mem_cons.mpr ⟨lw_p25, List.forall_mem_cons.mpr ⟨lw_p26, List.forall_mem_cons.mpr ⟨lw_p27, List.forall_mem_cons.mpr ⟨lw_p28, List.forall_mem_cons.mpr ⟨lw_p29, List.forall_mem_cons.mpr ⟨lw_p30, List.forall_mem_cons.mpr ⟨lw_p31, fun _ h => absurd h List.not_mem_nil⟩⟩⟩⟩⟩⟩⟩⟩⟩⟩⟩⟩⟩⟩⟩⟩
theorem lw_p32 : lw_okq (⟨"BishopsPeaceModel", "strikesNow", "(IIII)Z"⟩, 29) := ⟨⟨by decide +kernel, by decide +kernel⟩, List.mem_of_getElem? (i := 724) (by decide +kernel), List.mem_of_getElem? (i := 964) (by decide +kernel), List.mem_of_getElem? (i := 965) (by decide +kernel)⟩
theorem lw_p33 : lw_okq (⟨"BishopsPeaceModel", "nextOf", "(III)I"⟩, 29) := ⟨⟨by decide +kernel, by decide +kernel⟩, List.mem_of_getElem? (i := 724) (by decide +kernel), List.mem_of_getElem? (i := 972) (by decide +kernel), List.mem_of_getElem? (i := 973) (by decide +kernel)⟩
theorem lw_p34 : lw_okq (⟨"BishopsPeaceModel", "leftIn", "(II)I"⟩, 29) := ⟨⟨by decide +kernel, by decide +kernel⟩, List.mem_of_getElem? (i := 724) (by decide +kernel), List.mem_of_getElem? (i := 980) (by decide +kernel), List.mem_of_getElem? (i := 981) (by decide +kernel)⟩
theorem lw_p35 : lw_okq (⟨"BishopsPeaceModel", "bestOf", "(I)I"⟩, 29) := ⟨⟨by decide +kernel, by decide +kernel⟩, List.mem_of_getElem? (i := 724) (by decide +kernel), List.mem_of_getElem? (i := 988) (by decide +kernel), List.mem_of_getElem? (i := 989) (by decide +kernel)⟩
theorem lw_p36 : lw_okq (⟨"BishopsPeaceModel", "unlikeOf", "(II)I"⟩, 29) := ⟨⟨by decide +kernel, by decide +kernel⟩, List.mem_of_getElem? (i := 724) (by decide +kernel), List.mem_of_getElem? (i := 996) (by decide +kernel), List.mem_of_getElem? (i := 997) (by decide +kernel)⟩
theorem lw_p37 : lw_okq (⟨"BishopsPeaceModel", "wayOf", "(III)I"⟩, 29) := ⟨⟨by decide +kernel, by decide +kernel⟩, List.mem_of_getElem? (i := 724) (by decide +kernel), List.mem_of_getElem? (i := 1007) (by decide +kernel), List.mem_of_getElem? (i := 1008) (by decide +kernel)⟩
theorem lw_p38 : lw_okq (⟨"BishopsPeaceModel", "findFar", "(I)V"⟩, 29) := ⟨⟨by decide +kernel, by decide +kernel⟩, List.mem_of_getElem? (i := 724) (by decide +kernel), List.mem_of_getElem? (i := 1011) (by decide +kernel), List.mem_of_getElem? (i := 1012) (by decide +kernel)⟩
theorem lw_p39 : lw_okq (⟨"BishopsPeaceModel", "nextLand", "(I)I"⟩, 29) := ⟨⟨by decide +kernel, by decide +kernel⟩, List.mem_of_getElem? (i := 724) (by decide +kernel), List.mem_of_getElem? (i := 1015) (by decide +kernel), List.mem_of_getElem? (i := 1016) (by decide +kernel)⟩
theorem lw_p40 : lw_okq (⟨"BishopsPeaceModel", "hoursOf", "(II)I"⟩, 29) := ⟨⟨by decide +kernel, by decide +kernel⟩, List.mem_of_getElem? (i := 724) (by decide +kernel), List.mem_of_getElem? (i := 1019) (by decide +kernel), List.mem_of_getElem? (i := 1020) (by decide +kernel)⟩
theorem lw_p41 : lw_okq (⟨"BishopsPeaceModel", "raidOf", "(IIII)I"⟩, 29) := ⟨⟨by decide +kernel, by decide +kernel⟩, List.mem_of_getElem? (i := 724) (by decide +kernel), List.mem_of_getElem? (i := 1028) (by decide +kernel), List.mem_of_getElem? (i := 1029) (by decide +kernel)⟩
theorem lw_p42 : lw_okq (⟨"BishopsPeaceModel", "isRaid", "(IIII)Z"⟩, 29) := ⟨⟨by decide +kernel, by decide +kernel⟩, List.mem_of_getElem? (i := 724) (by decide +kernel), List.mem_of_getElem? (i := 1032) (by decide +kernel), List.mem_of_getElem? (i := 1033) (by decide +kernel)⟩
theorem lw_p43 : lw_okq (⟨"BishopsPeaceModel", "goes", "(IIIZ)I"⟩, 29) := ⟨⟨by decide +kernel, by decide +kernel⟩, List.mem_of_getElem? (i := 724) (by decide +kernel), List.mem_of_getElem? (i := 1036) (by decide +kernel), List.mem_of_getElem? (i := 1037) (by decide +kernel)⟩
theorem lw_p44 : lw_okq (⟨"BishopsPeaceModel", "siegeOf", "(IIII)I"⟩, 29) := ⟨⟨by decide +kernel, by decide +kernel⟩, List.mem_of_getElem? (i := 724) (by decide +kernel), List.mem_of_getElem? (i := 1050) (by decide +kernel), List.mem_of_getElem? (i := 1051) (by decide +kernel)⟩
theorem lw_p45 : lw_okq (⟨"BishopsPeaceModel", "falls", "(IIII)I"⟩, 29) := ⟨⟨by decide +kernel, by decide +kernel⟩, List.mem_of_getElem? (i := 724) (by decide +kernel), List.mem_of_getElem? (i := 1054) (by decide +kernel), List.mem_of_getElem? (i := 1055) (by decide +kernel)⟩
theorem lw_p46 : lw_okq (⟨"BishopsPeaceModel", "holdsBy", "(III)I"⟩, 29) := ⟨⟨by decide +kernel, by decide +kernel⟩, List.mem_of_getElem? (i := 724) (by decide +kernel), List.mem_of_getElem? (i := 1062) (by decide +kernel), List.mem_of_getElem? (i := 1063) (by decide +kernel)⟩
theorem lw_p47 : lw_okq (⟨"BishopsPeaceModel", "findHome", "(III)V"⟩, 29) := ⟨⟨by decide +kernel, by decide +kernel⟩, List.mem_of_getElem? (i := 724) (by decide +kernel), List.mem_of_getElem? (i := 1071) (by decide +kernel), List.mem_of_getElem? (i := 1072) (by decide +kernel)⟩
def lw_privs_3 : List (MethodName × Nat) := [(⟨"BishopsPeaceModel", "strikesNow", "(IIII)Z"⟩, 29), (⟨"BishopsPeaceModel", "nextOf", "(III)I"⟩, 29), (⟨"BishopsPeaceModel", "leftIn", "(II)I"⟩, 29), (⟨"BishopsPeaceModel", "bestOf", "(I)I"⟩, 29), (⟨"BishopsPeaceModel", "unlikeOf", "(II)I"⟩, 29), (⟨"BishopsPeaceModel", "wayOf", "(III)I"⟩, 29), (⟨"BishopsPeaceModel", "findFar", "(I)V"⟩, 29), (⟨"BishopsPeaceModel", "nextLand", "(I)I"⟩, 29), (⟨"BishopsPeaceModel", "hoursOf", "(II)I"⟩, 29), (⟨"BishopsPeaceModel", "raidOf", "(IIII)I"⟩, 29), (⟨"BishopsPeaceModel", "isRaid", "(IIII)Z"⟩, 29), (⟨"BishopsPeaceModel", "goes", "(IIIZ)I"⟩, 29), (⟨"BishopsPeaceModel", "siegeOf", "(IIII)I"⟩, 29), (⟨"BishopsPeaceModel", "falls", "(IIII)I"⟩, 29), (⟨"BishopsPeaceModel", "holdsBy", "(III)I"⟩, 29), (⟨"BishopsPeaceModel", "findHome", "(III)V"⟩, 29)]
theorem lw_r3 : ∀ q ∈ lw_privs_3, lw_okq q := List.forall_mem_cons.mpr ⟨lw_p32, List.forall_mem_cons.mpr ⟨lw_p33, List.forall_mem_cons.mpr ⟨lw_p34, List.forall_mem_cons.mpr ⟨lw_p35, List.forall_mem_cons.mpr ⟨lw_p36, List.forall_mem_cons.mpr ⟨lw_p37, List.forall_mem_cons.mpr ⟨lw_p38, List.forall_mem_cons.mpr ⟨lw_p39, List.forall_mem_cons.mpr ⟨lw_p40, List.forall_mem_cons.mpr ⟨lw_p41, List.forall_mem_cons.mpr ⟨lw_p42, List.forall_mem_cons.mpr ⟨lw_p43, List.forall_mem_cons.mpr ⟨lw_p44, List.forall_mem_cons.mpr ⟨lw_p45, List.forall_mem_cons.mpr ⟨lw_p46, List.forall_mem_cons.mpr ⟨lw_p47, fun _ h => absurd h List.not_mem_nil⟩⟩⟩⟩⟩⟩⟩⟩⟩⟩⟩⟩⟩⟩⟩⟩
theorem lw_p48 : lw_okq (⟨"BishopsPeaceModel", "otherEnd", "(II)I"⟩, 29) := ⟨⟨by decide +kernel, by decide +kernel⟩, List.mem_of_getElem? (i := 724) (by decide +kernel), List.mem_of_getElem? (i := 1076) (by decide +kernel), List.mem_of_getElem? (i := 1077) (by decide +kernel)⟩
theorem lw_p49 : lw_okq (⟨"BishopsPeaceModel", "wasAt", "(II)Z"⟩, 29) := ⟨⟨by decide +kernel, by decide +kernel⟩, List.mem_of_getElem? (i := 724) (by decide +kernel), List.mem_of_getElem? (i := 1080) (by decide +kernel), List.mem_of_getElem? (i := 1081) (by decide +kernel)⟩
theorem lw_p50 : lw_okq (⟨"BishopsPeaceModel", "comes", "(I)V"⟩, 29) := ⟨⟨by decide +kernel, by decide +kernel⟩, List.mem_of_getElem? (i := 724) (by decide +kernel), List.mem_of_getElem? (i := 1084) (by decide +kernel), List.mem_of_getElem? (i := 1085) (by decide +kernel)⟩
theorem lw_p51 : lw_okq (⟨"BishopsPeaceModel", "isLess", "(I)Z"⟩, 29) := ⟨⟨by decide +kernel, by decide +kernel⟩, List.mem_of_getElem? (i := 724) (by decide +kernel), List.mem_of_getElem? (i := 1088) (by decide +kernel), List.mem_of_getElem? (i := 1089) (by decide +kernel)⟩
theorem lw_p52 : lw_okq (⟨"BishopsPeaceModel", "tellsHome", "(I)I"⟩, 29) := ⟨⟨by decide +kernel, by decide +kernel⟩, List.mem_of_getElem? (i := 724) (by decide +kernel), List.mem_of_getElem? (i := 1092) (by decide +kernel), List.mem_of_getElem? (i := 1093) (by decide +kernel)⟩
theorem lw_p53 : lw_okq (⟨"BishopsPeaceModel", "agreeOf", "(I)I"⟩, 29) := ⟨⟨by decide +kernel, by decide +kernel⟩, List.mem_of_getElem? (i := 724) (by decide +kernel), List.mem_of_getElem? (i := 1103) (by decide +kernel), List.mem_of_getElem? (i := 1104) (by decide +kernel)⟩
theorem lw_p54 : lw_okq (⟨"BishopsPeaceModel", "pairOf", "(I)I"⟩, 29) := ⟨⟨by decide +kernel, by decide +kernel⟩, List.mem_of_getElem? (i := 724) (by decide +kernel), List.mem_of_getElem? (i := 1107) (by decide +kernel), List.mem_of_getElem? (i := 1108) (by decide +kernel)⟩
theorem lw_p55 : lw_okq (⟨"BishopsPeaceModel", "middleOf", "(I)I"⟩, 29) := ⟨⟨by decide +kernel, by decide +kernel⟩, List.mem_of_getElem? (i := 724) (by decide +kernel), List.mem_of_getElem? (i := 1115) (by decide +kernel), List.mem_of_getElem? (i := 1116) (by decide +kernel)⟩
theorem lw_p56 : lw_okq (⟨"BishopsPeaceModel", "middleBell", "(I)I"⟩, 29) := ⟨⟨by decide +kernel, by decide +kernel⟩, List.mem_of_getElem? (i := 724) (by decide +kernel), List.mem_of_getElem? (i := 1119) (by decide +kernel), List.mem_of_getElem? (i := 1120) (by decide +kernel)⟩
theorem lw_p57 : lw_okq (⟨"BishopsPeaceModel", "changesBy", "(II)I"⟩, 29) := ⟨⟨by decide +kernel, by decide +kernel⟩, List.mem_of_getElem? (i := 724) (by decide +kernel), List.mem_of_getElem? (i := 1123) (by decide +kernel), List.mem_of_getElem? (i := 1124) (by decide +kernel)⟩
theorem lw_p58 : lw_okq (⟨"BishopsPeaceModel", "whichNow", "()I"⟩, 29) := ⟨⟨by decide +kernel, by decide +kernel⟩, List.mem_of_getElem? (i := 724) (by decide +kernel), List.mem_of_getElem? (i := 1142) (by decide +kernel), List.mem_of_getElem? (i := 1143) (by decide +kernel)⟩
theorem lw_p59 : lw_okq (⟨"BishopsPeaceModel", "seasonOf", "(II)I"⟩, 29) := ⟨⟨by decide +kernel, by decide +kernel⟩, List.mem_of_getElem? (i := 724) (by decide +kernel), List.mem_of_getElem? (i := 1150) (by decide +kernel), List.mem_of_getElem? (i := 1151) (by decide +kernel)⟩
theorem lw_p60 : lw_okq (⟨"BishopsPeaceModel", "tellsLand", "(JI)J"⟩, 29) := ⟨⟨by decide +kernel, by decide +kernel⟩, List.mem_of_getElem? (i := 724) (by decide +kernel), List.mem_of_getElem? (i := 1170) (by decide +kernel), List.mem_of_getElem? (i := 1171) (by decide +kernel)⟩
theorem lw_p61 : lw_okq (⟨"BishopsPeaceModel", "tellsWays", "(JI)J"⟩, 29) := ⟨⟨by decide +kernel, by decide +kernel⟩, List.mem_of_getElem? (i := 724) (by decide +kernel), List.mem_of_getElem? (i := 1174) (by decide +kernel), List.mem_of_getElem? (i := 1175) (by decide +kernel)⟩
def lw_privs_4 : List (MethodName × Nat) := [(⟨"BishopsPeaceModel", "otherEnd", "(II)I"⟩, 29), (⟨"BishopsPeaceModel", "wasAt", "(II)Z"⟩, 29), (⟨"BishopsPeaceModel", "comes", "(I)V"⟩, 29), (⟨"BishopsPeaceModel", "isLess", "(I)Z"⟩, 29), (⟨"BishopsPeaceModel", "tellsHome", "(I)I"⟩, 29), (⟨"BishopsPeaceModel", "agreeOf", "(I)I"⟩, 29), (⟨"BishopsPeaceModel", "pairOf", "(I)I"⟩, 29), (⟨"BishopsPeaceModel", "middleOf", "(I)I"⟩, 29), (⟨"BishopsPeaceModel", "middleBell", "(I)I"⟩, 29), (⟨"BishopsPeaceModel", "changesBy", "(II)I"⟩, 29), (⟨"BishopsPeaceModel", "whichNow", "()I"⟩, 29), (⟨"BishopsPeaceModel", "seasonOf", "(II)I"⟩, 29), (⟨"BishopsPeaceModel", "tellsLand", "(JI)J"⟩, 29), (⟨"BishopsPeaceModel", "tellsWays", "(JI)J"⟩, 29)]
theorem lw_r4 : ∀ q ∈ lw_privs_4, lw_okq q := List.forall_mem_cons.mpr ⟨lw_p48, List.forall_mem_cons.mpr ⟨lw_p49, List.forall_mem_cons.mpr ⟨lw_p50, List.forall_mem_cons.mpr ⟨lw_p51, List.forall_mem_cons.mpr ⟨lw_p52, List.forall_mem_cons.mpr ⟨lw_p53, List.forall_mem_cons.mpr ⟨lw_p54, List.forall_mem_cons.mpr ⟨lw_p55, List.forall_mem_cons.mpr ⟨lw_p56, List.forall_mem_cons.mpr ⟨lw_p57, List.forall_mem_cons.mpr ⟨lw_p58, List.forall_mem_cons.mpr ⟨lw_p59, List.forall_mem_cons.mpr ⟨lw_p60, List.forall_mem_cons.mpr ⟨lw_p61, fun _ h => absurd h List.not_mem_nil⟩⟩⟩⟩⟩⟩⟩⟩⟩⟩⟩⟩⟩⟩
def lw_privs : List (MethodName × Nat) := lw_privs_1 ++ (lw_privs_2 ++ (lw_privs_3 ++ (lw_privs_4)))
def lw_tbl : List Cond := k2_sels lw_privs ++ tables_1
theorem lw_privs_ok : ∀ q ∈ lw_privs, lw_okq q := by
  show ∀ q ∈ lw_privs_1 ++ (lw_privs_2 ++ (lw_privs_3 ++ (lw_privs_4))), lw_okq q
  exact List.forall_mem_append.mpr ⟨lw_r1, List.forall_mem_append.mpr ⟨lw_r2, List.forall_mem_append.mpr ⟨lw_r3, lw_r4⟩⟩⟩
end
section
/-! names of classes, fields and methods, out of the printed names (a starting text), and a record of each method -/
def RX0 : String := "BishopsPeace$Bells"
def TX0 : u_T := fun k => match k with
  | _ => ("BishopsPeace$Bells", "rung", "[I", true)
def tyX0 : Nat → FieldType := fun k => match k with
  | _ => .array .int
theorem nmX0 : ∀ a, a < 1 → ∀ b, b < 1 → a ≠ b → (TX0 a).2.1 ≠ (TX0 b).2.1 := by decide +kernel
theorem tyX0_ok : ∀ k, k < 1 → parseFieldDescriptor (TX0 k).2.2.1 = some (tyX0 k) := by decide +kernel
abbrev cX0_init : ByteArray := prog_2_method_1_code
def yX0_init : MethodName := ⟨RX0, "<init>", "()V"⟩
abbrev cX0_at : ByteArray := prog_2_method_2_code
def yX0_at : MethodName := ⟨RX0, "at", "(II)I"⟩
abbrev cX0_put : ByteArray := prog_2_method_3_code
def yX0_put : MethodName := ⟨RX0, "put", "(II)I"⟩
abbrev cX0_hoursUnlike : ByteArray := prog_2_method_4_code
def yX0_hoursUnlike : MethodName := ⟨RX0, "hoursUnlike", "(II)I"⟩
abbrev cX0_likeOnes : ByteArray := prog_2_method_5_code
def yX0_likeOnes : MethodName := ⟨RX0, "likeOnes", "(I)I"⟩
abbrev cX0_commonest : ByteArray := prog_2_method_6_code
def yX0_commonest : MethodName := ⟨RX0, "commonest", "()I"⟩
abbrev cX0_rank : ByteArray := prog_2_method_7_code
def yX0_rank : MethodName := ⟨RX0, "rank", "(I)I"⟩
abbrev cX0_middleOf : ByteArray := prog_2_method_8_code
def yX0_middleOf : MethodName := ⟨RX0, "middleOf", "(I)I"⟩
abbrev cX0_change : ByteArray := prog_2_method_9_code
def yX0_change : MethodName := ⟨RX0, "change", "(II)I"⟩
def RX1 : String := "BishopsPeace$Castle"
def TX1 : u_T := fun k => match k with
  | 0 => ("BishopsPeace$Castle", "peace", "LBishopsPeace$Peace;", true)
  | 1 => ("BishopsPeace$Castle", "breaks", "I", false)
  | 2 => ("BishopsPeace$Castle", "mends", "I", false)
  | _ => ("BishopsPeace$Castle", "stonesLeft", "I", false)
def tyX1 : Nat → FieldType := fun k => match k with
  | 0 => .object "BishopsPeace$Peace"
  | 1 => .int
  | 2 => .int
  | _ => .int
theorem nmX1 : ∀ a, a < 4 → ∀ b, b < 4 → a ≠ b → (TX1 a).2.1 ≠ (TX1 b).2.1 := by decide +kernel
theorem tyX1_ok : ∀ k, k < 4 → parseFieldDescriptor (TX1 k).2.2.1 = some (tyX1 k) := by decide +kernel
abbrev cX1_init : ByteArray := prog_3_method_1_code
def yX1_init : MethodName := ⟨RX1, "<init>", "(LBishopsPeace$Peace;)V"⟩
abbrev cX1_batter : ByteArray := prog_3_method_2_code
def yX1_batter : MethodName := ⟨RX1, "batter", "(IIII)I"⟩
abbrev cX1_leastMends : ByteArray := prog_3_method_3_code
def yX1_leastMends : MethodName := ⟨RX1, "leastMends", "(III)I"⟩
def RX2 : String := "BishopsPeace$Homeward"
def TX2 : u_T := fun k => match k with
  | 0 => ("BishopsPeace$Homeward", "roads", "LBishopsPeace$Roads;", true)
  | 1 => ("BishopsPeace$Homeward", "peace", "LBishopsPeace$Peace;", true)
  | 2 => ("BishopsPeace$Homeward", "row", "[I", true)
  | 3 => ("BishopsPeace$Homeward", "bestRow", "[I", true)
  | 4 => ("BishopsPeace$Homeward", "goal", "I", false)
  | 5 => ("BishopsPeace$Homeward", "start", "I", false)
  | 6 => ("BishopsPeace$Homeward", "been", "I", false)
  | 7 => ("BishopsPeace$Homeward", "bestSteps", "I", false)
  | 8 => ("BishopsPeace$Homeward", "bestHours", "I", false)
  | _ => ("BishopsPeace$Homeward", "bestChance", "I", false)
def tyX2 : Nat → FieldType := fun k => match k with
  | 0 => .object "BishopsPeace$Roads"
  | 1 => .object "BishopsPeace$Peace"
  | 2 => .array .int
  | 3 => .array .int
  | 4 => .int
  | 5 => .int
  | 6 => .int
  | 7 => .int
  | 8 => .int
  | _ => .int
theorem nmX2 : ∀ a, a < 10 → ∀ b, b < 10 → a ≠ b → (TX2 a).2.1 ≠ (TX2 b).2.1 := by decide +kernel
theorem tyX2_ok : ∀ k, k < 10 → parseFieldDescriptor (TX2 k).2.2.1 = some (tyX2 k) := by decide +kernel
abbrev cX2_init : ByteArray := prog_4_method_1_code
def yX2_init : MethodName := ⟨RX2, "<init>", "(LBishopsPeace$Roads;LBishopsPeace$Peace;)V"⟩
abbrev cX2_seek : ByteArray := prog_4_method_2_code
def yX2_seek : MethodName := ⟨RX2, "seek", "(III)V"⟩
abbrev cX2_walk : ByteArray := prog_4_method_3_code
def yX2_walk : MethodName := ⟨RX2, "walk", "(III)V"⟩
abbrev cX2_freeOf : ByteArray := prog_4_method_4_code
def yX2_freeOf : MethodName := ⟨RX2, "freeOf", "(I)I"⟩
abbrev cX2_arrive : ByteArray := prog_4_method_5_code
def yX2_arrive : MethodName := ⟨RX2, "arrive", "(III)V"⟩
abbrev cX2_isBetter : ByteArray := prog_4_method_6_code
def yX2_isBetter : MethodName := ⟨RX2, "isBetter", "(II)Z"⟩
abbrev cX2_commonBits : ByteArray := prog_4_method_7_code
def yX2_commonBits : MethodName := ⟨RX2, "commonBits", "()I"⟩
abbrev cX2_above : ByteArray := prog_4_method_8_code
def yX2_above : MethodName := ⟨RX2, "above", "()I"⟩
abbrev cX2_below : ByteArray := prog_4_method_9_code
def yX2_below : MethodName := ⟨RX2, "below", "()I"⟩
abbrev cX2_landAt : ByteArray := prog_4_method_10_code
def yX2_landAt : MethodName := ⟨RX2, "landAt", "(I)I"⟩
def RX3 : String := "BishopsPeace$March"
def TX3 : u_T := fun k => match k with
  | 0 => ("BishopsPeace$March", "roads", "LBishopsPeace$Roads;", true)
  | 1 => ("BishopsPeace$March", "peace", "LBishopsPeace$Peace;", true)
  | 2 => ("BishopsPeace$March", "lands", "[I", true)
  | 3 => ("BishopsPeace$March", "behind", "[I", true)
  | _ => ("BishopsPeace$March", "needs", "I", false)
def tyX3 : Nat → FieldType := fun k => match k with
  | 0 => .object "BishopsPeace$Roads"
  | 1 => .object "BishopsPeace$Peace"
  | 2 => .array .int
  | 3 => .array .int
  | _ => .int
theorem nmX3 : ∀ a, a < 5 → ∀ b, b < 5 → a ≠ b → (TX3 a).2.1 ≠ (TX3 b).2.1 := by decide +kernel
theorem tyX3_ok : ∀ k, k < 5 → parseFieldDescriptor (TX3 k).2.2.1 = some (tyX3 k) := by decide +kernel
abbrev cX3_init : ByteArray := prog_5_method_1_code
def yX3_init : MethodName := ⟨RX3, "<init>", "(LBishopsPeace$Roads;LBishopsPeace$Peace;)V"⟩
abbrev cX3_firstStart : ByteArray := prog_5_method_2_code
def yX3_firstStart : MethodName := ⟨RX3, "firstStart", "(IIII)I"⟩
abbrev cX3_goBetween : ByteArray := prog_5_method_3_code
def yX3_goBetween : MethodName := ⟨RX3, "goBetween", "(III)V"⟩
abbrev cX3_need : ByteArray := prog_5_method_4_code
def yX3_need : MethodName := ⟨RX3, "need", "(II)V"⟩
abbrev cX3_isAllowed : ByteArray := prog_5_method_5_code
def yX3_isAllowed : MethodName := ⟨RX3, "isAllowed", "(I)Z"⟩
def RX4 : String := "BishopsPeace$Memory"
def TX4 : u_T := fun k => match k with
  | 0 => ("BishopsPeace$Memory", "peace", "LBishopsPeace$Peace;", true)
  | 1 => ("BishopsPeace$Memory", "hours", "[I", true)
  | 2 => ("BishopsPeace$Memory", "lands", "[I", true)
  | 3 => ("BishopsPeace$Memory", "wars", "[Z", true)
  | _ => ("BishopsPeace$Memory", "number", "I", false)
def tyX4 : Nat → FieldType := fun k => match k with
  | 0 => .object "BishopsPeace$Peace"
  | 1 => .array .int
  | 2 => .array .int
  | 3 => .array .boolean
  | _ => .int
theorem nmX4 : ∀ a, a < 5 → ∀ b, b < 5 → a ≠ b → (TX4 a).2.1 ≠ (TX4 b).2.1 := by decide +kernel
theorem tyX4_ok : ∀ k, k < 5 → parseFieldDescriptor (TX4 k).2.2.1 = some (tyX4 k) := by decide +kernel
abbrev cX4_init : ByteArray := prog_6_method_1_code
def yX4_init : MethodName := ⟨RX4, "<init>", "(LBishopsPeace$Peace;)V"⟩
abbrev cX4_keep : ByteArray := prog_6_method_2_code
def yX4_keep : MethodName := ⟨RX4, "keep", "(IIZ)Z"⟩
abbrev cX4_fits : ByteArray := prog_6_method_3_code
def yX4_fits : MethodName := ⟨RX4, "fits", "(I)Z"⟩
def RX5 : String := "BishopsPeace$Peace"
def TX5 : u_T := fun k => match k with
  | 0 => ("BishopsPeace$Peace", "bells", "LBishopsPeace$Bells;", true)
  | 1 => ("BishopsPeace$Peace", "facts", "[I", true)
  | 2 => ("BishopsPeace$Peace", "feasts", "[I", true)
  | 3 => ("BishopsPeace$Peace", "feastCount", "I", false)
  | 4 => ("BishopsPeace$Peace", "feastDays", "I", false)
  | _ => ("BishopsPeace$Peace", "lentWeeks", "I", false)
def tyX5 : Nat → FieldType := fun k => match k with
  | 0 => .object "BishopsPeace$Bells"
  | 1 => .array .int
  | 2 => .array .int
  | 3 => .int
  | 4 => .int
  | _ => .int
theorem nmX5 : ∀ a, a < 6 → ∀ b, b < 6 → a ≠ b → (TX5 a).2.1 ≠ (TX5 b).2.1 := by decide +kernel
theorem tyX5_ok : ∀ k, k < 6 → parseFieldDescriptor (TX5 k).2.2.1 = some (tyX5 k) := by decide +kernel
abbrev cX5_init : ByteArray := prog_7_method_1_code
def yX5_init : MethodName := ⟨RX5, "<init>", "(LBishopsPeace$Bells;)V"⟩
abbrev cX5_mostOf : ByteArray := prog_7_method_2_code
def yX5_mostOf : MethodName := ⟨RX5, "mostOf", "(I)I"⟩
abbrev cX5_at : ByteArray := prog_7_method_3_code
def yX5_at : MethodName := ⟨RX5, "at", "(II)I"⟩
abbrev cX5_put : ByteArray := prog_7_method_4_code
def yX5_put : MethodName := ⟨RX5, "put", "(III)I"⟩
abbrev cX5_swornLands : ByteArray := prog_7_method_5_code
def yX5_swornLands : MethodName := ⟨RX5, "swornLands", "()I"⟩
abbrev cX5_addFeast : ByteArray := prog_7_method_6_code
def yX5_addFeast : MethodName := ⟨RX5, "addFeast", "(I)Z"⟩
abbrev cX5_dropFeast : ByteArray := prog_7_method_7_code
def yX5_dropFeast : MethodName := ⟨RX5, "dropFeast", "()Z"⟩
abbrev cX5_gatherFeasts : ByteArray := prog_7_method_8_code
def yX5_gatherFeasts : MethodName := ⟨RX5, "gatherFeasts", "()V"⟩
abbrev cX5_isOpenDay : ByteArray := prog_7_method_9_code
def yX5_isOpenDay : MethodName := ⟨RX5, "isOpenDay", "(II)Z"⟩
abbrev cX5_bellOf : ByteArray := prog_7_method_10_code
def yX5_bellOf : MethodName := ⟨RX5, "bellOf", "(II)I"⟩
abbrev cX5_isWar : ByteArray := prog_7_method_11_code
def yX5_isWar : MethodName := ⟨RX5, "isWar", "(II)Z"⟩
abbrev cX5_warInDay : ByteArray := prog_7_method_12_code
def yX5_warInDay : MethodName := ⟨RX5, "warInDay", "(II)I"⟩
abbrev cX5_warInWeek : ByteArray := prog_7_method_13_code
def yX5_warInWeek : MethodName := ⟨RX5, "warInWeek", "(II)I"⟩
def RX6 : String := "BishopsPeace$Roads"
def TX6 : u_T := fun k => match k with
  | 0 => ("BishopsPeace$Roads", "text", "[I", true)
  | 1 => ("BishopsPeace$Roads", "one", "[I", true)
  | 2 => ("BishopsPeace$Roads", "other", "[I", true)
  | 3 => ("BishopsPeace$Roads", "hours", "[I", true)
  | 4 => ("BishopsPeace$Roads", "ways", "[I", true)
  | 5 => ("BishopsPeace$Roads", "bytes", "I", false)
  | 6 => ("BishopsPeace$Roads", "number", "I", false)
  | _ => ("BishopsPeace$Roads", "faultAt", "I", false)
def tyX6 : Nat → FieldType := fun k => match k with
  | 0 => .array .int
  | 1 => .array .int
  | 2 => .array .int
  | 3 => .array .int
  | 4 => .array .int
  | 5 => .int
  | 6 => .int
  | _ => .int
theorem nmX6 : ∀ a, a < 8 → ∀ b, b < 8 → a ≠ b → (TX6 a).2.1 ≠ (TX6 b).2.1 := by decide +kernel
theorem tyX6_ok : ∀ k, k < 8 → parseFieldDescriptor (TX6 k).2.2.1 = some (tyX6 k) := by decide +kernel
abbrev cX6_init : ByteArray := prog_8_method_1_code
def yX6_init : MethodName := ⟨RX6, "<init>", "()V"⟩
abbrev cX6_append : ByteArray := prog_8_method_2_code
def yX6_append : MethodName := ⟨RX6, "append", "(I)Z"⟩
abbrev cX6_shorten : ByteArray := prog_8_method_3_code
def yX6_shorten : MethodName := ⟨RX6, "shorten", "(I)V"⟩
abbrev cX6_settle : ByteArray := prog_8_method_4_code
def yX6_settle : MethodName := ⟨RX6, "settle", "()V"⟩
abbrev cX6_firstFault : ByteArray := prog_8_method_5_code
def yX6_firstFault : MethodName := ⟨RX6, "firstFault", "()I"⟩
abbrev cX6_goesOn : ByteArray := prog_8_method_6_code
def yX6_goesOn : MethodName := ⟨RX6, "goesOn", "(I)Z"⟩
abbrev cX6_measure : ByteArray := prog_8_method_7_code
def yX6_measure : MethodName := ⟨RX6, "measure", "()V"⟩
abbrev cX6_shortenWay : ByteArray := prog_8_method_8_code
def yX6_shortenWay : MethodName := ⟨RX6, "shortenWay", "(III)V"⟩
abbrev cX6_shortest : ByteArray := prog_8_method_9_code
def yX6_shortest : MethodName := ⟨RX6, "shortest", "(II)I"⟩
abbrev cX6_reaches : ByteArray := prog_8_method_10_code
def yX6_reaches : MethodName := ⟨RX6, "reaches", "(II)Z"⟩
abbrev cX6_end : ByteArray := prog_8_method_11_code
def yX6_end : MethodName := ⟨RX6, "end", "(II)I"⟩
abbrev cX6_across : ByteArray := prog_8_method_12_code
def yX6_across : MethodName := ⟨RX6, "across", "(II)I"⟩
abbrev cX6_nextLand : ByteArray := prog_8_method_13_code
def yX6_nextLand : MethodName := ⟨RX6, "nextLand", "(II)I"⟩
abbrev cX6_allHours : ByteArray := prog_8_method_14_code
def yX6_allHours : MethodName := ⟨RX6, "allHours", "()I"⟩
def RX7 : String := "BishopsPeace$Sheet"
def TX7 : u_T := fun k => match k with
  | 0 => ("BishopsPeace$Sheet", "items", "[I", true)
  | 1 => ("BishopsPeace$Sheet", "form", "I", false)
  | 2 => ("BishopsPeace$Sheet", "length", "I", false)
  | _ => ("BishopsPeace$Sheet", "lost", "Z", false)
def tyX7 : Nat → FieldType := fun k => match k with
  | 0 => .array .int
  | 1 => .int
  | 2 => .int
  | _ => .boolean
theorem nmX7 : ∀ a, a < 4 → ∀ b, b < 4 → a ≠ b → (TX7 a).2.1 ≠ (TX7 b).2.1 := by decide +kernel
theorem tyX7_ok : ∀ k, k < 4 → parseFieldDescriptor (TX7 k).2.2.1 = some (tyX7 k) := by decide +kernel
abbrev cX7_init : ByteArray := prog_9_method_1_code
def yX7_init : MethodName := ⟨RX7, "<init>", "()V"⟩
abbrev cX7_renew : ByteArray := prog_9_method_2_code
def yX7_renew : MethodName := ⟨RX7, "renew", "(II)V"⟩
abbrev cX7_put : ByteArray := prog_9_method_3_code
def yX7_put : MethodName := ⟨RX7, "put", "(II)V"⟩
abbrev cX7_holdsRun : ByteArray := prog_9_method_4_code
def yX7_holdsRun : MethodName := ⟨RX7, "holdsRun", "(II)Z"⟩
def RX8 : String := "BishopsPeace"
def TX8 : u_T := fun k => match k with
  | 0 => ("BishopsPeace", "roads", "LBishopsPeace$Roads;", true)
  | 1 => ("BishopsPeace", "bells", "LBishopsPeace$Bells;", true)
  | 2 => ("BishopsPeace", "peace", "LBishopsPeace$Peace;", true)
  | 3 => ("BishopsPeace", "march", "LBishopsPeace$March;", true)
  | 4 => ("BishopsPeace", "castle", "LBishopsPeace$Castle;", true)
  | 5 => ("BishopsPeace", "homeward", "LBishopsPeace$Homeward;", true)
  | 6 => ("BishopsPeace", "memory", "LBishopsPeace$Memory;", true)
  | 7 => ("BishopsPeace", "sheets", "[LBishopsPeace$Sheet;", true)
  | _ => ("BishopsPeace", "finding", "I", false)
def tyX8 : Nat → FieldType := fun k => match k with
  | 0 => .object "BishopsPeace$Roads"
  | 1 => .object "BishopsPeace$Bells"
  | 2 => .object "BishopsPeace$Peace"
  | 3 => .object "BishopsPeace$March"
  | 4 => .object "BishopsPeace$Castle"
  | 5 => .object "BishopsPeace$Homeward"
  | 6 => .object "BishopsPeace$Memory"
  | 7 => .array (.object "BishopsPeace$Sheet")
  | _ => .int
theorem nmX8 : ∀ a, a < 9 → ∀ b, b < 9 → a ≠ b → (TX8 a).2.1 ≠ (TX8 b).2.1 := by decide +kernel
theorem tyX8_ok : ∀ k, k < 9 → parseFieldDescriptor (TX8 k).2.2.1 = some (tyX8 k) := by decide +kernel
abbrev cX8_init : ByteArray := prog_1_method_1_code
def yX8_init : MethodName := ⟨RX8, "<init>", "()V"⟩
abbrev cX8_type : ByteArray := prog_1_method_2_code
def yX8_type : MethodName := ⟨RX8, "type", "(I)I"⟩
abbrev cX8_wipe : ByteArray := prog_1_method_3_code
def yX8_wipe : MethodName := ⟨RX8, "wipe", "()I"⟩
abbrev cX8_undo : ByteArray := prog_1_method_4_code
def yX8_undo : MethodName := ⟨RX8, "undo", "()I"⟩
abbrev cX8_fault : ByteArray := prog_1_method_5_code
def yX8_fault : MethodName := ⟨RX8, "fault", "()I"⟩
abbrev cX8_road : ByteArray := prog_1_method_6_code
def yX8_road : MethodName := ⟨RX8, "road", "(II)I"⟩
abbrev cX8_land : ByteArray := prog_1_method_7_code
def yX8_land : MethodName := ⟨RX8, "land", "(III)I"⟩
abbrev cX8_bell : ByteArray := prog_1_method_8_code
def yX8_bell : MethodName := ⟨RX8, "bell", "(III)I"⟩
abbrev cX8_read : ByteArray := prog_1_method_9_code
def yX8_read : MethodName := ⟨RX8, "read", "(I)I"⟩
abbrev cX8_feast : ByteArray := prog_1_method_10_code
def yX8_feast : MethodName := ⟨RX8, "feast", "(I)I"⟩
abbrev cX8_back : ByteArray := prog_1_method_11_code
def yX8_back : MethodName := ⟨RX8, "back", "()I"⟩
abbrev cX8_lent : ByteArray := prog_1_method_12_code
def yX8_lent : MethodName := ⟨RX8, "lent", "(I)I"⟩
abbrev cX8_war : ByteArray := prog_1_method_13_code
def yX8_war : MethodName := ⟨RX8, "war", "(II)I"⟩
abbrev cX8_strikes : ByteArray := prog_1_method_14_code
def yX8_strikes : MethodName := ⟨RX8, "strikes", "(IIII)I"⟩
abbrev cX8_next : ByteArray := prog_1_method_15_code
def yX8_next : MethodName := ⟨RX8, "next", "(III)I"⟩
abbrev cX8_left : ByteArray := prog_1_method_16_code
def yX8_left : MethodName := ⟨RX8, "left", "(II)I"⟩
abbrev cX8_best : ByteArray := prog_1_method_17_code
def yX8_best : MethodName := ⟨RX8, "best", "(I)I"⟩
abbrev cX8_unlike : ByteArray := prog_1_method_18_code
def yX8_unlike : MethodName := ⟨RX8, "unlike", "(II)I"⟩
abbrev cX8_way : ByteArray := prog_1_method_19_code
def yX8_way : MethodName := ⟨RX8, "way", "(III)I"⟩
abbrev cX8_raid : ByteArray := prog_1_method_20_code
def yX8_raid : MethodName := ⟨RX8, "raid", "(IIII)I"⟩
abbrev cX8_set : ByteArray := prog_1_method_21_code
def yX8_set : MethodName := ⟨RX8, "set", "(II)I"⟩
abbrev cX8_siege : ByteArray := prog_1_method_22_code
def yX8_siege : MethodName := ⟨RX8, "siege", "(IIII)I"⟩
abbrev cX8_holds : ByteArray := prog_1_method_23_code
def yX8_holds : MethodName := ⟨RX8, "holds", "(III)I"⟩
abbrev cX8_home : ByteArray := prog_1_method_24_code
def yX8_home : MethodName := ⟨RX8, "home", "(IIII)I"⟩
abbrev cX8_agree : ByteArray := prog_1_method_25_code
def yX8_agree : MethodName := ⟨RX8, "agree", "(I)I"⟩
abbrev cX8_middle : ByteArray := prog_1_method_26_code
def yX8_middle : MethodName := ⟨RX8, "middle", "(I)I"⟩
abbrev cX8_seen : ByteArray := prog_1_method_27_code
def yX8_seen : MethodName := ⟨RX8, "seen", "(III)I"⟩
abbrev cX8_forget : ByteArray := prog_1_method_28_code
def yX8_forget : MethodName := ⟨RX8, "forget", "()I"⟩
abbrev cX8_which : ByteArray := prog_1_method_29_code
def yX8_which : MethodName := ⟨RX8, "which", "()I"⟩
abbrev cX8_season : ByteArray := prog_1_method_30_code
def yX8_season : MethodName := ⟨RX8, "season", "(II)I"⟩
abbrev cX8_sheet : ByteArray := prog_1_method_31_code
def yX8_sheet : MethodName := ⟨RX8, "sheet", "(III)I"⟩
abbrev cX8_lose : ByteArray := prog_1_method_32_code
def yX8_lose : MethodName := ⟨RX8, "lose", "(I)I"⟩
abbrev cX8_lay : ByteArray := prog_1_method_33_code
def yX8_lay : MethodName := ⟨RX8, "lay", "(IIII)I"⟩
abbrev cX8_get : ByteArray := prog_1_method_34_code
def yX8_get : MethodName := ⟨RX8, "get", "(III)I"⟩
abbrev cX8_copy : ByteArray := prog_1_method_35_code
def yX8_copy : MethodName := ⟨RX8, "copy", "(IIIII)I"⟩
abbrev cX8_write : ByteArray := prog_1_method_36_code
def yX8_write : MethodName := ⟨RX8, "write", "(III)I"⟩
abbrev cX8_count : ByteArray := prog_1_method_37_code
def yX8_count : MethodName := ⟨RX8, "count", "(I)I"⟩
abbrev cX8_digest : ByteArray := prog_1_method_38_code
def yX8_digest : MethodName := ⟨RX8, "digest", "()J"⟩
abbrev cX8_digestOfRoads : ByteArray := prog_1_method_39_code
def yX8_digestOfRoads : MethodName := ⟨RX8, "digestOfRoads", "(J)J"⟩
abbrev cX8_digestOfLands : ByteArray := prog_1_method_40_code
def yX8_digestOfLands : MethodName := ⟨RX8, "digestOfLands", "(J)J"⟩
abbrev cX8_digestOfJourneys : ByteArray := prog_1_method_41_code
def yX8_digestOfJourneys : MethodName := ⟨RX8, "digestOfJourneys", "(J)J"⟩
abbrev cX8_digestOfKinds : ByteArray := prog_1_method_42_code
def yX8_digestOfKinds : MethodName := ⟨RX8, "digestOfKinds", "(J)J"⟩
abbrev cX8_digestOfParishes : ByteArray := prog_1_method_43_code
def yX8_digestOfParishes : MethodName := ⟨RX8, "digestOfParishes", "(J)J"⟩
abbrev cX8_found : ByteArray := prog_1_method_44_code
def yX8_found : MethodName := ⟨RX8, "found", "(I)I"⟩
abbrev cX8_wrongItem : ByteArray := prog_1_method_45_code
def yX8_wrongItem : MethodName := ⟨RX8, "wrongItem", "(III)I"⟩
abbrev cX8_upTo : ByteArray := prog_1_method_46_code
def yX8_upTo : MethodName := ⟨RX8, "upTo", "(II)Z"⟩
abbrev cX8_isLand : ByteArray := prog_1_method_47_code
def yX8_isLand : MethodName := ⟨RX8, "isLand", "(I)Z"⟩
abbrev cX8_areTwoLands : ByteArray := prog_1_method_48_code
def yX8_areTwoLands : MethodName := ⟨RX8, "areTwoLands", "(II)Z"⟩
abbrev cX8_isParish : ByteArray := prog_1_method_49_code
def yX8_isParish : MethodName := ⟨RX8, "isParish", "(I)Z"⟩
abbrev cX8_isKind : ByteArray := prog_1_method_50_code
def yX8_isKind : MethodName := ⟨RX8, "isKind", "(I)Z"⟩
abbrev cX8_isHour : ByteArray := prog_1_method_51_code
def yX8_isHour : MethodName := ⟨RX8, "isHour", "(I)Z"⟩
abbrev cX8_isSheet : ByteArray := prog_1_method_52_code
def yX8_isSheet : MethodName := ⟨RX8, "isSheet", "(I)Z"⟩
abbrev cX8_isForm : ByteArray := prog_1_method_53_code
def yX8_isForm : MethodName := ⟨RX8, "isForm", "(I)Z"⟩
abbrev cX8_isSiege : ByteArray := prog_1_method_54_code
def yX8_isSiege : MethodName := ⟨RX8, "isSiege", "(III)Z"⟩
def RX9 : String := "BishopsPeaceModel"
def TX9 : u_T := fun k => match k with
  | 0 => ("BishopsPeaceModel", "forms", "[I", true)
  | 1 => ("BishopsPeaceModel", "sizes", "[I", true)
  | 2 => ("BishopsPeaceModel", "items", "[I", true)
  | 3 => ("BishopsPeaceModel", "moved", "[I", true)
  | 4 => ("BishopsPeaceModel", "latest", "I", false)
  | 5 => ("BishopsPeaceModel", "text", "[I", true)
  | 6 => ("BishopsPeaceModel", "typed", "I", false)
  | 7 => ("BishopsPeaceModel", "at", "I", false)
  | 8 => ("BishopsPeaceModel", "roads", "I", false)
  | 9 => ("BishopsPeaceModel", "road", "[I", true)
  | 10 => ("BishopsPeaceModel", "land", "[I", true)
  | 11 => ("BishopsPeaceModel", "bells", "[I", true)
  | 12 => ("BishopsPeaceModel", "feasts", "I", false)
  | 13 => ("BishopsPeaceModel", "feast", "[I", true)
  | 14 => ("BishopsPeaceModel", "lents", "I", false)
  | 15 => ("BishopsPeaceModel", "settings", "[I", true)
  | 16 => ("BishopsPeaceModel", "far", "[I", true)
  | 17 => ("BishopsPeaceModel", "left", "I", false)
  | 18 => ("BishopsPeaceModel", "tried", "[I", true)
  | 19 => ("BishopsPeaceModel", "step", "[I", true)
  | 20 => ("BishopsPeaceModel", "spent", "[I", true)
  | 21 => ("BishopsPeaceModel", "luck", "[I", true)
  | 22 => ("BishopsPeaceModel", "bestSteps", "I", false)
  | 23 => ("BishopsPeaceModel", "bestLuck", "I", false)
  | 24 => ("BishopsPeaceModel", "bestSpent", "I", false)
  | 25 => ("BishopsPeaceModel", "bestStep", "[I", true)
  | 26 => ("BishopsPeaceModel", "sights", "I", false)
  | 27 => ("BishopsPeaceModel", "sight", "[I", true)
  | _ => ("BishopsPeaceModel", "more", "I", false)
def tyX9 : Nat → FieldType := fun k => match k with
  | 0 => .array .int
  | 1 => .array .int
  | 2 => .array .int
  | 3 => .array .int
  | 4 => .int
  | 5 => .array .int
  | 6 => .int
  | 7 => .int
  | 8 => .int
  | 9 => .array .int
  | 10 => .array .int
  | 11 => .array .int
  | 12 => .int
  | 13 => .array .int
  | 14 => .int
  | 15 => .array .int
  | 16 => .array .int
  | 17 => .int
  | 18 => .array .int
  | 19 => .array .int
  | 20 => .array .int
  | 21 => .array .int
  | 22 => .int
  | 23 => .int
  | 24 => .int
  | 25 => .array .int
  | 26 => .int
  | 27 => .array .int
  | _ => .int
theorem nmX9 : ∀ a, a < 29 → ∀ b, b < 29 → a ≠ b → (TX9 a).2.1 ≠ (TX9 b).2.1 := by decide +kernel
theorem tyX9_ok : ∀ k, k < 29 → parseFieldDescriptor (TX9 k).2.2.1 = some (tyX9 k) := by decide +kernel
abbrev cX9_init : ByteArray := prog_11_method_1_code
def yX9_init : MethodName := ⟨RX9, "<init>", "()V"⟩
abbrev cX9_in : ByteArray := prog_11_method_3_code
def yX9_in : MethodName := ⟨RX9, "in", "(JJJ)Z"⟩
abbrev cX9_isTwo : ByteArray := prog_11_method_4_code
def yX9_isTwo : MethodName := ⟨RX9, "isTwo", "(I)Z"⟩
abbrev cX9_isIn : ByteArray := prog_11_method_5_code
def yX9_isIn : MethodName := ⟨RX9, "isIn", "(II)Z"⟩
abbrev cX9_lesser : ByteArray := prog_11_method_6_code
def yX9_lesser : MethodName := ⟨RX9, "lesser", "(II)I"⟩
abbrev cX9_amount : ByteArray := prog_11_method_7_code
def yX9_amount : MethodName := ⟨RX9, "amount", "(I)I"⟩
abbrev cX9_common : ByteArray := prog_11_method_8_code
def yX9_common : MethodName := ⟨RX9, "common", "(II)I"⟩
abbrev cX9_finds : ByteArray := prog_11_method_9_code
def yX9_finds : MethodName := ⟨RX9, "finds", "(I)I"⟩
abbrev cX9_isSheet : ByteArray := prog_11_method_10_code
def yX9_isSheet : MethodName := ⟨RX9, "isSheet", "(I)Z"⟩
abbrev cX9_sheet : ByteArray := prog_11_method_11_code
def yX9_sheet : MethodName := ⟨RX9, "sheet", "(III)I"⟩
abbrev cX9_lose : ByteArray := prog_11_method_12_code
def yX9_lose : MethodName := ⟨RX9, "lose", "(I)I"⟩
abbrev cX9_lacks : ByteArray := prog_11_method_13_code
def yX9_lacks : MethodName := ⟨RX9, "lacks", "(III)I"⟩
abbrev cX9_cut : ByteArray := prog_11_method_14_code
def yX9_cut : MethodName := ⟨RX9, "cut", "(II)I"⟩
abbrev cX9_lay : ByteArray := prog_11_method_15_code
def yX9_lay : MethodName := ⟨RX9, "lay", "(IIII)I"⟩
abbrev cX9_get : ByteArray := prog_11_method_16_code
def yX9_get : MethodName := ⟨RX9, "get", "(III)I"⟩
abbrev cX9_copy : ByteArray := prog_11_method_17_code
def yX9_copy : MethodName := ⟨RX9, "copy", "(IIIII)I"⟩
abbrev cX9_type : ByteArray := prog_11_method_18_code
def yX9_type : MethodName := ⟨RX9, "type", "(I)I"⟩
abbrev cX9_wipe : ByteArray := prog_11_method_19_code
def yX9_wipe : MethodName := ⟨RX9, "wipe", "()I"⟩
abbrev cX9_undo : ByteArray := prog_11_method_20_code
def yX9_undo : MethodName := ⟨RX9, "undo", "()I"⟩
abbrev cX9_tellsOf : ByteArray := prog_11_method_21_code
def yX9_tellsOf : MethodName := ⟨RX9, "tellsOf", "(II)I"⟩
abbrev cX9_readsRoad : ByteArray := prog_11_method_22_code
def yX9_readsRoad : MethodName := ⟨RX9, "readsRoad", "()Z"⟩
abbrev cX9_reads : ByteArray := prog_11_method_23_code
def yX9_reads : MethodName := ⟨RX9, "reads", "()I"⟩
abbrev cX9_fault : ByteArray := prog_11_method_24_code
def yX9_fault : MethodName := ⟨RX9, "fault", "()I"⟩
abbrev cX9_road : ByteArray := prog_11_method_25_code
def yX9_road : MethodName := ⟨RX9, "road", "(II)I"⟩
abbrev cX9_isLand : ByteArray := prog_11_method_26_code
def yX9_isLand : MethodName := ⟨RX9, "isLand", "(I)Z"⟩
abbrev cX9_isParish : ByteArray := prog_11_method_27_code
def yX9_isParish : MethodName := ⟨RX9, "isParish", "(I)Z"⟩
abbrev cX9_isHour : ByteArray := prog_11_method_28_code
def yX9_isHour : MethodName := ⟨RX9, "isHour", "(I)Z"⟩
abbrev cX9_land : ByteArray := prog_11_method_29_code
def yX9_land : MethodName := ⟨RX9, "land", "(III)I"⟩
abbrev cX9_bell : ByteArray := prog_11_method_30_code
def yX9_bell : MethodName := ⟨RX9, "bell", "(III)I"⟩
abbrev cX9_read : ByteArray := prog_11_method_31_code
def yX9_read : MethodName := ⟨RX9, "read", "(I)I"⟩
abbrev cX9_feast : ByteArray := prog_11_method_32_code
def yX9_feast : MethodName := ⟨RX9, "feast", "(I)I"⟩
abbrev cX9_back : ByteArray := prog_11_method_33_code
def yX9_back : MethodName := ⟨RX9, "back", "()I"⟩
abbrev cX9_lent : ByteArray := prog_11_method_34_code
def yX9_lent : MethodName := ⟨RX9, "lent", "(I)I"⟩
abbrev cX9_isWarBy : ByteArray := prog_11_method_35_code
def yX9_isWarBy : MethodName := ⟨RX9, "isWarBy", "(II)Z"⟩
abbrev cX9_isFeast : ByteArray := prog_11_method_36_code
def yX9_isFeast : MethodName := ⟨RX9, "isFeast", "(I)Z"⟩
abbrev cX9_isWar : ByteArray := prog_11_method_37_code
def yX9_isWar : MethodName := ⟨RX9, "isWar", "(II)Z"⟩
abbrev cX9_war : ByteArray := prog_11_method_38_code
def yX9_war : MethodName := ⟨RX9, "war", "(II)I"⟩
abbrev cX9_strikesNow : ByteArray := prog_11_method_39_code
def yX9_strikesNow : MethodName := ⟨RX9, "strikesNow", "(IIII)Z"⟩
abbrev cX9_strikes : ByteArray := prog_11_method_40_code
def yX9_strikes : MethodName := ⟨RX9, "strikes", "(IIII)I"⟩
abbrev cX9_nextOf : ByteArray := prog_11_method_41_code
def yX9_nextOf : MethodName := ⟨RX9, "nextOf", "(III)I"⟩
abbrev cX9_next : ByteArray := prog_11_method_42_code
def yX9_next : MethodName := ⟨RX9, "next", "(III)I"⟩
abbrev cX9_leftIn : ByteArray := prog_11_method_43_code
def yX9_leftIn : MethodName := ⟨RX9, "leftIn", "(II)I"⟩
abbrev cX9_left : ByteArray := prog_11_method_44_code
def yX9_left : MethodName := ⟨RX9, "left", "(II)I"⟩
abbrev cX9_bestOf : ByteArray := prog_11_method_45_code
def yX9_bestOf : MethodName := ⟨RX9, "bestOf", "(I)I"⟩
abbrev cX9_best : ByteArray := prog_11_method_46_code
def yX9_best : MethodName := ⟨RX9, "best", "(I)I"⟩
abbrev cX9_unlikeOf : ByteArray := prog_11_method_47_code
def yX9_unlikeOf : MethodName := ⟨RX9, "unlikeOf", "(II)I"⟩
abbrev cX9_unlike : ByteArray := prog_11_method_48_code
def yX9_unlike : MethodName := ⟨RX9, "unlike", "(II)I"⟩
abbrev cX9_hoursOf : ByteArray := prog_11_method_49_code
def yX9_hoursOf : MethodName := ⟨RX9, "hoursOf", "(II)I"⟩
abbrev cX9_findFar : ByteArray := prog_11_method_50_code
def yX9_findFar : MethodName := ⟨RX9, "findFar", "(I)V"⟩
abbrev cX9_nextLand : ByteArray := prog_11_method_51_code
def yX9_nextLand : MethodName := ⟨RX9, "nextLand", "(I)I"⟩
abbrev cX9_wayOf : ByteArray := prog_11_method_52_code
def yX9_wayOf : MethodName := ⟨RX9, "wayOf", "(III)I"⟩
abbrev cX9_areTwo : ByteArray := prog_11_method_53_code
def yX9_areTwo : MethodName := ⟨RX9, "areTwo", "(II)Z"⟩
abbrev cX9_way : ByteArray := prog_11_method_54_code
def yX9_way : MethodName := ⟨RX9, "way", "(III)I"⟩
abbrev cX9_goes : ByteArray := prog_11_method_55_code
def yX9_goes : MethodName := ⟨RX9, "goes", "(IIIZ)I"⟩
abbrev cX9_isRaid : ByteArray := prog_11_method_56_code
def yX9_isRaid : MethodName := ⟨RX9, "isRaid", "(IIII)Z"⟩
abbrev cX9_raidOf : ByteArray := prog_11_method_57_code
def yX9_raidOf : MethodName := ⟨RX9, "raidOf", "(IIII)I"⟩
abbrev cX9_raid : ByteArray := prog_11_method_58_code
def yX9_raid : MethodName := ⟨RX9, "raid", "(IIII)I"⟩
abbrev cX9_set : ByteArray := prog_11_method_59_code
def yX9_set : MethodName := ⟨RX9, "set", "(II)I"⟩
abbrev cX9_falls : ByteArray := prog_11_method_60_code
def yX9_falls : MethodName := ⟨RX9, "falls", "(IIII)I"⟩
abbrev cX9_siegeOf : ByteArray := prog_11_method_61_code
def yX9_siegeOf : MethodName := ⟨RX9, "siegeOf", "(IIII)I"⟩
abbrev cX9_siege : ByteArray := prog_11_method_62_code
def yX9_siege : MethodName := ⟨RX9, "siege", "(IIII)I"⟩
abbrev cX9_holdsBy : ByteArray := prog_11_method_63_code
def yX9_holdsBy : MethodName := ⟨RX9, "holdsBy", "(III)I"⟩
abbrev cX9_holds : ByteArray := prog_11_method_64_code
def yX9_holds : MethodName := ⟨RX9, "holds", "(III)I"⟩
abbrev cX9_otherEnd : ByteArray := prog_11_method_65_code
def yX9_otherEnd : MethodName := ⟨RX9, "otherEnd", "(II)I"⟩
abbrev cX9_wasAt : ByteArray := prog_11_method_66_code
def yX9_wasAt : MethodName := ⟨RX9, "wasAt", "(II)Z"⟩
abbrev cX9_isLess : ByteArray := prog_11_method_67_code
def yX9_isLess : MethodName := ⟨RX9, "isLess", "(I)Z"⟩
abbrev cX9_comes : ByteArray := prog_11_method_68_code
def yX9_comes : MethodName := ⟨RX9, "comes", "(I)V"⟩
abbrev cX9_findHome : ByteArray := prog_11_method_69_code
def yX9_findHome : MethodName := ⟨RX9, "findHome", "(III)V"⟩
abbrev cX9_tellsHome : ByteArray := prog_11_method_70_code
def yX9_tellsHome : MethodName := ⟨RX9, "tellsHome", "(I)I"⟩
abbrev cX9_home : ByteArray := prog_11_method_71_code
def yX9_home : MethodName := ⟨RX9, "home", "(IIII)I"⟩
abbrev cX9_pairOf : ByteArray := prog_11_method_72_code
def yX9_pairOf : MethodName := ⟨RX9, "pairOf", "(I)I"⟩
abbrev cX9_agreeOf : ByteArray := prog_11_method_73_code
def yX9_agreeOf : MethodName := ⟨RX9, "agreeOf", "(I)I"⟩
abbrev cX9_agree : ByteArray := prog_11_method_74_code
def yX9_agree : MethodName := ⟨RX9, "agree", "(I)I"⟩
abbrev cX9_changesBy : ByteArray := prog_11_method_75_code
def yX9_changesBy : MethodName := ⟨RX9, "changesBy", "(II)I"⟩
abbrev cX9_middleBell : ByteArray := prog_11_method_76_code
def yX9_middleBell : MethodName := ⟨RX9, "middleBell", "(I)I"⟩
abbrev cX9_middleOf : ByteArray := prog_11_method_77_code
def yX9_middleOf : MethodName := ⟨RX9, "middleOf", "(I)I"⟩
abbrev cX9_middle : ByteArray := prog_11_method_78_code
def yX9_middle : MethodName := ⟨RX9, "middle", "(I)I"⟩
abbrev cX9_seen : ByteArray := prog_11_method_79_code
def yX9_seen : MethodName := ⟨RX9, "seen", "(III)I"⟩
abbrev cX9_forget : ByteArray := prog_11_method_80_code
def yX9_forget : MethodName := ⟨RX9, "forget", "()I"⟩
abbrev cX9_whichNow : ByteArray := prog_11_method_81_code
def yX9_whichNow : MethodName := ⟨RX9, "whichNow", "()I"⟩
abbrev cX9_which : ByteArray := prog_11_method_82_code
def yX9_which : MethodName := ⟨RX9, "which", "()I"⟩
abbrev cX9_seasonOf : ByteArray := prog_11_method_83_code
def yX9_seasonOf : MethodName := ⟨RX9, "seasonOf", "(II)I"⟩
abbrev cX9_season : ByteArray := prog_11_method_84_code
def yX9_season : MethodName := ⟨RX9, "season", "(II)I"⟩
abbrev cX9_write : ByteArray := prog_11_method_85_code
def yX9_write : MethodName := ⟨RX9, "write", "(III)I"⟩
abbrev cX9_count : ByteArray := prog_11_method_86_code
def yX9_count : MethodName := ⟨RX9, "count", "(I)I"⟩
abbrev cX9_tellsLand : ByteArray := prog_11_method_87_code
def yX9_tellsLand : MethodName := ⟨RX9, "tellsLand", "(JI)J"⟩
abbrev cX9_tellsWays : ByteArray := prog_11_method_88_code
def yX9_tellsWays : MethodName := ⟨RX9, "tellsWays", "(JI)J"⟩
abbrev cX9_digest : ByteArray := prog_11_method_89_code
def yX9_digest : MethodName := ⟨RX9, "digest", "()J"⟩
def RJ9 : String := "java/lang/Math"
def TJ9 : u_T := fun k => match k with
  | _ => ("", "", "", false)
def tyJ9 : Nat → FieldType := fun k => match k with
  | _ => .int
theorem nmJ9 : ∀ a, a < 0 → ∀ b, b < 0 → a ≠ b → (TJ9 a).2.1 ≠ (TJ9 b).2.1 := by decide +kernel
theorem tyJ9_ok : ∀ k, k < 0 → parseFieldDescriptor (TJ9 k).2.2.1 = some (tyJ9 k) := by decide +kernel
abbrev cJ9_abs_0f7a4 : ByteArray := prog_12_method_59_code
def yJ9_abs_0f7a4 : MethodName := ⟨RJ9, "abs", "(I)I"⟩
abbrev cJ9_min_7cf53 : ByteArray := prog_12_method_69_code
def yJ9_min_7cf53 : MethodName := ⟨RJ9, "min", "(II)I"⟩
def RJ10 : String := "java/lang/System"
def TJ10 : u_T := fun k => match k with
  | _ => ("", "", "", false)
def tyJ10 : Nat → FieldType := fun k => match k with
  | _ => .int
theorem nmJ10 : ∀ a, a < 0 → ∀ b, b < 0 → a ≠ b → (TJ10 a).2.1 ≠ (TJ10 b).2.1 := by decide +kernel
theorem tyJ10_ok : ∀ k, k < 0 → parseFieldDescriptor (TJ10 k).2.2.1 = some (tyJ10 k) := by decide +kernel
def RJ7 : String := "java/util/Arrays"
def TJ7 : u_T := fun k => match k with
  | _ => ("", "", "", false)
def tyJ7 : Nat → FieldType := fun k => match k with
  | _ => .int
theorem nmJ7 : ∀ a, a < 0 → ∀ b, b < 0 → a ≠ b → (TJ7 a).2.1 ≠ (TJ7 b).2.1 := by decide +kernel
theorem tyJ7_ok : ∀ k, k < 0 → parseFieldDescriptor (TJ7 k).2.2.1 = some (tyJ7 k) := by decide +kernel
abbrev cJ7_fill_53178 : ByteArray := prog_14_method_103_code
def yJ7_fill_53178 : MethodName := ⟨RJ7, "fill", "([II)V"⟩
def RL : String := "BishopsPeaceLaw"
abbrev cL_law : ByteArray := code
def yL_law : MethodName := ⟨RL, "law", "([I)Z"⟩
abbrev vwCl : List vw_C := [(RX0, TX0, 1), (RX1, TX1, 4), (RX2, TX2, 10), (RX3, TX3, 5), (RX4, TX4, 5), (RX5, TX5, 6), (RX6, TX6, 8), (RX7, TX7, 4), (RX8, TX8, 9), (RX9, TX9, 29)]
abbrev MI : Type := MethodName × ByteArray × Nat × Option FieldType
def iX0_init : MI := (yX0_init, cX0_init, 2, none)
def iX0_at : MI := (yX0_at, cX0_at, 3, (some .int))
def iX0_put : MI := (yX0_put, cX0_put, 4, (some .int))
def iX0_hoursUnlike : MI := (yX0_hoursUnlike, cX0_hoursUnlike, 3, (some .int))
def iX0_likeOnes : MI := (yX0_likeOnes, cX0_likeOnes, 4, (some .int))
def iX0_commonest : MI := (yX0_commonest, cX0_commonest, 4, (some .int))
def iX0_rank : MI := (yX0_rank, cX0_rank, 2, (some .int))
def iX0_middleOf : MI := (yX0_middleOf, cX0_middleOf, 4, (some .int))
def iX0_change : MI := (yX0_change, cX0_change, 5, (some .int))
def iX1_init : MI := (yX1_init, cX1_init, 2, none)
def iX1_batter : MI := (yX1_batter, cX1_batter, 7, (some .int))
def iX1_leastMends : MI := (yX1_leastMends, cX1_leastMends, 8, (some .int))
def iX2_init : MI := (yX2_init, cX2_init, 3, none)
def iX2_seek : MI := (yX2_seek, cX2_seek, 4, none)
def iX2_walk : MI := (yX2_walk, cX2_walk, 8, none)
def iX2_freeOf : MI := (yX2_freeOf, cX2_freeOf, 2, (some .int))
def iX2_arrive : MI := (yX2_arrive, cX2_arrive, 4, none)
def iX2_isBetter : MI := (yX2_isBetter, cX2_isBetter, 4, (some .boolean))
def iX2_commonBits : MI := (yX2_commonBits, cX2_commonBits, 2, (some .int))
def iX2_above : MI := (yX2_above, cX2_above, 1, (some .int))
def iX2_below : MI := (yX2_below, cX2_below, 1, (some .int))
def iX2_landAt : MI := (yX2_landAt, cX2_landAt, 2, (some .int))
def iX3_init : MI := (yX3_init, cX3_init, 3, none)
def iX3_firstStart : MI := (yX3_firstStart, cX3_firstStart, 8, (some .int))
def iX3_goBetween : MI := (yX3_goBetween, cX3_goBetween, 7, none)
def iX3_need : MI := (yX3_need, cX3_need, 3, none)
def iX3_isAllowed : MI := (yX3_isAllowed, cX3_isAllowed, 3, (some .boolean))
def iX4_init : MI := (yX4_init, cX4_init, 2, none)
def iX4_keep : MI := (yX4_keep, cX4_keep, 4, (some .boolean))
def iX4_fits : MI := (yX4_fits, cX4_fits, 3, (some .boolean))
def iX5_init : MI := (yX5_init, cX5_init, 3, none)
def iX5_mostOf : MI := (yX5_mostOf, cX5_mostOf, 1, (some .int))
def iX5_at : MI := (yX5_at, cX5_at, 3, (some .int))
def iX5_put : MI := (yX5_put, cX5_put, 5, (some .int))
def iX5_swornLands : MI := (yX5_swornLands, cX5_swornLands, 3, (some .int))
def iX5_addFeast : MI := (yX5_addFeast, cX5_addFeast, 2, (some .boolean))
def iX5_dropFeast : MI := (yX5_dropFeast, cX5_dropFeast, 1, (some .boolean))
def iX5_gatherFeasts : MI := (yX5_gatherFeasts, cX5_gatherFeasts, 2, none)
def iX5_isOpenDay : MI := (yX5_isOpenDay, cX5_isOpenDay, 5, (some .boolean))
def iX5_bellOf : MI := (yX5_bellOf, cX5_bellOf, 3, (some .int))
def iX5_isWar : MI := (yX5_isWar, cX5_isWar, 4, (some .boolean))
def iX5_warInDay : MI := (yX5_warInDay, cX5_warInDay, 3, (some .int))
def iX5_warInWeek : MI := (yX5_warInWeek, cX5_warInWeek, 5, (some .int))
def iX6_init : MI := (yX6_init, cX6_init, 1, none)
def iX6_append : MI := (yX6_append, cX6_append, 2, (some .boolean))
def iX6_shorten : MI := (yX6_shorten, cX6_shorten, 2, none)
def iX6_settle : MI := (yX6_settle, cX6_settle, 2, none)
def iX6_firstFault : MI := (yX6_firstFault, cX6_firstFault, 2, (some .int))
def iX6_goesOn : MI := (yX6_goesOn, cX6_goesOn, 3, (some .boolean))
def iX6_measure : MI := (yX6_measure, cX6_measure, 4, none)
def iX6_shortenWay : MI := (yX6_shortenWay, cX6_shortenWay, 4, none)
def iX6_shortest : MI := (yX6_shortest, cX6_shortest, 3, (some .int))
def iX6_reaches : MI := (yX6_reaches, cX6_reaches, 3, (some .boolean))
def iX6_end : MI := (yX6_end, cX6_end, 3, (some .int))
def iX6_across : MI := (yX6_across, cX6_across, 3, (some .int))
def iX6_nextLand : MI := (yX6_nextLand, cX6_nextLand, 7, (some .int))
def iX6_allHours : MI := (yX6_allHours, cX6_allHours, 3, (some .int))
def iX7_init : MI := (yX7_init, cX7_init, 1, none)
def iX7_renew : MI := (yX7_renew, cX7_renew, 3, none)
def iX7_put : MI := (yX7_put, cX7_put, 3, none)
def iX7_holdsRun : MI := (yX7_holdsRun, cX7_holdsRun, 3, (some .boolean))
def iX8_init : MI := (yX8_init, cX8_init, 2, none)
def iX8_type : MI := (yX8_type, cX8_type, 2, (some .int))
def iX8_wipe : MI := (yX8_wipe, cX8_wipe, 2, (some .int))
def iX8_undo : MI := (yX8_undo, cX8_undo, 1, (some .int))
def iX8_fault : MI := (yX8_fault, cX8_fault, 1, (some .int))
def iX8_road : MI := (yX8_road, cX8_road, 3, (some .int))
def iX8_land : MI := (yX8_land, cX8_land, 4, (some .int))
def iX8_bell : MI := (yX8_bell, cX8_bell, 4, (some .int))
def iX8_read : MI := (yX8_read, cX8_read, 5, (some .int))
def iX8_feast : MI := (yX8_feast, cX8_feast, 2, (some .int))
def iX8_back : MI := (yX8_back, cX8_back, 1, (some .int))
def iX8_lent : MI := (yX8_lent, cX8_lent, 3, (some .int))
def iX8_war : MI := (yX8_war, cX8_war, 3, (some .int))
def iX8_strikes : MI := (yX8_strikes, cX8_strikes, 6, (some .int))
def iX8_next : MI := (yX8_next, cX8_next, 5, (some .int))
def iX8_left : MI := (yX8_left, cX8_left, 3, (some .int))
def iX8_best : MI := (yX8_best, cX8_best, 4, (some .int))
def iX8_unlike : MI := (yX8_unlike, cX8_unlike, 3, (some .int))
def iX8_way : MI := (yX8_way, cX8_way, 4, (some .int))
def iX8_raid : MI := (yX8_raid, cX8_raid, 5, (some .int))
def iX8_set : MI := (yX8_set, cX8_set, 4, (some .int))
def iX8_siege : MI := (yX8_siege, cX8_siege, 6, (some .int))
def iX8_holds : MI := (yX8_holds, cX8_holds, 4, (some .int))
def iX8_home : MI := (yX8_home, cX8_home, 5, (some .int))
def iX8_agree : MI := (yX8_agree, cX8_agree, 3, (some .int))
def iX8_middle : MI := (yX8_middle, cX8_middle, 4, (some .int))
def iX8_seen : MI := (yX8_seen, cX8_seen, 4, (some .int))
def iX8_forget : MI := (yX8_forget, cX8_forget, 2, (some .int))
def iX8_which : MI := (yX8_which, cX8_which, 3, (some .int))
def iX8_season : MI := (yX8_season, cX8_season, 7, (some .int))
def iX8_sheet : MI := (yX8_sheet, cX8_sheet, 4, (some .int))
def iX8_lose : MI := (yX8_lose, cX8_lose, 2, (some .int))
def iX8_lay : MI := (yX8_lay, cX8_lay, 6, (some .int))
def iX8_get : MI := (yX8_get, cX8_get, 5, (some .int))
def iX8_copy : MI := (yX8_copy, cX8_copy, 8, (some .int))
def iX8_write : MI := (yX8_write, cX8_write, 6, (some .int))
def iX8_count : MI := (yX8_count, cX8_count, 2, (some .int))
def iX8_digest : MI := (yX8_digest, cX8_digest, 4, (some .long))
def iX8_digestOfRoads : MI := (yX8_digestOfRoads, cX8_digestOfRoads, 7, (some .long))
def iX8_digestOfLands : MI := (yX8_digestOfLands, cX8_digestOfLands, 6, (some .long))
def iX8_digestOfJourneys : MI := (yX8_digestOfJourneys, cX8_digestOfJourneys, 7, (some .long))
def iX8_digestOfKinds : MI := (yX8_digestOfKinds, cX8_digestOfKinds, 7, (some .long))
def iX8_digestOfParishes : MI := (yX8_digestOfParishes, cX8_digestOfParishes, 6, (some .long))
def iX8_found : MI := (yX8_found, cX8_found, 2, (some .int))
def iX8_wrongItem : MI := (yX8_wrongItem, cX8_wrongItem, 4, (some .int))
def iX8_upTo : MI := (yX8_upTo, cX8_upTo, 2, (some .boolean))
def iX8_isLand : MI := (yX8_isLand, cX8_isLand, 1, (some .boolean))
def iX8_areTwoLands : MI := (yX8_areTwoLands, cX8_areTwoLands, 2, (some .boolean))
def iX8_isParish : MI := (yX8_isParish, cX8_isParish, 1, (some .boolean))
def iX8_isKind : MI := (yX8_isKind, cX8_isKind, 1, (some .boolean))
def iX8_isHour : MI := (yX8_isHour, cX8_isHour, 1, (some .boolean))
def iX8_isSheet : MI := (yX8_isSheet, cX8_isSheet, 1, (some .boolean))
def iX8_isForm : MI := (yX8_isForm, cX8_isForm, 1, (some .boolean))
def iX8_isSiege : MI := (yX8_isSiege, cX8_isSiege, 3, (some .boolean))
def iX9_init : MI := (yX9_init, cX9_init, 2, none)
def iX9_in : MI := (yX9_in, cX9_in, 6, (some .boolean))
def iX9_isTwo : MI := (yX9_isTwo, cX9_isTwo, 1, (some .boolean))
def iX9_isIn : MI := (yX9_isIn, cX9_isIn, 2, (some .boolean))
def iX9_lesser : MI := (yX9_lesser, cX9_lesser, 2, (some .int))
def iX9_amount : MI := (yX9_amount, cX9_amount, 1, (some .int))
def iX9_common : MI := (yX9_common, cX9_common, 5, (some .int))
def iX9_finds : MI := (yX9_finds, cX9_finds, 2, (some .int))
def iX9_isSheet : MI := (yX9_isSheet, cX9_isSheet, 1, (some .boolean))
def iX9_sheet : MI := (yX9_sheet, cX9_sheet, 5, (some .int))
def iX9_lose : MI := (yX9_lose, cX9_lose, 2, (some .int))
def iX9_lacks : MI := (yX9_lacks, cX9_lacks, 4, (some .int))
def iX9_cut : MI := (yX9_cut, cX9_cut, 2, (some .int))
def iX9_lay : MI := (yX9_lay, cX9_lay, 6, (some .int))
def iX9_get : MI := (yX9_get, cX9_get, 4, (some .int))
def iX9_copy : MI := (yX9_copy, cX9_copy, 7, (some .int))
def iX9_type : MI := (yX9_type, cX9_type, 2, (some .int))
def iX9_wipe : MI := (yX9_wipe, cX9_wipe, 2, (some .int))
def iX9_undo : MI := (yX9_undo, cX9_undo, 1, (some .int))
def iX9_tellsOf : MI := (yX9_tellsOf, cX9_tellsOf, 3, (some .int))
def iX9_readsRoad : MI := (yX9_readsRoad, cX9_readsRoad, 3, (some .boolean))
def iX9_reads : MI := (yX9_reads, cX9_reads, 3, (some .int))
def iX9_fault : MI := (yX9_fault, cX9_fault, 1, (some .int))
def iX9_road : MI := (yX9_road, cX9_road, 3, (some .int))
def iX9_isLand : MI := (yX9_isLand, cX9_isLand, 1, (some .boolean))
def iX9_isParish : MI := (yX9_isParish, cX9_isParish, 1, (some .boolean))
def iX9_isHour : MI := (yX9_isHour, cX9_isHour, 1, (some .boolean))
def iX9_land : MI := (yX9_land, cX9_land, 5, (some .int))
def iX9_bell : MI := (yX9_bell, cX9_bell, 5, (some .int))
def iX9_read : MI := (yX9_read, cX9_read, 3, (some .int))
def iX9_feast : MI := (yX9_feast, cX9_feast, 2, (some .int))
def iX9_back : MI := (yX9_back, cX9_back, 1, (some .int))
def iX9_lent : MI := (yX9_lent, cX9_lent, 3, (some .int))
def iX9_isWarBy : MI := (yX9_isWarBy, cX9_isWarBy, 3, (some .boolean))
def iX9_isFeast : MI := (yX9_isFeast, cX9_isFeast, 4, (some .boolean))
def iX9_isWar : MI := (yX9_isWar, cX9_isWar, 4, (some .boolean))
def iX9_war : MI := (yX9_war, cX9_war, 3, (some .int))
def iX9_strikesNow : MI := (yX9_strikesNow, cX9_strikesNow, 6, (some .boolean))
def iX9_strikes : MI := (yX9_strikes, cX9_strikes, 6, (some .int))
def iX9_nextOf : MI := (yX9_nextOf, cX9_nextOf, 5, (some .int))
def iX9_next : MI := (yX9_next, cX9_next, 4, (some .int))
def iX9_leftIn : MI := (yX9_leftIn, cX9_leftIn, 5, (some .int))
def iX9_left : MI := (yX9_left, cX9_left, 3, (some .int))
def iX9_bestOf : MI := (yX9_bestOf, cX9_bestOf, 4, (some .int))
def iX9_best : MI := (yX9_best, cX9_best, 2, (some .int))
def iX9_unlikeOf : MI := (yX9_unlikeOf, cX9_unlikeOf, 5, (some .int))
def iX9_unlike : MI := (yX9_unlike, cX9_unlike, 3, (some .int))
def iX9_hoursOf : MI := (yX9_hoursOf, cX9_hoursOf, 6, (some .int))
def iX9_findFar : MI := (yX9_findFar, cX9_findFar, 6, none)
def iX9_nextLand : MI := (yX9_nextLand, cX9_nextLand, 5, (some .int))
def iX9_wayOf : MI := (yX9_wayOf, cX9_wayOf, 4, (some .int))
def iX9_areTwo : MI := (yX9_areTwo, cX9_areTwo, 2, (some .boolean))
def iX9_way : MI := (yX9_way, cX9_way, 4, (some .int))
def iX9_goes : MI := (yX9_goes, cX9_goes, 9, (some .int))
def iX9_isRaid : MI := (yX9_isRaid, cX9_isRaid, 8, (some .boolean))
def iX9_raidOf : MI := (yX9_raidOf, cX9_raidOf, 6, (some .int))
def iX9_raid : MI := (yX9_raid, cX9_raid, 5, (some .int))
def iX9_set : MI := (yX9_set, cX9_set, 4, (some .int))
def iX9_falls : MI := (yX9_falls, cX9_falls, 6, (some .int))
def iX9_siegeOf : MI := (yX9_siegeOf, cX9_siegeOf, 6, (some .int))
def iX9_siege : MI := (yX9_siege, cX9_siege, 5, (some .int))
def iX9_holdsBy : MI := (yX9_holdsBy, cX9_holdsBy, 5, (some .int))
def iX9_holds : MI := (yX9_holds, cX9_holds, 4, (some .int))
def iX9_otherEnd : MI := (yX9_otherEnd, cX9_otherEnd, 3, (some .int))
def iX9_wasAt : MI := (yX9_wasAt, cX9_wasAt, 5, (some .boolean))
def iX9_isLess : MI := (yX9_isLess, cX9_isLess, 3, (some .boolean))
def iX9_comes : MI := (yX9_comes, cX9_comes, 4, none)
def iX9_findHome : MI := (yX9_findHome, cX9_findHome, 8, none)
def iX9_tellsHome : MI := (yX9_tellsHome, cX9_tellsHome, 4, (some .int))
def iX9_home : MI := (yX9_home, cX9_home, 5, (some .int))
def iX9_pairOf : MI := (yX9_pairOf, cX9_pairOf, 2, (some .int))
def iX9_agreeOf : MI := (yX9_agreeOf, cX9_agreeOf, 7, (some .int))
def iX9_agree : MI := (yX9_agree, cX9_agree, 2, (some .int))
def iX9_changesBy : MI := (yX9_changesBy, cX9_changesBy, 5, (some .int))
def iX9_middleBell : MI := (yX9_middleBell, cX9_middleBell, 4, (some .int))
def iX9_middleOf : MI := (yX9_middleOf, cX9_middleOf, 4, (some .int))
def iX9_middle : MI := (yX9_middle, cX9_middle, 2, (some .int))
def iX9_seen : MI := (yX9_seen, cX9_seen, 4, (some .int))
def iX9_forget : MI := (yX9_forget, cX9_forget, 2, (some .int))
def iX9_whichNow : MI := (yX9_whichNow, cX9_whichNow, 5, (some .int))
def iX9_which : MI := (yX9_which, cX9_which, 1, (some .int))
def iX9_seasonOf : MI := (yX9_seasonOf, cX9_seasonOf, 7, (some .int))
def iX9_season : MI := (yX9_season, cX9_season, 3, (some .int))
def iX9_write : MI := (yX9_write, cX9_write, 6, (some .int))
def iX9_count : MI := (yX9_count, cX9_count, 4, (some .int))
def iX9_tellsLand : MI := (yX9_tellsLand, cX9_tellsLand, 6, (some .long))
def iX9_tellsWays : MI := (yX9_tellsWays, cX9_tellsWays, 7, (some .long))
def iX9_digest : MI := (yX9_digest, cX9_digest, 5, (some .long))
def iJ9_abs_0f7a4 : MI := (yJ9_abs_0f7a4, cJ9_abs_0f7a4, 1, (some .int))
def iJ9_min_7cf53 : MI := (yJ9_min_7cf53, cJ9_min_7cf53, 2, (some .int))
def iJ7_fill_53178 : MI := (yJ7_fill_53178, cJ7_fill_53178, 4, none)
end
section
/-! THE PICTURE OF THE MACHINE: whole numbers for ints and longs, places 0, 1, 2 .. for the cells that the run has made (place k lies at address base + k), a world: what each place holds -/
abbrev AV : Type := Int ⊕ (Int ⊕ Option Nat)
abbrev vI (z : Int) : AV := Sum.inl z
abbrev vL (z : Int) : AV := Sum.inr (Sum.inl z)
abbrev vR (k : Nat) : AV := Sum.inr (Sum.inr (some k))
abbrev vN : AV := Sum.inr (Sum.inr none)
abbrev AC : Type := (Nat × Nat × (Int → Int)) ⊕ ((Nat × (Int → Option Nat)) ⊕ (Nat × List AV))
abbrev cI (n : Nat) (f : Int → Int) : AC := Sum.inl (0, n, f)
abbrev cZ (n : Nat) (f : Int → Int) : AC := Sum.inl (1, n, f)
abbrev cR (n : Nat) (f : Int → Option Nat) : AC := Sum.inr (Sum.inl (n, f))
abbrev cO (ci : Nat) (fs : List AV) : AC := Sum.inr (Sum.inr (ci, fs))
abbrev AW : Type := Nat → AC
def upw (w : AW) (k : Nat) (c : AC) : AW := fun j => if j = k then c else w j
def upf (f : Int → Int) (i v : Int) : Int → Int := fun j => if j = i then v else f j
def upr (f : Int → Option Nat) (i : Int) (v : Option Nat) : Int → Option Nat := fun j => if j = i then v else f j
theorem upw_s {w : AW} {k : Nat} {c : AC} : upw w k c k = c := by simp [upw]
theorem upw_o {w : AW} {k j : Nat} {c c2 : AC} (h : j ≠ k) (e : w j = c2) : upw w k c j = c2 := by simp [upw, h, e]
abbrev Cx : Type := Nat × va_G × (ClassId × ClassId × ClassId)
def iZ (z : Int) : Int32 := Int32.ofInt z
def lZ (z : Int) : Int64 := Int64.ofInt z
abbrev R32 (z : Int) : Prop := -2147483648 ≤ z ∧ z ≤ 2147483647
abbrev R64 (z : Int) : Prop := -9223372036854775808 ≤ z ∧ z ≤ 9223372036854775807
theorem iZ_toInt {z : Int} (h : R32 z) : (iZ z).toInt = z := Int32.toInt_ofInt_of_le (by omega) (by omega)
theorem iZ_of (v : Int32) : iZ v.toInt = v := Int32.ofInt_toInt v
theorem iZ_R (v : Int32) : R32 v.toInt := ⟨by have := v.le_toInt; omega, by have := v.toInt_lt; omega⟩
theorem iZ_add (a b : Int) : iZ a + iZ b = iZ (a + b) := (Int32.ofInt_add a b).symm
theorem iZ_sub (a b : Int) : iZ a - iZ b = iZ (a - b) := (Int32.ofInt_sub a b).symm
theorem iZ_mul (a b : Int) : iZ a * iZ b = iZ (a * b) := (Int32.ofInt_mul a b).symm
theorem iZ_neg (a : Int) : -iZ a = iZ (-a) := (Int32.ofInt_neg a).symm
theorem iZ_lt {a b : Int} (ha : R32 a) (hb : R32 b) : iZ a < iZ b ↔ a < b := by rw [Int32.lt_iff_toInt_lt, iZ_toInt ha, iZ_toInt hb]
theorem iZ_le {a b : Int} (ha : R32 a) (hb : R32 b) : iZ a ≤ iZ b ↔ a ≤ b := by rw [Int32.le_iff_toInt_le, iZ_toInt ha, iZ_toInt hb]
theorem iZ_eq {a b : Int} (ha : R32 a) (hb : R32 b) : iZ a = iZ b ↔ a = b := by rw [← Int32.toInt_inj, iZ_toInt ha, iZ_toInt hb]
theorem iZ_0 : iZ 0 = 0 := by decide
theorem iZ_1 : iZ 1 = 1 := by decide
theorem iZ_clamp {z : Int} (h : R32 z) : (iZ z).toNatClampNeg = z.toNat := by
  show (iZ z).toInt.toNat = _
  rw [iZ_toInt h]
theorem iZ_in {i : Int} {n : Nat} (hi : 0 ≤ i ∧ i < (n : Int)) (hn : Nat.ble n 4096 = true) : vp_in (iZ i) n := by
  have hn := Nat.le_of_ble_eq_true hn
  rw [vp_in_iff, iZ_toInt (by omega)]
  exact hi
theorem lZ_toInt {z : Int} (h : R64 z) : (lZ z).toInt = z := Int64.toInt_ofInt_of_le (by omega) (by omega)
theorem lZ_add (a b : Int) : lZ a + lZ b = lZ (a + b) := (Int64.ofInt_add a b).symm
theorem lZ_mul (a b : Int) : lZ a * lZ b = lZ (a * b) := (Int64.ofInt_mul a b).symm
theorem lZ_i {z : Int} (h : R32 z) : (iZ z).toInt64 = lZ z := by
  rw [← Int64.toInt_inj, Int32.toInt_toInt64, iZ_toInt h, lZ_toInt (by omega)]
theorem lZ_lt {a b : Int} (ha : R64 a) (hb : R64 b) : lZ a < lZ b ↔ a < b := by rw [Int64.lt_iff_toInt_lt, lZ_toInt ha, lZ_toInt hb]
theorem lZ_eq {a b : Int} (ha : R64 a) (hb : R64 b) : lZ a = lZ b ↔ a = b := by rw [← Int64.toInt_inj, lZ_toInt ha, lZ_toInt hb]
theorem iZ_div {a b : Int} (ha : 0 ≤ a ∧ a ≤ 2147483647) (hb : 0 < b ∧ b ≤ 2147483647) : iZ a / iZ b = iZ (a / b) := by
  have hR : R32 (a / b) := ⟨by have := Int.ediv_nonneg ha.1 (Int.le_of_lt hb.1); omega, by have := Int.ediv_le_self b ha.1; omega⟩
  rw [← Int32.toInt_inj, iZ_toInt hR, Int32.toInt_div_of_ne_right _ _ (fun h => by
    have := congrArg Int32.toInt h
    rw [iZ_toInt (by omega)] at this
    have e : (-1 : Int32).toInt = -1 := by decide
    omega), iZ_toInt (by omega), iZ_toInt (by omega), Int.tdiv_eq_ediv_of_nonneg ha.1]
theorem iZ_rem {a b : Int} (ha : 0 ≤ a ∧ a ≤ 2147483647) (hb : 0 < b ∧ b ≤ 2147483647) : iZ a - iZ a / iZ b * iZ b = iZ (a % b) := by
  rw [iZ_div ha hb, iZ_mul, iZ_sub, Int.emod_def, Int.mul_comm]
theorem iZ_b {z : Int} (h : -128 ≤ z ∧ z ≤ 127) : (Int8.ofInt z).toInt32 = iZ z := by
  rw [← Int32.toInt_inj, Int8.toInt_toInt32, iZ_toInt (by omega), Int8.toInt_ofInt_of_le (by omega) (by omega)]
theorem iZ_s {z : Int} (h : -32768 ≤ z ∧ z ≤ 32767) : (Int16.ofInt z).toInt32 = iZ z := by
  rw [← Int32.toInt_inj, Int16.toInt_toInt32, iZ_toInt (by omega), Int16.toInt_ofInt_of_le (by omega) (by omega)]
/-! bits, as the machine has them: whole numbers out of its answers -/
def bAnd (a b : Int) : Int := (iZ a &&& iZ b).toInt
def bOr (a b : Int) : Int := (iZ a ||| iZ b).toInt
def bXor (a b : Int) : Int := (iZ a ^^^ iZ b).toInt
def bShl (a b : Int) : Int := (iZ a <<< (iZ b &&& 31)).toInt
def bShr (a b : Int) : Int := (iZ a >>> (iZ b &&& 31)).toInt
def bUshr (a b : Int) : Int := ((iZ a).toUInt32 >>> ((iZ b).toUInt32 &&& Int32.toUInt32 31)).toInt32.toInt
def bB (a : Int) : Int := (iZ a).toInt8.toInt32.toInt
def bS (a : Int) : Int := (iZ a).toInt16.toInt32.toInt
def bW (a : Int) : Int := (iZ a).toInt
def cmpL (a b : Int) : Int := if b < a then 1 else if a = b then 0 else -1
def b2i (P : Prop) [Decidable P] : Int := if P then 1 else 0
theorem b2i_t {P : Prop} [Decidable P] (h : P) : b2i P = 1 := if_pos h
theorem b2i_f {P : Prop} [Decidable P] (h : ¬ P) : b2i P = 0 := if_neg h
theorem b2i_R (P : Prop) [Decidable P] : b2i P = 0 ∨ b2i P = 1 := by unfold b2i; split <;> simp
/-! from the picture to the machine -/
def cv (b : Nat) (v : AV) : Value := match v with
  | .inl z => .int (iZ z)
  | .inr (.inl z) => .long (lZ z)
  | .inr (.inr o) => va_rf (o.map (fun k => b + k))
def cE (x : Cx) (c : AC) : va_E := match c with
  | .inl (t, n, f) => .inl (if t = 0 then x.2.2.1 else x.2.2.2.1, n, .inl (fun j => iZ (f (j : Int))))
  | .inr (.inl (n, f)) => .inl (x.2.2.2.2, n, .inr (.inr (.inr (.inr (fun j => (f (j : Int)).map (fun k => x.1 + k))))))
  | .inr (.inr (ci, fs)) => .inr (ci, fs.map (cv x.1))
def cw (x : Cx) (n : Nat) (w : AW) : va_W := (List.range n).map (fun k => (x.1 + k, cE x (w k)))
abbrev tysX (x : Cx) : List (ClassId × FieldType) := [(x.2.2.1, .int), (x.2.2.2.1, .boolean), (x.2.2.2.2, .object "BishopsPeace$Sheet")]
abbrev AX (x : Cx) : Nat → Prop := fun q => x.1 ≤ q
theorem cw_at {x : Cx} {n k : Nat} {w : AW} (h : k < n) : (cw x n w)[k]? = some (x.1 + k, cE x (w k)) := by simp [cw, h]
theorem cw_is {x : Cx} {n k : Nat} {w : AW} {q : Nat × va_E} (h : (cw x n w)[k]? = some q) : k < n ∧ q = (x.1 + k, cE x (w k)) := by
  have hl : k < n := by
    have := (List.getElem?_eq_some_iff.mp h).1
    simpa [cw] using this
  rw [cw_at hl] at h
  exact ⟨hl, (Option.some.inj h).symm⟩
theorem cw_len {x : Cx} {n : Nat} {w : AW} : (cw x n w).length = n := by simp [cw]
theorem cw_set {x : Cx} {n k : Nat} {w : AW} {c : AC} (h : k < n) : (cw x n w).set k (x.1 + k, cE x c) = cw x n (upw w k c) := by
  apply List.ext_getElem?
  intro j
  by_cases hj : j < n
  · by_cases hk : j = k
    · subst hk
      rw [List.getElem?_set_self (by rw [cw_len]; exact hj), cw_at hj, upw_s]
    · rw [List.getElem?_set_ne (Ne.symm hk), cw_at hj, cw_at hj, upw_o hk rfl]
  · rw [List.getElem?_eq_none (by rw [List.length_set, cw_len]; omega), List.getElem?_eq_none (by rw [cw_len]; omega)]
theorem cw_push {x : Cx} {n : Nat} {w : AW} {c : AC} : cw x n w ++ [(x.1 + n, cE x c)] = cw x (n + 1) (upw w n c) := by
  unfold cw
  rw [List.range_succ, List.map_append]
  congr 1
  · apply List.map_congr_left
    intro k hk
    rw [upw_o (Nat.ne_of_lt (List.mem_range.mp hk)) rfl]
  · simp [upw_s]
theorem cw_D (x : Cx) (n : Nat) (w : AW) : va_D (AX x) (cw x n w) := by
  refine ⟨fun i j p q hp hq he => ?_, fun k q hq => ?_⟩
  · obtain ⟨-, rfl⟩ := cw_is hp
    obtain ⟨-, rfl⟩ := cw_is hq
    have : x.1 + i = x.1 + j := he
    omega
  · obtain ⟨-, rfl⟩ := cw_is hq
    exact Nat.le_add_right _ _
theorem upf_c (f : Int → Int) {i v : Int} (hi : R32 i ∧ 0 ≤ i) : upd (fun j => iZ (f (j : Int))) (iZ i).toNatClampNeg (iZ v) = fun j : Nat => iZ (upf f i v (j : Int)) := by
  funext j
  rw [iZ_clamp hi.1]
  unfold upd upf
  by_cases h : j = i.toNat
  · rw [if_pos h, if_pos (by omega)]
  · rw [if_neg h, if_neg (by omega)]
theorem upr_c (f : Int → Option Nat) {b k : Nat} {i : Int} (hi : R32 i ∧ 0 ≤ i) : va_up (fun j => (f (j : Int)).map (fun k => b + k)) (iZ i).toNatClampNeg (some (b + k)) = fun j : Nat => (upr f i (some k) (j : Int)).map (fun k => b + k) := by
  funext j
  rw [iZ_clamp hi.1]
  unfold va_up upr
  by_cases h : j = i.toNat
  · rw [if_pos h, if_pos (by omega)]; rfl
  · rw [if_neg h, if_neg (by omega)]
/-! locals: the list of what each slot holds, where it is known -/
def lvL (b : Nat) : Nat → List (Option AV) → List (Nat × Value)
  | _, [] => []
  | k, none :: t => lvL b (k + 1) t
  | k, some v :: t => (k, cv b v) :: lvL b (k + 1) t
def lk : List (Option AV) → Nat → Option AV
  | [], _ => none
  | a :: _, 0 => a
  | _ :: t, i + 1 => lk t i
def sv : List (Option AV) → Nat → Option AV → List (Option AV)
  | [], _, _ => []
  | _ :: t, 0, v => v :: t
  | a :: t, i + 1, v => a :: sv t i v
theorem lvL_mem {b : Nat} : ∀ (L : List (Option AV)) (k : Nat) (q : Nat × Value), q ∈ lvL b k L ↔ ∃ i v, lk L i = some v ∧ q = (k + i, cv b v)
  | [], k, q => by
    simp only [lvL, List.not_mem_nil, false_iff]
    rintro ⟨i, v, h, -⟩
    simp [lk] at h
  | none :: t, k, q => by
    rw [lvL, lvL_mem t (k + 1) q]
    constructor
    · rintro ⟨i, v, h, rfl⟩
      exact ⟨i + 1, v, h, by rw [Nat.add_assoc, Nat.add_comm 1 i]⟩
    · rintro ⟨i, v, h, rfl⟩
      cases i with
      | zero => simp [lk] at h
      | succ i => exact ⟨i, v, h, by rw [Nat.add_assoc, Nat.add_comm 1 i]⟩
  | some a :: t, k, q => by
    rw [lvL, List.mem_cons, lvL_mem t (k + 1) q]
    constructor
    · rintro (rfl | ⟨i, v, h, rfl⟩)
      · exact ⟨0, a, rfl, rfl⟩
      · exact ⟨i + 1, v, h, by rw [Nat.add_assoc, Nat.add_comm 1 i]⟩
    · rintro ⟨i, v, h, rfl⟩
      cases i with
      | zero =>
        simp [lk] at h
        subst h
        exact Or.inl rfl
      | succ i => exact Or.inr ⟨i, v, h, by rw [Nat.add_assoc, Nat.add_comm 1 i]⟩
abbrev LH (b : Nat) (ls : Array Slot) (nL : Nat) (L : List (Option AV)) : Prop := lv_has ls nL (lvL b 0 L)
theorem LH.at {b : Nat} {ls : Array Slot} {nL : Nat} {L : List (Option AV)} (h : LH b ls nL L) {i : Nat} {v : AV} (hi : lk L i = some v) : ls[i]? = some (.val (cv b v)) :=
  h.2.2 (i, cv b v) ((lvL_mem L 0 _).mpr ⟨i, v, hi, by rw [Nat.zero_add]⟩)
theorem sv_lk : ∀ (L : List (Option AV)) (i j : Nat) (v : Option AV) (u : AV), lk (sv L i v) j = some u → (j = i ∧ v = some u) ∨ (j ≠ i ∧ lk L j = some u)
  | [], i, j, v, u, h => by simp [sv, lk] at h
  | a :: t, 0, 0, v, u, h => Or.inl ⟨rfl, h⟩
  | a :: t, 0, j + 1, v, u, h => Or.inr ⟨by omega, h⟩
  | a :: t, i + 1, 0, v, u, h => Or.inr ⟨by omega, h⟩
  | a :: t, i + 1, j + 1, v, u, h => by
    rcases sv_lk t i j v u h with ⟨h1, h2⟩ | ⟨h1, h2⟩
    · exact Or.inl ⟨by omega, h2⟩
    · exact Or.inr ⟨by omega, h2⟩
/-- no long stands just below slot i -/
def okS (L : List (Option AV)) (i : Nat) : Bool := match i with
  | 0 => true
  | j + 1 => match lk L j with
    | some (.inr (.inl _)) => false
    | _ => true
theorem cv_cat (b : Nat) (v : AV) : (cv b v).category = 2 → ∃ z, v = .inr (.inl z) := by
  intro h
  rcases v with z | z | o
  · simp [cv, Value.category] at h
  · exact ⟨z, rfl⟩
  · cases o <;> simp [cv, va_rf, Value.category] at h
theorem LH.weak {b : Nat} {ls : Array Slot} {nL : Nat} {L L' : List (Option AV)} (h : LH b ls nL L) (hw : ∀ i v, lk L' i = some v → lk L i = some v) : LH b ls nL L' := by
  refine ⟨h.1, h.2.1, fun q hq => ?_⟩
  obtain ⟨i, v, h1, rfl⟩ := (lvL_mem L' 0 q).mp hq
  rw [Nat.zero_add]
  exact h.at (hw i v h1)
theorem LH.st1 {b : Nat} {ls' : Array Slot} {nL i : Nat} {L : List (Option AV)} {v : AV} (hok : okS L i = true)
    (h : lv_has ls' nL ((i, cv b v) :: (lvL b 0 L).filter (fun q => !(q.1 == i) && !(q.1 + 1 == i && q.2.category == 2)))) : LH b ls' nL (sv L i (some v)) := by
  refine ⟨h.1, h.2.1, fun q hq => h.2.2 q ?_⟩
  obtain ⟨j, u, h1, rfl⟩ := (lvL_mem _ 0 q).mp hq
  rcases sv_lk L i j _ u h1 with ⟨rfl, h2⟩ | ⟨h2, h3⟩
  · cases h2
    rw [Nat.zero_add]
    exact List.mem_cons_self
  · refine List.mem_cons_of_mem _ (List.mem_filter.mpr ⟨(lvL_mem L 0 _).mpr ⟨j, u, h3, rfl⟩, ?_⟩)
    simp only [Nat.zero_add, Bool.and_eq_true, Bool.not_eq_true', beq_eq_false_iff_ne, Bool.and_eq_false_iff]
    refine ⟨h2, ?_⟩
    by_cases hc : (cv b u).category = 2
    · left
      intro he
      obtain ⟨z, rfl⟩ := cv_cat b u hc
      subst he
      simp [okS, h3] at hok
    · exact Or.inr hc
theorem LH.st2 {b : Nat} {ls' : Array Slot} {nL i : Nat} {L : List (Option AV)} {v : AV} (hok : okS L i = true)
    (h : lv_has ls' nL ((i, cv b v) :: (lvL b 0 L).filter (fun q => !(q.1 == i) && (!(q.1 == i + 1) && !(q.1 + 1 == i && q.2.category == 2))))) : LH b ls' nL (sv (sv L i (some v)) (i + 1) none) := by
  refine ⟨h.1, h.2.1, fun q hq => h.2.2 q ?_⟩
  obtain ⟨j, u, h1, rfl⟩ := (lvL_mem _ 0 q).mp hq
  rcases sv_lk _ (i + 1) j _ u h1 with ⟨rfl, h2⟩ | ⟨h5, h1⟩
  · cases h2
  rcases sv_lk L i j _ u h1 with ⟨rfl, h2⟩ | ⟨h2, h3⟩
  · cases h2
    rw [Nat.zero_add]
    exact List.mem_cons_self
  · refine List.mem_cons_of_mem _ (List.mem_filter.mpr ⟨(lvL_mem L 0 _).mpr ⟨j, u, h3, rfl⟩, ?_⟩)
    simp only [Nat.zero_add, Bool.and_eq_true, Bool.not_eq_true', beq_eq_false_iff_ne, Bool.and_eq_false_iff]
    refine ⟨h2, h5, ?_⟩
    by_cases hc : (cv b u).category = 2
    · left
      intro he
      obtain ⟨z, rfl⟩ := cv_cat b u hc
      subst he
      simp [okS, h3] at hok
    · exact Or.inr hc
/-- a method's first locals -/
def entA : List AV → List (Option AV)
  | [] => []
  | (.inr (.inl z)) :: t => some (vL z) :: none :: entA t
  | v :: t => some v :: entA t
def entL (As : List AV) (nL : Nat) : List (Option AV) := entA As ++ List.replicate (nL - (entA As).length) none
end
section
/-! THE JUDGEMENT Gj: the machine, in method y at pc, with locals L, stack S, world w of n places, comes back to its caller with an answer and a world of which Q holds; and its rows, one an instruction -/
def lw_g : List Cond := lw_tbl.filter goodWord
theorem mg {t : Cond} (i : Nat) (h : lw_tbl[i]? = some t) (hg : goodWord t = true) : t ∈ lw_g := List.mem_filter.mpr ⟨List.mem_of_getElem? h, hg⟩
theorem mgs {l : List Cond} (h : ∀ t ∈ l, t ∈ lw_tbl) (hg : l.all goodWord = true) : ∀ t ∈ l, t ∈ lw_g := fun t ht => List.mem_filter.mpr ⟨h t ht, List.all_eq_true.mp hg t ht⟩
abbrev rmX (d mc ms : Nat) : Room := { frames := d, cells := mc, slots := ms, locals := 40 * d }
def FX (y : MI) (p : Program) (s : State) (m : MethodId) (args : Array Value) (meth : Method) (c : Code) : Prop :=
  p.tables.exec = Jvm.exec ∧ c.code = y.2.1 ∧ meth.sig.returnType = y.2.2.2 ∧ c.maxLocals = y.2.2.1 ∧ s.vm.findClass y.1.cls = some m.cls ∧ (∀ t ∈ lw_g, t.before args s = true) ∧ meth.locks = false ∧ meth.name = y.1.name
def HX (x : Cx) (n : Nat) (w : AW) (s : State) (H : Heap) (locs : List Loc) (cells : Nat) : Prop :=
  va_K x.2.1 vwCl (tysX x) s ∧ va_P x.2.1 vwCl (cw x n w) H ∧ s.heap.size + cells = x.1 + n ∧ va_S (AX x) s.heap H locs ∧ (x.1 ≤ s.heap.size ∧ va_AO "BishopsPeace$Sheet" s)
abbrev QT : Type := Option AV → AW → Prop
def QcA (x : Cx) (n : Nat) (Q : QT) : Array Value → State → Outcome → State → Prop := fun _ st oc t =>
  (∃ (v : Option AV) (w : AW), oc = .returned (v.map (cv x.1)) ∧ Q v w ∧ va_K x.2.1 vwCl (tysX x) t ∧ va_P x.2.1 vwCl (cw x n w) t.heap) ∧ va_F (AX x) st t
def Gj (l : Launch) (x : Cx) (y : MI) (d mc ms nf : Nat) (Q : QT) (kc ks n : Nat) (w : AW) (pc : Nat) (L : List (Option AV)) (S : List AV) : Prop :=
  ∀ (p : Program) (e : Env) (s : State) (m : MethodId) (args : Array Value) (below : List Frame) (meth : Method) (c : Code) (H : Heap) (locs : List Loc) (cells slots : Nat) (ls : Array Slot),
    FX y p s m args meth c → HX x n w s H locs cells → cells + kc = mc ∧ n + kc = nf → slots + ks ≤ ms → LH x.1 ls y.2.2.1 L →
    W p l e (rmX d mc ms) s m args below meth c H locs cells slots (MQ below (QcA x nf Q) args s mc ms (AX x)) (F0 m pc ls (S.map (cv x.1)))
def AtI (y : MI) (pc : Nat) (i : Instr) (k nx : Nat) : Prop := decode y.2.1 pc = .ok (i, k) ∧ pc + k = nx
def AtJ (y : MI) (pc : Nat) (i : Instr) (off : Int) (nx tg : Nat) : Prop := decode y.2.1 pc = .ok (i, 3) ∧ pc + 3 = nx ∧ (pc : Int) + off = (tg : Int)
section GJ
variable {l : Launch} {x : Cx} {y : MI} {d mc ms nf : Nat} {Q : QT} {kc ks n : Nat} {w : AW} {pc nx tg : Nat} {L : List (Option AV)} {S : List AV}
theorem gj_iconst {z : Int} (dg : AtI y pc (.iconst z) 1 nx)  (k : Gj l x y d mc ms nf Q kc ks n w nx L (vI z :: S)) : Gj l x y d mc ms nf Q kc ks n w pc L S := by
  intro p e s m args below meth c H locs cells slots ls F X h1 h2 hl
  have kk := k p e s m args below meth c H locs cells slots ls F X h1 h2 hl
  rw [← dg.2] at kk
  exact lv_iconst F.1 F.2.1 dg.1 rfl kk
theorem gj_bipush {z : Int} (dg : AtI y pc (.bipush z) 2 nx) (hz : decide (-128 ≤ z ∧ z ≤ 127) = true := by rfl) (k : Gj l x y d mc ms nf Q kc ks n w nx L (vI z :: S)) : Gj l x y d mc ms nf Q kc ks n w pc L S := by
  intro p e s m args below meth c H locs cells slots ls F X h1 h2 hl
  have kk := k p e s m args below meth c H locs cells slots ls F X h1 h2 hl
  rw [← dg.2] at kk
  exact lv_bipush F.1 F.2.1 dg.1 (iZ_b (of_decide_eq_true hz)) kk
theorem gj_sipush {z : Int} (dg : AtI y pc (.sipush z) 3 nx) (hz : decide (-32768 ≤ z ∧ z ≤ 32767) = true := by rfl) (k : Gj l x y d mc ms nf Q kc ks n w nx L (vI z :: S)) : Gj l x y d mc ms nf Q kc ks n w pc L S := by
  intro p e s m args below meth c H locs cells slots ls F X h1 h2 hl
  have kk := k p e s m args below meth c H locs cells slots ls F X h1 h2 hl
  rw [← dg.2] at kk
  exact lv_sipush F.1 F.2.1 dg.1 (iZ_s (of_decide_eq_true hz)) kk
theorem gj_lconst0  (dg : AtI y pc (.lconst 0) 1 nx)  (k : Gj l x y d mc ms nf Q kc ks n w nx L (vL 0 :: S)) : Gj l x y d mc ms nf Q kc ks n w pc L S := by
  intro p e s m args below meth c H locs cells slots ls F X h1 h2 hl
  have kk := k p e s m args below meth c H locs cells slots ls F X h1 h2 hl
  rw [← dg.2] at kk
  exact lv_lconst F.1 F.2.1 dg.1 (show Int64.ofNat _ = lZ 0 by decide) kk
theorem gj_lconst1  (dg : AtI y pc (.lconst 1) 1 nx)  (k : Gj l x y d mc ms nf Q kc ks n w nx L (vL 1 :: S)) : Gj l x y d mc ms nf Q kc ks n w pc L S := by
  intro p e s m args below meth c H locs cells slots ls F X h1 h2 hl
  have kk := k p e s m args below meth c H locs cells slots ls F X h1 h2 hl
  rw [← dg.2] at kk
  exact lv_lconst F.1 F.2.1 dg.1 (show Int64.ofNat _ = lZ 1 by decide) kk
theorem gj_ldc {z : Int} {j : Nat} (dg : AtI y pc (.ldc j) 2 nx) (hc : Cond.constant y.1.cls j (iZ z) ∈ lw_g) (k : Gj l x y d mc ms nf Q kc ks n w nx L (vI z :: S)) : Gj l x y d mc ms nf Q kc ks n w pc L S := by
  intro p e s m args below meth c H locs cells slots ls F X h1 h2 hl
  have kk := k p e s m args below meth c H locs cells slots ls F X h1 h2 hl
  rw [← dg.2] at kk
  exact lv_ldc F.1 F.2.1 F.2.2.2.2.1 (F.2.2.2.2.2.1 _ hc) dg.1 kk
theorem gj_ldcw {z : Int} {j : Nat} (dg : AtI y pc (.ldc_w j) 3 nx) (hc : Cond.constant y.1.cls j (iZ z) ∈ lw_g) (k : Gj l x y d mc ms nf Q kc ks n w nx L (vI z :: S)) : Gj l x y d mc ms nf Q kc ks n w pc L S := by
  intro p e s m args below meth c H locs cells slots ls F X h1 h2 hl
  have kk := k p e s m args below meth c H locs cells slots ls F X h1 h2 hl
  rw [← dg.2] at kk
  exact lv_ldcw F.1 F.2.1 F.2.2.2.2.1 (F.2.2.2.2.2.1 _ hc) dg.1 kk
theorem gj_ldc2 {z : Int} {j : Nat} (dg : AtI y pc (.ldc2_w j) 3 nx) (hc : Cond.constantLong y.1.cls j (lZ z) ∈ lw_g) (k : Gj l x y d mc ms nf Q kc ks n w nx L (vL z :: S)) : Gj l x y d mc ms nf Q kc ks n w pc L S := by
  intro p e s m args below meth c H locs cells slots ls F X h1 h2 hl
  have kk := k p e s m args below meth c H locs cells slots ls F X h1 h2 hl
  rw [← dg.2] at kk
  exact lv_ldc2 F.1 F.2.1 F.2.2.2.2.1 (F.2.2.2.2.2.1 _ hc) dg.1 kk
theorem gj_iload {i : Nat} {z : Int} (dg : AtI y pc (.iload i) 2 nx) (hL : lk L i = some (vI z)) (k : Gj l x y d mc ms nf Q kc ks n w nx L (vI z :: S)) : Gj l x y d mc ms nf Q kc ks n w pc L S := by
  intro p e s m args below meth c H locs cells slots ls F X h1 h2 hl
  have kk := k p e s m args below meth c H locs cells slots ls F X h1 h2 hl
  rw [← dg.2] at kk
  exact lv_iload F.1 F.2.1 dg.1 (hl.at hL) kk
theorem gj_iload_n {i : Fin 4} {z : Int} (dg : AtI y pc (.iload_n i) 1 nx) (hL : lk L (i : Nat) = some (vI z)) (k : Gj l x y d mc ms nf Q kc ks n w nx L (vI z :: S)) : Gj l x y d mc ms nf Q kc ks n w pc L S := by
  intro p e s m args below meth c H locs cells slots ls F X h1 h2 hl
  have kk := k p e s m args below meth c H locs cells slots ls F X h1 h2 hl
  rw [← dg.2] at kk
  exact lv_iload_n F.1 F.2.1 dg.1 rfl (hl.at hL) kk
theorem gj_lload {i : Nat} {z : Int} (dg : AtI y pc (.lload i) 2 nx) (hL : lk L i = some (vL z)) (k : Gj l x y d mc ms nf Q kc ks n w nx L (vL z :: S)) : Gj l x y d mc ms nf Q kc ks n w pc L S := by
  intro p e s m args below meth c H locs cells slots ls F X h1 h2 hl
  have kk := k p e s m args below meth c H locs cells slots ls F X h1 h2 hl
  rw [← dg.2] at kk
  exact lv_lload F.1 F.2.1 dg.1 (hl.at hL) kk
theorem gj_lload_n {i : Fin 4} {z : Int} (dg : AtI y pc (.lload_n i) 1 nx) (hL : lk L (i : Nat) = some (vL z)) (k : Gj l x y d mc ms nf Q kc ks n w nx L (vL z :: S)) : Gj l x y d mc ms nf Q kc ks n w pc L S := by
  intro p e s m args below meth c H locs cells slots ls F X h1 h2 hl
  have kk := k p e s m args below meth c H locs cells slots ls F X h1 h2 hl
  rw [← dg.2] at kk
  exact lv_lload_n F.1 F.2.1 dg.1 rfl (hl.at hL) kk
theorem gj_aload {i : Nat} {z : Nat} (dg : AtI y pc (.aload i) 2 nx) (hL : lk L i = some (vR z)) (k : Gj l x y d mc ms nf Q kc ks n w nx L (vR z :: S)) : Gj l x y d mc ms nf Q kc ks n w pc L S := by
  intro p e s m args below meth c H locs cells slots ls F X h1 h2 hl
  have kk := k p e s m args below meth c H locs cells slots ls F X h1 h2 hl
  rw [← dg.2] at kk
  exact lv_aload F.1 F.2.1 dg.1 (hl.at hL) kk
theorem gj_aload_n {i : Fin 4} {z : Nat} (dg : AtI y pc (.aload_n i) 1 nx) (hL : lk L (i : Nat) = some (vR z)) (k : Gj l x y d mc ms nf Q kc ks n w nx L (vR z :: S)) : Gj l x y d mc ms nf Q kc ks n w pc L S := by
  intro p e s m args below meth c H locs cells slots ls F X h1 h2 hl
  have kk := k p e s m args below meth c H locs cells slots ls F X h1 h2 hl
  rw [← dg.2] at kk
  exact lv_aload_n F.1 F.2.1 dg.1 rfl (hl.at hL) kk
theorem gj_istore {i : Nat} {z : Int} (dg : AtI y pc (.istore i) 2 nx) (hn : Nat.blt i y.2.2.1 = true) (hok : okS L i = true) (k : Gj l x y d mc ms nf Q kc ks n w nx (sv L i (some (vI z))) S) : Gj l x y d mc ms nf Q kc ks n w pc L (vI z :: S) := by
  intro p e s m args below meth c H locs cells slots ls F X h1 h2 hl
  refine lv_istore F.1 F.2.1 dg.1 hl (Nat.le_of_ble_eq_true hn) rfl (fun ls' hl' => ?_)
  have kk := k p e s m args below meth c H locs cells slots ls' F X h1 h2 (LH.st1 hok hl')
  rw [← dg.2] at kk
  exact kk
theorem gj_istore_n {i : Fin 4} {z : Int} (dg : AtI y pc (.istore_n i) 1 nx) (hn : Nat.blt (i : Nat) y.2.2.1 = true) (hok : okS L (i : Nat) = true) (k : Gj l x y d mc ms nf Q kc ks n w nx (sv L (i : Nat) (some (vI z))) S) : Gj l x y d mc ms nf Q kc ks n w pc L (vI z :: S) := by
  intro p e s m args below meth c H locs cells slots ls F X h1 h2 hl
  refine lv_istore_n F.1 F.2.1 dg.1 rfl hl (Nat.le_of_ble_eq_true hn) rfl (fun ls' hl' => ?_)
  have kk := k p e s m args below meth c H locs cells slots ls' F X h1 h2 (LH.st1 hok hl')
  rw [← dg.2] at kk
  exact kk
theorem gj_astore {i : Nat} {z : Nat} (dg : AtI y pc (.astore i) 2 nx) (hn : Nat.blt i y.2.2.1 = true) (hok : okS L i = true) (k : Gj l x y d mc ms nf Q kc ks n w nx (sv L i (some (vR z))) S) : Gj l x y d mc ms nf Q kc ks n w pc L (vR z :: S) := by
  intro p e s m args below meth c H locs cells slots ls F X h1 h2 hl
  refine lv_astore F.1 F.2.1 dg.1 hl (Nat.le_of_ble_eq_true hn) rfl (fun ls' hl' => ?_)
  have kk := k p e s m args below meth c H locs cells slots ls' F X h1 h2 (LH.st1 hok hl')
  rw [← dg.2] at kk
  exact kk
theorem gj_astore_n {i : Fin 4} {z : Nat} (dg : AtI y pc (.astore_n i) 1 nx) (hn : Nat.blt (i : Nat) y.2.2.1 = true) (hok : okS L (i : Nat) = true) (k : Gj l x y d mc ms nf Q kc ks n w nx (sv L (i : Nat) (some (vR z))) S) : Gj l x y d mc ms nf Q kc ks n w pc L (vR z :: S) := by
  intro p e s m args below meth c H locs cells slots ls F X h1 h2 hl
  refine lv_astore_n F.1 F.2.1 dg.1 rfl hl (Nat.le_of_ble_eq_true hn) rfl (fun ls' hl' => ?_)
  have kk := k p e s m args below meth c H locs cells slots ls' F X h1 h2 (LH.st1 hok hl')
  rw [← dg.2] at kk
  exact kk
theorem gj_lstore {i : Nat} {z : Int} (dg : AtI y pc (.lstore i) 2 nx) (hn : Nat.blt (i + 1) y.2.2.1 = true) (hok : okS L i = true) (k : Gj l x y d mc ms nf Q kc ks n w nx (sv (sv L i (some (vL z))) (i + 1) none) S) : Gj l x y d mc ms nf Q kc ks n w pc L (vL z :: S) := by
  intro p e s m args below meth c H locs cells slots ls F X h1 h2 hl
  refine lv_lstore F.1 F.2.1 dg.1 hl (Nat.le_of_ble_eq_true hn) rfl (fun ls' hl' => ?_)
  have kk := k p e s m args below meth c H locs cells slots ls' F X h1 h2 (LH.st2 hok hl')
  rw [← dg.2] at kk
  exact kk
theorem gj_lstore_n {i : Fin 4} {z : Int} (dg : AtI y pc (.lstore_n i) 1 nx) (hn : Nat.blt ((i : Nat) + 1) y.2.2.1 = true) (hok : okS L (i : Nat) = true) (k : Gj l x y d mc ms nf Q kc ks n w nx (sv (sv L (i : Nat) (some (vL z))) ((i : Nat) + 1) none) S) : Gj l x y d mc ms nf Q kc ks n w pc L (vL z :: S) := by
  intro p e s m args below meth c H locs cells slots ls F X h1 h2 hl
  refine lv_lstore_n F.1 F.2.1 dg.1 rfl hl (Nat.le_of_ble_eq_true hn) rfl (fun ls' hl' => ?_)
  have kk := k p e s m args below meth c H locs cells slots ls' F X h1 h2 (LH.st2 hok hl')
  rw [← dg.2] at kk
  exact kk
theorem gj_iinc {i : Nat} {z a : Int} (dg : AtI y pc (.iinc i z) 3 nx) (hn : Nat.blt i y.2.2.1 = true) (hok : okS L i = true) (hL : lk L i = some (vI a)) (k : Gj l x y d mc ms nf Q kc ks n w nx (sv L i (some (vI (a + z)))) S) : Gj l x y d mc ms nf Q kc ks n w pc L S := by
  intro p e s m args below meth c H locs cells slots ls F X h1 h2 hl
  have hm : (i, Value.int (iZ a)) ∈ lvL x.1 0 L := (lvL_mem L 0 _).mpr ⟨i, vI a, hL, by rw [Nat.zero_add]; rfl⟩
  obtain ⟨q, hq⟩ := List.getElem?_of_mem hm
  refine lv_iinc F.1 F.2.1 dg.1 hl (k := q) (v := iZ (a + z)) hq (iZ_add a z) (Nat.le_of_ble_eq_true hn) rfl (fun ls' hl' => ?_)
  have kk := k p e s m args below meth c H locs cells slots ls' F X h1 h2 (LH.st1 (v := vI (a + z)) hok hl')
  rw [← dg.2] at kk
  exact kk
theorem gj_iadd {a b : Int} (dg : AtI y pc .iadd 1 nx)  (k : Gj l x y d mc ms nf Q kc ks n w nx L (vI (a + b) :: S)) : Gj l x y d mc ms nf Q kc ks n w pc L (vI b :: vI a :: S) := by
  intro p e s m args below meth c H locs cells slots ls F X h1 h2 hl
  have kk := k p e s m args below meth c H locs cells slots ls F X h1 h2 hl
  rw [← dg.2] at kk
  exact lv_iadd F.1 F.2.1 dg.1 (by rw [iZ_add a b]; exact kk)
theorem gj_isub {a b : Int} (dg : AtI y pc .isub 1 nx)  (k : Gj l x y d mc ms nf Q kc ks n w nx L (vI (a - b) :: S)) : Gj l x y d mc ms nf Q kc ks n w pc L (vI b :: vI a :: S) := by
  intro p e s m args below meth c H locs cells slots ls F X h1 h2 hl
  have kk := k p e s m args below meth c H locs cells slots ls F X h1 h2 hl
  rw [← dg.2] at kk
  exact lv_isub F.1 F.2.1 dg.1 (by rw [iZ_sub a b]; exact kk)
theorem gj_imul {a b : Int} (dg : AtI y pc .imul 1 nx)  (k : Gj l x y d mc ms nf Q kc ks n w nx L (vI (a * b) :: S)) : Gj l x y d mc ms nf Q kc ks n w pc L (vI b :: vI a :: S) := by
  intro p e s m args below meth c H locs cells slots ls F X h1 h2 hl
  have kk := k p e s m args below meth c H locs cells slots ls F X h1 h2 hl
  rw [← dg.2] at kk
  exact lv_imul F.1 F.2.1 dg.1 (by rw [iZ_mul a b]; exact kk)
theorem gj_ineg {a : Int} (dg : AtI y pc .ineg 1 nx)  (k : Gj l x y d mc ms nf Q kc ks n w nx L (vI (-a) :: S)) : Gj l x y d mc ms nf Q kc ks n w pc L (vI a :: S) := by
  intro p e s m args below meth c H locs cells slots ls F X h1 h2 hl
  have kk := k p e s m args below meth c H locs cells slots ls F X h1 h2 hl
  rw [← dg.2] at kk
  exact lv_ineg F.1 F.2.1 dg.1 (by rw [iZ_neg a]; exact kk)
theorem gj_idiv {a b : Int} (dg : AtI y pc .idiv 1 nx) (ha : 0 ≤ a ∧ a ≤ 2147483647) (hb : 0 < b ∧ b ≤ 2147483647) (k : Gj l x y d mc ms nf Q kc ks n w nx L (vI (a / b) :: S)) : Gj l x y d mc ms nf Q kc ks n w pc L (vI b :: vI a :: S) := by
  intro p e s m args below meth c H locs cells slots ls F X h1 h2 hl
  have kk := k p e s m args below meth c H locs cells slots ls F X h1 h2 hl
  rw [← dg.2] at kk
  exact lv_idiv F.1 F.2.1 dg.1 (fun h => absurd ((iZ_eq (b := 0) (by omega) (by omega)).mp (h.trans iZ_0.symm)) (by omega)) (by rw [iZ_div ha hb]; exact kk)
theorem gj_irem {a b : Int} (dg : AtI y pc .irem 1 nx) (ha : 0 ≤ a ∧ a ≤ 2147483647) (hb : 0 < b ∧ b ≤ 2147483647) (k : Gj l x y d mc ms nf Q kc ks n w nx L (vI (a % b) :: S)) : Gj l x y d mc ms nf Q kc ks n w pc L (vI b :: vI a :: S) := by
  intro p e s m args below meth c H locs cells slots ls F X h1 h2 hl
  have kk := k p e s m args below meth c H locs cells slots ls F X h1 h2 hl
  rw [← dg.2] at kk
  exact lv_irem F.1 F.2.1 dg.1 (fun h => absurd ((iZ_eq (b := 0) (by omega) (by omega)).mp (h.trans iZ_0.symm)) (by omega)) (by rw [iZ_rem ha hb]; exact kk)
theorem gj_iand {a b : Int} (dg : AtI y pc .iand 1 nx)  (k : Gj l x y d mc ms nf Q kc ks n w nx L (vI (bAnd a b) :: S)) : Gj l x y d mc ms nf Q kc ks n w pc L (vI b :: vI a :: S) := by
  intro p e s m args below meth c H locs cells slots ls F X h1 h2 hl
  have kk := k p e s m args below meth c H locs cells slots ls F X h1 h2 hl
  rw [← dg.2] at kk
  exact lv_iand F.1 F.2.1 dg.1 (cast (congrArg (fun v => W p l e (rmX d mc ms) s m args below meth c H locs cells slots (MQ below (QcA x nf Q) args s mc ms (AX x)) (F0 m (pc + 1) ls (Value.int v :: S.map (cv x.1)))) (iZ_of _)) kk)
theorem gj_ior {a b : Int} (dg : AtI y pc .ior 1 nx)  (k : Gj l x y d mc ms nf Q kc ks n w nx L (vI (bOr a b) :: S)) : Gj l x y d mc ms nf Q kc ks n w pc L (vI b :: vI a :: S) := by
  intro p e s m args below meth c H locs cells slots ls F X h1 h2 hl
  have kk := k p e s m args below meth c H locs cells slots ls F X h1 h2 hl
  rw [← dg.2] at kk
  exact lv_ior F.1 F.2.1 dg.1 (cast (congrArg (fun v => W p l e (rmX d mc ms) s m args below meth c H locs cells slots (MQ below (QcA x nf Q) args s mc ms (AX x)) (F0 m (pc + 1) ls (Value.int v :: S.map (cv x.1)))) (iZ_of _)) kk)
theorem gj_ixor {a b : Int} (dg : AtI y pc .ixor 1 nx)  (k : Gj l x y d mc ms nf Q kc ks n w nx L (vI (bXor a b) :: S)) : Gj l x y d mc ms nf Q kc ks n w pc L (vI b :: vI a :: S) := by
  intro p e s m args below meth c H locs cells slots ls F X h1 h2 hl
  have kk := k p e s m args below meth c H locs cells slots ls F X h1 h2 hl
  rw [← dg.2] at kk
  exact lv_ixor F.1 F.2.1 dg.1 (cast (congrArg (fun v => W p l e (rmX d mc ms) s m args below meth c H locs cells slots (MQ below (QcA x nf Q) args s mc ms (AX x)) (F0 m (pc + 1) ls (Value.int v :: S.map (cv x.1)))) (iZ_of _)) kk)
theorem gj_ishl {a b : Int} (dg : AtI y pc .ishl 1 nx)  (k : Gj l x y d mc ms nf Q kc ks n w nx L (vI (bShl a b) :: S)) : Gj l x y d mc ms nf Q kc ks n w pc L (vI b :: vI a :: S) := by
  intro p e s m args below meth c H locs cells slots ls F X h1 h2 hl
  have kk := k p e s m args below meth c H locs cells slots ls F X h1 h2 hl
  rw [← dg.2] at kk
  exact lv_ishl F.1 F.2.1 dg.1 (cast (congrArg (fun v => W p l e (rmX d mc ms) s m args below meth c H locs cells slots (MQ below (QcA x nf Q) args s mc ms (AX x)) (F0 m (pc + 1) ls (Value.int v :: S.map (cv x.1)))) (iZ_of _)) kk)
theorem gj_ishr {a b : Int} (dg : AtI y pc .ishr 1 nx)  (k : Gj l x y d mc ms nf Q kc ks n w nx L (vI (bShr a b) :: S)) : Gj l x y d mc ms nf Q kc ks n w pc L (vI b :: vI a :: S) := by
  intro p e s m args below meth c H locs cells slots ls F X h1 h2 hl
  have kk := k p e s m args below meth c H locs cells slots ls F X h1 h2 hl
  rw [← dg.2] at kk
  exact lv_ishr F.1 F.2.1 dg.1 (cast (congrArg (fun v => W p l e (rmX d mc ms) s m args below meth c H locs cells slots (MQ below (QcA x nf Q) args s mc ms (AX x)) (F0 m (pc + 1) ls (Value.int v :: S.map (cv x.1)))) (iZ_of _)) kk)
theorem gj_iushr {a b : Int} (dg : AtI y pc .iushr 1 nx)  (k : Gj l x y d mc ms nf Q kc ks n w nx L (vI (bUshr a b) :: S)) : Gj l x y d mc ms nf Q kc ks n w pc L (vI b :: vI a :: S) := by
  intro p e s m args below meth c H locs cells slots ls F X h1 h2 hl
  have kk := k p e s m args below meth c H locs cells slots ls F X h1 h2 hl
  rw [← dg.2] at kk
  exact lv_iushr F.1 F.2.1 dg.1 (iZ_of _).symm kk
theorem gj_i2b {a : Int} (dg : AtI y pc .i2b 1 nx)  (k : Gj l x y d mc ms nf Q kc ks n w nx L (vI (bB a) :: S)) : Gj l x y d mc ms nf Q kc ks n w pc L (vI a :: S) := by
  intro p e s m args below meth c H locs cells slots ls F X h1 h2 hl
  have kk := k p e s m args below meth c H locs cells slots ls F X h1 h2 hl
  rw [← dg.2] at kk
  exact lv_i2b F.1 F.2.1 dg.1 (iZ_of _).symm kk
theorem gj_i2s {a : Int} (dg : AtI y pc .i2s 1 nx)  (k : Gj l x y d mc ms nf Q kc ks n w nx L (vI (bS a) :: S)) : Gj l x y d mc ms nf Q kc ks n w pc L (vI a :: S) := by
  intro p e s m args below meth c H locs cells slots ls F X h1 h2 hl
  have kk := k p e s m args below meth c H locs cells slots ls F X h1 h2 hl
  rw [← dg.2] at kk
  exact lv_i2s F.1 F.2.1 dg.1 (iZ_of _).symm kk
theorem gj_i2l {a : Int} (dg : AtI y pc .i2l 1 nx) (ha : R32 a) (k : Gj l x y d mc ms nf Q kc ks n w nx L (vL a :: S)) : Gj l x y d mc ms nf Q kc ks n w pc L (vI a :: S) := by
  intro p e s m args below meth c H locs cells slots ls F X h1 h2 hl
  have kk := k p e s m args below meth c H locs cells slots ls F X h1 h2 hl
  rw [← dg.2] at kk
  exact lv_i2l F.1 F.2.1 dg.1 (lZ_i ha) kk
theorem gj_ladd {a b : Int} (dg : AtI y pc .ladd 1 nx)  (k : Gj l x y d mc ms nf Q kc ks n w nx L (vL (a + b) :: S)) : Gj l x y d mc ms nf Q kc ks n w pc L (vL b :: vL a :: S) := by
  intro p e s m args below meth c H locs cells slots ls F X h1 h2 hl
  have kk := k p e s m args below meth c H locs cells slots ls F X h1 h2 hl
  rw [← dg.2] at kk
  exact lv_ladd F.1 F.2.1 dg.1 (by rw [lZ_add a b]; exact kk)
theorem gj_lmul {a b : Int} (dg : AtI y pc .lmul 1 nx)  (k : Gj l x y d mc ms nf Q kc ks n w nx L (vL (a * b) :: S)) : Gj l x y d mc ms nf Q kc ks n w pc L (vL b :: vL a :: S) := by
  intro p e s m args below meth c H locs cells slots ls F X h1 h2 hl
  have kk := k p e s m args below meth c H locs cells slots ls F X h1 h2 hl
  rw [← dg.2] at kk
  exact lv_lmul F.1 F.2.1 dg.1 (by rw [lZ_mul a b]; exact kk)
theorem cmpL_c {a b : Int} (ha : R64 a) (hb : R64 b) : lg_cmp (lZ a) (lZ b) = iZ (cmpL a b) := by
  unfold lg_cmp cmpL
  simp only [gt_iff_lt, lZ_lt hb ha, lZ_eq ha hb]
  split
  · decide
  · split <;> decide
theorem gj_lcmp {a b : Int} (dg : AtI y pc .lcmp 1 nx) (ha : R64 a) (hb : R64 b) (k : Gj l x y d mc ms nf Q kc ks n w nx L (vI (cmpL a b) :: S)) : Gj l x y d mc ms nf Q kc ks n w pc L (vL b :: vL a :: S) := by
  intro p e s m args below meth c H locs cells slots ls F X h1 h2 hl
  have kk := k p e s m args below meth c H locs cells slots ls F X h1 h2 hl
  rw [← dg.2] at kk
  exact W.lcmp F.1 F.2.1 dg.1 (by rw [cmpL_c ha hb]; exact kk)
theorem gj_dupI {z : Int} (dg : AtI y pc .dup 1 nx)  (k : Gj l x y d mc ms nf Q kc ks n w nx L (vI z :: vI z :: S)) : Gj l x y d mc ms nf Q kc ks n w pc L (vI z :: S) := by
  intro p e s m args below meth c H locs cells slots ls F X h1 h2 hl
  have kk := k p e s m args below meth c H locs cells slots ls F X h1 h2 hl
  rw [← dg.2] at kk
  exact lv_dup F.1 F.2.1 dg.1 rfl kk
theorem gj_dupR {z : Nat} (dg : AtI y pc .dup 1 nx)  (k : Gj l x y d mc ms nf Q kc ks n w nx L (vR z :: vR z :: S)) : Gj l x y d mc ms nf Q kc ks n w pc L (vR z :: S) := by
  intro p e s m args below meth c H locs cells slots ls F X h1 h2 hl
  have kk := k p e s m args below meth c H locs cells slots ls F X h1 h2 hl
  rw [← dg.2] at kk
  exact lv_dup F.1 F.2.1 dg.1 rfl kk
theorem gj_popI {z : Int} (dg : AtI y pc .pop 1 nx)  (k : Gj l x y d mc ms nf Q kc ks n w nx L S) : Gj l x y d mc ms nf Q kc ks n w pc L (vI z :: S) := by
  intro p e s m args below meth c H locs cells slots ls F X h1 h2 hl
  have kk := k p e s m args below meth c H locs cells slots ls F X h1 h2 hl
  rw [← dg.2] at kk
  exact lv_pop F.1 F.2.1 dg.1 rfl kk
theorem gj_dup2 {z : Int} {k1 : Nat} (dg : AtI y pc .dup2 1 nx)  (k : Gj l x y d mc ms nf Q kc ks n w nx L (vI z :: vR k1 :: vI z :: vR k1 :: S)) : Gj l x y d mc ms nf Q kc ks n w pc L (vI z :: vR k1 :: S) := by
  intro p e s m args below meth c H locs cells slots ls F X h1 h2 hl
  have kk := k p e s m args below meth c H locs cells slots ls F X h1 h2 hl
  rw [← dg.2] at kk
  exact lv_dup2_11 F.1 F.2.1 dg.1 rfl rfl kk
theorem gj_goto {off : Int} (dg : AtJ y pc (.goto off) off nx tg) (k : Gj l x y d mc ms nf Q kc ks n w tg L S) : Gj l x y d mc ms nf Q kc ks n w pc L S := by
  intro p e s m args below meth c H locs cells slots ls F X h1 h2 hl
  exact lv_goto F.1 F.2.1 dg.1 dg.2.2 (k p e s m args below meth c H locs cells slots ls F X h1 h2 hl)
theorem gj_icmp_eq {a b off : Int} (dg : AtJ y pc (.if_icmp .eq off) off nx tg) (hr : R32 a ∧ R32 b) (kt : a = b → Gj l x y d mc ms nf Q kc ks n w tg L S) (kf : ¬ (a = b) → Gj l x y d mc ms nf Q kc ks n w nx L S) : Gj l x y d mc ms nf Q kc ks n w pc L (vI b :: vI a :: S) := by
  intro p e s m args below meth c H locs cells slots ls F X h1 h2 hl
  have hi := iZ_eq hr.1 hr.2
  refine lv_icmp_eq F.1 F.2.1 dg.1 dg.2.2 (fun h => kt ?_ p e s m args below meth c H locs cells slots ls F X h1 h2 hl) (fun h => ?_)
  · exact hi.mp h
  · have kk := kf (fun e => h (hi.mpr e)) p e s m args below meth c H locs cells slots ls F X h1 h2 hl
    rw [← dg.2.1] at kk
    exact kk
theorem gj_if_eq {a off : Int} (dg : AtJ y pc (.ifCond .eq off) off nx tg) (hr : R32 a) (kt : a = 0 → Gj l x y d mc ms nf Q kc ks n w tg L S) (kf : ¬ (a = 0) → Gj l x y d mc ms nf Q kc ks n w nx L S) : Gj l x y d mc ms nf Q kc ks n w pc L (vI a :: S) := by
  intro p e s m args below meth c H locs cells slots ls F X h1 h2 hl
  have hz : R32 0 := by omega
  have hi := iZ_eq hr hz
  rw [iZ_0] at hi
  refine lv_if_eq F.1 F.2.1 dg.1 dg.2.2 (fun h => kt ?_ p e s m args below meth c H locs cells slots ls F X h1 h2 hl) (fun h => ?_)
  · exact hi.mp h
  · have kk := kf (fun e => h (hi.mpr e)) p e s m args below meth c H locs cells slots ls F X h1 h2 hl
    rw [← dg.2.1] at kk
    exact kk
theorem gj_icmp_ne {a b off : Int} (dg : AtJ y pc (.if_icmp .ne off) off nx tg) (hr : R32 a ∧ R32 b) (kt : a ≠ b → Gj l x y d mc ms nf Q kc ks n w tg L S) (kf : a = b → Gj l x y d mc ms nf Q kc ks n w nx L S) : Gj l x y d mc ms nf Q kc ks n w pc L (vI b :: vI a :: S) := by
  intro p e s m args below meth c H locs cells slots ls F X h1 h2 hl
  have hi := iZ_eq hr.1 hr.2
  refine lv_icmp_ne F.1 F.2.1 dg.1 dg.2.2 (fun h => kt ?_ p e s m args below meth c H locs cells slots ls F X h1 h2 hl) (fun h => ?_)
  · exact fun e => h (hi.mpr e)
  · have kk := kf (hi.mp h) p e s m args below meth c H locs cells slots ls F X h1 h2 hl
    rw [← dg.2.1] at kk
    exact kk
theorem gj_if_ne {a off : Int} (dg : AtJ y pc (.ifCond .ne off) off nx tg) (hr : R32 a) (kt : a ≠ 0 → Gj l x y d mc ms nf Q kc ks n w tg L S) (kf : a = 0 → Gj l x y d mc ms nf Q kc ks n w nx L S) : Gj l x y d mc ms nf Q kc ks n w pc L (vI a :: S) := by
  intro p e s m args below meth c H locs cells slots ls F X h1 h2 hl
  have hz : R32 0 := by omega
  have hi := iZ_eq hr hz
  rw [iZ_0] at hi
  refine lv_if_ne F.1 F.2.1 dg.1 dg.2.2 (fun h => kt ?_ p e s m args below meth c H locs cells slots ls F X h1 h2 hl) (fun h => ?_)
  · exact fun e => h (hi.mpr e)
  · have kk := kf (hi.mp h) p e s m args below meth c H locs cells slots ls F X h1 h2 hl
    rw [← dg.2.1] at kk
    exact kk
theorem gj_icmp_lt {a b off : Int} (dg : AtJ y pc (.if_icmp .lt off) off nx tg) (hr : R32 a ∧ R32 b) (kt : a < b → Gj l x y d mc ms nf Q kc ks n w tg L S) (kf : ¬ (a < b) → Gj l x y d mc ms nf Q kc ks n w nx L S) : Gj l x y d mc ms nf Q kc ks n w pc L (vI b :: vI a :: S) := by
  intro p e s m args below meth c H locs cells slots ls F X h1 h2 hl
  have hi := iZ_lt hr.1 hr.2
  refine lv_icmp_lt F.1 F.2.1 dg.1 dg.2.2 (fun h => kt ?_ p e s m args below meth c H locs cells slots ls F X h1 h2 hl) (fun h => ?_)
  · exact hi.mp h
  · have kk := kf (fun e => h (hi.mpr e)) p e s m args below meth c H locs cells slots ls F X h1 h2 hl
    rw [← dg.2.1] at kk
    exact kk
theorem gj_if_lt {a off : Int} (dg : AtJ y pc (.ifCond .lt off) off nx tg) (hr : R32 a) (kt : a < 0 → Gj l x y d mc ms nf Q kc ks n w tg L S) (kf : ¬ (a < 0) → Gj l x y d mc ms nf Q kc ks n w nx L S) : Gj l x y d mc ms nf Q kc ks n w pc L (vI a :: S) := by
  intro p e s m args below meth c H locs cells slots ls F X h1 h2 hl
  have hz : R32 0 := by omega
  have hi := iZ_lt hr hz
  rw [iZ_0] at hi
  refine lv_if_lt F.1 F.2.1 dg.1 dg.2.2 (fun h => kt ?_ p e s m args below meth c H locs cells slots ls F X h1 h2 hl) (fun h => ?_)
  · exact hi.mp h
  · have kk := kf (fun e => h (hi.mpr e)) p e s m args below meth c H locs cells slots ls F X h1 h2 hl
    rw [← dg.2.1] at kk
    exact kk
theorem gj_icmp_ge {a b off : Int} (dg : AtJ y pc (.if_icmp .ge off) off nx tg) (hr : R32 a ∧ R32 b) (kt : b ≤ a → Gj l x y d mc ms nf Q kc ks n w tg L S) (kf : ¬ (b ≤ a) → Gj l x y d mc ms nf Q kc ks n w nx L S) : Gj l x y d mc ms nf Q kc ks n w pc L (vI b :: vI a :: S) := by
  intro p e s m args below meth c H locs cells slots ls F X h1 h2 hl
  have hi := iZ_le hr.2 hr.1
  refine lv_icmp_ge F.1 F.2.1 dg.1 dg.2.2 (fun h => kt ?_ p e s m args below meth c H locs cells slots ls F X h1 h2 hl) (fun h => ?_)
  · exact hi.mp h
  · have kk := kf (fun e => h (hi.mpr e)) p e s m args below meth c H locs cells slots ls F X h1 h2 hl
    rw [← dg.2.1] at kk
    exact kk
theorem gj_if_ge {a off : Int} (dg : AtJ y pc (.ifCond .ge off) off nx tg) (hr : R32 a) (kt : 0 ≤ a → Gj l x y d mc ms nf Q kc ks n w tg L S) (kf : ¬ (0 ≤ a) → Gj l x y d mc ms nf Q kc ks n w nx L S) : Gj l x y d mc ms nf Q kc ks n w pc L (vI a :: S) := by
  intro p e s m args below meth c H locs cells slots ls F X h1 h2 hl
  have hz : R32 0 := by omega
  have hi := iZ_le hz hr
  rw [iZ_0] at hi
  refine lv_if_ge F.1 F.2.1 dg.1 dg.2.2 (fun h => kt ?_ p e s m args below meth c H locs cells slots ls F X h1 h2 hl) (fun h => ?_)
  · exact hi.mp h
  · have kk := kf (fun e => h (hi.mpr e)) p e s m args below meth c H locs cells slots ls F X h1 h2 hl
    rw [← dg.2.1] at kk
    exact kk
theorem gj_icmp_gt {a b off : Int} (dg : AtJ y pc (.if_icmp .gt off) off nx tg) (hr : R32 a ∧ R32 b) (kt : b < a → Gj l x y d mc ms nf Q kc ks n w tg L S) (kf : ¬ (b < a) → Gj l x y d mc ms nf Q kc ks n w nx L S) : Gj l x y d mc ms nf Q kc ks n w pc L (vI b :: vI a :: S) := by
  intro p e s m args below meth c H locs cells slots ls F X h1 h2 hl
  have hi := iZ_lt hr.2 hr.1
  refine lv_icmp_gt F.1 F.2.1 dg.1 dg.2.2 (fun h => kt ?_ p e s m args below meth c H locs cells slots ls F X h1 h2 hl) (fun h => ?_)
  · exact hi.mp h
  · have kk := kf (fun e => h (hi.mpr e)) p e s m args below meth c H locs cells slots ls F X h1 h2 hl
    rw [← dg.2.1] at kk
    exact kk
theorem gj_if_gt {a off : Int} (dg : AtJ y pc (.ifCond .gt off) off nx tg) (hr : R32 a) (kt : 0 < a → Gj l x y d mc ms nf Q kc ks n w tg L S) (kf : ¬ (0 < a) → Gj l x y d mc ms nf Q kc ks n w nx L S) : Gj l x y d mc ms nf Q kc ks n w pc L (vI a :: S) := by
  intro p e s m args below meth c H locs cells slots ls F X h1 h2 hl
  have hz : R32 0 := by omega
  have hi := iZ_lt hz hr
  rw [iZ_0] at hi
  refine lv_if_gt F.1 F.2.1 dg.1 dg.2.2 (fun h => kt ?_ p e s m args below meth c H locs cells slots ls F X h1 h2 hl) (fun h => ?_)
  · exact hi.mp h
  · have kk := kf (fun e => h (hi.mpr e)) p e s m args below meth c H locs cells slots ls F X h1 h2 hl
    rw [← dg.2.1] at kk
    exact kk
theorem gj_icmp_le {a b off : Int} (dg : AtJ y pc (.if_icmp .le off) off nx tg) (hr : R32 a ∧ R32 b) (kt : a ≤ b → Gj l x y d mc ms nf Q kc ks n w tg L S) (kf : ¬ (a ≤ b) → Gj l x y d mc ms nf Q kc ks n w nx L S) : Gj l x y d mc ms nf Q kc ks n w pc L (vI b :: vI a :: S) := by
  intro p e s m args below meth c H locs cells slots ls F X h1 h2 hl
  have hi := iZ_le hr.1 hr.2
  refine lv_icmp_le F.1 F.2.1 dg.1 dg.2.2 (fun h => kt ?_ p e s m args below meth c H locs cells slots ls F X h1 h2 hl) (fun h => ?_)
  · exact hi.mp h
  · have kk := kf (fun e => h (hi.mpr e)) p e s m args below meth c H locs cells slots ls F X h1 h2 hl
    rw [← dg.2.1] at kk
    exact kk
theorem gj_if_le {a off : Int} (dg : AtJ y pc (.ifCond .le off) off nx tg) (hr : R32 a) (kt : a ≤ 0 → Gj l x y d mc ms nf Q kc ks n w tg L S) (kf : ¬ (a ≤ 0) → Gj l x y d mc ms nf Q kc ks n w nx L S) : Gj l x y d mc ms nf Q kc ks n w pc L (vI a :: S) := by
  intro p e s m args below meth c H locs cells slots ls F X h1 h2 hl
  have hz : R32 0 := by omega
  have hi := iZ_le hr hz
  rw [iZ_0] at hi
  refine lv_if_le F.1 F.2.1 dg.1 dg.2.2 (fun h => kt ?_ p e s m args below meth c H locs cells slots ls F X h1 h2 hl) (fun h => ?_)
  · exact hi.mp h
  · have kk := kf (fun e => h (hi.mpr e)) p e s m args below meth c H locs cells slots ls F X h1 h2 hl
    rw [← dg.2.1] at kk
    exact kk
theorem gj_ifB_eq {P : Prop} [Decidable P] {off : Int} (dg : AtJ y pc (.ifCond .eq off) off nx tg) (kt : ¬ P → Gj l x y d mc ms nf Q kc ks n w tg L S) (kf : P → Gj l x y d mc ms nf Q kc ks n w nx L S) : Gj l x y d mc ms nf Q kc ks n w pc L (vI (b2i P) :: S) :=
  gj_if_eq dg (by rcases b2i_R P with h | h <;> rw [h] <;> omega) (fun h => kt (fun hp => by rw [b2i_t hp] at h; omega)) (fun h => kf (Decidable.byContradiction fun hp => h (b2i_f hp)))
theorem gj_ifB_ne {P : Prop} [Decidable P] {off : Int} (dg : AtJ y pc (.ifCond .ne off) off nx tg) (kt : P → Gj l x y d mc ms nf Q kc ks n w tg L S) (kf : ¬ P → Gj l x y d mc ms nf Q kc ks n w nx L S) : Gj l x y d mc ms nf Q kc ks n w pc L (vI (b2i P) :: S) :=
  gj_if_ne dg (by rcases b2i_R P with h | h <;> rw [h] <;> omega) (fun h => kt (Decidable.byContradiction fun hp => h (b2i_f hp))) (fun h => kf (fun hp => by rw [b2i_t hp] at h; omega))
theorem gj_same_eq {a b off : Int} (dg : AtJ y pc (.if_icmp .eq off) off nx tg) (h : a = b) (kt : Gj l x y d mc ms nf Q kc ks n w tg L S) : Gj l x y d mc ms nf Q kc ks n w pc L (vI b :: vI a :: S) := by
  subst h
  intro p e s m args below meth c H locs cells slots ls F X h1 h2 hl
  exact lv_icmp_eq F.1 F.2.1 dg.1 dg.2.2 (fun _ => kt p e s m args below meth c H locs cells slots ls F X h1 h2 hl) (fun h => absurd rfl h)
theorem gj_tswI {z dflt lo hi off : Int} {offs : Array Int} {len : Nat} (dg : decode y.2.1 pc = .ok (.tableswitch dflt lo hi offs, len)) (j : Nat) (hr : R32 z) (hz : z = lo + j) (hh : lo + j ≤ hi) (ho : offs[j]? = some off) (ht : (pc : Int) + off = (tg : Int)) (k : Gj l x y d mc ms nf Q kc ks n w tg L S) : Gj l x y d mc ms nf Q kc ks n w pc L (vI z :: S) := by
  intro p e s m args below meth c H locs cells slots ls F X h1 h2 hl
  exact lv_tableIn F.1 F.2.1 dg (by rw [iZ_toInt hr]; omega) (by rw [iZ_toInt hr]; omega) (by rw [iZ_toInt hr, show (z - lo).toNat = j by omega]; exact ho) ht (k p e s m args below meth c H locs cells slots ls F X h1 h2 hl)
theorem gj_tswO {z dflt lo hi : Int} {offs : Array Int} {len : Nat} (dg : decode y.2.1 pc = .ok (.tableswitch dflt lo hi offs, len)) (hr : R32 z) (hz : z < lo ∨ hi < z) (ht : (pc : Int) + dflt = (tg : Int)) (k : Gj l x y d mc ms nf Q kc ks n w tg L S) : Gj l x y d mc ms nf Q kc ks n w pc L (vI z :: S) := by
  intro p e s m args below meth c H locs cells slots ls F X h1 h2 hl
  exact lv_tableOut F.1 F.2.1 dg (by rw [iZ_toInt hr]; exact hz) ht (k p e s m args below meth c H locs cells slots ls F X h1 h2 hl)
theorem gj_loc {L2 : List (Option AV)} (h : ∀ i v, lk L2 i = some v → lk L i = some v) (k : Gj l x y d mc ms nf Q kc ks n w pc L2 S) : Gj l x y d mc ms nf Q kc ks n w pc L S := by
  intro p e s m args below meth c H locs cells slots ls F X h1 h2 hl
  exact k p e s m args below meth c H locs cells slots ls F X h1 h2 (hl.weak h)
theorem gj_eq {L2 : List (Option AV)} {S2 : List AV} {w2 : AW} (hL : L = L2) (hS : S = S2) (hw : w = w2) (k : Gj l x y d mc ms nf Q kc ks n w2 pc L2 S2) : Gj l x y d mc ms nf Q kc ks n w pc L S := by
  subst hL; subst hS; subst hw; exact k
end GJ
end
section
/-! rows of Gj for fields, arrays and new cells -/
def LF (own : String) (j ci i : Nat) (fin : Bool) (ty : FieldType) : Prop := ∃ (C : String) (T : u_T) (N : Nat), vwCl[ci]? = some (C, T, N) ∧ i < N ∧ Cond.fieldLink own j (T i).1 (T i).2.1 (T i).2.2.1 ∈ lw_g ∧ (T i).2.2.2 = fin ∧ parseFieldDescriptor (T i).2.2.1 = some ty ∧ (T i).1 = C
theorem inX0 : ∀ t ∈ u_ws RX0 TX0 1, t ∈ lw_g := mgs (by decide +kernel) (by decide +kernel)
theorem inX1 : ∀ t ∈ u_ws RX1 TX1 4, t ∈ lw_g := mgs (by decide +kernel) (by decide +kernel)
theorem inX2 : ∀ t ∈ u_ws RX2 TX2 10, t ∈ lw_g := mgs (by decide +kernel) (by decide +kernel)
theorem inX3 : ∀ t ∈ u_ws RX3 TX3 5, t ∈ lw_g := mgs (by decide +kernel) (by decide +kernel)
theorem inX4 : ∀ t ∈ u_ws RX4 TX4 5, t ∈ lw_g := mgs (by decide +kernel) (by decide +kernel)
theorem inX5 : ∀ t ∈ u_ws RX5 TX5 6, t ∈ lw_g := mgs (by decide +kernel) (by decide +kernel)
theorem inX6 : ∀ t ∈ u_ws RX6 TX6 8, t ∈ lw_g := mgs (by decide +kernel) (by decide +kernel)
theorem inX7 : ∀ t ∈ u_ws RX7 TX7 4, t ∈ lw_g := mgs (by decide +kernel) (by decide +kernel)
theorem inX8 : ∀ t ∈ u_ws RX8 TX8 9, t ∈ lw_g := mgs (by decide +kernel) (by decide +kernel)
theorem inX9 : ∀ t ∈ u_ws RX9 TX9 29, t ∈ lw_g := mgs (by decide +kernel) (by decide +kernel)
/-- what the tables say of each class: its fields' words, types and names -/
theorem vwCl_all {ci : Nat} {C : String} {T : u_T} {N : Nat} (h : vwCl[ci]? = some (C, T, N)) : (∀ t ∈ u_ws C T N, t ∈ lw_g) ∧ ∃ ty : Nat → FieldType, (∀ k, k < N → parseFieldDescriptor (T k).2.2.1 = some (ty k)) ∧ ∀ a, a < N → ∀ b, b < N → a ≠ b → (T a).2.1 ≠ (T b).2.1 := by
  match ci, h with
  | 0, h => cases h; exact ⟨inX0, tyX0, tyX0_ok, nmX0⟩
  | 1, h => cases h; exact ⟨inX1, tyX1, tyX1_ok, nmX1⟩
  | 2, h => cases h; exact ⟨inX2, tyX2, tyX2_ok, nmX2⟩
  | 3, h => cases h; exact ⟨inX3, tyX3, tyX3_ok, nmX3⟩
  | 4, h => cases h; exact ⟨inX4, tyX4, tyX4_ok, nmX4⟩
  | 5, h => cases h; exact ⟨inX5, tyX5, tyX5_ok, nmX5⟩
  | 6, h => cases h; exact ⟨inX6, tyX6, tyX6_ok, nmX6⟩
  | 7, h => cases h; exact ⟨inX7, tyX7, tyX7_ok, nmX7⟩
  | 8, h => cases h; exact ⟨inX8, tyX8, tyX8_ok, nmX8⟩
  | 9, h => cases h; exact ⟨inX9, tyX9, tyX9_ok, nmX9⟩
  | k + 10, h => exact absurd h (by simp [vwCl])
theorem HX.size {x : Cx} {n : Nat} {w : AW} {s : State} {H : Heap} {locs : List Loc} {cells : Nat} (X : HX x n w s H locs cells) (hz : H.size ≤ s.heap.size + cells) : H.size = x.1 + n := by
  obtain ⟨-, hP, hc, hS, hb, -⟩ := X
  have h1 : x.1 + n ≤ H.size := by
    cases n with
    | zero => exact Nat.le_trans hb hS.1
    | succ n =>
      have := (hP n _ (cw_at (Nat.lt_succ_self n))).lt
      exact this
  omega
section GH
variable {l : Launch} {x : Cx} {y : MI} {d mc ms nf : Nat} {Q : QT} {kc ks n : Nat} {w : AW} {pc nx tg : Nat} {L : List (Option AV)} {S : List AV}
theorem gj_get {j ci i k : Nat} {fin : Bool} {ty : FieldType} {fs : List AV} {v : AV} (dg : AtI y pc (.getfield j) 3 nx) (hf : LF y.1.cls j ci i fin ty) (hw : w k = cO ci fs) (hk : Nat.blt k n = true) (hv : fs[i]? = some v) (kk : Gj l x y d mc ms nf Q kc ks n w nx L (v :: S)) : Gj l x y d mc ms nf Q kc ks n w pc L (vR k :: S) := by
  intro p e s m args below meth c H locs cells slots ls F X h1 h2 hl
  have kk := kk p e s m args below meth c H locs cells slots ls F X h1 h2 hl
  rw [← dg.2] at kk
  obtain ⟨C, T, N, hc, hi, hin, -, -, -⟩ := hf
  refine va_get (D := x.2.1) (ci := ci) (v := cv x.1 v) (C := C) (T := T) (N := N) F.1 F.2.1 F.2.2.2.2.2.1 (vwCl_all hc).1 F.2.2.2.2.1 X.1 X.2.1 k (fs := fs.map (cv x.1)) ?_ hc i hi (F.2.2.2.2.2.1 _ hin) (fun _ h9 => h9) ?_ dg.1 kk
  · rw [cw_at (Nat.le_of_ble_eq_true hk), hw]; rfl
  · rw [List.getElem?_map, hv]; rfl
theorem gj_put {j ci i k : Nat} {ty : FieldType} {fs : List AV} {v : AV} (hnar : ∀ b, narrow ty (cv b v) = cv b v ∧ fits ty (cv b v) = true) (dg : AtI y pc (.putfield j) 3 nx) (hf : LF y.1.cls j ci i false ty) (hw : w k = cO ci fs) (hk : Nat.blt k n = true) (hi2 : i < fs.length) (kk : Gj l x y d mc ms nf Q kc ks n (upw w k (cO ci (fs.set i v))) nx L S) : Gj l x y d mc ms nf Q kc ks n w pc L (v :: vR k :: S) := by
  intro p e s m args below meth c H locs cells slots ls F X h1 h2 hl
  obtain ⟨C, T, N, hc, hi, hin, hfi, hty, -⟩ := hf
  obtain ⟨hws, ty0, hty0, hnm⟩ := vwCl_all hc
  have hk' : k < n := Nat.le_of_ble_eq_true hk
  refine va_put (D := x.2.1) (ci := ci) (v := cv x.1 v) (C := C) (T := T) (N := N) F.1 F.2.1 F.2.2.2.2.2.1 hws ty0 hty0 hnm F.2.2.2.2.1 X.1 X.2.1 (cw_D x n w) X.2.2.2.1 k (fs := fs.map (cv x.1)) (by rw [cw_at hk', hw]; rfl) hc i hi (F.2.2.2.2.2.1 _ hin) (fun _ h9 => h9) hfi hty (hnar x.1).1 (hnar x.1).2 (by rw [List.length_map]; exact hi2) dg.1 (fun H1 locs1 hP1 hD1 hS1 => ?_)
  rw [dg.2]
  refine kk p e s m args below meth c H1 locs1 cells slots ls F ⟨X.1, ?_, X.2.2.1, hS1, X.2.2.2.2⟩ h1 h2 hl
  rw [← cw_set hk']
  have e1 : cE x (cO ci (fs.set i v)) = .inr (ci, (fs.map (cv x.1)).set i (cv x.1 v)) := by
    show (Sum.inr (ci, (fs.set i v).map (cv x.1)) : va_E) = _
    rw [List.map_set]
  rw [e1]
  exact hP1
theorem gj_putF {j ci i k : Nat} {ty : FieldType} {fs : List AV} {v : AV} (hnar : ∀ b, narrow ty (cv b v) = cv b v ∧ fits ty (cv b v) = true) (dg : AtI y pc (.putfield j) 3 nx) (hf : LF y.1.cls j ci i true ty) (hini : y.1.name = "<init>") (hown : ∃ T N, vwCl[ci]? = some (y.1.cls, T, N)) (hw : w k = cO ci fs) (hk : Nat.blt k n = true) (hi2 : i < fs.length) (kk : Gj l x y d mc ms nf Q kc ks n (upw w k (cO ci (fs.set i v))) nx L S) : Gj l x y d mc ms nf Q kc ks n w pc L (v :: vR k :: S) := by
  intro p e s m args below meth c H locs cells slots ls F X h1 h2 hl
  obtain ⟨C, T, N, hc, hi, hin, hfi, hty, hC⟩ := hf
  obtain ⟨T', N', hc'⟩ := hown
  have hCy : C = y.1.cls := by
    rw [hc] at hc'
    exact congrArg Prod.fst (Option.some.inj hc')
  obtain ⟨hws, ty0, hty0, hnm⟩ := vwCl_all hc
  have hk' : k < n := Nat.le_of_ble_eq_true hk
  refine va_putF (D := x.2.1) (ci := ci) (v := cv x.1 v) (C := C) (T := T) (N := N) F.1 F.2.1 F.2.2.2.2.2.1 hws ty0 hty0 hnm F.2.2.2.2.1 X.1 X.2.1 (cw_D x n w) X.2.2.2.1 k (fs := fs.map (cv x.1)) (by rw [cw_at hk', hw]; rfl) hc i hi (F.2.2.2.2.2.1 _ hin) (fun _ h9 => h9) hfi (F.2.2.2.2.2.2.2.trans hini) (hC.trans hCy) hty (hnar x.1).1 (hnar x.1).2 (by rw [List.length_map]; exact hi2) dg.1 (fun H1 locs1 hP1 hD1 hS1 => ?_)
  rw [dg.2]
  refine kk p e s m args below meth c H1 locs1 cells slots ls F ⟨X.1, ?_, X.2.2.1, hS1, X.2.2.2.2⟩ h1 h2 hl
  rw [← cw_set hk']
  have e1 : cE x (cO ci (fs.set i v)) = .inr (ci, (fs.map (cv x.1)).set i (cv x.1 v)) := by
    show (Sum.inr (ci, (fs.set i v).map (cv x.1)) : va_E) = _
    rw [List.map_set]
  rw [e1]
  exact hP1
theorem nar_I {z : Int} : ∀ b, narrow .int (cv b (vI z)) = cv b (vI z) ∧ fits .int (cv b (vI z)) = true := fun _ => ⟨rfl, rfl⟩
theorem nar_Z {z : Int} (h : z = 0 ∨ z = 1) : ∀ b, narrow .boolean (cv b (vI z)) = cv b (vI z) ∧ fits .boolean (cv b (vI z)) = true := by
  intro b
  rcases h with rfl | rfl
  · exact ⟨(by decide : narrow .boolean (.int (iZ 0)) = .int (iZ 0)), (by decide : fits .boolean (.int (iZ 0)) = true)⟩
  · exact ⟨(by decide : narrow .boolean (.int (iZ 1)) = .int (iZ 1)), (by decide : fits .boolean (.int (iZ 1)) = true)⟩
theorem nar_R {k : Nat} {C : String} : ∀ b, narrow (.object C) (cv b (vR k)) = cv b (vR k) ∧ fits (.object C) (cv b (vR k)) = true := fun _ => ⟨rfl, rfl⟩
theorem nar_A {k : Nat} {t : FieldType} : ∀ b, narrow (.array t) (cv b (vR k)) = cv b (vR k) ∧ fits (.array t) (cv b (vR k)) = true := fun _ => ⟨rfl, rfl⟩
theorem clampI {i : Int} {N : Nat} (hi : 0 ≤ i ∧ i < (N : Int)) (hN : Nat.ble N 4096 = true) : (((iZ i).toNatClampNeg : Nat) : Int) = i ∧ R32 i := by
  have hN := Nat.le_of_ble_eq_true hN
  have hr : R32 i := by omega
  rw [iZ_clamp hr]
  exact ⟨by omega, hr⟩
theorem gj_iald {k N : Nat} {f : Int → Int} {i : Int} (dg : AtI y pc .iaload 1 nx) (hw : w k = cI N f) (hk : Nat.blt k n = true) (hN : Nat.ble N 4096 = true) (hi : 0 ≤ i ∧ i < (N : Int)) (kk : Gj l x y d mc ms nf Q kc ks n w nx L (vI (f i) :: S)) : Gj l x y d mc ms nf Q kc ks n w pc L (vI i :: vR k :: S) := by
  intro p e s m args below meth c H locs cells slots ls F X h1 h2 hl
  have kk := kk p e s m args below meth c H locs cells slots ls F X h1 h2 hl
  rw [← dg.2] at kk
  refine va_iald (D := x.2.1) F.1 F.2.1 X.1 X.2.1 k 0 (cA := x.2.2.1) (n := N) (f := fun j => iZ (f (j : Int))) (by rw [cw_at (Nat.le_of_ble_eq_true hk), hw]; rfl) rfl (iZ_in hi hN) dg.1 ?_
  rw [(clampI hi hN).1]
  exact kk
theorem gj_zald {k N : Nat} {f : Int → Int} {i : Int} (dg : AtI y pc .baload 1 nx) (hw : w k = cZ N f) (hk : Nat.blt k n = true) (hN : Nat.ble N 4096 = true) (hi : 0 ≤ i ∧ i < (N : Int)) (kk : Gj l x y d mc ms nf Q kc ks n w nx L (vI (f i) :: S)) : Gj l x y d mc ms nf Q kc ks n w pc L (vI i :: vR k :: S) := by
  intro p e s m args below meth c H locs cells slots ls F X h1 h2 hl
  have kk := kk p e s m args below meth c H locs cells slots ls F X h1 h2 hl
  rw [← dg.2] at kk
  refine va_zald (D := x.2.1) F.1 F.2.1 X.1 X.2.1 k 1 (cA := x.2.2.2.1) (n := N) (f := fun j => iZ (f (j : Int))) (by rw [cw_at (Nat.le_of_ble_eq_true hk), hw]; rfl) rfl (iZ_in hi hN) dg.1 ?_
  rw [(clampI hi hN).1]
  exact kk
theorem gj_iast {k N : Nat} {f : Int → Int} {i z : Int} (dg : AtI y pc .iastore 1 nx) (hw : w k = cI N f) (hk : Nat.blt k n = true) (hN : Nat.ble N 4096 = true) (hi : 0 ≤ i ∧ i < (N : Int)) (kk : Gj l x y d mc ms nf Q kc ks n (upw w k (cI N (upf f i z))) nx L S) : Gj l x y d mc ms nf Q kc ks n w pc L (vI z :: vI i :: vR k :: S) := by
  intro p e s m args below meth c H locs cells slots ls F X h1 h2 hl
  have hk' : k < n := Nat.le_of_ble_eq_true hk
  refine va_iast (D := x.2.1) F.1 F.2.1 X.1 X.2.1 (cw_D x n w) X.2.2.2.1 k 0 (cA := x.2.2.1) (n := N) (f := fun j => iZ (f (j : Int))) (x := iZ z) (by rw [cw_at hk', hw]; rfl) rfl (iZ_in hi hN) dg.1 (fun H1 locs1 hP1 hD1 hS1 => ?_)
  rw [dg.2]
  refine kk p e s m args below meth c H1 locs1 cells slots ls F ⟨X.1, ?_, X.2.2.1, hS1, X.2.2.2.2⟩ h1 h2 hl
  rw [← cw_set hk']
  rw [upf_c f ⟨(clampI hi hN).2, hi.1⟩] at hP1
  exact hP1
theorem gj_zast {k N : Nat} {f : Int → Int} {i z : Int} (hz : z = 0 ∨ z = 1) (dg : AtI y pc .bastore 1 nx) (hw : w k = cZ N f) (hk : Nat.blt k n = true) (hN : Nat.ble N 4096 = true) (hi : 0 ≤ i ∧ i < (N : Int)) (kk : Gj l x y d mc ms nf Q kc ks n (upw w k (cZ N (upf f i z))) nx L S) : Gj l x y d mc ms nf Q kc ks n w pc L (vI z :: vI i :: vR k :: S) := by
  intro p e s m args below meth c H locs cells slots ls F X h1 h2 hl
  have hk' : k < n := Nat.le_of_ble_eq_true hk
  refine va_zast (D := x.2.1) F.1 F.2.1 X.1 X.2.1 (cw_D x n w) X.2.2.2.1 k 1 (cA := x.2.2.2.1) (n := N) (f := fun j => iZ (f (j : Int))) (x := iZ z) (by rw [cw_at hk', hw]; rfl) rfl (iZ_in hi hN) dg.1 (fun H1 locs1 hP1 hD1 hS1 => ?_)
  rw [dg.2]
  refine kk p e s m args below meth c H1 locs1 cells slots ls F ⟨X.1, ?_, X.2.2.1, hS1, X.2.2.2.2⟩ h1 h2 hl
  rw [← cw_set hk']
  have e2 : vp_nar .boolean (iZ z) = iZ z := by rcases hz with rfl | rfl <;> decide
  rw [e2, upf_c f ⟨(clampI hi hN).2, hi.1⟩] at hP1
  exact hP1
theorem gj_aald {k N k2 : Nat} {f : Int → Option Nat} {i : Int} (dg : AtI y pc .aaload 1 nx) (hw : w k = cR N f) (hk : Nat.blt k n = true) (hN : Nat.ble N 4096 = true) (hi : 0 ≤ i ∧ i < (N : Int)) (hf : f i = some k2) (kk : Gj l x y d mc ms nf Q kc ks n w nx L (vR k2 :: S)) : Gj l x y d mc ms nf Q kc ks n w pc L (vI i :: vR k :: S) := by
  intro p e s m args below meth c H locs cells slots ls F X h1 h2 hl
  have kk := kk p e s m args below meth c H locs cells slots ls F X h1 h2 hl
  rw [← dg.2] at kk
  refine va_aldq (D := x.2.1) F.1 F.2.1 X.1 X.2.1 k 2 (cA := x.2.2.2.2) (C := "BishopsPeace$Sheet") (n := N) (f := fun j => (f (j : Int)).map (fun k => x.1 + k)) (by rw [cw_at (Nat.le_of_ble_eq_true hk), hw]; rfl) rfl (iZ_in hi hN) dg.1 ?_
  rw [(clampI hi hN).1, hf]
  exact kk
theorem gj_aast {k N v : Nat} {f : Int → Option Nat} {i : Int} {fs : List AV} (dg : AtI y pc .aastore 1 nx) (hw : w k = cR N f) (hk : Nat.blt k n = true) (hN : Nat.ble N 4096 = true) (hi : 0 ≤ i ∧ i < (N : Int)) (hv : w v = cO 7 fs) (hvn : Nat.blt v n = true) (kk : Gj l x y d mc ms nf Q kc ks n (upw w k (cR N (upr f i (some v)))) nx L S) : Gj l x y d mc ms nf Q kc ks n w pc L (vR v :: vI i :: vR k :: S) := by
  intro p e s m args below meth c H locs cells slots ls F X h1 h2 hl
  have hk' : k < n := Nat.le_of_ble_eq_true hk
  refine va_astq (D := x.2.1) F.1 F.2.1 X.1 X.2.1 (cw_D x n w) X.2.2.2.1 k 2 v 7 (cA := x.2.2.2.2) (r := (RX7, TX7, 4)) (n := N) (vs := fs.map (cv x.1)) (f := fun j => (f (j : Int)).map (fun k => x.1 + k)) (by rw [cw_at hk', hw]; rfl) rfl (by rw [cw_at (Nat.le_of_ble_eq_true hvn), hv]; rfl) rfl (iZ_in hi hN) dg.1 (fun H1 locs1 hP1 hD1 hS1 => ?_)
  rw [dg.2]
  refine kk p e s m args below meth c H1 locs1 cells slots ls F ⟨X.1, ?_, X.2.2.1, hS1, X.2.2.2.2⟩ h1 h2 hl
  rw [← cw_set hk']
  rw [upr_c f ⟨(clampI hi hN).2, hi.1⟩] at hP1
  exact hP1
theorem gj_alen {k N : Nat} {f : Int → Int} (dg : AtI y pc .arraylength 1 nx) (hw : w k = cI N f) (hk : Nat.blt k n = true) (kk : Gj l x y d mc ms nf Q kc ks n w nx L (vI (N : Int) :: S)) : Gj l x y d mc ms nf Q kc ks n w pc L (vR k :: S) := by
  intro p e s m args below meth c H locs cells slots ls F X h1 h2 hl
  have kk := kk p e s m args below meth c H locs cells slots ls F X h1 h2 hl
  rw [← dg.2] at kk
  exact va_alen (D := x.2.1) F.1 F.2.1 X.1 X.2.1 k 0 (cA := x.2.2.1) (x := (N, .inl (fun j => iZ (f (j : Int))))) (by rw [cw_at (Nat.le_of_ble_eq_true hk), hw]; rfl) rfl (Int32.ofInt_eq_ofNat).symm dg.1 kk
theorem gj_sz {p : Program} {e : Env} {R : Room} {s : State} {m : MethodId} {args : Array Value} {below : List Frame} {meth : Method} {c : Code} {H : Heap} {locs : List Loc} {cells slots : Nat} {Z : State → Prop} {g : JFrame} (h : H.size ≤ s.heap.size + cells → W p l e R s m args below meth c H locs cells slots Z g) : W p l e R s m args below meth c H locs cells slots Z g := fun T hT X => h (by rw [← hT]; exact X.heapSize) T hT X
theorem gj_new {j ci N : Nat} {C : String} {T : u_T} {ty : Nat → FieldType} {fs : List AV} (dg : AtI y pc (.new j) 3 nx) (hcl : Cond.classLink y.1.cls j C ∈ lw_g) (hins : Cond.instantiable C N ∈ lw_g) (hini : Cond.initialized C ∈ lw_g) (hc : vwCl[ci]? = some (C, T, N)) (hty : ∀ k, k < N → parseFieldDescriptor (T k).2.2.1 = some (ty k)) (hfs : ∀ b i, i < N → defaultValue (ty i) = vp_V (fs.map (cv b)) i) (kk : Gj l x y d mc ms nf Q kc ks (n + 1) (upw w n (cO ci fs)) nx L (vR n :: S)) : Gj l x y d mc ms nf Q (kc + 1) (ks + N) n w pc L S := by
  intro p e s m args below meth c H locs cells slots ls F X h1 h2 hl
  refine gj_sz (fun hz0 => ?_)
  have hz : H.size = x.1 + n := X.size hz0
  have hKn := X.1.1 ci _ hc
  refine W.newcK F.1 F.2.1 F.2.2.2.2.1 (F.2.2.2.2.2.1 _ hcl) (F.2.2.2.2.2.1 _ hins) (F.2.2.2.2.2.1 _ hini) rfl dg.1 (show cells + 1 ≤ mc by omega) (show slots + N ≤ ms by omega) hKn.2.1 hz (fun H1 kC hkC e1 z1 o1 => ?_)
  have hx1 : x.1 + n + 1 = x.1 + (n + 1) := Nat.add_assoc _ _ _
  have hh : HX x (n + 1) (upw w n (cO ci fs)) s H1 locs (cells + 1) := by
    refine ⟨X.1, ?_, by have := X.2.2.1; omega, ⟨by have := X.2.2.2.1.1; omega, fun q g1 g2 => (o1 q (by have := X.2.2.2.1.1; omega)).trans (X.2.2.2.1.2.1 q g1 g2), X.2.2.2.1.2.2⟩, X.2.2.2.2⟩
    rw [← cw_push]
    refine (X.2.1.kept (fun k q hq => o1 q.1 (by rw [← hz]; exact (X.2.1 k q hq).lt))).app (fun k q hq => ?_)
    have hk0 : k < 1 := (List.getElem?_eq_some_iff.mp hq).1
    rw [show k = 0 by omega] at hq
    cases hq
    exact ⟨_, hc, (u_born ty F.2.2.2.2.2.1 (vwCl_all hc).1 hKn hkC e1 hty).to (fun i hi => hfs x.1 i hi)⟩
  have k2 := kk p e s m args below meth c H1 locs (cells + 1) (slots + N) ls F hh (by omega) (by omega) hl
  rw [← dg.2] at k2
  exact k2
theorem ac_int : Cond.arrayClass .int ∈ lw_g := List.mem_filter.mpr ⟨by decide +kernel, rfl⟩
theorem ac_bool : Cond.arrayClass .boolean ∈ lw_g := List.mem_filter.mpr ⟨by decide +kernel, rfl⟩
theorem arr_same {cA cB : ClassId} {s : State} {t : String} (h1 : s.vm.findClass t = some cA) (h2 : s.vm.findClass t = some cB) : cA = cB := Option.some.inj (h1.symm.trans h2)
theorem gj_newI {N : Nat} {z : Int} (dg : AtI y pc (.newarray .int) 2 nx) (hz : z = (N : Int)) (hN : Nat.ble N 4096 = true) (kk : Gj l x y d mc ms nf Q kc ks (n + 1) (upw w n (cI N (fun _ => 0))) nx L (vR n :: S)) : Gj l x y d mc ms nf Q (kc + 1) (ks + N) n w pc L (vI z :: S) := by
  intro p e s m args below meth c H locs cells slots ls F X h1 h2 hl
  refine gj_sz (fun hz0 => ?_)
  have hN := Nat.le_of_ble_eq_true hN
  have hR : R32 z := by omega
  have hsz : H.size = x.1 + n := X.size hz0
  have hAK := (X.1.2 0 (x.2.2.1, .int) rfl).2
  refine va_newaK (atype := .int) F.1 F.2.1 (F.2.2.2.2.2.1 (.arrayClass .int) ac_int) rfl dg.1 (n := iZ z) (N := N) rfl (fun h => absurd ((iZ_lt (b := 0) hR (by omega)).mp (by rw [iZ_0]; exact h)) (by omega)) (by rw [iZ_clamp hR]; omega) (show N * 4 ≤ 536870912 by omega) (show cells + 1 ≤ mc by omega) (show slots + N ≤ ms by omega) hsz (fun H1 cA e1 z1 o1 hAr hNm => ?_)
  have hcA : cA = x.2.2.1 := arr_same hNm hAK
  have hh : HX x (n + 1) (upw w n (cI N (fun _ => 0))) s H1 locs (cells + 1) := by
    refine ⟨X.1, ?_, by have := X.2.2.1; omega, ⟨by have := X.2.2.2.1.1; omega, fun q g1 g2 => (o1 q (by have := X.2.2.2.1.1; omega)).trans (X.2.2.2.1.2.1 q g1 g2), X.2.2.2.1.2.2⟩, X.2.2.2.2⟩
    rw [← cw_push]
    refine (X.2.1.kept (fun k q hq => o1 q.1 (by rw [← hsz]; exact (X.2.1 k q hq).lt))).app (fun k q hq => ?_)
    have hk0 : k < 1 := (List.getElem?_eq_some_iff.mp hq).1
    rw [show k = 0 by omega] at hq
    cases hq
    rw [hcA] at e1
    exact e1
  have k2 := kk p e s m args below meth c H1 locs (cells + 1) (slots + N) ls F hh (by omega) (by omega) hl
  rw [← dg.2] at k2
  exact k2
theorem gj_newZ {N : Nat} {z : Int} (dg : AtI y pc (.newarray .boolean) 2 nx) (hz : z = (N : Int)) (hN : Nat.ble N 4096 = true) (kk : Gj l x y d mc ms nf Q kc ks (n + 1) (upw w n (cZ N (fun _ => 0))) nx L (vR n :: S)) : Gj l x y d mc ms nf Q (kc + 1) (ks + N) n w pc L (vI z :: S) := by
  intro p e s m args below meth c H locs cells slots ls F X h1 h2 hl
  refine gj_sz (fun hz0 => ?_)
  have hN := Nat.le_of_ble_eq_true hN
  have hR : R32 z := by omega
  have hsz : H.size = x.1 + n := X.size hz0
  have hAK := (X.1.2 1 (x.2.2.2.1, .boolean) rfl).2
  refine va_newaK (atype := .boolean) F.1 F.2.1 (F.2.2.2.2.2.1 (.arrayClass .boolean) ac_bool) rfl dg.1 (n := iZ z) (N := N) rfl (fun h => absurd ((iZ_lt (b := 0) hR (by omega)).mp (by rw [iZ_0]; exact h)) (by omega)) (by rw [iZ_clamp hR]; omega) (show N * 1 ≤ 536870912 by omega) (show cells + 1 ≤ mc by omega) (show slots + N ≤ ms by omega) hsz (fun H1 cA e1 z1 o1 hAr hNm => ?_)
  have hcA : cA = x.2.2.2.1 := arr_same hNm hAK
  have hh : HX x (n + 1) (upw w n (cZ N (fun _ => 0))) s H1 locs (cells + 1) := by
    refine ⟨X.1, ?_, by have := X.2.2.1; omega, ⟨by have := X.2.2.2.1.1; omega, fun q g1 g2 => (o1 q (by have := X.2.2.2.1.1; omega)).trans (X.2.2.2.1.2.1 q g1 g2), X.2.2.2.1.2.2⟩, X.2.2.2.2⟩
    rw [← cw_push]
    refine (X.2.1.kept (fun k q hq => o1 q.1 (by rw [← hsz]; exact (X.2.1 k q hq).lt))).app (fun k q hq => ?_)
    have hk0 : k < 1 := (List.getElem?_eq_some_iff.mp hq).1
    rw [show k = 0 by omega] at hq
    cases hq
    rw [hcA] at e1
    exact e1
  have k2 := kk p e s m args below meth c H1 locs (cells + 1) (slots + N) ls F hh (by omega) (by omega) hl
  rw [← dg.2] at k2
  exact k2
theorem gj_newR {N j : Nat} {z : Int} (dg : AtI y pc (.anewarray j) 3 nx) (hcl : Cond.classLink y.1.cls j "BishopsPeace$Sheet" ∈ lw_g) (hz : z = (N : Int)) (hN : Nat.ble N 4096 = true) (kk : Gj l x y d mc ms nf Q kc ks (n + 1) (upw w n (cR N (fun _ => none))) nx L (vR n :: S)) : Gj l x y d mc ms nf Q (kc + 1) (ks + N) n w pc L (vI z :: S) := by
  intro p e s m args below meth c H locs cells slots ls F X h1 h2 hl
  refine gj_sz (fun hz0 => ?_)
  have hN := Nat.le_of_ble_eq_true hN
  have hR : R32 z := by omega
  have hcl0 : (iZ z).toNatClampNeg = N := by rw [iZ_clamp hR]; omega
  have hsz : H.size = x.1 + n := X.size hz0
  have hAK := (X.1.2 2 (x.2.2.2.2, .object "BishopsPeace$Sheet") rfl).2
  obtain ⟨kA0, comp0, -, -, -, hfc⟩ := hAK
  refine W.anew F.1 F.2.1 F.2.2.2.2.1 (F.2.2.2.2.2.1 _ hcl) (va_AO.use X.2.2.2.2.2) rfl dg.1 (n := iZ z) rfl (fun h => absurd ((iZ_lt (b := 0) hR (by omega)).mp (by rw [iZ_0]; exact h)) (by omega)) (by rw [hcl0]; omega) (show cells + 1 ≤ mc by omega) (by rw [hcl0]; show slots + N ≤ ms; omega) (fun cA kA comp f1 f2 f3 f4 => ?_)
  have hcA : cA = x.2.2.2.2 := arr_same f1 hfc
  rw [hcl0]
  generalize hH1 : H.push ({ cls := cA, slots := Array.replicate N .null, vm := .none } : Cell) = H1
  have z1 : H1.size = H.size + 1 := by rw [← hH1, Array.size_push]
  have e1 : H1[H.size]? = some (arrV cA N (fun _ => .null)) := by rw [← hH1, Array.getElem?_push_size, ← arrV_new]
  have o1 : ∀ q : Nat, q < H.size → H1[q]? = H[q]? := fun q hq => by rw [← hH1, Array.getElem?_push, if_neg (Nat.ne_of_lt hq)]
  have hh : HX x (n + 1) (upw w n (cR N (fun _ => none))) s H1 locs (cells + 1) := by
    refine ⟨X.1, ?_, by have := X.2.2.1; omega, ⟨by have := X.2.2.2.1.1; omega, fun q g1 g2 => (o1 q (by have := X.2.2.2.1.1; omega)).trans (X.2.2.2.1.2.1 q g1 g2), X.2.2.2.1.2.2⟩, X.2.2.2.2⟩
    rw [← cw_push]
    refine (X.2.1.kept (fun k q hq => o1 q.1 ((X.2.1 k q hq).lt))).app (fun k q hq => ?_)
    have hk0 : k < 1 := (List.getElem?_eq_some_iff.mp hq).1
    rw [show k = 0 by omega] at hq
    cases hq
    rw [hcA, hsz] at e1
    exact e1
  have k2 := kk p e s m args below meth c H1 locs (cells + 1) (slots + N) ls F hh (by omega) (by omega) hl
  rw [← dg.2] at k2
  rw [hsz]
  exact k2
end GH
abbrev dfl0 : List AV := [vN]
theorem dfl0_ok : ∀ (b i : Nat), i < 1 → defaultValue (tyX0 i) = vp_V (dfl0.map (cv b)) i := by
  intro b i hi
  match i, hi with
  | 0, _ => rfl
  | k + 1, h => exact absurd h (by omega)
abbrev dfl1 : List AV := [vN, vI 0, vI 0, vI 0]
theorem dfl1_ok : ∀ (b i : Nat), i < 4 → defaultValue (tyX1 i) = vp_V (dfl1.map (cv b)) i := by
  intro b i hi
  match i, hi with
  | 0, _ => rfl
  | 1, _ => rfl
  | 2, _ => rfl
  | 3, _ => rfl
  | k + 4, h => exact absurd h (by omega)
abbrev dfl2 : List AV := [vN, vN, vN, vN, vI 0, vI 0, vI 0, vI 0, vI 0, vI 0]
theorem dfl2_ok : ∀ (b i : Nat), i < 10 → defaultValue (tyX2 i) = vp_V (dfl2.map (cv b)) i := by
  intro b i hi
  match i, hi with
  | 0, _ => rfl
  | 1, _ => rfl
  | 2, _ => rfl
  | 3, _ => rfl
  | 4, _ => rfl
  | 5, _ => rfl
  | 6, _ => rfl
  | 7, _ => rfl
  | 8, _ => rfl
  | 9, _ => rfl
  | k + 10, h => exact absurd h (by omega)
abbrev dfl3 : List AV := [vN, vN, vN, vN, vI 0]
theorem dfl3_ok : ∀ (b i : Nat), i < 5 → defaultValue (tyX3 i) = vp_V (dfl3.map (cv b)) i := by
  intro b i hi
  match i, hi with
  | 0, _ => rfl
  | 1, _ => rfl
  | 2, _ => rfl
  | 3, _ => rfl
  | 4, _ => rfl
  | k + 5, h => exact absurd h (by omega)
abbrev dfl4 : List AV := [vN, vN, vN, vN, vI 0]
theorem dfl4_ok : ∀ (b i : Nat), i < 5 → defaultValue (tyX4 i) = vp_V (dfl4.map (cv b)) i := by
  intro b i hi
  match i, hi with
  | 0, _ => rfl
  | 1, _ => rfl
  | 2, _ => rfl
  | 3, _ => rfl
  | 4, _ => rfl
  | k + 5, h => exact absurd h (by omega)
abbrev dfl5 : List AV := [vN, vN, vN, vI 0, vI 0, vI 0]
theorem dfl5_ok : ∀ (b i : Nat), i < 6 → defaultValue (tyX5 i) = vp_V (dfl5.map (cv b)) i := by
  intro b i hi
  match i, hi with
  | 0, _ => rfl
  | 1, _ => rfl
  | 2, _ => rfl
  | 3, _ => rfl
  | 4, _ => rfl
  | 5, _ => rfl
  | k + 6, h => exact absurd h (by omega)
abbrev dfl6 : List AV := [vN, vN, vN, vN, vN, vI 0, vI 0, vI 0]
theorem dfl6_ok : ∀ (b i : Nat), i < 8 → defaultValue (tyX6 i) = vp_V (dfl6.map (cv b)) i := by
  intro b i hi
  match i, hi with
  | 0, _ => rfl
  | 1, _ => rfl
  | 2, _ => rfl
  | 3, _ => rfl
  | 4, _ => rfl
  | 5, _ => rfl
  | 6, _ => rfl
  | 7, _ => rfl
  | k + 8, h => exact absurd h (by omega)
abbrev dfl7 : List AV := [vN, vI 0, vI 0, vI 0]
theorem dfl7_ok : ∀ (b i : Nat), i < 4 → defaultValue (tyX7 i) = vp_V (dfl7.map (cv b)) i := by
  intro b i hi
  match i, hi with
  | 0, _ => rfl
  | 1, _ => rfl
  | 2, _ => rfl
  | 3, _ => rfl
  | k + 4, h => exact absurd h (by omega)
abbrev dfl8 : List AV := [vN, vN, vN, vN, vN, vN, vN, vN, vI 0]
theorem dfl8_ok : ∀ (b i : Nat), i < 9 → defaultValue (tyX8 i) = vp_V (dfl8.map (cv b)) i := by
  intro b i hi
  match i, hi with
  | 0, _ => rfl
  | 1, _ => rfl
  | 2, _ => rfl
  | 3, _ => rfl
  | 4, _ => rfl
  | 5, _ => rfl
  | 6, _ => rfl
  | 7, _ => rfl
  | 8, _ => rfl
  | k + 9, h => exact absurd h (by omega)
abbrev dfl9 : List AV := [vN, vN, vN, vN, vI 0, vN, vI 0, vI 0, vI 0, vN, vN, vN, vI 0, vN, vI 0, vN, vN, vI 0, vN, vN, vN, vN, vI 0, vI 0, vI 0, vN, vI 0, vN, vI 0]
theorem dfl9_ok : ∀ (b i : Nat), i < 29 → defaultValue (tyX9 i) = vp_V (dfl9.map (cv b)) i := by
  intro b i hi
  match i, hi with
  | 0, _ => rfl
  | 1, _ => rfl
  | 2, _ => rfl
  | 3, _ => rfl
  | 4, _ => rfl
  | 5, _ => rfl
  | 6, _ => rfl
  | 7, _ => rfl
  | 8, _ => rfl
  | 9, _ => rfl
  | 10, _ => rfl
  | 11, _ => rfl
  | 12, _ => rfl
  | 13, _ => rfl
  | 14, _ => rfl
  | 15, _ => rfl
  | 16, _ => rfl
  | 17, _ => rfl
  | 18, _ => rfl
  | 19, _ => rfl
  | 20, _ => rfl
  | 21, _ => rfl
  | 22, _ => rfl
  | 23, _ => rfl
  | 24, _ => rfl
  | 25, _ => rfl
  | 26, _ => rfl
  | 27, _ => rfl
  | 28, _ => rfl
  | k + 29, h => exact absurd h (by omega)
end
section
/-! rows of Gj for calls and returns; a method's contract Mt -/
def wsY (y : MI) : List Cond := Cond.code y.1 y.2.1 y.2.2.1 y.2.2.2 :: lw_g
def PcA (x : Cx) (n : Nat) (w : AW) (As : List AV) : Array Value → State → Prop := fun v U =>
  v = (As.map (cv x.1)).toArray ∧ va_K x.2.1 vwCl (tysX x) U ∧ va_P x.2.1 vwCl (cw x n w) U.heap ∧ U.heap.size = x.1 + n ∧ va_AO "BishopsPeace$Sheet" U
/-- the contract of method y at this start: it returns, and Q holds of its answer and the world behind it; mc cells of at most ms slots are new -/
def Mt (l : Launch) (x : Cx) (y : MI) (d mc ms n : Nat) (w : AW) (As : List AV) (Q : QT) : Prop :=
  Met l y.1 (wsY y) (rmX d mc ms) (PcA x n w As) (QcA x (n + mc) Q) mc ms (AX x)
theorem lw_good {t : Cond} (h : t ∈ lw_g) : goodWord t = true := (List.mem_filter.mp h).2
theorem good_cw {y : MI} (h : Cond.code y.1 y.2.1 y.2.2.1 y.2.2.2 ∈ lw_g) : GoodIn lw_g (wsY y) := by
  intro t ht
  have hm : t ∈ lw_g := by
    rcases List.mem_cons.mp ht with h1 | h1
    · rw [h1]; exact h
    · exact h1
  exact ⟨hm, good_of_word (lw_good hm)⟩
/-- what the tables say of a callee: an instance method of the ci-th class; a static method; a constructor -/
def CV (y : MI) (na ci : Nat) : Prop := Cond.instanceMethod y.1 ∈ lw_g ∧ Cond.selects y.1.cls y.1 y.1 ∈ lw_g ∧ Cond.initialized y.1.cls ∈ lw_g ∧ Cond.code y.1 y.2.1 y.2.2.1 y.2.2.2 ∈ lw_g ∧ (y.1.cls ≠ "java/lang/invoke/MethodHandle" ∧ y.1.cls ≠ "java/lang/invoke/VarHandle" ∧ (parseMethodDescriptor y.1.desc).map (fun d => d.parameters.length) = some na) ∧ (∃ T N, vwCl[ci]? = some (y.1.cls, T, N)) ∧ y.2.2.1 ≤ 20
def CS (y : MI) (na : Nat) : Prop := Cond.static y.1 ∈ lw_g ∧ Cond.initialized y.1.cls ∈ lw_g ∧ Cond.code y.1 y.2.1 y.2.2.1 y.2.2.2 ∈ lw_g ∧ (y.1.cls ≠ "java/lang/invoke/MethodHandle" ∧ y.1.cls ≠ "java/lang/invoke/VarHandle" ∧ (parseMethodDescriptor y.1.desc).map (fun d => d.parameters.length) = some na) ∧ y.2.2.1 ≤ 20
def CN (y : MI) (na : Nat) : Prop := Cond.instanceMethod y.1 ∈ lw_g ∧ Cond.initialized y.1.cls ∈ lw_g ∧ Cond.code y.1 y.2.1 y.2.2.1 none ∈ lw_g ∧ y.2.2.2 = none ∧ y.1.name = "<init>" ∧ (y.1.cls ≠ "java/lang/invoke/MethodHandle" ∧ y.1.cls ≠ "java/lang/invoke/VarHandle" ∧ (parseMethodDescriptor y.1.desc).map (fun d => d.parameters.length) = some na) ∧ y.2.2.1 ≤ 20
def wS : List AV → Nat
  | [] => 0
  | (.inr (.inl _)) :: t => 2 + wS t
  | _ :: t => 1 + wS t
theorem wS_c (b : Nat) : ∀ S : List AV, ((S.map (cv b)).map fun v => v.category).sum = wS S
  | [] => rfl
  | .inl z :: t => by
    rw [List.map_cons, List.map_cons, List.sum_cons, wS_c b t]; rfl
  | .inr (.inl z) :: t => by
    rw [List.map_cons, List.map_cons, List.sum_cons, wS_c b t]; rfl
  | .inr (.inr o) :: t => by
    rw [List.map_cons, List.map_cons, List.sum_cons, wS_c b t]
    cases o <;> rfl
theorem PcA_blind {x : Cx} {n : Nat} {w : AW} {As : List AV} : FrameBlind (PcA x n w As) := by
  intro a U g mk q
  obtain ⟨q0, qK, qP, qs, qA⟩ := q
  exact ⟨q0, va_K.moved (u := U) (U := U.calling g mk a) (Vm.Alike.refl U.vm) qK, qP, qs, va_AO.moved (u := U) (U := U.calling g mk a) (Vm.Alike.refl U.vm) qA⟩
theorem entA_args (b : Nat) : ∀ (As : List AV) (k : Nat), lv_args k (As.map (cv b)) = lvL b k (entA As)
  | [], k => rfl
  | .inl z :: t, k => by
    show (k, cv b (.inl z)) :: lv_args (k + 1) (t.map (cv b)) = _
    rw [entA_args b t (k + 1)]; rfl
  | .inr (.inl z) :: t, k => by
    show (k, cv b (.inr (.inl z))) :: lv_args (k + 2) (t.map (cv b)) = _
    rw [entA_args b t (k + 2)]; rfl
  | .inr (.inr none) :: t, k => by
    show (k, cv b (.inr (.inr none))) :: lv_args (k + 1) (t.map (cv b)) = _
    rw [entA_args b t (k + 1)]; rfl
  | .inr (.inr (some j)) :: t, k => by
    show (k, cv b (.inr (.inr (some j)))) :: lv_args (k + 1) (t.map (cv b)) = _
    rw [entA_args b t (k + 1)]; rfl
theorem entA_len (b : Nat) : ∀ (As : List AV), (lg_sl (As.map (cv b))).length = (entA As).length
  | [] => rfl
  | .inl z :: t => by
    have := entA_len b t
    simp only [lg_sl, List.map_cons, List.flatMap_cons, List.length_append, entA, List.length_cons] at this ⊢
    rw [this]; show 1 + _ = _; omega
  | .inr (.inl z) :: t => by
    have := entA_len b t
    simp only [lg_sl, List.map_cons, List.flatMap_cons, List.length_append, entA, List.length_cons] at this ⊢
    rw [this]; show 2 + _ = _; omega
  | .inr (.inr none) :: t => by
    have := entA_len b t
    simp only [lg_sl, List.map_cons, List.flatMap_cons, List.length_append, entA, List.length_cons] at this ⊢
    rw [this]; show 1 + _ = _; omega
  | .inr (.inr (some j)) :: t => by
    have := entA_len b t
    simp only [lg_sl, List.map_cons, List.flatMap_cons, List.length_append, entA, List.length_cons] at this ⊢
    rw [this]; show 1 + _ = _; omega
theorem lk_app : ∀ (A B : List (Option AV)) (i : Nat) (v : AV), (∀ j u, lk B j ≠ some u) → lk (A ++ B) i = some v → lk A i = some v
  | [], B, i, v, hB, h => absurd h (hB i v)
  | a :: t, B, 0, v, hB, h => h
  | a :: t, B, i + 1, v, hB, h => lk_app t B i v hB h
theorem lk_rep : ∀ (k j : Nat) (u : AV), lk (List.replicate k none) j ≠ some u
  | 0, j, u => by simp [lk]
  | k + 1, 0, u => by simp [List.replicate, lk]
  | k + 1, j + 1, u => by
    rw [List.replicate_succ]
    exact lk_rep k j u
theorem w_oi : Cond.instanceMethod objectInit ∈ lw_g := List.mem_filter.mpr ⟨by decide +kernel, by decide +kernel⟩
theorem w_oc : Cond.code objectInit ⟨#[0xb1]⟩ 1 none ∈ lw_g := List.mem_filter.mpr ⟨by decide +kernel, by decide +kernel⟩
theorem w_mins : Cond.static Lib.Math.min.name ∈ lw_g := List.mem_filter.mpr ⟨by decide +kernel, by decide +kernel⟩
theorem w_mathi : Cond.initialized "java/lang/Math" ∈ lw_g := List.mem_filter.mpr ⟨by decide +kernel, by decide +kernel⟩
theorem w_minc : Cond.code Lib.Math.min.name Lib.Math.min.code 2 (some .int) ∈ lw_g := List.mem_filter.mpr ⟨by decide +kernel, by decide +kernel⟩
theorem w_abss : Cond.static Lib.Math.abs.name ∈ lw_g := List.mem_filter.mpr ⟨by decide +kernel, by decide +kernel⟩
theorem w_absc : Cond.code Lib.Math.abs.name Lib.Math.abs.code 1 (some .int) ∈ lw_g := List.mem_filter.mpr ⟨by decide +kernel, by decide +kernel⟩
theorem w_acn : Cond.native arraycopyName ∈ lw_g := List.mem_filter.mpr ⟨by decide +kernel, by decide +kernel⟩
theorem w_acs : Cond.static arraycopyName ∈ lw_g := List.mem_filter.mpr ⟨by decide +kernel, by decide +kernel⟩
theorem w_aci : Cond.initialized "java/lang/System" ∈ lw_g := List.mem_filter.mpr ⟨by decide +kernel, by decide +kernel⟩
section GC
variable {l : Launch} {x : Cx} {y : MI} {d mc ms nf : Nat} {Q : QT} {kc ks n : Nat} {w : AW} {pc nx tg : Nat} {L : List (Option AV)} {S : List AV}
theorem Mt.of {As : List AV} {L0 : List (Option AV)} (hy : plainName y.1.cls = true) (hlen : Nat.ble (entA As).length y.2.2.1 = true) (hL : entL As y.2.2.1 = L0) (k : Gj l x y d mc ms (n + mc) Q mc ms n w 0 L0 []) : Mt l x y d mc ms n w As Q := by
  refine Met.ofW (cc := y.2.1) (maxL := y.2.2.1) (ret := y.2.2.2) hy rfl ?_
  intro p e s m args below meth c s₁ B hml hv
  obtain ⟨rfl, hK, hP, hz, hAO⟩ := hv
  have hts : ∀ t ∈ lw_g, t.before (As.map (cv x.1)).toArray s = true := fun t ht => atoms_spec (ws := wsY y) B.pre t (List.mem_cons_of_mem _ ht)
  have hent := lv_entry (As.map (cv x.1)) (n := y.2.2.1) (by rw [entA_len]; exact Nat.le_of_ble_eq_true hlen)
  rw [lg_entry_eq]
  refine k p e s m _ below meth c s.heap [] 0 0 _ ⟨B.exec, B.bytes, B.returns, hml, findClass_of_methodNamed B.named, hts, B.notSynchronized, (name_of_methodNamed B.named B.method).1⟩ ⟨hK, hP, by omega, va_S.rf, by omega, hAO⟩ ⟨by omega, rfl⟩ (by omega) ?_
  refine ⟨hent.1, hent.2.1, fun q hq => hent.2.2 q ?_⟩
  rw [entA_args]
  obtain ⟨i, v, h1, rfl⟩ := (lvL_mem L0 0 q).mp hq
  refine (lvL_mem _ 0 _).mpr ⟨i, v, ?_, rfl⟩
  rw [← hL] at h1
  exact lk_app _ _ i v (lk_rep _) h1
theorem gj_iret {z : Int} (dg : AtI y pc .ireturn 1 nx) (hr : y.2.2.2 = some .int) (hq : Q (some (vI z)) w) : Gj l x y d mc ms n Q 0 ks n w pc L [vI z] := by
  intro p e s m args below meth c H locs cells slots ls F X h1 h2 hl
  obtain ⟨h1, -⟩ := h1
  refine W.widen (k := mc) (n := ms) (by omega) (by omega) ?_
  exact W.iret (v := iZ z) F.1 F.2.1 (F.2.2.1.trans hr) (fun t ht hW => ⟨⟨some (vI z), w, rfl, hq, va_K.moved hW.alike X.1, by rw [ht]; exact X.2.1⟩, X.2.2.2.1.F ht⟩) X.2.2.2.1.2.2 dg.1 F.2.2.2.2.2.2.1
theorem gj_zret {z : Int} (hz : z = 0 ∨ z = 1) (dg : AtI y pc .ireturn 1 nx) (hr : y.2.2.2 = some .boolean) (hq : Q (some (vI z)) w) : Gj l x y d mc ms n Q 0 ks n w pc L [vI z] := by
  intro p e s m args below meth c H locs cells slots ls F X h1 h2 hl
  obtain ⟨h1, -⟩ := h1
  refine W.widen (k := mc) (n := ms) (by omega) (by omega) ?_
  exact W.zret (v := iZ z) F.1 F.2.1 (F.2.2.1.trans hr) ((nar_Z hz) x.1).1 (fun t ht hW => ⟨⟨some (vI z), w, rfl, hq, va_K.moved hW.alike X.1, by rw [ht]; exact X.2.1⟩, X.2.2.2.1.F ht⟩) X.2.2.2.1.2.2 dg.1 F.2.2.2.2.2.2.1
theorem gj_lret {z : Int} (dg : AtI y pc .lreturn 1 nx) (hr : y.2.2.2 = some .long) (hq : Q (some (vL z)) w) : Gj l x y d mc ms n Q 0 ks n w pc L [vL z] := by
  intro p e s m args below meth c H locs cells slots ls F X h1 h2 hl
  obtain ⟨h1, -⟩ := h1
  refine W.widen (k := mc) (n := ms) (by omega) (by omega) ?_
  exact W.lret (v := lZ z) F.1 F.2.1 (F.2.2.1.trans hr) (fun t ht hW => ⟨⟨some (vL z), w, rfl, hq, va_K.moved hW.alike X.1, by rw [ht]; exact X.2.1⟩, X.2.2.2.1.F ht⟩) X.2.2.2.1.2.2 dg.1 F.2.2.2.2.2.2.1
theorem gj_vret (dg : AtI y pc .return_ 1 nx) (hr : y.2.2.2 = none) (hq : Q none w) : Gj l x y d mc ms n Q 0 ks n w pc L [] := by
  intro p e s m args below meth c H locs cells slots ls F X h1 h2 hl
  obtain ⟨h1, -⟩ := h1
  refine W.widen (k := mc) (n := ms) (by omega) (by omega) ?_
  exact W.vret F.1 F.2.1 (F.2.2.1.trans hr) (fun t ht hW => ⟨⟨none, w, rfl, hq, va_K.moved hW.alike X.1, by rw [ht]; exact X.2.1⟩, X.2.2.2.1.F ht⟩) X.2.2.2.1.2.2 dg.1 F.2.2.2.2.2.2.1
/-- behind a call -/
theorem gj_back {p : Program} {e : Env} {R : Room} {s : State} {m : MethodId} {args : Array Value} {below : List Frame} {meth : Method} {c : Code} {H : Heap} {locs : List Loc} {cells slots : Nat} {Z : State → Prop} {ls : Array Slot} {st0 : List Value} {rest : List AV} {a : Array Value} {n2 mc2 ms2 : Nat} {Q2 : QT}
    (hr : va_Run p l e R s m args below meth c H locs cells slots mc2 ms2 (F0 m pc ls st0) (rest.map (cv x.1)) (QcA x n2 Q2 a) (AX x)) (X : HX x n w s H locs cells) (hn2 : n2 = n + mc2)
    (kk : ∀ (v : Option AV) (w2 : AW) (H1 : Heap) (locs1 : List Loc), Q2 v w2 → HX x n2 w2 s H1 locs1 (cells + mc2) → W p l e R s m args below meth c H1 locs1 (cells + mc2) (slots + ms2) Z (F0 m (pc + 3) ls ((v.toList ++ rest).map (cv x.1)))) : W p l e R s m args below meth c H locs cells slots Z (F0 m pc ls st0) := by
  intro T hT X1
  obtain ⟨v, st₀, t, T', L9, h0, X', hL, e1, e2, ⟨⟨v2, w2, hv, hQ, hK2, hP2⟩, hz, hk⟩, st⟩ := hr T hT X1
  have hv : v = v2.map (cv x.1) := by
    injection hv
  subst hv
  rw [h0] at hz hk
  have hh : HX x n2 w2 s T'.heap (locs ++ L9) (cells + mc2) := by
    refine ⟨X.1, by rw [e1]; exact hP2, by have := X.2.2.1; omega, ⟨Nat.le_trans X.2.2.2.1.1 (by rw [e1]; exact hz), fun q g1 g2 => ?_, fun q hq => ?_⟩, X.2.2.2.2⟩
    · rw [e1, hk q (Nat.lt_of_lt_of_le g1 X.2.2.2.1.1) g2]
      exact X.2.2.2.1.2.1 q g1 g2
    · rcases List.mem_append.mp hq with h | h
      · exact X.2.2.2.1.2.2 q h
      · exact hL q h
  obtain ⟨t2, a1, b1⟩ := kk v2 w2 T'.heap (locs ++ L9) hQ hh T' rfl X'
  refine ⟨t2, st t2 ?_, b1⟩
  rw [List.map_append] at a1
  cases v2 <;> exact a1
theorem gj_callV {j ci k0 mc2 ms2 : Nat} {y2 : MI} {fs : List AV} {As S0 : List AV} {Q2 : QT} (dg : AtI y pc (.invokevirtual j) 3 nx) (hl : Cond.methodLink y.1.cls j y2.1 ∈ lw_g) (hc : CV y2 As.length ci) (hw : w k0 = cO ci fs) (hk : Nat.blt k0 n = true) (hd : 1 ≤ d) (hst : Nat.ble (wS S) 8 = true) (hS : S0 = As.reverse ++ vR k0 :: S) (hM : Mt l x y2 (d - 1) mc2 ms2 n w (vR k0 :: As) Q2)
    (kk : ∀ (v : Option AV) (w2 : AW), Q2 v w2 → Gj l x y d mc ms nf Q kc ks (n + mc2) w2 nx L (v.toList ++ S)) : Gj l x y d mc ms nf Q (kc + mc2) (ks + ms2) n w pc L S0 := by
  subst hS
  intro p e s m args below meth c H locs cells slots ls F X h1 h2 hlo
  refine gj_sz (fun hz0 => ?_)
  have hz := X.size hz0
  obtain ⟨c1, c2, c3, c4, c5, ⟨T, N, hci⟩, c6⟩ := hc
  have hk' : k0 < n := Nat.le_of_ble_eq_true hk
  have ht := F.2.2.2.2.2.1
  have cb : CallW (rmX d mc ms) s args y.1.cls y2.1.cls j y2.1 y2.2.1 y2.2.2.1 y2.2.2.2 (wsY y2) (rmX (d - 1) mc2 ms2) mc2 ms2 As.length := ⟨callB_of As.length ht (good_cw c4) rfl rfl rfl (ht _ c3) (ht _ hl) c5 ⟨show d - 1 + 1 ≤ d by omega, show 8 + (y2.2.2.1 + 11) + 40 * (d - 1) ≤ 40 * d by omega⟩, ht _ c1, ht _ c2⟩
  have hcell : (cw x n w)[k0]? = some (x.1 + k0, .inr (ci, fs.map (cv x.1))) := by rw [cw_at hk', hw]; rfl
  have hrun := va_runV (g := F0 m pc ls ((As.reverse ++ vR k0 :: S).map (cv x.1))) (As := As.map (cv x.1)) (b := x.1 + k0) (rest := S.map (cv x.1)) ⟨F.1, F.2.1, F.2.2.2.1, F.2.2.2.2.1, ht⟩ hM cb ⟨PcA_blind, va_recv X.1 X.2.1 hci hcell, fun U hU hW => ⟨rfl, va_K.moved hW.alike X.1, by rw [hU]; exact X.2.1, by rw [hU]; exact hz, va_AO.moved hW.alike X.2.2.2.2.2⟩⟩ rfl (by rw [List.length_map]) hlo.1 (by rw [List.map_append, List.map_reverse]; rfl) (lv_room (by rw [wS_c]; exact Nat.le_of_ble_eq_true hst)) dg.1 (locs := locs) (cells := cells) (slots := slots) (below := below) (e := e) (meth := meth) ⟨show cells + mc2 ≤ mc by omega, show slots + ms2 ≤ ms by omega⟩
  refine gj_back hrun X rfl (fun v w2 H1 locs1 hQ X1 => ?_)
  rw [dg.2]
  exact kk v w2 hQ p e s m args below meth c H1 locs1 (cells + mc2) (slots + ms2) ls F X1 ⟨by omega, by omega⟩ (by omega) hlo
theorem gj_callS {j mc2 ms2 : Nat} {y2 : MI} {As S0 : List AV} {Q2 : QT} (dg : AtI y pc (.invokestatic j) 3 nx) (hl : Cond.methodLink y.1.cls j y2.1 ∈ lw_g) (hc : CS y2 As.length) (hd : 1 ≤ d) (hst : Nat.ble (wS S) 8 = true) (hS : S0 = As.reverse ++ S) (hM : Mt l x y2 (d - 1) mc2 ms2 n w As Q2)
    (kk : ∀ (v : Option AV) (w2 : AW), Q2 v w2 → Gj l x y d mc ms nf Q kc ks (n + mc2) w2 nx L (v.toList ++ S)) : Gj l x y d mc ms nf Q (kc + mc2) (ks + ms2) n w pc L S0 := by
  subst hS
  intro p e s m args below meth c H locs cells slots ls F X h1 h2 hlo
  refine gj_sz (fun hz0 => ?_)
  have hz := X.size hz0
  obtain ⟨c1, c3, c4, c5, c6⟩ := hc
  have ht := F.2.2.2.2.2.1
  have hrun := va_runS (g := F0 m pc ls ((As.reverse ++ S).map (cv x.1))) (As := As.map (cv x.1)) (rest := S.map (cv x.1)) (R := rmX d mc ms) ⟨F.1, F.2.1, F.2.2.2.1, F.2.2.2.2.1, ht⟩ hM ⟨callB_of As.length ht (good_cw c4) rfl rfl rfl (ht _ c3) (ht _ hl) c5 ⟨show d - 1 + 1 ≤ d by omega, show 8 + (y2.2.2.1 + 11) + 40 * (d - 1) ≤ 40 * d by omega⟩, ht _ c1⟩ ⟨PcA_blind, fun U hU hW => ⟨rfl, va_K.moved hW.alike X.1, by rw [hU]; exact X.2.1, by rw [hU]; exact hz, va_AO.moved hW.alike X.2.2.2.2.2⟩⟩ rfl (by rw [List.length_map]) hlo.1 (by rw [List.map_append, List.map_reverse]) (lv_room (by rw [wS_c]; exact Nat.le_of_ble_eq_true hst)) dg.1 (locs := locs) (cells := cells) (slots := slots) (below := below) (e := e) (meth := meth) ⟨show cells + mc2 ≤ mc by omega, show slots + ms2 ≤ ms by omega⟩
  refine gj_back hrun X rfl (fun v w2 H1 locs1 hQ X1 => ?_)
  rw [dg.2]
  exact kk v w2 hQ p e s m args below meth c H1 locs1 (cells + mc2) (slots + ms2) ls F X1 ⟨by omega, by omega⟩ (by omega) hlo
theorem gj_callN {j k0 mc2 ms2 : Nat} {y2 : MI} {As S0 : List AV} {Q2 : QT} (dg : AtI y pc (.invokespecial j) 3 nx) (hl : Cond.methodLink y.1.cls j y2.1 ∈ lw_g) (hc : CN y2 As.length) (hd : 1 ≤ d) (hst : Nat.ble (wS S) 8 = true) (hS : S0 = As.reverse ++ vR k0 :: S) (hM : Mt l x y2 (d - 1) mc2 ms2 n w (vR k0 :: As) Q2)
    (kk : ∀ (v : Option AV) (w2 : AW), Q2 v w2 → Gj l x y d mc ms nf Q kc ks (n + mc2) w2 nx L (v.toList ++ S)) : Gj l x y d mc ms nf Q (kc + mc2) (ks + ms2) n w pc L S0 := by
  subst hS
  intro p e s m args below meth c H locs cells slots ls F X h1 h2 hlo
  refine gj_sz (fun hz0 => ?_)
  have hz := X.size hz0
  obtain ⟨c1, c3, c4, c7, c8, c5, c6⟩ := hc
  have ht := F.2.2.2.2.2.1
  have hg : GoodIn lw_g (wsY y2) := good_cw (by rw [c7]; exact c4)
  have hws : wsY y2 = Cond.code y2.1 y2.2.1 y2.2.2.1 none :: lw_g := by unfold wsY; rw [c7]
  have hrun := va_runI (g := F0 m pc ls ((As.reverse ++ vR k0 :: S).map (cv x.1))) (As := As.map (cv x.1)) (b := x.1 + k0) (rest := S.map (cv x.1)) (R := rmX d mc ms) ⟨F.1, F.2.1, F.2.2.2.1, F.2.2.2.2.1, ht⟩ hM (cwI As.length ht hg hws rfl rfl (ht _ c3) (ht _ hl) (ht _ c1) c8 c5 ⟨show d - 1 + 1 ≤ d by omega, show 8 + (y2.2.2.1 + 11) + 40 * (d - 1) ≤ 40 * d by omega⟩) ⟨PcA_blind, fun U hU hW => ⟨rfl, va_K.moved hW.alike X.1, by rw [hU]; exact X.2.1, by rw [hU]; exact hz, va_AO.moved hW.alike X.2.2.2.2.2⟩⟩ rfl (by rw [List.length_map]) hlo.1 (by rw [List.map_append, List.map_reverse]; rfl) (lv_room (by rw [wS_c]; exact Nat.le_of_ble_eq_true hst)) dg.1 (locs := locs) (cells := cells) (slots := slots) (below := below) (e := e) (meth := meth) ⟨show cells + mc2 ≤ mc by omega, show slots + ms2 ≤ ms by omega⟩
  refine gj_back hrun X rfl (fun v w2 H1 locs1 hQ X1 => ?_)
  rw [dg.2]
  exact kk v w2 hQ p e s m args below meth c H1 locs1 (cells + mc2) (slots + ms2) ls F X1 ⟨by omega, by omega⟩ (by omega) hlo
theorem gj_obj {j k0 : Nat} (dg : AtI y pc (.invokespecial j) 3 nx) (hl : Cond.methodLink y.1.cls j objectInit ∈ lw_g) (hd : 1 ≤ d) (hst : Nat.ble (wS S) 8 = true) (kk : Gj l x y d mc ms nf Q kc ks n w nx L S) : Gj l x y d mc ms nf Q kc ks n w pc L (vR k0 :: S) := by
  intro p e s m args below meth c H locs cells slots ls F X h1 h2 hlo
  have k2 := kk p e s m args below meth c H locs cells slots ls F X h1 h2 hlo
  rw [← dg.2] at k2
  have ht := F.2.2.2.2.2.1
  have hw : wS S ≤ 8 := Nat.le_of_ble_eq_true hst
  refine W.objInit (rest := S.map (cv x.1)) F.1 F.2.1 F.2.2.2.2.1 (ht _ hl) (ht _ w_oi) (ht _ w_oc) rfl (hlo.1.trans F.2.2.2.1.symm) rfl dg.1 hd ?_ k2
  rw [wS_c]
  show 2 * 0 + wS S + 12 ≤ 40 * d
  omega
theorem gj_min {j : Nat} {a b : Int} (dg : AtI y pc (.invokestatic j) 3 nx) (hl : Cond.methodLink y.1.cls j Lib.Math.min.name ∈ lw_g) (hd : 1 ≤ d) (hst : Nat.ble (wS S) 8 = true) (hr : R32 a ∧ R32 b) (kk : Gj l x y d mc ms nf Q kc ks n w nx L (vI (min a b) :: S)) : Gj l x y d mc ms nf Q kc ks n w pc L (vI b :: vI a :: S) := by
  intro p e s m args below meth c H locs cells slots ls F X h1 h2 hlo
  have k2 := kk p e s m args below meth c H locs cells slots ls F X h1 h2 hlo
  rw [← dg.2] at k2
  have ht := F.2.2.2.2.2.1
  have hw : wS S ≤ 8 := Nat.le_of_ble_eq_true hst
  refine va_mmin F.1 F.2.1 (F.2.2.2.1.trans hlo.1.symm) F.2.2.2.2.1 (ht _ hl) (ht _ w_mins) (ht _ w_mathi) (ht _ w_minc) hd (by rw [wS_c]; show wS S + 13 ≤ 40 * d; omega) (show cells ≤ mc by omega) (show slots ≤ ms by omega) dg.1 ?_
  have e1 : (if iZ b < iZ a then iZ b else iZ a) = iZ (min a b) := by
    simp only [iZ_lt hr.2 hr.1]
    by_cases h : b < a
    · rw [if_pos h, show min a b = b by omega]
    · rw [if_neg h, show min a b = a by omega]
  rw [e1]
  exact k2
theorem gj_abs {j : Nat} {a : Int} (dg : AtI y pc (.invokestatic j) 3 nx) (hl : Cond.methodLink y.1.cls j Lib.Math.abs.name ∈ lw_g) (hd : 1 ≤ d) (hst : Nat.ble (wS S) 8 = true) (hr : R32 a) (kk : Gj l x y d mc ms nf Q kc ks n w nx L (vI (max a (-a)) :: S)) : Gj l x y d mc ms nf Q kc ks n w pc L (vI a :: S) := by
  intro p e s m args below meth c H locs cells slots ls F X h1 h2 hlo
  have k2 := kk p e s m args below meth c H locs cells slots ls F X h1 h2 hlo
  rw [← dg.2] at k2
  have ht := F.2.2.2.2.2.1
  have hw : wS S ≤ 8 := Nat.le_of_ble_eq_true hst
  refine va_mabs F.1 F.2.1 (F.2.2.2.1.trans hlo.1.symm) F.2.2.2.2.1 (ht _ hl) (ht _ w_abss) (ht _ w_mathi) (ht _ w_absc) hd (by rw [wS_c]; show wS S + 13 ≤ 40 * d; omega) (show cells ≤ mc by omega) (show slots ≤ ms by omega) dg.1 ?_
  have e1 : (if 0 ≤ iZ a then iZ a else 0 - iZ a) = iZ (max a (-a)) := by
    have h0 : (0 : Int32) ≤ iZ a ↔ 0 ≤ a := by rw [← iZ_0]; exact iZ_le (by omega) hr
    simp only [h0]
    by_cases h : 0 ≤ a
    · rw [if_pos h, show max a (-a) = a by omega]
    · rw [if_neg h, show max a (-a) = 0 - a by omega, ← iZ_sub, iZ_0]
  rw [e1]
  exact k2
def cpf (f g : Int → Int) (sp dp c : Int) : Int → Int := fun j => if dp ≤ j ∧ j < dp + c then f (sp + (j - dp)) else g j
theorem gj_acopy {j k0 k1 N0 N1 : Nat} {f g : Int → Int} {sp dp c0 : Int} (dg : AtI y pc (.invokestatic j) 3 nx) (hl : Cond.methodLink y.1.cls j arraycopyName ∈ lw_g) (hd : 1 ≤ d) (hst : Nat.ble (wS S) 8 = true) (hw0 : w k0 = cI N0 f) (hk0 : Nat.blt k0 n = true) (hw1 : w k1 = cI N1 g) (hk1 : Nat.blt k1 n = true) (hN : Nat.ble N0 4096 = true ∧ Nat.ble N1 4096 = true) (hi : 0 ≤ sp ∧ 0 ≤ dp ∧ 0 ≤ c0 ∧ sp + c0 ≤ (N0 : Int) ∧ dp + c0 ≤ (N1 : Int)) (kk : Gj l x y d mc ms nf Q kc ks n (upw w k1 (cI N1 (cpf f g sp dp c0))) nx L S) : Gj l x y d mc ms nf Q kc ks n w pc L (vI c0 :: vI dp :: vR k1 :: vI sp :: vR k0 :: S) := by
  intro p e s m args below meth c H locs cells slots ls F X h1 h2 hlo
  have ht := F.2.2.2.2.2.1
  have hw : wS S ≤ 8 := Nat.le_of_ble_eq_true hst
  have hN0 := Nat.le_of_ble_eq_true hN.1
  have hN1 := Nat.le_of_ble_eq_true hN.2
  have hk0' : k0 < n := Nat.le_of_ble_eq_true hk0
  have hk1' : k1 < n := Nat.le_of_ble_eq_true hk1
  have hsp : R32 sp := by omega
  have hdp : R32 dp := by omega
  have hc0 : R32 c0 := by omega
  have hneg : ∀ {z : Int}, R32 z → 0 ≤ z → ¬ iZ z < 0 := fun hz h0 h => absurd ((iZ_lt (b := 0) hz (by omega)).mp (by rw [iZ_0]; exact h)) (by omega)
  refine va_copyi (D := x.2.1) (ty := .int) F.1 F.2.1 (F.2.2.2.1.trans hlo.1.symm) F.2.2.2.2.1 (ht _ hl) (ht _ w_acn) (ht _ w_acs) (ht _ w_aci) X.1 X.2.1 (cw_D x n w) X.2.2.2.1 k0 k1 0 0 (c0 := x.2.2.1) (c1 := x.2.2.1) (n0 := N0) (n1 := N1) (f := fun j => iZ (f (j : Int))) (g := fun j => iZ (g (j : Int))) (by rw [cw_at hk0', hw0]; rfl) (by rw [cw_at hk1', hw1]; rfl) rfl rfl rfl (hneg hsp hi.1) (hneg hdp hi.2.1) (hneg hc0 hi.2.2.1) (by rw [iZ_clamp hsp, iZ_clamp hc0]; omega) (by rw [iZ_clamp hdp, iZ_clamp hc0]; omega) (fun _ _ => rfl) hd (by rw [wS_c]; show wS S + (5 + 2 + 11) ≤ 40 * d; omega) dg.1 (fun H1 locs1 hP1 hD1 hS1 => ?_)
  rw [dg.2]
  refine kk p e s m args below meth c H1 locs1 cells slots ls F ⟨X.1, ?_, X.2.2.1, hS1, X.2.2.2.2⟩ h1 h2 hlo
  rw [← cw_set hk1']
  have e1 : va_cpy (fun j => iZ (f (j : Int))) (fun j => iZ (g (j : Int))) (iZ sp).toNatClampNeg (iZ dp).toNatClampNeg (iZ c0).toNatClampNeg = fun q : Nat => iZ (cpf f g sp dp c0 (q : Int)) := by
    funext q
    rw [iZ_clamp hsp, iZ_clamp hdp, iZ_clamp hc0]
    unfold va_cpy cpf
    by_cases h : dp ≤ (q : Int) ∧ (q : Int) < dp + c0
    · have e9 : ((sp.toNat + (q - dp.toNat) : Nat) : Int) = sp + ((q : Int) - dp) := by omega
      rw [if_pos h, if_pos (by omega), ← e9]
    · rw [if_neg h, if_neg (by omega)]
  rw [e1] at hP1
  exact hP1
end GC
end
section
/-! rows of Gj with locals, fields and stacks written out: no list is left to compute -/
/-- what a method that only reads answers; what one that writes answers, and the world behind it -/
def Rd (r : AV) (w : AW) : QT := fun v w2 => v = some r ∧ w2 = w
def Wr (r : AV) (P : AW → Prop) : QT := fun v w2 => v = some r ∧ P w2
def Wv (P : AW → Prop) : QT := fun v w2 => v = none ∧ P w2
section GF
variable {l : Launch} {x : Cx} {y : MI} {d mc ms nf : Nat} {Q : QT} {kc ks n : Nat} {w : AW} {pc nx tg : Nat} {t : List (Option AV)} {S : List AV}
theorem gj_il0 {z : Int} (dg : AtI y pc (.iload_n 0) 1 nx) (k : Gj l x y d mc ms nf Q kc ks n w nx (some (vI z) :: t) (vI z :: S)) : Gj l x y d mc ms nf Q kc ks n w pc (some (vI z) :: t) S := gj_iload_n (i := 0) dg rfl k
theorem gj_ll0 {z : Int} (dg : AtI y pc (.lload_n 0) 1 nx) (k : Gj l x y d mc ms nf Q kc ks n w nx (some (vL z) :: t) (vL z :: S)) : Gj l x y d mc ms nf Q kc ks n w pc (some (vL z) :: t) S := gj_lload_n (i := 0) dg rfl k
theorem gj_al0 {z : Nat} (dg : AtI y pc (.aload_n 0) 1 nx) (k : Gj l x y d mc ms nf Q kc ks n w nx (some (vR z) :: t) (vR z :: S)) : Gj l x y d mc ms nf Q kc ks n w pc (some (vR z) :: t) S := gj_aload_n (i := 0) dg rfl k
theorem gj_is0 {a0 : Option AV} {z : Int} (dg : AtI y pc (.istore_n 0) 1 nx) (hn : Nat.blt 0 y.2.2.1 = true) (hok : okS (a0 :: t) 0 = true) (k : Gj l x y d mc ms nf Q kc ks n w nx (some (vI z) :: t) S) : Gj l x y d mc ms nf Q kc ks n w pc (a0 :: t) (vI z :: S) := gj_istore_n (i := 0) dg hn hok k
theorem gj_as0 {a0 : Option AV} {z : Nat} (dg : AtI y pc (.astore_n 0) 1 nx) (hn : Nat.blt 0 y.2.2.1 = true) (hok : okS (a0 :: t) 0 = true) (k : Gj l x y d mc ms nf Q kc ks n w nx (some (vR z) :: t) S) : Gj l x y d mc ms nf Q kc ks n w pc (a0 :: t) (vR z :: S) := gj_astore_n (i := 0) dg hn hok k
theorem gj_ls0 {a0 : Option AV} {b1 : Option AV} {z : Int} (dg : AtI y pc (.lstore_n 0) 1 nx) (hn : Nat.blt (0 + 1) y.2.2.1 = true) (hok : okS (a0 :: b1 :: t) 0 = true) (k : Gj l x y d mc ms nf Q kc ks n w nx (some (vL z) :: none :: t) S) : Gj l x y d mc ms nf Q kc ks n w pc (a0 :: b1 :: t) (vL z :: S) := gj_lstore_n (i := 0) dg hn hok k
theorem gj_ii0 {z a : Int} (dg : AtI y pc (.iinc 0 z) 3 nx) (hn : Nat.blt 0 y.2.2.1 = true) (hok : okS (some (vI a) :: t) 0 = true) (k : Gj l x y d mc ms nf Q kc ks n w nx (some (vI (a + z)) :: t) S) : Gj l x y d mc ms nf Q kc ks n w pc (some (vI a) :: t) S := gj_iinc (i := 0) dg hn hok rfl k
theorem gj_il1 {a0 : Option AV} {z : Int} (dg : AtI y pc (.iload_n 1) 1 nx) (k : Gj l x y d mc ms nf Q kc ks n w nx (a0 :: some (vI z) :: t) (vI z :: S)) : Gj l x y d mc ms nf Q kc ks n w pc (a0 :: some (vI z) :: t) S := gj_iload_n (i := 1) dg rfl k
theorem gj_ll1 {a0 : Option AV} {z : Int} (dg : AtI y pc (.lload_n 1) 1 nx) (k : Gj l x y d mc ms nf Q kc ks n w nx (a0 :: some (vL z) :: t) (vL z :: S)) : Gj l x y d mc ms nf Q kc ks n w pc (a0 :: some (vL z) :: t) S := gj_lload_n (i := 1) dg rfl k
theorem gj_al1 {a0 : Option AV} {z : Nat} (dg : AtI y pc (.aload_n 1) 1 nx) (k : Gj l x y d mc ms nf Q kc ks n w nx (a0 :: some (vR z) :: t) (vR z :: S)) : Gj l x y d mc ms nf Q kc ks n w pc (a0 :: some (vR z) :: t) S := gj_aload_n (i := 1) dg rfl k
theorem gj_is1 {a0 a1 : Option AV} {z : Int} (dg : AtI y pc (.istore_n 1) 1 nx) (hn : Nat.blt 1 y.2.2.1 = true) (hok : okS (a0 :: a1 :: t) 1 = true) (k : Gj l x y d mc ms nf Q kc ks n w nx (a0 :: some (vI z) :: t) S) : Gj l x y d mc ms nf Q kc ks n w pc (a0 :: a1 :: t) (vI z :: S) := gj_istore_n (i := 1) dg hn hok k
theorem gj_as1 {a0 a1 : Option AV} {z : Nat} (dg : AtI y pc (.astore_n 1) 1 nx) (hn : Nat.blt 1 y.2.2.1 = true) (hok : okS (a0 :: a1 :: t) 1 = true) (k : Gj l x y d mc ms nf Q kc ks n w nx (a0 :: some (vR z) :: t) S) : Gj l x y d mc ms nf Q kc ks n w pc (a0 :: a1 :: t) (vR z :: S) := gj_astore_n (i := 1) dg hn hok k
theorem gj_ls1 {a0 a1 : Option AV} {b1 : Option AV} {z : Int} (dg : AtI y pc (.lstore_n 1) 1 nx) (hn : Nat.blt (1 + 1) y.2.2.1 = true) (hok : okS (a0 :: a1 :: b1 :: t) 1 = true) (k : Gj l x y d mc ms nf Q kc ks n w nx (a0 :: some (vL z) :: none :: t) S) : Gj l x y d mc ms nf Q kc ks n w pc (a0 :: a1 :: b1 :: t) (vL z :: S) := gj_lstore_n (i := 1) dg hn hok k
theorem gj_ii1 {a0 : Option AV} {z a : Int} (dg : AtI y pc (.iinc 1 z) 3 nx) (hn : Nat.blt 1 y.2.2.1 = true) (hok : okS (a0 :: some (vI a) :: t) 1 = true) (k : Gj l x y d mc ms nf Q kc ks n w nx (a0 :: some (vI (a + z)) :: t) S) : Gj l x y d mc ms nf Q kc ks n w pc (a0 :: some (vI a) :: t) S := gj_iinc (i := 1) dg hn hok rfl k
theorem gj_il2 {a0 a1 : Option AV} {z : Int} (dg : AtI y pc (.iload_n 2) 1 nx) (k : Gj l x y d mc ms nf Q kc ks n w nx (a0 :: a1 :: some (vI z) :: t) (vI z :: S)) : Gj l x y d mc ms nf Q kc ks n w pc (a0 :: a1 :: some (vI z) :: t) S := gj_iload_n (i := 2) dg rfl k
theorem gj_ll2 {a0 a1 : Option AV} {z : Int} (dg : AtI y pc (.lload_n 2) 1 nx) (k : Gj l x y d mc ms nf Q kc ks n w nx (a0 :: a1 :: some (vL z) :: t) (vL z :: S)) : Gj l x y d mc ms nf Q kc ks n w pc (a0 :: a1 :: some (vL z) :: t) S := gj_lload_n (i := 2) dg rfl k
theorem gj_al2 {a0 a1 : Option AV} {z : Nat} (dg : AtI y pc (.aload_n 2) 1 nx) (k : Gj l x y d mc ms nf Q kc ks n w nx (a0 :: a1 :: some (vR z) :: t) (vR z :: S)) : Gj l x y d mc ms nf Q kc ks n w pc (a0 :: a1 :: some (vR z) :: t) S := gj_aload_n (i := 2) dg rfl k
theorem gj_is2 {a0 a1 a2 : Option AV} {z : Int} (dg : AtI y pc (.istore_n 2) 1 nx) (hn : Nat.blt 2 y.2.2.1 = true) (hok : okS (a0 :: a1 :: a2 :: t) 2 = true) (k : Gj l x y d mc ms nf Q kc ks n w nx (a0 :: a1 :: some (vI z) :: t) S) : Gj l x y d mc ms nf Q kc ks n w pc (a0 :: a1 :: a2 :: t) (vI z :: S) := gj_istore_n (i := 2) dg hn hok k
theorem gj_as2 {a0 a1 a2 : Option AV} {z : Nat} (dg : AtI y pc (.astore_n 2) 1 nx) (hn : Nat.blt 2 y.2.2.1 = true) (hok : okS (a0 :: a1 :: a2 :: t) 2 = true) (k : Gj l x y d mc ms nf Q kc ks n w nx (a0 :: a1 :: some (vR z) :: t) S) : Gj l x y d mc ms nf Q kc ks n w pc (a0 :: a1 :: a2 :: t) (vR z :: S) := gj_astore_n (i := 2) dg hn hok k
theorem gj_ls2 {a0 a1 a2 : Option AV} {b1 : Option AV} {z : Int} (dg : AtI y pc (.lstore_n 2) 1 nx) (hn : Nat.blt (2 + 1) y.2.2.1 = true) (hok : okS (a0 :: a1 :: a2 :: b1 :: t) 2 = true) (k : Gj l x y d mc ms nf Q kc ks n w nx (a0 :: a1 :: some (vL z) :: none :: t) S) : Gj l x y d mc ms nf Q kc ks n w pc (a0 :: a1 :: a2 :: b1 :: t) (vL z :: S) := gj_lstore_n (i := 2) dg hn hok k
theorem gj_ii2 {a0 a1 : Option AV} {z a : Int} (dg : AtI y pc (.iinc 2 z) 3 nx) (hn : Nat.blt 2 y.2.2.1 = true) (hok : okS (a0 :: a1 :: some (vI a) :: t) 2 = true) (k : Gj l x y d mc ms nf Q kc ks n w nx (a0 :: a1 :: some (vI (a + z)) :: t) S) : Gj l x y d mc ms nf Q kc ks n w pc (a0 :: a1 :: some (vI a) :: t) S := gj_iinc (i := 2) dg hn hok rfl k
theorem gj_il3 {a0 a1 a2 : Option AV} {z : Int} (dg : AtI y pc (.iload_n 3) 1 nx) (k : Gj l x y d mc ms nf Q kc ks n w nx (a0 :: a1 :: a2 :: some (vI z) :: t) (vI z :: S)) : Gj l x y d mc ms nf Q kc ks n w pc (a0 :: a1 :: a2 :: some (vI z) :: t) S := gj_iload_n (i := 3) dg rfl k
theorem gj_ll3 {a0 a1 a2 : Option AV} {z : Int} (dg : AtI y pc (.lload_n 3) 1 nx) (k : Gj l x y d mc ms nf Q kc ks n w nx (a0 :: a1 :: a2 :: some (vL z) :: t) (vL z :: S)) : Gj l x y d mc ms nf Q kc ks n w pc (a0 :: a1 :: a2 :: some (vL z) :: t) S := gj_lload_n (i := 3) dg rfl k
theorem gj_al3 {a0 a1 a2 : Option AV} {z : Nat} (dg : AtI y pc (.aload_n 3) 1 nx) (k : Gj l x y d mc ms nf Q kc ks n w nx (a0 :: a1 :: a2 :: some (vR z) :: t) (vR z :: S)) : Gj l x y d mc ms nf Q kc ks n w pc (a0 :: a1 :: a2 :: some (vR z) :: t) S := gj_aload_n (i := 3) dg rfl k
theorem gj_is3 {a0 a1 a2 a3 : Option AV} {z : Int} (dg : AtI y pc (.istore_n 3) 1 nx) (hn : Nat.blt 3 y.2.2.1 = true) (hok : okS (a0 :: a1 :: a2 :: a3 :: t) 3 = true) (k : Gj l x y d mc ms nf Q kc ks n w nx (a0 :: a1 :: a2 :: some (vI z) :: t) S) : Gj l x y d mc ms nf Q kc ks n w pc (a0 :: a1 :: a2 :: a3 :: t) (vI z :: S) := gj_istore_n (i := 3) dg hn hok k
theorem gj_as3 {a0 a1 a2 a3 : Option AV} {z : Nat} (dg : AtI y pc (.astore_n 3) 1 nx) (hn : Nat.blt 3 y.2.2.1 = true) (hok : okS (a0 :: a1 :: a2 :: a3 :: t) 3 = true) (k : Gj l x y d mc ms nf Q kc ks n w nx (a0 :: a1 :: a2 :: some (vR z) :: t) S) : Gj l x y d mc ms nf Q kc ks n w pc (a0 :: a1 :: a2 :: a3 :: t) (vR z :: S) := gj_astore_n (i := 3) dg hn hok k
theorem gj_ls3 {a0 a1 a2 a3 : Option AV} {b1 : Option AV} {z : Int} (dg : AtI y pc (.lstore_n 3) 1 nx) (hn : Nat.blt (3 + 1) y.2.2.1 = true) (hok : okS (a0 :: a1 :: a2 :: a3 :: b1 :: t) 3 = true) (k : Gj l x y d mc ms nf Q kc ks n w nx (a0 :: a1 :: a2 :: some (vL z) :: none :: t) S) : Gj l x y d mc ms nf Q kc ks n w pc (a0 :: a1 :: a2 :: a3 :: b1 :: t) (vL z :: S) := gj_lstore_n (i := 3) dg hn hok k
theorem gj_ii3 {a0 a1 a2 : Option AV} {z a : Int} (dg : AtI y pc (.iinc 3 z) 3 nx) (hn : Nat.blt 3 y.2.2.1 = true) (hok : okS (a0 :: a1 :: a2 :: some (vI a) :: t) 3 = true) (k : Gj l x y d mc ms nf Q kc ks n w nx (a0 :: a1 :: a2 :: some (vI (a + z)) :: t) S) : Gj l x y d mc ms nf Q kc ks n w pc (a0 :: a1 :: a2 :: some (vI a) :: t) S := gj_iinc (i := 3) dg hn hok rfl k
theorem gj_il4 {a0 a1 a2 a3 : Option AV} {z : Int} (dg : AtI y pc (.iload 4) 2 nx) (k : Gj l x y d mc ms nf Q kc ks n w nx (a0 :: a1 :: a2 :: a3 :: some (vI z) :: t) (vI z :: S)) : Gj l x y d mc ms nf Q kc ks n w pc (a0 :: a1 :: a2 :: a3 :: some (vI z) :: t) S := gj_iload (i := 4) dg rfl k
theorem gj_ll4 {a0 a1 a2 a3 : Option AV} {z : Int} (dg : AtI y pc (.lload 4) 2 nx) (k : Gj l x y d mc ms nf Q kc ks n w nx (a0 :: a1 :: a2 :: a3 :: some (vL z) :: t) (vL z :: S)) : Gj l x y d mc ms nf Q kc ks n w pc (a0 :: a1 :: a2 :: a3 :: some (vL z) :: t) S := gj_lload (i := 4) dg rfl k
theorem gj_al4 {a0 a1 a2 a3 : Option AV} {z : Nat} (dg : AtI y pc (.aload 4) 2 nx) (k : Gj l x y d mc ms nf Q kc ks n w nx (a0 :: a1 :: a2 :: a3 :: some (vR z) :: t) (vR z :: S)) : Gj l x y d mc ms nf Q kc ks n w pc (a0 :: a1 :: a2 :: a3 :: some (vR z) :: t) S := gj_aload (i := 4) dg rfl k
theorem gj_is4 {a0 a1 a2 a3 a4 : Option AV} {z : Int} (dg : AtI y pc (.istore 4) 2 nx) (hn : Nat.blt 4 y.2.2.1 = true) (hok : okS (a0 :: a1 :: a2 :: a3 :: a4 :: t) 4 = true) (k : Gj l x y d mc ms nf Q kc ks n w nx (a0 :: a1 :: a2 :: a3 :: some (vI z) :: t) S) : Gj l x y d mc ms nf Q kc ks n w pc (a0 :: a1 :: a2 :: a3 :: a4 :: t) (vI z :: S) := gj_istore (i := 4) dg hn hok k
theorem gj_as4 {a0 a1 a2 a3 a4 : Option AV} {z : Nat} (dg : AtI y pc (.astore 4) 2 nx) (hn : Nat.blt 4 y.2.2.1 = true) (hok : okS (a0 :: a1 :: a2 :: a3 :: a4 :: t) 4 = true) (k : Gj l x y d mc ms nf Q kc ks n w nx (a0 :: a1 :: a2 :: a3 :: some (vR z) :: t) S) : Gj l x y d mc ms nf Q kc ks n w pc (a0 :: a1 :: a2 :: a3 :: a4 :: t) (vR z :: S) := gj_astore (i := 4) dg hn hok k
theorem gj_ls4 {a0 a1 a2 a3 a4 : Option AV} {b1 : Option AV} {z : Int} (dg : AtI y pc (.lstore 4) 2 nx) (hn : Nat.blt (4 + 1) y.2.2.1 = true) (hok : okS (a0 :: a1 :: a2 :: a3 :: a4 :: b1 :: t) 4 = true) (k : Gj l x y d mc ms nf Q kc ks n w nx (a0 :: a1 :: a2 :: a3 :: some (vL z) :: none :: t) S) : Gj l x y d mc ms nf Q kc ks n w pc (a0 :: a1 :: a2 :: a3 :: a4 :: b1 :: t) (vL z :: S) := gj_lstore (i := 4) dg hn hok k
theorem gj_ii4 {a0 a1 a2 a3 : Option AV} {z a : Int} (dg : AtI y pc (.iinc 4 z) 3 nx) (hn : Nat.blt 4 y.2.2.1 = true) (hok : okS (a0 :: a1 :: a2 :: a3 :: some (vI a) :: t) 4 = true) (k : Gj l x y d mc ms nf Q kc ks n w nx (a0 :: a1 :: a2 :: a3 :: some (vI (a + z)) :: t) S) : Gj l x y d mc ms nf Q kc ks n w pc (a0 :: a1 :: a2 :: a3 :: some (vI a) :: t) S := gj_iinc (i := 4) dg hn hok rfl k
theorem gj_il5 {a0 a1 a2 a3 a4 : Option AV} {z : Int} (dg : AtI y pc (.iload 5) 2 nx) (k : Gj l x y d mc ms nf Q kc ks n w nx (a0 :: a1 :: a2 :: a3 :: a4 :: some (vI z) :: t) (vI z :: S)) : Gj l x y d mc ms nf Q kc ks n w pc (a0 :: a1 :: a2 :: a3 :: a4 :: some (vI z) :: t) S := gj_iload (i := 5) dg rfl k
theorem gj_ll5 {a0 a1 a2 a3 a4 : Option AV} {z : Int} (dg : AtI y pc (.lload 5) 2 nx) (k : Gj l x y d mc ms nf Q kc ks n w nx (a0 :: a1 :: a2 :: a3 :: a4 :: some (vL z) :: t) (vL z :: S)) : Gj l x y d mc ms nf Q kc ks n w pc (a0 :: a1 :: a2 :: a3 :: a4 :: some (vL z) :: t) S := gj_lload (i := 5) dg rfl k
theorem gj_al5 {a0 a1 a2 a3 a4 : Option AV} {z : Nat} (dg : AtI y pc (.aload 5) 2 nx) (k : Gj l x y d mc ms nf Q kc ks n w nx (a0 :: a1 :: a2 :: a3 :: a4 :: some (vR z) :: t) (vR z :: S)) : Gj l x y d mc ms nf Q kc ks n w pc (a0 :: a1 :: a2 :: a3 :: a4 :: some (vR z) :: t) S := gj_aload (i := 5) dg rfl k
theorem gj_is5 {a0 a1 a2 a3 a4 a5 : Option AV} {z : Int} (dg : AtI y pc (.istore 5) 2 nx) (hn : Nat.blt 5 y.2.2.1 = true) (hok : okS (a0 :: a1 :: a2 :: a3 :: a4 :: a5 :: t) 5 = true) (k : Gj l x y d mc ms nf Q kc ks n w nx (a0 :: a1 :: a2 :: a3 :: a4 :: some (vI z) :: t) S) : Gj l x y d mc ms nf Q kc ks n w pc (a0 :: a1 :: a2 :: a3 :: a4 :: a5 :: t) (vI z :: S) := gj_istore (i := 5) dg hn hok k
theorem gj_as5 {a0 a1 a2 a3 a4 a5 : Option AV} {z : Nat} (dg : AtI y pc (.astore 5) 2 nx) (hn : Nat.blt 5 y.2.2.1 = true) (hok : okS (a0 :: a1 :: a2 :: a3 :: a4 :: a5 :: t) 5 = true) (k : Gj l x y d mc ms nf Q kc ks n w nx (a0 :: a1 :: a2 :: a3 :: a4 :: some (vR z) :: t) S) : Gj l x y d mc ms nf Q kc ks n w pc (a0 :: a1 :: a2 :: a3 :: a4 :: a5 :: t) (vR z :: S) := gj_astore (i := 5) dg hn hok k
theorem gj_ls5 {a0 a1 a2 a3 a4 a5 : Option AV} {b1 : Option AV} {z : Int} (dg : AtI y pc (.lstore 5) 2 nx) (hn : Nat.blt (5 + 1) y.2.2.1 = true) (hok : okS (a0 :: a1 :: a2 :: a3 :: a4 :: a5 :: b1 :: t) 5 = true) (k : Gj l x y d mc ms nf Q kc ks n w nx (a0 :: a1 :: a2 :: a3 :: a4 :: some (vL z) :: none :: t) S) : Gj l x y d mc ms nf Q kc ks n w pc (a0 :: a1 :: a2 :: a3 :: a4 :: a5 :: b1 :: t) (vL z :: S) := gj_lstore (i := 5) dg hn hok k
theorem gj_ii5 {a0 a1 a2 a3 a4 : Option AV} {z a : Int} (dg : AtI y pc (.iinc 5 z) 3 nx) (hn : Nat.blt 5 y.2.2.1 = true) (hok : okS (a0 :: a1 :: a2 :: a3 :: a4 :: some (vI a) :: t) 5 = true) (k : Gj l x y d mc ms nf Q kc ks n w nx (a0 :: a1 :: a2 :: a3 :: a4 :: some (vI (a + z)) :: t) S) : Gj l x y d mc ms nf Q kc ks n w pc (a0 :: a1 :: a2 :: a3 :: a4 :: some (vI a) :: t) S := gj_iinc (i := 5) dg hn hok rfl k
theorem gj_il6 {a0 a1 a2 a3 a4 a5 : Option AV} {z : Int} (dg : AtI y pc (.iload 6) 2 nx) (k : Gj l x y d mc ms nf Q kc ks n w nx (a0 :: a1 :: a2 :: a3 :: a4 :: a5 :: some (vI z) :: t) (vI z :: S)) : Gj l x y d mc ms nf Q kc ks n w pc (a0 :: a1 :: a2 :: a3 :: a4 :: a5 :: some (vI z) :: t) S := gj_iload (i := 6) dg rfl k
theorem gj_ll6 {a0 a1 a2 a3 a4 a5 : Option AV} {z : Int} (dg : AtI y pc (.lload 6) 2 nx) (k : Gj l x y d mc ms nf Q kc ks n w nx (a0 :: a1 :: a2 :: a3 :: a4 :: a5 :: some (vL z) :: t) (vL z :: S)) : Gj l x y d mc ms nf Q kc ks n w pc (a0 :: a1 :: a2 :: a3 :: a4 :: a5 :: some (vL z) :: t) S := gj_lload (i := 6) dg rfl k
theorem gj_al6 {a0 a1 a2 a3 a4 a5 : Option AV} {z : Nat} (dg : AtI y pc (.aload 6) 2 nx) (k : Gj l x y d mc ms nf Q kc ks n w nx (a0 :: a1 :: a2 :: a3 :: a4 :: a5 :: some (vR z) :: t) (vR z :: S)) : Gj l x y d mc ms nf Q kc ks n w pc (a0 :: a1 :: a2 :: a3 :: a4 :: a5 :: some (vR z) :: t) S := gj_aload (i := 6) dg rfl k
theorem gj_is6 {a0 a1 a2 a3 a4 a5 a6 : Option AV} {z : Int} (dg : AtI y pc (.istore 6) 2 nx) (hn : Nat.blt 6 y.2.2.1 = true) (hok : okS (a0 :: a1 :: a2 :: a3 :: a4 :: a5 :: a6 :: t) 6 = true) (k : Gj l x y d mc ms nf Q kc ks n w nx (a0 :: a1 :: a2 :: a3 :: a4 :: a5 :: some (vI z) :: t) S) : Gj l x y d mc ms nf Q kc ks n w pc (a0 :: a1 :: a2 :: a3 :: a4 :: a5 :: a6 :: t) (vI z :: S) := gj_istore (i := 6) dg hn hok k
theorem gj_as6 {a0 a1 a2 a3 a4 a5 a6 : Option AV} {z : Nat} (dg : AtI y pc (.astore 6) 2 nx) (hn : Nat.blt 6 y.2.2.1 = true) (hok : okS (a0 :: a1 :: a2 :: a3 :: a4 :: a5 :: a6 :: t) 6 = true) (k : Gj l x y d mc ms nf Q kc ks n w nx (a0 :: a1 :: a2 :: a3 :: a4 :: a5 :: some (vR z) :: t) S) : Gj l x y d mc ms nf Q kc ks n w pc (a0 :: a1 :: a2 :: a3 :: a4 :: a5 :: a6 :: t) (vR z :: S) := gj_astore (i := 6) dg hn hok k
theorem gj_ls6 {a0 a1 a2 a3 a4 a5 a6 : Option AV} {b1 : Option AV} {z : Int} (dg : AtI y pc (.lstore 6) 2 nx) (hn : Nat.blt (6 + 1) y.2.2.1 = true) (hok : okS (a0 :: a1 :: a2 :: a3 :: a4 :: a5 :: a6 :: b1 :: t) 6 = true) (k : Gj l x y d mc ms nf Q kc ks n w nx (a0 :: a1 :: a2 :: a3 :: a4 :: a5 :: some (vL z) :: none :: t) S) : Gj l x y d mc ms nf Q kc ks n w pc (a0 :: a1 :: a2 :: a3 :: a4 :: a5 :: a6 :: b1 :: t) (vL z :: S) := gj_lstore (i := 6) dg hn hok k
theorem gj_ii6 {a0 a1 a2 a3 a4 a5 : Option AV} {z a : Int} (dg : AtI y pc (.iinc 6 z) 3 nx) (hn : Nat.blt 6 y.2.2.1 = true) (hok : okS (a0 :: a1 :: a2 :: a3 :: a4 :: a5 :: some (vI a) :: t) 6 = true) (k : Gj l x y d mc ms nf Q kc ks n w nx (a0 :: a1 :: a2 :: a3 :: a4 :: a5 :: some (vI (a + z)) :: t) S) : Gj l x y d mc ms nf Q kc ks n w pc (a0 :: a1 :: a2 :: a3 :: a4 :: a5 :: some (vI a) :: t) S := gj_iinc (i := 6) dg hn hok rfl k
theorem gj_il7 {a0 a1 a2 a3 a4 a5 a6 : Option AV} {z : Int} (dg : AtI y pc (.iload 7) 2 nx) (k : Gj l x y d mc ms nf Q kc ks n w nx (a0 :: a1 :: a2 :: a3 :: a4 :: a5 :: a6 :: some (vI z) :: t) (vI z :: S)) : Gj l x y d mc ms nf Q kc ks n w pc (a0 :: a1 :: a2 :: a3 :: a4 :: a5 :: a6 :: some (vI z) :: t) S := gj_iload (i := 7) dg rfl k
theorem gj_ll7 {a0 a1 a2 a3 a4 a5 a6 : Option AV} {z : Int} (dg : AtI y pc (.lload 7) 2 nx) (k : Gj l x y d mc ms nf Q kc ks n w nx (a0 :: a1 :: a2 :: a3 :: a4 :: a5 :: a6 :: some (vL z) :: t) (vL z :: S)) : Gj l x y d mc ms nf Q kc ks n w pc (a0 :: a1 :: a2 :: a3 :: a4 :: a5 :: a6 :: some (vL z) :: t) S := gj_lload (i := 7) dg rfl k
theorem gj_al7 {a0 a1 a2 a3 a4 a5 a6 : Option AV} {z : Nat} (dg : AtI y pc (.aload 7) 2 nx) (k : Gj l x y d mc ms nf Q kc ks n w nx (a0 :: a1 :: a2 :: a3 :: a4 :: a5 :: a6 :: some (vR z) :: t) (vR z :: S)) : Gj l x y d mc ms nf Q kc ks n w pc (a0 :: a1 :: a2 :: a3 :: a4 :: a5 :: a6 :: some (vR z) :: t) S := gj_aload (i := 7) dg rfl k
theorem gj_is7 {a0 a1 a2 a3 a4 a5 a6 a7 : Option AV} {z : Int} (dg : AtI y pc (.istore 7) 2 nx) (hn : Nat.blt 7 y.2.2.1 = true) (hok : okS (a0 :: a1 :: a2 :: a3 :: a4 :: a5 :: a6 :: a7 :: t) 7 = true) (k : Gj l x y d mc ms nf Q kc ks n w nx (a0 :: a1 :: a2 :: a3 :: a4 :: a5 :: a6 :: some (vI z) :: t) S) : Gj l x y d mc ms nf Q kc ks n w pc (a0 :: a1 :: a2 :: a3 :: a4 :: a5 :: a6 :: a7 :: t) (vI z :: S) := gj_istore (i := 7) dg hn hok k
theorem gj_as7 {a0 a1 a2 a3 a4 a5 a6 a7 : Option AV} {z : Nat} (dg : AtI y pc (.astore 7) 2 nx) (hn : Nat.blt 7 y.2.2.1 = true) (hok : okS (a0 :: a1 :: a2 :: a3 :: a4 :: a5 :: a6 :: a7 :: t) 7 = true) (k : Gj l x y d mc ms nf Q kc ks n w nx (a0 :: a1 :: a2 :: a3 :: a4 :: a5 :: a6 :: some (vR z) :: t) S) : Gj l x y d mc ms nf Q kc ks n w pc (a0 :: a1 :: a2 :: a3 :: a4 :: a5 :: a6 :: a7 :: t) (vR z :: S) := gj_astore (i := 7) dg hn hok k
theorem gj_ls7 {a0 a1 a2 a3 a4 a5 a6 a7 : Option AV} {b1 : Option AV} {z : Int} (dg : AtI y pc (.lstore 7) 2 nx) (hn : Nat.blt (7 + 1) y.2.2.1 = true) (hok : okS (a0 :: a1 :: a2 :: a3 :: a4 :: a5 :: a6 :: a7 :: b1 :: t) 7 = true) (k : Gj l x y d mc ms nf Q kc ks n w nx (a0 :: a1 :: a2 :: a3 :: a4 :: a5 :: a6 :: some (vL z) :: none :: t) S) : Gj l x y d mc ms nf Q kc ks n w pc (a0 :: a1 :: a2 :: a3 :: a4 :: a5 :: a6 :: a7 :: b1 :: t) (vL z :: S) := gj_lstore (i := 7) dg hn hok k
theorem gj_ii7 {a0 a1 a2 a3 a4 a5 a6 : Option AV} {z a : Int} (dg : AtI y pc (.iinc 7 z) 3 nx) (hn : Nat.blt 7 y.2.2.1 = true) (hok : okS (a0 :: a1 :: a2 :: a3 :: a4 :: a5 :: a6 :: some (vI a) :: t) 7 = true) (k : Gj l x y d mc ms nf Q kc ks n w nx (a0 :: a1 :: a2 :: a3 :: a4 :: a5 :: a6 :: some (vI (a + z)) :: t) S) : Gj l x y d mc ms nf Q kc ks n w pc (a0 :: a1 :: a2 :: a3 :: a4 :: a5 :: a6 :: some (vI a) :: t) S := gj_iinc (i := 7) dg hn hok rfl k
theorem gj_il8 {a0 a1 a2 a3 a4 a5 a6 a7 : Option AV} {z : Int} (dg : AtI y pc (.iload 8) 2 nx) (k : Gj l x y d mc ms nf Q kc ks n w nx (a0 :: a1 :: a2 :: a3 :: a4 :: a5 :: a6 :: a7 :: some (vI z) :: t) (vI z :: S)) : Gj l x y d mc ms nf Q kc ks n w pc (a0 :: a1 :: a2 :: a3 :: a4 :: a5 :: a6 :: a7 :: some (vI z) :: t) S := gj_iload (i := 8) dg rfl k
theorem gj_ll8 {a0 a1 a2 a3 a4 a5 a6 a7 : Option AV} {z : Int} (dg : AtI y pc (.lload 8) 2 nx) (k : Gj l x y d mc ms nf Q kc ks n w nx (a0 :: a1 :: a2 :: a3 :: a4 :: a5 :: a6 :: a7 :: some (vL z) :: t) (vL z :: S)) : Gj l x y d mc ms nf Q kc ks n w pc (a0 :: a1 :: a2 :: a3 :: a4 :: a5 :: a6 :: a7 :: some (vL z) :: t) S := gj_lload (i := 8) dg rfl k
theorem gj_al8 {a0 a1 a2 a3 a4 a5 a6 a7 : Option AV} {z : Nat} (dg : AtI y pc (.aload 8) 2 nx) (k : Gj l x y d mc ms nf Q kc ks n w nx (a0 :: a1 :: a2 :: a3 :: a4 :: a5 :: a6 :: a7 :: some (vR z) :: t) (vR z :: S)) : Gj l x y d mc ms nf Q kc ks n w pc (a0 :: a1 :: a2 :: a3 :: a4 :: a5 :: a6 :: a7 :: some (vR z) :: t) S := gj_aload (i := 8) dg rfl k
theorem gj_is8 {a0 a1 a2 a3 a4 a5 a6 a7 a8 : Option AV} {z : Int} (dg : AtI y pc (.istore 8) 2 nx) (hn : Nat.blt 8 y.2.2.1 = true) (hok : okS (a0 :: a1 :: a2 :: a3 :: a4 :: a5 :: a6 :: a7 :: a8 :: t) 8 = true) (k : Gj l x y d mc ms nf Q kc ks n w nx (a0 :: a1 :: a2 :: a3 :: a4 :: a5 :: a6 :: a7 :: some (vI z) :: t) S) : Gj l x y d mc ms nf Q kc ks n w pc (a0 :: a1 :: a2 :: a3 :: a4 :: a5 :: a6 :: a7 :: a8 :: t) (vI z :: S) := gj_istore (i := 8) dg hn hok k
theorem gj_as8 {a0 a1 a2 a3 a4 a5 a6 a7 a8 : Option AV} {z : Nat} (dg : AtI y pc (.astore 8) 2 nx) (hn : Nat.blt 8 y.2.2.1 = true) (hok : okS (a0 :: a1 :: a2 :: a3 :: a4 :: a5 :: a6 :: a7 :: a8 :: t) 8 = true) (k : Gj l x y d mc ms nf Q kc ks n w nx (a0 :: a1 :: a2 :: a3 :: a4 :: a5 :: a6 :: a7 :: some (vR z) :: t) S) : Gj l x y d mc ms nf Q kc ks n w pc (a0 :: a1 :: a2 :: a3 :: a4 :: a5 :: a6 :: a7 :: a8 :: t) (vR z :: S) := gj_astore (i := 8) dg hn hok k
theorem gj_ls8 {a0 a1 a2 a3 a4 a5 a6 a7 a8 : Option AV} {b1 : Option AV} {z : Int} (dg : AtI y pc (.lstore 8) 2 nx) (hn : Nat.blt (8 + 1) y.2.2.1 = true) (hok : okS (a0 :: a1 :: a2 :: a3 :: a4 :: a5 :: a6 :: a7 :: a8 :: b1 :: t) 8 = true) (k : Gj l x y d mc ms nf Q kc ks n w nx (a0 :: a1 :: a2 :: a3 :: a4 :: a5 :: a6 :: a7 :: some (vL z) :: none :: t) S) : Gj l x y d mc ms nf Q kc ks n w pc (a0 :: a1 :: a2 :: a3 :: a4 :: a5 :: a6 :: a7 :: a8 :: b1 :: t) (vL z :: S) := gj_lstore (i := 8) dg hn hok k
theorem gj_ii8 {a0 a1 a2 a3 a4 a5 a6 a7 : Option AV} {z a : Int} (dg : AtI y pc (.iinc 8 z) 3 nx) (hn : Nat.blt 8 y.2.2.1 = true) (hok : okS (a0 :: a1 :: a2 :: a3 :: a4 :: a5 :: a6 :: a7 :: some (vI a) :: t) 8 = true) (k : Gj l x y d mc ms nf Q kc ks n w nx (a0 :: a1 :: a2 :: a3 :: a4 :: a5 :: a6 :: a7 :: some (vI (a + z)) :: t) S) : Gj l x y d mc ms nf Q kc ks n w pc (a0 :: a1 :: a2 :: a3 :: a4 :: a5 :: a6 :: a7 :: some (vI a) :: t) S := gj_iinc (i := 8) dg hn hok rfl k
theorem gj_il9 {a0 a1 a2 a3 a4 a5 a6 a7 a8 : Option AV} {z : Int} (dg : AtI y pc (.iload 9) 2 nx) (k : Gj l x y d mc ms nf Q kc ks n w nx (a0 :: a1 :: a2 :: a3 :: a4 :: a5 :: a6 :: a7 :: a8 :: some (vI z) :: t) (vI z :: S)) : Gj l x y d mc ms nf Q kc ks n w pc (a0 :: a1 :: a2 :: a3 :: a4 :: a5 :: a6 :: a7 :: a8 :: some (vI z) :: t) S := gj_iload (i := 9) dg rfl k
theorem gj_ll9 {a0 a1 a2 a3 a4 a5 a6 a7 a8 : Option AV} {z : Int} (dg : AtI y pc (.lload 9) 2 nx) (k : Gj l x y d mc ms nf Q kc ks n w nx (a0 :: a1 :: a2 :: a3 :: a4 :: a5 :: a6 :: a7 :: a8 :: some (vL z) :: t) (vL z :: S)) : Gj l x y d mc ms nf Q kc ks n w pc (a0 :: a1 :: a2 :: a3 :: a4 :: a5 :: a6 :: a7 :: a8 :: some (vL z) :: t) S := gj_lload (i := 9) dg rfl k
theorem gj_al9 {a0 a1 a2 a3 a4 a5 a6 a7 a8 : Option AV} {z : Nat} (dg : AtI y pc (.aload 9) 2 nx) (k : Gj l x y d mc ms nf Q kc ks n w nx (a0 :: a1 :: a2 :: a3 :: a4 :: a5 :: a6 :: a7 :: a8 :: some (vR z) :: t) (vR z :: S)) : Gj l x y d mc ms nf Q kc ks n w pc (a0 :: a1 :: a2 :: a3 :: a4 :: a5 :: a6 :: a7 :: a8 :: some (vR z) :: t) S := gj_aload (i := 9) dg rfl k
theorem gj_is9 {a0 a1 a2 a3 a4 a5 a6 a7 a8 a9 : Option AV} {z : Int} (dg : AtI y pc (.istore 9) 2 nx) (hn : Nat.blt 9 y.2.2.1 = true) (hok : okS (a0 :: a1 :: a2 :: a3 :: a4 :: a5 :: a6 :: a7 :: a8 :: a9 :: t) 9 = true) (k : Gj l x y d mc ms nf Q kc ks n w nx (a0 :: a1 :: a2 :: a3 :: a4 :: a5 :: a6 :: a7 :: a8 :: some (vI z) :: t) S) : Gj l x y d mc ms nf Q kc ks n w pc (a0 :: a1 :: a2 :: a3 :: a4 :: a5 :: a6 :: a7 :: a8 :: a9 :: t) (vI z :: S) := gj_istore (i := 9) dg hn hok k
theorem gj_as9 {a0 a1 a2 a3 a4 a5 a6 a7 a8 a9 : Option AV} {z : Nat} (dg : AtI y pc (.astore 9) 2 nx) (hn : Nat.blt 9 y.2.2.1 = true) (hok : okS (a0 :: a1 :: a2 :: a3 :: a4 :: a5 :: a6 :: a7 :: a8 :: a9 :: t) 9 = true) (k : Gj l x y d mc ms nf Q kc ks n w nx (a0 :: a1 :: a2 :: a3 :: a4 :: a5 :: a6 :: a7 :: a8 :: some (vR z) :: t) S) : Gj l x y d mc ms nf Q kc ks n w pc (a0 :: a1 :: a2 :: a3 :: a4 :: a5 :: a6 :: a7 :: a8 :: a9 :: t) (vR z :: S) := gj_astore (i := 9) dg hn hok k
theorem gj_ls9 {a0 a1 a2 a3 a4 a5 a6 a7 a8 a9 : Option AV} {b1 : Option AV} {z : Int} (dg : AtI y pc (.lstore 9) 2 nx) (hn : Nat.blt (9 + 1) y.2.2.1 = true) (hok : okS (a0 :: a1 :: a2 :: a3 :: a4 :: a5 :: a6 :: a7 :: a8 :: a9 :: b1 :: t) 9 = true) (k : Gj l x y d mc ms nf Q kc ks n w nx (a0 :: a1 :: a2 :: a3 :: a4 :: a5 :: a6 :: a7 :: a8 :: some (vL z) :: none :: t) S) : Gj l x y d mc ms nf Q kc ks n w pc (a0 :: a1 :: a2 :: a3 :: a4 :: a5 :: a6 :: a7 :: a8 :: a9 :: b1 :: t) (vL z :: S) := gj_lstore (i := 9) dg hn hok k
theorem gj_ii9 {a0 a1 a2 a3 a4 a5 a6 a7 a8 : Option AV} {z a : Int} (dg : AtI y pc (.iinc 9 z) 3 nx) (hn : Nat.blt 9 y.2.2.1 = true) (hok : okS (a0 :: a1 :: a2 :: a3 :: a4 :: a5 :: a6 :: a7 :: a8 :: some (vI a) :: t) 9 = true) (k : Gj l x y d mc ms nf Q kc ks n w nx (a0 :: a1 :: a2 :: a3 :: a4 :: a5 :: a6 :: a7 :: a8 :: some (vI (a + z)) :: t) S) : Gj l x y d mc ms nf Q kc ks n w pc (a0 :: a1 :: a2 :: a3 :: a4 :: a5 :: a6 :: a7 :: a8 :: some (vI a) :: t) S := gj_iinc (i := 9) dg hn hok rfl k
theorem gj_il10 {a0 a1 a2 a3 a4 a5 a6 a7 a8 a9 : Option AV} {z : Int} (dg : AtI y pc (.iload 10) 2 nx) (k : Gj l x y d mc ms nf Q kc ks n w nx (a0 :: a1 :: a2 :: a3 :: a4 :: a5 :: a6 :: a7 :: a8 :: a9 :: some (vI z) :: t) (vI z :: S)) : Gj l x y d mc ms nf Q kc ks n w pc (a0 :: a1 :: a2 :: a3 :: a4 :: a5 :: a6 :: a7 :: a8 :: a9 :: some (vI z) :: t) S := gj_iload (i := 10) dg rfl k
theorem gj_ll10 {a0 a1 a2 a3 a4 a5 a6 a7 a8 a9 : Option AV} {z : Int} (dg : AtI y pc (.lload 10) 2 nx) (k : Gj l x y d mc ms nf Q kc ks n w nx (a0 :: a1 :: a2 :: a3 :: a4 :: a5 :: a6 :: a7 :: a8 :: a9 :: some (vL z) :: t) (vL z :: S)) : Gj l x y d mc ms nf Q kc ks n w pc (a0 :: a1 :: a2 :: a3 :: a4 :: a5 :: a6 :: a7 :: a8 :: a9 :: some (vL z) :: t) S := gj_lload (i := 10) dg rfl k
theorem gj_al10 {a0 a1 a2 a3 a4 a5 a6 a7 a8 a9 : Option AV} {z : Nat} (dg : AtI y pc (.aload 10) 2 nx) (k : Gj l x y d mc ms nf Q kc ks n w nx (a0 :: a1 :: a2 :: a3 :: a4 :: a5 :: a6 :: a7 :: a8 :: a9 :: some (vR z) :: t) (vR z :: S)) : Gj l x y d mc ms nf Q kc ks n w pc (a0 :: a1 :: a2 :: a3 :: a4 :: a5 :: a6 :: a7 :: a8 :: a9 :: some (vR z) :: t) S := gj_aload (i := 10) dg rfl k
theorem gj_is10 {a0 a1 a2 a3 a4 a5 a6 a7 a8 a9 a10 : Option AV} {z : Int} (dg : AtI y pc (.istore 10) 2 nx) (hn : Nat.blt 10 y.2.2.1 = true) (hok : okS (a0 :: a1 :: a2 :: a3 :: a4 :: a5 :: a6 :: a7 :: a8 :: a9 :: a10 :: t) 10 = true) (k : Gj l x y d mc ms nf Q kc ks n w nx (a0 :: a1 :: a2 :: a3 :: a4 :: a5 :: a6 :: a7 :: a8 :: a9 :: some (vI z) :: t) S) : Gj l x y d mc ms nf Q kc ks n w pc (a0 :: a1 :: a2 :: a3 :: a4 :: a5 :: a6 :: a7 :: a8 :: a9 :: a10 :: t) (vI z :: S) := gj_istore (i := 10) dg hn hok k
theorem gj_as10 {a0 a1 a2 a3 a4 a5 a6 a7 a8 a9 a10 : Option AV} {z : Nat} (dg : AtI y pc (.astore 10) 2 nx) (hn : Nat.blt 10 y.2.2.1 = true) (hok : okS (a0 :: a1 :: a2 :: a3 :: a4 :: a5 :: a6 :: a7 :: a8 :: a9 :: a10 :: t) 10 = true) (k : Gj l x y d mc ms nf Q kc ks n w nx (a0 :: a1 :: a2 :: a3 :: a4 :: a5 :: a6 :: a7 :: a8 :: a9 :: some (vR z) :: t) S) : Gj l x y d mc ms nf Q kc ks n w pc (a0 :: a1 :: a2 :: a3 :: a4 :: a5 :: a6 :: a7 :: a8 :: a9 :: a10 :: t) (vR z :: S) := gj_astore (i := 10) dg hn hok k
theorem gj_ls10 {a0 a1 a2 a3 a4 a5 a6 a7 a8 a9 a10 : Option AV} {b1 : Option AV} {z : Int} (dg : AtI y pc (.lstore 10) 2 nx) (hn : Nat.blt (10 + 1) y.2.2.1 = true) (hok : okS (a0 :: a1 :: a2 :: a3 :: a4 :: a5 :: a6 :: a7 :: a8 :: a9 :: a10 :: b1 :: t) 10 = true) (k : Gj l x y d mc ms nf Q kc ks n w nx (a0 :: a1 :: a2 :: a3 :: a4 :: a5 :: a6 :: a7 :: a8 :: a9 :: some (vL z) :: none :: t) S) : Gj l x y d mc ms nf Q kc ks n w pc (a0 :: a1 :: a2 :: a3 :: a4 :: a5 :: a6 :: a7 :: a8 :: a9 :: a10 :: b1 :: t) (vL z :: S) := gj_lstore (i := 10) dg hn hok k
theorem gj_ii10 {a0 a1 a2 a3 a4 a5 a6 a7 a8 a9 : Option AV} {z a : Int} (dg : AtI y pc (.iinc 10 z) 3 nx) (hn : Nat.blt 10 y.2.2.1 = true) (hok : okS (a0 :: a1 :: a2 :: a3 :: a4 :: a5 :: a6 :: a7 :: a8 :: a9 :: some (vI a) :: t) 10 = true) (k : Gj l x y d mc ms nf Q kc ks n w nx (a0 :: a1 :: a2 :: a3 :: a4 :: a5 :: a6 :: a7 :: a8 :: a9 :: some (vI (a + z)) :: t) S) : Gj l x y d mc ms nf Q kc ks n w pc (a0 :: a1 :: a2 :: a3 :: a4 :: a5 :: a6 :: a7 :: a8 :: a9 :: some (vI a) :: t) S := gj_iinc (i := 10) dg hn hok rfl k
theorem gj_il11 {a0 a1 a2 a3 a4 a5 a6 a7 a8 a9 a10 : Option AV} {z : Int} (dg : AtI y pc (.iload 11) 2 nx) (k : Gj l x y d mc ms nf Q kc ks n w nx (a0 :: a1 :: a2 :: a3 :: a4 :: a5 :: a6 :: a7 :: a8 :: a9 :: a10 :: some (vI z) :: t) (vI z :: S)) : Gj l x y d mc ms nf Q kc ks n w pc (a0 :: a1 :: a2 :: a3 :: a4 :: a5 :: a6 :: a7 :: a8 :: a9 :: a10 :: some (vI z) :: t) S := gj_iload (i := 11) dg rfl k
theorem gj_ll11 {a0 a1 a2 a3 a4 a5 a6 a7 a8 a9 a10 : Option AV} {z : Int} (dg : AtI y pc (.lload 11) 2 nx) (k : Gj l x y d mc ms nf Q kc ks n w nx (a0 :: a1 :: a2 :: a3 :: a4 :: a5 :: a6 :: a7 :: a8 :: a9 :: a10 :: some (vL z) :: t) (vL z :: S)) : Gj l x y d mc ms nf Q kc ks n w pc (a0 :: a1 :: a2 :: a3 :: a4 :: a5 :: a6 :: a7 :: a8 :: a9 :: a10 :: some (vL z) :: t) S := gj_lload (i := 11) dg rfl k
theorem gj_al11 {a0 a1 a2 a3 a4 a5 a6 a7 a8 a9 a10 : Option AV} {z : Nat} (dg : AtI y pc (.aload 11) 2 nx) (k : Gj l x y d mc ms nf Q kc ks n w nx (a0 :: a1 :: a2 :: a3 :: a4 :: a5 :: a6 :: a7 :: a8 :: a9 :: a10 :: some (vR z) :: t) (vR z :: S)) : Gj l x y d mc ms nf Q kc ks n w pc (a0 :: a1 :: a2 :: a3 :: a4 :: a5 :: a6 :: a7 :: a8 :: a9 :: a10 :: some (vR z) :: t) S := gj_aload (i := 11) dg rfl k
theorem gj_is11 {a0 a1 a2 a3 a4 a5 a6 a7 a8 a9 a10 a11 : Option AV} {z : Int} (dg : AtI y pc (.istore 11) 2 nx) (hn : Nat.blt 11 y.2.2.1 = true) (hok : okS (a0 :: a1 :: a2 :: a3 :: a4 :: a5 :: a6 :: a7 :: a8 :: a9 :: a10 :: a11 :: t) 11 = true) (k : Gj l x y d mc ms nf Q kc ks n w nx (a0 :: a1 :: a2 :: a3 :: a4 :: a5 :: a6 :: a7 :: a8 :: a9 :: a10 :: some (vI z) :: t) S) : Gj l x y d mc ms nf Q kc ks n w pc (a0 :: a1 :: a2 :: a3 :: a4 :: a5 :: a6 :: a7 :: a8 :: a9 :: a10 :: a11 :: t) (vI z :: S) := gj_istore (i := 11) dg hn hok k
theorem gj_as11 {a0 a1 a2 a3 a4 a5 a6 a7 a8 a9 a10 a11 : Option AV} {z : Nat} (dg : AtI y pc (.astore 11) 2 nx) (hn : Nat.blt 11 y.2.2.1 = true) (hok : okS (a0 :: a1 :: a2 :: a3 :: a4 :: a5 :: a6 :: a7 :: a8 :: a9 :: a10 :: a11 :: t) 11 = true) (k : Gj l x y d mc ms nf Q kc ks n w nx (a0 :: a1 :: a2 :: a3 :: a4 :: a5 :: a6 :: a7 :: a8 :: a9 :: a10 :: some (vR z) :: t) S) : Gj l x y d mc ms nf Q kc ks n w pc (a0 :: a1 :: a2 :: a3 :: a4 :: a5 :: a6 :: a7 :: a8 :: a9 :: a10 :: a11 :: t) (vR z :: S) := gj_astore (i := 11) dg hn hok k
theorem gj_ls11 {a0 a1 a2 a3 a4 a5 a6 a7 a8 a9 a10 a11 : Option AV} {b1 : Option AV} {z : Int} (dg : AtI y pc (.lstore 11) 2 nx) (hn : Nat.blt (11 + 1) y.2.2.1 = true) (hok : okS (a0 :: a1 :: a2 :: a3 :: a4 :: a5 :: a6 :: a7 :: a8 :: a9 :: a10 :: a11 :: b1 :: t) 11 = true) (k : Gj l x y d mc ms nf Q kc ks n w nx (a0 :: a1 :: a2 :: a3 :: a4 :: a5 :: a6 :: a7 :: a8 :: a9 :: a10 :: some (vL z) :: none :: t) S) : Gj l x y d mc ms nf Q kc ks n w pc (a0 :: a1 :: a2 :: a3 :: a4 :: a5 :: a6 :: a7 :: a8 :: a9 :: a10 :: a11 :: b1 :: t) (vL z :: S) := gj_lstore (i := 11) dg hn hok k
theorem gj_ii11 {a0 a1 a2 a3 a4 a5 a6 a7 a8 a9 a10 : Option AV} {z a : Int} (dg : AtI y pc (.iinc 11 z) 3 nx) (hn : Nat.blt 11 y.2.2.1 = true) (hok : okS (a0 :: a1 :: a2 :: a3 :: a4 :: a5 :: a6 :: a7 :: a8 :: a9 :: a10 :: some (vI a) :: t) 11 = true) (k : Gj l x y d mc ms nf Q kc ks n w nx (a0 :: a1 :: a2 :: a3 :: a4 :: a5 :: a6 :: a7 :: a8 :: a9 :: a10 :: some (vI (a + z)) :: t) S) : Gj l x y d mc ms nf Q kc ks n w pc (a0 :: a1 :: a2 :: a3 :: a4 :: a5 :: a6 :: a7 :: a8 :: a9 :: a10 :: some (vI a) :: t) S := gj_iinc (i := 11) dg hn hok rfl k
theorem gj_il12 {a0 a1 a2 a3 a4 a5 a6 a7 a8 a9 a10 a11 : Option AV} {z : Int} (dg : AtI y pc (.iload 12) 2 nx) (k : Gj l x y d mc ms nf Q kc ks n w nx (a0 :: a1 :: a2 :: a3 :: a4 :: a5 :: a6 :: a7 :: a8 :: a9 :: a10 :: a11 :: some (vI z) :: t) (vI z :: S)) : Gj l x y d mc ms nf Q kc ks n w pc (a0 :: a1 :: a2 :: a3 :: a4 :: a5 :: a6 :: a7 :: a8 :: a9 :: a10 :: a11 :: some (vI z) :: t) S := gj_iload (i := 12) dg rfl k
theorem gj_ll12 {a0 a1 a2 a3 a4 a5 a6 a7 a8 a9 a10 a11 : Option AV} {z : Int} (dg : AtI y pc (.lload 12) 2 nx) (k : Gj l x y d mc ms nf Q kc ks n w nx (a0 :: a1 :: a2 :: a3 :: a4 :: a5 :: a6 :: a7 :: a8 :: a9 :: a10 :: a11 :: some (vL z) :: t) (vL z :: S)) : Gj l x y d mc ms nf Q kc ks n w pc (a0 :: a1 :: a2 :: a3 :: a4 :: a5 :: a6 :: a7 :: a8 :: a9 :: a10 :: a11 :: some (vL z) :: t) S := gj_lload (i := 12) dg rfl k
theorem gj_al12 {a0 a1 a2 a3 a4 a5 a6 a7 a8 a9 a10 a11 : Option AV} {z : Nat} (dg : AtI y pc (.aload 12) 2 nx) (k : Gj l x y d mc ms nf Q kc ks n w nx (a0 :: a1 :: a2 :: a3 :: a4 :: a5 :: a6 :: a7 :: a8 :: a9 :: a10 :: a11 :: some (vR z) :: t) (vR z :: S)) : Gj l x y d mc ms nf Q kc ks n w pc (a0 :: a1 :: a2 :: a3 :: a4 :: a5 :: a6 :: a7 :: a8 :: a9 :: a10 :: a11 :: some (vR z) :: t) S := gj_aload (i := 12) dg rfl k
theorem gj_is12 {a0 a1 a2 a3 a4 a5 a6 a7 a8 a9 a10 a11 a12 : Option AV} {z : Int} (dg : AtI y pc (.istore 12) 2 nx) (hn : Nat.blt 12 y.2.2.1 = true) (hok : okS (a0 :: a1 :: a2 :: a3 :: a4 :: a5 :: a6 :: a7 :: a8 :: a9 :: a10 :: a11 :: a12 :: t) 12 = true) (k : Gj l x y d mc ms nf Q kc ks n w nx (a0 :: a1 :: a2 :: a3 :: a4 :: a5 :: a6 :: a7 :: a8 :: a9 :: a10 :: a11 :: some (vI z) :: t) S) : Gj l x y d mc ms nf Q kc ks n w pc (a0 :: a1 :: a2 :: a3 :: a4 :: a5 :: a6 :: a7 :: a8 :: a9 :: a10 :: a11 :: a12 :: t) (vI z :: S) := gj_istore (i := 12) dg hn hok k
theorem gj_as12 {a0 a1 a2 a3 a4 a5 a6 a7 a8 a9 a10 a11 a12 : Option AV} {z : Nat} (dg : AtI y pc (.astore 12) 2 nx) (hn : Nat.blt 12 y.2.2.1 = true) (hok : okS (a0 :: a1 :: a2 :: a3 :: a4 :: a5 :: a6 :: a7 :: a8 :: a9 :: a10 :: a11 :: a12 :: t) 12 = true) (k : Gj l x y d mc ms nf Q kc ks n w nx (a0 :: a1 :: a2 :: a3 :: a4 :: a5 :: a6 :: a7 :: a8 :: a9 :: a10 :: a11 :: some (vR z) :: t) S) : Gj l x y d mc ms nf Q kc ks n w pc (a0 :: a1 :: a2 :: a3 :: a4 :: a5 :: a6 :: a7 :: a8 :: a9 :: a10 :: a11 :: a12 :: t) (vR z :: S) := gj_astore (i := 12) dg hn hok k
theorem gj_ls12 {a0 a1 a2 a3 a4 a5 a6 a7 a8 a9 a10 a11 a12 : Option AV} {b1 : Option AV} {z : Int} (dg : AtI y pc (.lstore 12) 2 nx) (hn : Nat.blt (12 + 1) y.2.2.1 = true) (hok : okS (a0 :: a1 :: a2 :: a3 :: a4 :: a5 :: a6 :: a7 :: a8 :: a9 :: a10 :: a11 :: a12 :: b1 :: t) 12 = true) (k : Gj l x y d mc ms nf Q kc ks n w nx (a0 :: a1 :: a2 :: a3 :: a4 :: a5 :: a6 :: a7 :: a8 :: a9 :: a10 :: a11 :: some (vL z) :: none :: t) S) : Gj l x y d mc ms nf Q kc ks n w pc (a0 :: a1 :: a2 :: a3 :: a4 :: a5 :: a6 :: a7 :: a8 :: a9 :: a10 :: a11 :: a12 :: b1 :: t) (vL z :: S) := gj_lstore (i := 12) dg hn hok k
theorem gj_ii12 {a0 a1 a2 a3 a4 a5 a6 a7 a8 a9 a10 a11 : Option AV} {z a : Int} (dg : AtI y pc (.iinc 12 z) 3 nx) (hn : Nat.blt 12 y.2.2.1 = true) (hok : okS (a0 :: a1 :: a2 :: a3 :: a4 :: a5 :: a6 :: a7 :: a8 :: a9 :: a10 :: a11 :: some (vI a) :: t) 12 = true) (k : Gj l x y d mc ms nf Q kc ks n w nx (a0 :: a1 :: a2 :: a3 :: a4 :: a5 :: a6 :: a7 :: a8 :: a9 :: a10 :: a11 :: some (vI (a + z)) :: t) S) : Gj l x y d mc ms nf Q kc ks n w pc (a0 :: a1 :: a2 :: a3 :: a4 :: a5 :: a6 :: a7 :: a8 :: a9 :: a10 :: a11 :: some (vI a) :: t) S := gj_iinc (i := 12) dg hn hok rfl k
theorem gj_pI0 {a0 : AV} {r : List AV} {L : List (Option AV)} {j ci k : Nat} {z : Int} (dg : AtI y pc (.putfield j) 3 nx) (hf : LF y.1.cls j ci 0 false .int) (hw : w k = cO ci (a0 :: r)) (hk : Nat.blt k n = true) (kk : Gj l x y d mc ms nf Q kc ks n (upw w k (cO ci (vI z :: r))) nx L S) : Gj l x y d mc ms nf Q kc ks n w pc L (vI z :: vR k :: S) := gj_put nar_I dg hf hw hk (show 0 < (a0 :: r).length by simp only [List.length_cons]; omega) kk
theorem gj_pR0 {a0 : AV} {r : List AV} {L : List (Option AV)} {j ci k z : Nat} {C : String} (dg : AtI y pc (.putfield j) 3 nx) (hf : LF y.1.cls j ci 0 true (.object C)) (hini : y.1.name = "<init>") (hown : ∃ T N, vwCl[ci]? = some (y.1.cls, T, N)) (hw : w k = cO ci (a0 :: r)) (hk : Nat.blt k n = true) (kk : Gj l x y d mc ms nf Q kc ks n (upw w k (cO ci (vR z :: r))) nx L S) : Gj l x y d mc ms nf Q kc ks n w pc L (vR z :: vR k :: S) := gj_putF nar_R dg hf hini hown hw hk (show 0 < (a0 :: r).length by simp only [List.length_cons]; omega) kk
theorem gj_pA0 {a0 : AV} {r : List AV} {L : List (Option AV)} {j ci k z : Nat} {e : FieldType} (dg : AtI y pc (.putfield j) 3 nx) (hf : LF y.1.cls j ci 0 true (.array e)) (hini : y.1.name = "<init>") (hown : ∃ T N, vwCl[ci]? = some (y.1.cls, T, N)) (hw : w k = cO ci (a0 :: r)) (hk : Nat.blt k n = true) (kk : Gj l x y d mc ms nf Q kc ks n (upw w k (cO ci (vR z :: r))) nx L S) : Gj l x y d mc ms nf Q kc ks n w pc L (vR z :: vR k :: S) := gj_putF nar_A dg hf hini hown hw hk (show 0 < (a0 :: r).length by simp only [List.length_cons]; omega) kk
theorem gj_pI1 {a0 a1 : AV} {r : List AV} {L : List (Option AV)} {j ci k : Nat} {z : Int} (dg : AtI y pc (.putfield j) 3 nx) (hf : LF y.1.cls j ci 1 false .int) (hw : w k = cO ci (a0 :: a1 :: r)) (hk : Nat.blt k n = true) (kk : Gj l x y d mc ms nf Q kc ks n (upw w k (cO ci (a0 :: vI z :: r))) nx L S) : Gj l x y d mc ms nf Q kc ks n w pc L (vI z :: vR k :: S) := gj_put nar_I dg hf hw hk (show 1 < (a0 :: a1 :: r).length by simp only [List.length_cons]; omega) kk
theorem gj_pR1 {a0 a1 : AV} {r : List AV} {L : List (Option AV)} {j ci k z : Nat} {C : String} (dg : AtI y pc (.putfield j) 3 nx) (hf : LF y.1.cls j ci 1 true (.object C)) (hini : y.1.name = "<init>") (hown : ∃ T N, vwCl[ci]? = some (y.1.cls, T, N)) (hw : w k = cO ci (a0 :: a1 :: r)) (hk : Nat.blt k n = true) (kk : Gj l x y d mc ms nf Q kc ks n (upw w k (cO ci (a0 :: vR z :: r))) nx L S) : Gj l x y d mc ms nf Q kc ks n w pc L (vR z :: vR k :: S) := gj_putF nar_R dg hf hini hown hw hk (show 1 < (a0 :: a1 :: r).length by simp only [List.length_cons]; omega) kk
theorem gj_pA1 {a0 a1 : AV} {r : List AV} {L : List (Option AV)} {j ci k z : Nat} {e : FieldType} (dg : AtI y pc (.putfield j) 3 nx) (hf : LF y.1.cls j ci 1 true (.array e)) (hini : y.1.name = "<init>") (hown : ∃ T N, vwCl[ci]? = some (y.1.cls, T, N)) (hw : w k = cO ci (a0 :: a1 :: r)) (hk : Nat.blt k n = true) (kk : Gj l x y d mc ms nf Q kc ks n (upw w k (cO ci (a0 :: vR z :: r))) nx L S) : Gj l x y d mc ms nf Q kc ks n w pc L (vR z :: vR k :: S) := gj_putF nar_A dg hf hini hown hw hk (show 1 < (a0 :: a1 :: r).length by simp only [List.length_cons]; omega) kk
theorem gj_pI2 {a0 a1 a2 : AV} {r : List AV} {L : List (Option AV)} {j ci k : Nat} {z : Int} (dg : AtI y pc (.putfield j) 3 nx) (hf : LF y.1.cls j ci 2 false .int) (hw : w k = cO ci (a0 :: a1 :: a2 :: r)) (hk : Nat.blt k n = true) (kk : Gj l x y d mc ms nf Q kc ks n (upw w k (cO ci (a0 :: a1 :: vI z :: r))) nx L S) : Gj l x y d mc ms nf Q kc ks n w pc L (vI z :: vR k :: S) := gj_put nar_I dg hf hw hk (show 2 < (a0 :: a1 :: a2 :: r).length by simp only [List.length_cons]; omega) kk
theorem gj_pR2 {a0 a1 a2 : AV} {r : List AV} {L : List (Option AV)} {j ci k z : Nat} {C : String} (dg : AtI y pc (.putfield j) 3 nx) (hf : LF y.1.cls j ci 2 true (.object C)) (hini : y.1.name = "<init>") (hown : ∃ T N, vwCl[ci]? = some (y.1.cls, T, N)) (hw : w k = cO ci (a0 :: a1 :: a2 :: r)) (hk : Nat.blt k n = true) (kk : Gj l x y d mc ms nf Q kc ks n (upw w k (cO ci (a0 :: a1 :: vR z :: r))) nx L S) : Gj l x y d mc ms nf Q kc ks n w pc L (vR z :: vR k :: S) := gj_putF nar_R dg hf hini hown hw hk (show 2 < (a0 :: a1 :: a2 :: r).length by simp only [List.length_cons]; omega) kk
theorem gj_pA2 {a0 a1 a2 : AV} {r : List AV} {L : List (Option AV)} {j ci k z : Nat} {e : FieldType} (dg : AtI y pc (.putfield j) 3 nx) (hf : LF y.1.cls j ci 2 true (.array e)) (hini : y.1.name = "<init>") (hown : ∃ T N, vwCl[ci]? = some (y.1.cls, T, N)) (hw : w k = cO ci (a0 :: a1 :: a2 :: r)) (hk : Nat.blt k n = true) (kk : Gj l x y d mc ms nf Q kc ks n (upw w k (cO ci (a0 :: a1 :: vR z :: r))) nx L S) : Gj l x y d mc ms nf Q kc ks n w pc L (vR z :: vR k :: S) := gj_putF nar_A dg hf hini hown hw hk (show 2 < (a0 :: a1 :: a2 :: r).length by simp only [List.length_cons]; omega) kk
theorem gj_pI3 {a0 a1 a2 a3 : AV} {r : List AV} {L : List (Option AV)} {j ci k : Nat} {z : Int} (dg : AtI y pc (.putfield j) 3 nx) (hf : LF y.1.cls j ci 3 false .int) (hw : w k = cO ci (a0 :: a1 :: a2 :: a3 :: r)) (hk : Nat.blt k n = true) (kk : Gj l x y d mc ms nf Q kc ks n (upw w k (cO ci (a0 :: a1 :: a2 :: vI z :: r))) nx L S) : Gj l x y d mc ms nf Q kc ks n w pc L (vI z :: vR k :: S) := gj_put nar_I dg hf hw hk (show 3 < (a0 :: a1 :: a2 :: a3 :: r).length by simp only [List.length_cons]; omega) kk
theorem gj_pR3 {a0 a1 a2 a3 : AV} {r : List AV} {L : List (Option AV)} {j ci k z : Nat} {C : String} (dg : AtI y pc (.putfield j) 3 nx) (hf : LF y.1.cls j ci 3 true (.object C)) (hini : y.1.name = "<init>") (hown : ∃ T N, vwCl[ci]? = some (y.1.cls, T, N)) (hw : w k = cO ci (a0 :: a1 :: a2 :: a3 :: r)) (hk : Nat.blt k n = true) (kk : Gj l x y d mc ms nf Q kc ks n (upw w k (cO ci (a0 :: a1 :: a2 :: vR z :: r))) nx L S) : Gj l x y d mc ms nf Q kc ks n w pc L (vR z :: vR k :: S) := gj_putF nar_R dg hf hini hown hw hk (show 3 < (a0 :: a1 :: a2 :: a3 :: r).length by simp only [List.length_cons]; omega) kk
theorem gj_pA3 {a0 a1 a2 a3 : AV} {r : List AV} {L : List (Option AV)} {j ci k z : Nat} {e : FieldType} (dg : AtI y pc (.putfield j) 3 nx) (hf : LF y.1.cls j ci 3 true (.array e)) (hini : y.1.name = "<init>") (hown : ∃ T N, vwCl[ci]? = some (y.1.cls, T, N)) (hw : w k = cO ci (a0 :: a1 :: a2 :: a3 :: r)) (hk : Nat.blt k n = true) (kk : Gj l x y d mc ms nf Q kc ks n (upw w k (cO ci (a0 :: a1 :: a2 :: vR z :: r))) nx L S) : Gj l x y d mc ms nf Q kc ks n w pc L (vR z :: vR k :: S) := gj_putF nar_A dg hf hini hown hw hk (show 3 < (a0 :: a1 :: a2 :: a3 :: r).length by simp only [List.length_cons]; omega) kk
theorem gj_pZ3 {a0 a1 a2 a3 : AV} {r : List AV} {L : List (Option AV)} {j ci k : Nat} {z : Int} (hz : z = 0 ∨ z = 1) (dg : AtI y pc (.putfield j) 3 nx) (hf : LF y.1.cls j ci 3 false .boolean) (hw : w k = cO ci (a0 :: a1 :: a2 :: a3 :: r)) (hk : Nat.blt k n = true) (kk : Gj l x y d mc ms nf Q kc ks n (upw w k (cO ci (a0 :: a1 :: a2 :: vI z :: r))) nx L S) : Gj l x y d mc ms nf Q kc ks n w pc L (vI z :: vR k :: S) := gj_put (nar_Z hz) dg hf hw hk (show 3 < (a0 :: a1 :: a2 :: a3 :: r).length by simp only [List.length_cons]; omega) kk
theorem gj_pI4 {a0 a1 a2 a3 a4 : AV} {r : List AV} {L : List (Option AV)} {j ci k : Nat} {z : Int} (dg : AtI y pc (.putfield j) 3 nx) (hf : LF y.1.cls j ci 4 false .int) (hw : w k = cO ci (a0 :: a1 :: a2 :: a3 :: a4 :: r)) (hk : Nat.blt k n = true) (kk : Gj l x y d mc ms nf Q kc ks n (upw w k (cO ci (a0 :: a1 :: a2 :: a3 :: vI z :: r))) nx L S) : Gj l x y d mc ms nf Q kc ks n w pc L (vI z :: vR k :: S) := gj_put nar_I dg hf hw hk (show 4 < (a0 :: a1 :: a2 :: a3 :: a4 :: r).length by simp only [List.length_cons]; omega) kk
theorem gj_pR4 {a0 a1 a2 a3 a4 : AV} {r : List AV} {L : List (Option AV)} {j ci k z : Nat} {C : String} (dg : AtI y pc (.putfield j) 3 nx) (hf : LF y.1.cls j ci 4 true (.object C)) (hini : y.1.name = "<init>") (hown : ∃ T N, vwCl[ci]? = some (y.1.cls, T, N)) (hw : w k = cO ci (a0 :: a1 :: a2 :: a3 :: a4 :: r)) (hk : Nat.blt k n = true) (kk : Gj l x y d mc ms nf Q kc ks n (upw w k (cO ci (a0 :: a1 :: a2 :: a3 :: vR z :: r))) nx L S) : Gj l x y d mc ms nf Q kc ks n w pc L (vR z :: vR k :: S) := gj_putF nar_R dg hf hini hown hw hk (show 4 < (a0 :: a1 :: a2 :: a3 :: a4 :: r).length by simp only [List.length_cons]; omega) kk
theorem gj_pA4 {a0 a1 a2 a3 a4 : AV} {r : List AV} {L : List (Option AV)} {j ci k z : Nat} {e : FieldType} (dg : AtI y pc (.putfield j) 3 nx) (hf : LF y.1.cls j ci 4 true (.array e)) (hini : y.1.name = "<init>") (hown : ∃ T N, vwCl[ci]? = some (y.1.cls, T, N)) (hw : w k = cO ci (a0 :: a1 :: a2 :: a3 :: a4 :: r)) (hk : Nat.blt k n = true) (kk : Gj l x y d mc ms nf Q kc ks n (upw w k (cO ci (a0 :: a1 :: a2 :: a3 :: vR z :: r))) nx L S) : Gj l x y d mc ms nf Q kc ks n w pc L (vR z :: vR k :: S) := gj_putF nar_A dg hf hini hown hw hk (show 4 < (a0 :: a1 :: a2 :: a3 :: a4 :: r).length by simp only [List.length_cons]; omega) kk
theorem gj_pI5 {a0 a1 a2 a3 a4 a5 : AV} {r : List AV} {L : List (Option AV)} {j ci k : Nat} {z : Int} (dg : AtI y pc (.putfield j) 3 nx) (hf : LF y.1.cls j ci 5 false .int) (hw : w k = cO ci (a0 :: a1 :: a2 :: a3 :: a4 :: a5 :: r)) (hk : Nat.blt k n = true) (kk : Gj l x y d mc ms nf Q kc ks n (upw w k (cO ci (a0 :: a1 :: a2 :: a3 :: a4 :: vI z :: r))) nx L S) : Gj l x y d mc ms nf Q kc ks n w pc L (vI z :: vR k :: S) := gj_put nar_I dg hf hw hk (show 5 < (a0 :: a1 :: a2 :: a3 :: a4 :: a5 :: r).length by simp only [List.length_cons]; omega) kk
theorem gj_pR5 {a0 a1 a2 a3 a4 a5 : AV} {r : List AV} {L : List (Option AV)} {j ci k z : Nat} {C : String} (dg : AtI y pc (.putfield j) 3 nx) (hf : LF y.1.cls j ci 5 true (.object C)) (hini : y.1.name = "<init>") (hown : ∃ T N, vwCl[ci]? = some (y.1.cls, T, N)) (hw : w k = cO ci (a0 :: a1 :: a2 :: a3 :: a4 :: a5 :: r)) (hk : Nat.blt k n = true) (kk : Gj l x y d mc ms nf Q kc ks n (upw w k (cO ci (a0 :: a1 :: a2 :: a3 :: a4 :: vR z :: r))) nx L S) : Gj l x y d mc ms nf Q kc ks n w pc L (vR z :: vR k :: S) := gj_putF nar_R dg hf hini hown hw hk (show 5 < (a0 :: a1 :: a2 :: a3 :: a4 :: a5 :: r).length by simp only [List.length_cons]; omega) kk
theorem gj_pA5 {a0 a1 a2 a3 a4 a5 : AV} {r : List AV} {L : List (Option AV)} {j ci k z : Nat} {e : FieldType} (dg : AtI y pc (.putfield j) 3 nx) (hf : LF y.1.cls j ci 5 true (.array e)) (hini : y.1.name = "<init>") (hown : ∃ T N, vwCl[ci]? = some (y.1.cls, T, N)) (hw : w k = cO ci (a0 :: a1 :: a2 :: a3 :: a4 :: a5 :: r)) (hk : Nat.blt k n = true) (kk : Gj l x y d mc ms nf Q kc ks n (upw w k (cO ci (a0 :: a1 :: a2 :: a3 :: a4 :: vR z :: r))) nx L S) : Gj l x y d mc ms nf Q kc ks n w pc L (vR z :: vR k :: S) := gj_putF nar_A dg hf hini hown hw hk (show 5 < (a0 :: a1 :: a2 :: a3 :: a4 :: a5 :: r).length by simp only [List.length_cons]; omega) kk
theorem gj_pI6 {a0 a1 a2 a3 a4 a5 a6 : AV} {r : List AV} {L : List (Option AV)} {j ci k : Nat} {z : Int} (dg : AtI y pc (.putfield j) 3 nx) (hf : LF y.1.cls j ci 6 false .int) (hw : w k = cO ci (a0 :: a1 :: a2 :: a3 :: a4 :: a5 :: a6 :: r)) (hk : Nat.blt k n = true) (kk : Gj l x y d mc ms nf Q kc ks n (upw w k (cO ci (a0 :: a1 :: a2 :: a3 :: a4 :: a5 :: vI z :: r))) nx L S) : Gj l x y d mc ms nf Q kc ks n w pc L (vI z :: vR k :: S) := gj_put nar_I dg hf hw hk (show 6 < (a0 :: a1 :: a2 :: a3 :: a4 :: a5 :: a6 :: r).length by simp only [List.length_cons]; omega) kk
theorem gj_pR6 {a0 a1 a2 a3 a4 a5 a6 : AV} {r : List AV} {L : List (Option AV)} {j ci k z : Nat} {C : String} (dg : AtI y pc (.putfield j) 3 nx) (hf : LF y.1.cls j ci 6 true (.object C)) (hini : y.1.name = "<init>") (hown : ∃ T N, vwCl[ci]? = some (y.1.cls, T, N)) (hw : w k = cO ci (a0 :: a1 :: a2 :: a3 :: a4 :: a5 :: a6 :: r)) (hk : Nat.blt k n = true) (kk : Gj l x y d mc ms nf Q kc ks n (upw w k (cO ci (a0 :: a1 :: a2 :: a3 :: a4 :: a5 :: vR z :: r))) nx L S) : Gj l x y d mc ms nf Q kc ks n w pc L (vR z :: vR k :: S) := gj_putF nar_R dg hf hini hown hw hk (show 6 < (a0 :: a1 :: a2 :: a3 :: a4 :: a5 :: a6 :: r).length by simp only [List.length_cons]; omega) kk
theorem gj_pA6 {a0 a1 a2 a3 a4 a5 a6 : AV} {r : List AV} {L : List (Option AV)} {j ci k z : Nat} {e : FieldType} (dg : AtI y pc (.putfield j) 3 nx) (hf : LF y.1.cls j ci 6 true (.array e)) (hini : y.1.name = "<init>") (hown : ∃ T N, vwCl[ci]? = some (y.1.cls, T, N)) (hw : w k = cO ci (a0 :: a1 :: a2 :: a3 :: a4 :: a5 :: a6 :: r)) (hk : Nat.blt k n = true) (kk : Gj l x y d mc ms nf Q kc ks n (upw w k (cO ci (a0 :: a1 :: a2 :: a3 :: a4 :: a5 :: vR z :: r))) nx L S) : Gj l x y d mc ms nf Q kc ks n w pc L (vR z :: vR k :: S) := gj_putF nar_A dg hf hini hown hw hk (show 6 < (a0 :: a1 :: a2 :: a3 :: a4 :: a5 :: a6 :: r).length by simp only [List.length_cons]; omega) kk
theorem gj_pI7 {a0 a1 a2 a3 a4 a5 a6 a7 : AV} {r : List AV} {L : List (Option AV)} {j ci k : Nat} {z : Int} (dg : AtI y pc (.putfield j) 3 nx) (hf : LF y.1.cls j ci 7 false .int) (hw : w k = cO ci (a0 :: a1 :: a2 :: a3 :: a4 :: a5 :: a6 :: a7 :: r)) (hk : Nat.blt k n = true) (kk : Gj l x y d mc ms nf Q kc ks n (upw w k (cO ci (a0 :: a1 :: a2 :: a3 :: a4 :: a5 :: a6 :: vI z :: r))) nx L S) : Gj l x y d mc ms nf Q kc ks n w pc L (vI z :: vR k :: S) := gj_put nar_I dg hf hw hk (show 7 < (a0 :: a1 :: a2 :: a3 :: a4 :: a5 :: a6 :: a7 :: r).length by simp only [List.length_cons]; omega) kk
theorem gj_pR7 {a0 a1 a2 a3 a4 a5 a6 a7 : AV} {r : List AV} {L : List (Option AV)} {j ci k z : Nat} {C : String} (dg : AtI y pc (.putfield j) 3 nx) (hf : LF y.1.cls j ci 7 true (.object C)) (hini : y.1.name = "<init>") (hown : ∃ T N, vwCl[ci]? = some (y.1.cls, T, N)) (hw : w k = cO ci (a0 :: a1 :: a2 :: a3 :: a4 :: a5 :: a6 :: a7 :: r)) (hk : Nat.blt k n = true) (kk : Gj l x y d mc ms nf Q kc ks n (upw w k (cO ci (a0 :: a1 :: a2 :: a3 :: a4 :: a5 :: a6 :: vR z :: r))) nx L S) : Gj l x y d mc ms nf Q kc ks n w pc L (vR z :: vR k :: S) := gj_putF nar_R dg hf hini hown hw hk (show 7 < (a0 :: a1 :: a2 :: a3 :: a4 :: a5 :: a6 :: a7 :: r).length by simp only [List.length_cons]; omega) kk
theorem gj_pA7 {a0 a1 a2 a3 a4 a5 a6 a7 : AV} {r : List AV} {L : List (Option AV)} {j ci k z : Nat} {e : FieldType} (dg : AtI y pc (.putfield j) 3 nx) (hf : LF y.1.cls j ci 7 true (.array e)) (hini : y.1.name = "<init>") (hown : ∃ T N, vwCl[ci]? = some (y.1.cls, T, N)) (hw : w k = cO ci (a0 :: a1 :: a2 :: a3 :: a4 :: a5 :: a6 :: a7 :: r)) (hk : Nat.blt k n = true) (kk : Gj l x y d mc ms nf Q kc ks n (upw w k (cO ci (a0 :: a1 :: a2 :: a3 :: a4 :: a5 :: a6 :: vR z :: r))) nx L S) : Gj l x y d mc ms nf Q kc ks n w pc L (vR z :: vR k :: S) := gj_putF nar_A dg hf hini hown hw hk (show 7 < (a0 :: a1 :: a2 :: a3 :: a4 :: a5 :: a6 :: a7 :: r).length by simp only [List.length_cons]; omega) kk
theorem gj_pI8 {a0 a1 a2 a3 a4 a5 a6 a7 a8 : AV} {r : List AV} {L : List (Option AV)} {j ci k : Nat} {z : Int} (dg : AtI y pc (.putfield j) 3 nx) (hf : LF y.1.cls j ci 8 false .int) (hw : w k = cO ci (a0 :: a1 :: a2 :: a3 :: a4 :: a5 :: a6 :: a7 :: a8 :: r)) (hk : Nat.blt k n = true) (kk : Gj l x y d mc ms nf Q kc ks n (upw w k (cO ci (a0 :: a1 :: a2 :: a3 :: a4 :: a5 :: a6 :: a7 :: vI z :: r))) nx L S) : Gj l x y d mc ms nf Q kc ks n w pc L (vI z :: vR k :: S) := gj_put nar_I dg hf hw hk (show 8 < (a0 :: a1 :: a2 :: a3 :: a4 :: a5 :: a6 :: a7 :: a8 :: r).length by simp only [List.length_cons]; omega) kk
theorem gj_pR8 {a0 a1 a2 a3 a4 a5 a6 a7 a8 : AV} {r : List AV} {L : List (Option AV)} {j ci k z : Nat} {C : String} (dg : AtI y pc (.putfield j) 3 nx) (hf : LF y.1.cls j ci 8 true (.object C)) (hini : y.1.name = "<init>") (hown : ∃ T N, vwCl[ci]? = some (y.1.cls, T, N)) (hw : w k = cO ci (a0 :: a1 :: a2 :: a3 :: a4 :: a5 :: a6 :: a7 :: a8 :: r)) (hk : Nat.blt k n = true) (kk : Gj l x y d mc ms nf Q kc ks n (upw w k (cO ci (a0 :: a1 :: a2 :: a3 :: a4 :: a5 :: a6 :: a7 :: vR z :: r))) nx L S) : Gj l x y d mc ms nf Q kc ks n w pc L (vR z :: vR k :: S) := gj_putF nar_R dg hf hini hown hw hk (show 8 < (a0 :: a1 :: a2 :: a3 :: a4 :: a5 :: a6 :: a7 :: a8 :: r).length by simp only [List.length_cons]; omega) kk
theorem gj_pA8 {a0 a1 a2 a3 a4 a5 a6 a7 a8 : AV} {r : List AV} {L : List (Option AV)} {j ci k z : Nat} {e : FieldType} (dg : AtI y pc (.putfield j) 3 nx) (hf : LF y.1.cls j ci 8 true (.array e)) (hini : y.1.name = "<init>") (hown : ∃ T N, vwCl[ci]? = some (y.1.cls, T, N)) (hw : w k = cO ci (a0 :: a1 :: a2 :: a3 :: a4 :: a5 :: a6 :: a7 :: a8 :: r)) (hk : Nat.blt k n = true) (kk : Gj l x y d mc ms nf Q kc ks n (upw w k (cO ci (a0 :: a1 :: a2 :: a3 :: a4 :: a5 :: a6 :: a7 :: vR z :: r))) nx L S) : Gj l x y d mc ms nf Q kc ks n w pc L (vR z :: vR k :: S) := gj_putF nar_A dg hf hini hown hw hk (show 8 < (a0 :: a1 :: a2 :: a3 :: a4 :: a5 :: a6 :: a7 :: a8 :: r).length by simp only [List.length_cons]; omega) kk
theorem gj_pI9 {a0 a1 a2 a3 a4 a5 a6 a7 a8 a9 : AV} {r : List AV} {L : List (Option AV)} {j ci k : Nat} {z : Int} (dg : AtI y pc (.putfield j) 3 nx) (hf : LF y.1.cls j ci 9 false .int) (hw : w k = cO ci (a0 :: a1 :: a2 :: a3 :: a4 :: a5 :: a6 :: a7 :: a8 :: a9 :: r)) (hk : Nat.blt k n = true) (kk : Gj l x y d mc ms nf Q kc ks n (upw w k (cO ci (a0 :: a1 :: a2 :: a3 :: a4 :: a5 :: a6 :: a7 :: a8 :: vI z :: r))) nx L S) : Gj l x y d mc ms nf Q kc ks n w pc L (vI z :: vR k :: S) := gj_put nar_I dg hf hw hk (show 9 < (a0 :: a1 :: a2 :: a3 :: a4 :: a5 :: a6 :: a7 :: a8 :: a9 :: r).length by simp only [List.length_cons]; omega) kk
theorem gj_pR9 {a0 a1 a2 a3 a4 a5 a6 a7 a8 a9 : AV} {r : List AV} {L : List (Option AV)} {j ci k z : Nat} {C : String} (dg : AtI y pc (.putfield j) 3 nx) (hf : LF y.1.cls j ci 9 true (.object C)) (hini : y.1.name = "<init>") (hown : ∃ T N, vwCl[ci]? = some (y.1.cls, T, N)) (hw : w k = cO ci (a0 :: a1 :: a2 :: a3 :: a4 :: a5 :: a6 :: a7 :: a8 :: a9 :: r)) (hk : Nat.blt k n = true) (kk : Gj l x y d mc ms nf Q kc ks n (upw w k (cO ci (a0 :: a1 :: a2 :: a3 :: a4 :: a5 :: a6 :: a7 :: a8 :: vR z :: r))) nx L S) : Gj l x y d mc ms nf Q kc ks n w pc L (vR z :: vR k :: S) := gj_putF nar_R dg hf hini hown hw hk (show 9 < (a0 :: a1 :: a2 :: a3 :: a4 :: a5 :: a6 :: a7 :: a8 :: a9 :: r).length by simp only [List.length_cons]; omega) kk
theorem gj_pA9 {a0 a1 a2 a3 a4 a5 a6 a7 a8 a9 : AV} {r : List AV} {L : List (Option AV)} {j ci k z : Nat} {e : FieldType} (dg : AtI y pc (.putfield j) 3 nx) (hf : LF y.1.cls j ci 9 true (.array e)) (hini : y.1.name = "<init>") (hown : ∃ T N, vwCl[ci]? = some (y.1.cls, T, N)) (hw : w k = cO ci (a0 :: a1 :: a2 :: a3 :: a4 :: a5 :: a6 :: a7 :: a8 :: a9 :: r)) (hk : Nat.blt k n = true) (kk : Gj l x y d mc ms nf Q kc ks n (upw w k (cO ci (a0 :: a1 :: a2 :: a3 :: a4 :: a5 :: a6 :: a7 :: a8 :: vR z :: r))) nx L S) : Gj l x y d mc ms nf Q kc ks n w pc L (vR z :: vR k :: S) := gj_putF nar_A dg hf hini hown hw hk (show 9 < (a0 :: a1 :: a2 :: a3 :: a4 :: a5 :: a6 :: a7 :: a8 :: a9 :: r).length by simp only [List.length_cons]; omega) kk
theorem gj_pI10 {a0 a1 a2 a3 a4 a5 a6 a7 a8 a9 a10 : AV} {r : List AV} {L : List (Option AV)} {j ci k : Nat} {z : Int} (dg : AtI y pc (.putfield j) 3 nx) (hf : LF y.1.cls j ci 10 false .int) (hw : w k = cO ci (a0 :: a1 :: a2 :: a3 :: a4 :: a5 :: a6 :: a7 :: a8 :: a9 :: a10 :: r)) (hk : Nat.blt k n = true) (kk : Gj l x y d mc ms nf Q kc ks n (upw w k (cO ci (a0 :: a1 :: a2 :: a3 :: a4 :: a5 :: a6 :: a7 :: a8 :: a9 :: vI z :: r))) nx L S) : Gj l x y d mc ms nf Q kc ks n w pc L (vI z :: vR k :: S) := gj_put nar_I dg hf hw hk (show 10 < (a0 :: a1 :: a2 :: a3 :: a4 :: a5 :: a6 :: a7 :: a8 :: a9 :: a10 :: r).length by simp only [List.length_cons]; omega) kk
theorem gj_pR10 {a0 a1 a2 a3 a4 a5 a6 a7 a8 a9 a10 : AV} {r : List AV} {L : List (Option AV)} {j ci k z : Nat} {C : String} (dg : AtI y pc (.putfield j) 3 nx) (hf : LF y.1.cls j ci 10 true (.object C)) (hini : y.1.name = "<init>") (hown : ∃ T N, vwCl[ci]? = some (y.1.cls, T, N)) (hw : w k = cO ci (a0 :: a1 :: a2 :: a3 :: a4 :: a5 :: a6 :: a7 :: a8 :: a9 :: a10 :: r)) (hk : Nat.blt k n = true) (kk : Gj l x y d mc ms nf Q kc ks n (upw w k (cO ci (a0 :: a1 :: a2 :: a3 :: a4 :: a5 :: a6 :: a7 :: a8 :: a9 :: vR z :: r))) nx L S) : Gj l x y d mc ms nf Q kc ks n w pc L (vR z :: vR k :: S) := gj_putF nar_R dg hf hini hown hw hk (show 10 < (a0 :: a1 :: a2 :: a3 :: a4 :: a5 :: a6 :: a7 :: a8 :: a9 :: a10 :: r).length by simp only [List.length_cons]; omega) kk
theorem gj_pA10 {a0 a1 a2 a3 a4 a5 a6 a7 a8 a9 a10 : AV} {r : List AV} {L : List (Option AV)} {j ci k z : Nat} {e : FieldType} (dg : AtI y pc (.putfield j) 3 nx) (hf : LF y.1.cls j ci 10 true (.array e)) (hini : y.1.name = "<init>") (hown : ∃ T N, vwCl[ci]? = some (y.1.cls, T, N)) (hw : w k = cO ci (a0 :: a1 :: a2 :: a3 :: a4 :: a5 :: a6 :: a7 :: a8 :: a9 :: a10 :: r)) (hk : Nat.blt k n = true) (kk : Gj l x y d mc ms nf Q kc ks n (upw w k (cO ci (a0 :: a1 :: a2 :: a3 :: a4 :: a5 :: a6 :: a7 :: a8 :: a9 :: vR z :: r))) nx L S) : Gj l x y d mc ms nf Q kc ks n w pc L (vR z :: vR k :: S) := gj_putF nar_A dg hf hini hown hw hk (show 10 < (a0 :: a1 :: a2 :: a3 :: a4 :: a5 :: a6 :: a7 :: a8 :: a9 :: a10 :: r).length by simp only [List.length_cons]; omega) kk
theorem gj_pI11 {a0 a1 a2 a3 a4 a5 a6 a7 a8 a9 a10 a11 : AV} {r : List AV} {L : List (Option AV)} {j ci k : Nat} {z : Int} (dg : AtI y pc (.putfield j) 3 nx) (hf : LF y.1.cls j ci 11 false .int) (hw : w k = cO ci (a0 :: a1 :: a2 :: a3 :: a4 :: a5 :: a6 :: a7 :: a8 :: a9 :: a10 :: a11 :: r)) (hk : Nat.blt k n = true) (kk : Gj l x y d mc ms nf Q kc ks n (upw w k (cO ci (a0 :: a1 :: a2 :: a3 :: a4 :: a5 :: a6 :: a7 :: a8 :: a9 :: a10 :: vI z :: r))) nx L S) : Gj l x y d mc ms nf Q kc ks n w pc L (vI z :: vR k :: S) := gj_put nar_I dg hf hw hk (show 11 < (a0 :: a1 :: a2 :: a3 :: a4 :: a5 :: a6 :: a7 :: a8 :: a9 :: a10 :: a11 :: r).length by simp only [List.length_cons]; omega) kk
theorem gj_pR11 {a0 a1 a2 a3 a4 a5 a6 a7 a8 a9 a10 a11 : AV} {r : List AV} {L : List (Option AV)} {j ci k z : Nat} {C : String} (dg : AtI y pc (.putfield j) 3 nx) (hf : LF y.1.cls j ci 11 true (.object C)) (hini : y.1.name = "<init>") (hown : ∃ T N, vwCl[ci]? = some (y.1.cls, T, N)) (hw : w k = cO ci (a0 :: a1 :: a2 :: a3 :: a4 :: a5 :: a6 :: a7 :: a8 :: a9 :: a10 :: a11 :: r)) (hk : Nat.blt k n = true) (kk : Gj l x y d mc ms nf Q kc ks n (upw w k (cO ci (a0 :: a1 :: a2 :: a3 :: a4 :: a5 :: a6 :: a7 :: a8 :: a9 :: a10 :: vR z :: r))) nx L S) : Gj l x y d mc ms nf Q kc ks n w pc L (vR z :: vR k :: S) := gj_putF nar_R dg hf hini hown hw hk (show 11 < (a0 :: a1 :: a2 :: a3 :: a4 :: a5 :: a6 :: a7 :: a8 :: a9 :: a10 :: a11 :: r).length by simp only [List.length_cons]; omega) kk
theorem gj_pA11 {a0 a1 a2 a3 a4 a5 a6 a7 a8 a9 a10 a11 : AV} {r : List AV} {L : List (Option AV)} {j ci k z : Nat} {e : FieldType} (dg : AtI y pc (.putfield j) 3 nx) (hf : LF y.1.cls j ci 11 true (.array e)) (hini : y.1.name = "<init>") (hown : ∃ T N, vwCl[ci]? = some (y.1.cls, T, N)) (hw : w k = cO ci (a0 :: a1 :: a2 :: a3 :: a4 :: a5 :: a6 :: a7 :: a8 :: a9 :: a10 :: a11 :: r)) (hk : Nat.blt k n = true) (kk : Gj l x y d mc ms nf Q kc ks n (upw w k (cO ci (a0 :: a1 :: a2 :: a3 :: a4 :: a5 :: a6 :: a7 :: a8 :: a9 :: a10 :: vR z :: r))) nx L S) : Gj l x y d mc ms nf Q kc ks n w pc L (vR z :: vR k :: S) := gj_putF nar_A dg hf hini hown hw hk (show 11 < (a0 :: a1 :: a2 :: a3 :: a4 :: a5 :: a6 :: a7 :: a8 :: a9 :: a10 :: a11 :: r).length by simp only [List.length_cons]; omega) kk
theorem gj_pI12 {a0 a1 a2 a3 a4 a5 a6 a7 a8 a9 a10 a11 a12 : AV} {r : List AV} {L : List (Option AV)} {j ci k : Nat} {z : Int} (dg : AtI y pc (.putfield j) 3 nx) (hf : LF y.1.cls j ci 12 false .int) (hw : w k = cO ci (a0 :: a1 :: a2 :: a3 :: a4 :: a5 :: a6 :: a7 :: a8 :: a9 :: a10 :: a11 :: a12 :: r)) (hk : Nat.blt k n = true) (kk : Gj l x y d mc ms nf Q kc ks n (upw w k (cO ci (a0 :: a1 :: a2 :: a3 :: a4 :: a5 :: a6 :: a7 :: a8 :: a9 :: a10 :: a11 :: vI z :: r))) nx L S) : Gj l x y d mc ms nf Q kc ks n w pc L (vI z :: vR k :: S) := gj_put nar_I dg hf hw hk (show 12 < (a0 :: a1 :: a2 :: a3 :: a4 :: a5 :: a6 :: a7 :: a8 :: a9 :: a10 :: a11 :: a12 :: r).length by simp only [List.length_cons]; omega) kk
theorem gj_pR12 {a0 a1 a2 a3 a4 a5 a6 a7 a8 a9 a10 a11 a12 : AV} {r : List AV} {L : List (Option AV)} {j ci k z : Nat} {C : String} (dg : AtI y pc (.putfield j) 3 nx) (hf : LF y.1.cls j ci 12 true (.object C)) (hini : y.1.name = "<init>") (hown : ∃ T N, vwCl[ci]? = some (y.1.cls, T, N)) (hw : w k = cO ci (a0 :: a1 :: a2 :: a3 :: a4 :: a5 :: a6 :: a7 :: a8 :: a9 :: a10 :: a11 :: a12 :: r)) (hk : Nat.blt k n = true) (kk : Gj l x y d mc ms nf Q kc ks n (upw w k (cO ci (a0 :: a1 :: a2 :: a3 :: a4 :: a5 :: a6 :: a7 :: a8 :: a9 :: a10 :: a11 :: vR z :: r))) nx L S) : Gj l x y d mc ms nf Q kc ks n w pc L (vR z :: vR k :: S) := gj_putF nar_R dg hf hini hown hw hk (show 12 < (a0 :: a1 :: a2 :: a3 :: a4 :: a5 :: a6 :: a7 :: a8 :: a9 :: a10 :: a11 :: a12 :: r).length by simp only [List.length_cons]; omega) kk
theorem gj_pA12 {a0 a1 a2 a3 a4 a5 a6 a7 a8 a9 a10 a11 a12 : AV} {r : List AV} {L : List (Option AV)} {j ci k z : Nat} {e : FieldType} (dg : AtI y pc (.putfield j) 3 nx) (hf : LF y.1.cls j ci 12 true (.array e)) (hini : y.1.name = "<init>") (hown : ∃ T N, vwCl[ci]? = some (y.1.cls, T, N)) (hw : w k = cO ci (a0 :: a1 :: a2 :: a3 :: a4 :: a5 :: a6 :: a7 :: a8 :: a9 :: a10 :: a11 :: a12 :: r)) (hk : Nat.blt k n = true) (kk : Gj l x y d mc ms nf Q kc ks n (upw w k (cO ci (a0 :: a1 :: a2 :: a3 :: a4 :: a5 :: a6 :: a7 :: a8 :: a9 :: a10 :: a11 :: vR z :: r))) nx L S) : Gj l x y d mc ms nf Q kc ks n w pc L (vR z :: vR k :: S) := gj_putF nar_A dg hf hini hown hw hk (show 12 < (a0 :: a1 :: a2 :: a3 :: a4 :: a5 :: a6 :: a7 :: a8 :: a9 :: a10 :: a11 :: a12 :: r).length by simp only [List.length_cons]; omega) kk
theorem gj_pI13 {a0 a1 a2 a3 a4 a5 a6 a7 a8 a9 a10 a11 a12 a13 : AV} {r : List AV} {L : List (Option AV)} {j ci k : Nat} {z : Int} (dg : AtI y pc (.putfield j) 3 nx) (hf : LF y.1.cls j ci 13 false .int) (hw : w k = cO ci (a0 :: a1 :: a2 :: a3 :: a4 :: a5 :: a6 :: a7 :: a8 :: a9 :: a10 :: a11 :: a12 :: a13 :: r)) (hk : Nat.blt k n = true) (kk : Gj l x y d mc ms nf Q kc ks n (upw w k (cO ci (a0 :: a1 :: a2 :: a3 :: a4 :: a5 :: a6 :: a7 :: a8 :: a9 :: a10 :: a11 :: a12 :: vI z :: r))) nx L S) : Gj l x y d mc ms nf Q kc ks n w pc L (vI z :: vR k :: S) := gj_put nar_I dg hf hw hk (show 13 < (a0 :: a1 :: a2 :: a3 :: a4 :: a5 :: a6 :: a7 :: a8 :: a9 :: a10 :: a11 :: a12 :: a13 :: r).length by simp only [List.length_cons]; omega) kk
theorem gj_pR13 {a0 a1 a2 a3 a4 a5 a6 a7 a8 a9 a10 a11 a12 a13 : AV} {r : List AV} {L : List (Option AV)} {j ci k z : Nat} {C : String} (dg : AtI y pc (.putfield j) 3 nx) (hf : LF y.1.cls j ci 13 true (.object C)) (hini : y.1.name = "<init>") (hown : ∃ T N, vwCl[ci]? = some (y.1.cls, T, N)) (hw : w k = cO ci (a0 :: a1 :: a2 :: a3 :: a4 :: a5 :: a6 :: a7 :: a8 :: a9 :: a10 :: a11 :: a12 :: a13 :: r)) (hk : Nat.blt k n = true) (kk : Gj l x y d mc ms nf Q kc ks n (upw w k (cO ci (a0 :: a1 :: a2 :: a3 :: a4 :: a5 :: a6 :: a7 :: a8 :: a9 :: a10 :: a11 :: a12 :: vR z :: r))) nx L S) : Gj l x y d mc ms nf Q kc ks n w pc L (vR z :: vR k :: S) := gj_putF nar_R dg hf hini hown hw hk (show 13 < (a0 :: a1 :: a2 :: a3 :: a4 :: a5 :: a6 :: a7 :: a8 :: a9 :: a10 :: a11 :: a12 :: a13 :: r).length by simp only [List.length_cons]; omega) kk
theorem gj_pA13 {a0 a1 a2 a3 a4 a5 a6 a7 a8 a9 a10 a11 a12 a13 : AV} {r : List AV} {L : List (Option AV)} {j ci k z : Nat} {e : FieldType} (dg : AtI y pc (.putfield j) 3 nx) (hf : LF y.1.cls j ci 13 true (.array e)) (hini : y.1.name = "<init>") (hown : ∃ T N, vwCl[ci]? = some (y.1.cls, T, N)) (hw : w k = cO ci (a0 :: a1 :: a2 :: a3 :: a4 :: a5 :: a6 :: a7 :: a8 :: a9 :: a10 :: a11 :: a12 :: a13 :: r)) (hk : Nat.blt k n = true) (kk : Gj l x y d mc ms nf Q kc ks n (upw w k (cO ci (a0 :: a1 :: a2 :: a3 :: a4 :: a5 :: a6 :: a7 :: a8 :: a9 :: a10 :: a11 :: a12 :: vR z :: r))) nx L S) : Gj l x y d mc ms nf Q kc ks n w pc L (vR z :: vR k :: S) := gj_putF nar_A dg hf hini hown hw hk (show 13 < (a0 :: a1 :: a2 :: a3 :: a4 :: a5 :: a6 :: a7 :: a8 :: a9 :: a10 :: a11 :: a12 :: a13 :: r).length by simp only [List.length_cons]; omega) kk
theorem gj_pI14 {a0 a1 a2 a3 a4 a5 a6 a7 a8 a9 a10 a11 a12 a13 a14 : AV} {r : List AV} {L : List (Option AV)} {j ci k : Nat} {z : Int} (dg : AtI y pc (.putfield j) 3 nx) (hf : LF y.1.cls j ci 14 false .int) (hw : w k = cO ci (a0 :: a1 :: a2 :: a3 :: a4 :: a5 :: a6 :: a7 :: a8 :: a9 :: a10 :: a11 :: a12 :: a13 :: a14 :: r)) (hk : Nat.blt k n = true) (kk : Gj l x y d mc ms nf Q kc ks n (upw w k (cO ci (a0 :: a1 :: a2 :: a3 :: a4 :: a5 :: a6 :: a7 :: a8 :: a9 :: a10 :: a11 :: a12 :: a13 :: vI z :: r))) nx L S) : Gj l x y d mc ms nf Q kc ks n w pc L (vI z :: vR k :: S) := gj_put nar_I dg hf hw hk (show 14 < (a0 :: a1 :: a2 :: a3 :: a4 :: a5 :: a6 :: a7 :: a8 :: a9 :: a10 :: a11 :: a12 :: a13 :: a14 :: r).length by simp only [List.length_cons]; omega) kk
theorem gj_pR14 {a0 a1 a2 a3 a4 a5 a6 a7 a8 a9 a10 a11 a12 a13 a14 : AV} {r : List AV} {L : List (Option AV)} {j ci k z : Nat} {C : String} (dg : AtI y pc (.putfield j) 3 nx) (hf : LF y.1.cls j ci 14 true (.object C)) (hini : y.1.name = "<init>") (hown : ∃ T N, vwCl[ci]? = some (y.1.cls, T, N)) (hw : w k = cO ci (a0 :: a1 :: a2 :: a3 :: a4 :: a5 :: a6 :: a7 :: a8 :: a9 :: a10 :: a11 :: a12 :: a13 :: a14 :: r)) (hk : Nat.blt k n = true) (kk : Gj l x y d mc ms nf Q kc ks n (upw w k (cO ci (a0 :: a1 :: a2 :: a3 :: a4 :: a5 :: a6 :: a7 :: a8 :: a9 :: a10 :: a11 :: a12 :: a13 :: vR z :: r))) nx L S) : Gj l x y d mc ms nf Q kc ks n w pc L (vR z :: vR k :: S) := gj_putF nar_R dg hf hini hown hw hk (show 14 < (a0 :: a1 :: a2 :: a3 :: a4 :: a5 :: a6 :: a7 :: a8 :: a9 :: a10 :: a11 :: a12 :: a13 :: a14 :: r).length by simp only [List.length_cons]; omega) kk
theorem gj_pA14 {a0 a1 a2 a3 a4 a5 a6 a7 a8 a9 a10 a11 a12 a13 a14 : AV} {r : List AV} {L : List (Option AV)} {j ci k z : Nat} {e : FieldType} (dg : AtI y pc (.putfield j) 3 nx) (hf : LF y.1.cls j ci 14 true (.array e)) (hini : y.1.name = "<init>") (hown : ∃ T N, vwCl[ci]? = some (y.1.cls, T, N)) (hw : w k = cO ci (a0 :: a1 :: a2 :: a3 :: a4 :: a5 :: a6 :: a7 :: a8 :: a9 :: a10 :: a11 :: a12 :: a13 :: a14 :: r)) (hk : Nat.blt k n = true) (kk : Gj l x y d mc ms nf Q kc ks n (upw w k (cO ci (a0 :: a1 :: a2 :: a3 :: a4 :: a5 :: a6 :: a7 :: a8 :: a9 :: a10 :: a11 :: a12 :: a13 :: vR z :: r))) nx L S) : Gj l x y d mc ms nf Q kc ks n w pc L (vR z :: vR k :: S) := gj_putF nar_A dg hf hini hown hw hk (show 14 < (a0 :: a1 :: a2 :: a3 :: a4 :: a5 :: a6 :: a7 :: a8 :: a9 :: a10 :: a11 :: a12 :: a13 :: a14 :: r).length by simp only [List.length_cons]; omega) kk
theorem gj_pI15 {a0 a1 a2 a3 a4 a5 a6 a7 a8 a9 a10 a11 a12 a13 a14 a15 : AV} {r : List AV} {L : List (Option AV)} {j ci k : Nat} {z : Int} (dg : AtI y pc (.putfield j) 3 nx) (hf : LF y.1.cls j ci 15 false .int) (hw : w k = cO ci (a0 :: a1 :: a2 :: a3 :: a4 :: a5 :: a6 :: a7 :: a8 :: a9 :: a10 :: a11 :: a12 :: a13 :: a14 :: a15 :: r)) (hk : Nat.blt k n = true) (kk : Gj l x y d mc ms nf Q kc ks n (upw w k (cO ci (a0 :: a1 :: a2 :: a3 :: a4 :: a5 :: a6 :: a7 :: a8 :: a9 :: a10 :: a11 :: a12 :: a13 :: a14 :: vI z :: r))) nx L S) : Gj l x y d mc ms nf Q kc ks n w pc L (vI z :: vR k :: S) := gj_put nar_I dg hf hw hk (show 15 < (a0 :: a1 :: a2 :: a3 :: a4 :: a5 :: a6 :: a7 :: a8 :: a9 :: a10 :: a11 :: a12 :: a13 :: a14 :: a15 :: r).length by simp only [List.length_cons]; omega) kk
theorem gj_pR15 {a0 a1 a2 a3 a4 a5 a6 a7 a8 a9 a10 a11 a12 a13 a14 a15 : AV} {r : List AV} {L : List (Option AV)} {j ci k z : Nat} {C : String} (dg : AtI y pc (.putfield j) 3 nx) (hf : LF y.1.cls j ci 15 true (.object C)) (hini : y.1.name = "<init>") (hown : ∃ T N, vwCl[ci]? = some (y.1.cls, T, N)) (hw : w k = cO ci (a0 :: a1 :: a2 :: a3 :: a4 :: a5 :: a6 :: a7 :: a8 :: a9 :: a10 :: a11 :: a12 :: a13 :: a14 :: a15 :: r)) (hk : Nat.blt k n = true) (kk : Gj l x y d mc ms nf Q kc ks n (upw w k (cO ci (a0 :: a1 :: a2 :: a3 :: a4 :: a5 :: a6 :: a7 :: a8 :: a9 :: a10 :: a11 :: a12 :: a13 :: a14 :: vR z :: r))) nx L S) : Gj l x y d mc ms nf Q kc ks n w pc L (vR z :: vR k :: S) := gj_putF nar_R dg hf hini hown hw hk (show 15 < (a0 :: a1 :: a2 :: a3 :: a4 :: a5 :: a6 :: a7 :: a8 :: a9 :: a10 :: a11 :: a12 :: a13 :: a14 :: a15 :: r).length by simp only [List.length_cons]; omega) kk
theorem gj_pA15 {a0 a1 a2 a3 a4 a5 a6 a7 a8 a9 a10 a11 a12 a13 a14 a15 : AV} {r : List AV} {L : List (Option AV)} {j ci k z : Nat} {e : FieldType} (dg : AtI y pc (.putfield j) 3 nx) (hf : LF y.1.cls j ci 15 true (.array e)) (hini : y.1.name = "<init>") (hown : ∃ T N, vwCl[ci]? = some (y.1.cls, T, N)) (hw : w k = cO ci (a0 :: a1 :: a2 :: a3 :: a4 :: a5 :: a6 :: a7 :: a8 :: a9 :: a10 :: a11 :: a12 :: a13 :: a14 :: a15 :: r)) (hk : Nat.blt k n = true) (kk : Gj l x y d mc ms nf Q kc ks n (upw w k (cO ci (a0 :: a1 :: a2 :: a3 :: a4 :: a5 :: a6 :: a7 :: a8 :: a9 :: a10 :: a11 :: a12 :: a13 :: a14 :: vR z :: r))) nx L S) : Gj l x y d mc ms nf Q kc ks n w pc L (vR z :: vR k :: S) := gj_putF nar_A dg hf hini hown hw hk (show 15 < (a0 :: a1 :: a2 :: a3 :: a4 :: a5 :: a6 :: a7 :: a8 :: a9 :: a10 :: a11 :: a12 :: a13 :: a14 :: a15 :: r).length by simp only [List.length_cons]; omega) kk
theorem gj_pI16 {a0 a1 a2 a3 a4 a5 a6 a7 a8 a9 a10 a11 a12 a13 a14 a15 a16 : AV} {r : List AV} {L : List (Option AV)} {j ci k : Nat} {z : Int} (dg : AtI y pc (.putfield j) 3 nx) (hf : LF y.1.cls j ci 16 false .int) (hw : w k = cO ci (a0 :: a1 :: a2 :: a3 :: a4 :: a5 :: a6 :: a7 :: a8 :: a9 :: a10 :: a11 :: a12 :: a13 :: a14 :: a15 :: a16 :: r)) (hk : Nat.blt k n = true) (kk : Gj l x y d mc ms nf Q kc ks n (upw w k (cO ci (a0 :: a1 :: a2 :: a3 :: a4 :: a5 :: a6 :: a7 :: a8 :: a9 :: a10 :: a11 :: a12 :: a13 :: a14 :: a15 :: vI z :: r))) nx L S) : Gj l x y d mc ms nf Q kc ks n w pc L (vI z :: vR k :: S) := gj_put nar_I dg hf hw hk (show 16 < (a0 :: a1 :: a2 :: a3 :: a4 :: a5 :: a6 :: a7 :: a8 :: a9 :: a10 :: a11 :: a12 :: a13 :: a14 :: a15 :: a16 :: r).length by simp only [List.length_cons]; omega) kk
theorem gj_pR16 {a0 a1 a2 a3 a4 a5 a6 a7 a8 a9 a10 a11 a12 a13 a14 a15 a16 : AV} {r : List AV} {L : List (Option AV)} {j ci k z : Nat} {C : String} (dg : AtI y pc (.putfield j) 3 nx) (hf : LF y.1.cls j ci 16 true (.object C)) (hini : y.1.name = "<init>") (hown : ∃ T N, vwCl[ci]? = some (y.1.cls, T, N)) (hw : w k = cO ci (a0 :: a1 :: a2 :: a3 :: a4 :: a5 :: a6 :: a7 :: a8 :: a9 :: a10 :: a11 :: a12 :: a13 :: a14 :: a15 :: a16 :: r)) (hk : Nat.blt k n = true) (kk : Gj l x y d mc ms nf Q kc ks n (upw w k (cO ci (a0 :: a1 :: a2 :: a3 :: a4 :: a5 :: a6 :: a7 :: a8 :: a9 :: a10 :: a11 :: a12 :: a13 :: a14 :: a15 :: vR z :: r))) nx L S) : Gj l x y d mc ms nf Q kc ks n w pc L (vR z :: vR k :: S) := gj_putF nar_R dg hf hini hown hw hk (show 16 < (a0 :: a1 :: a2 :: a3 :: a4 :: a5 :: a6 :: a7 :: a8 :: a9 :: a10 :: a11 :: a12 :: a13 :: a14 :: a15 :: a16 :: r).length by simp only [List.length_cons]; omega) kk
theorem gj_pA16 {a0 a1 a2 a3 a4 a5 a6 a7 a8 a9 a10 a11 a12 a13 a14 a15 a16 : AV} {r : List AV} {L : List (Option AV)} {j ci k z : Nat} {e : FieldType} (dg : AtI y pc (.putfield j) 3 nx) (hf : LF y.1.cls j ci 16 true (.array e)) (hini : y.1.name = "<init>") (hown : ∃ T N, vwCl[ci]? = some (y.1.cls, T, N)) (hw : w k = cO ci (a0 :: a1 :: a2 :: a3 :: a4 :: a5 :: a6 :: a7 :: a8 :: a9 :: a10 :: a11 :: a12 :: a13 :: a14 :: a15 :: a16 :: r)) (hk : Nat.blt k n = true) (kk : Gj l x y d mc ms nf Q kc ks n (upw w k (cO ci (a0 :: a1 :: a2 :: a3 :: a4 :: a5 :: a6 :: a7 :: a8 :: a9 :: a10 :: a11 :: a12 :: a13 :: a14 :: a15 :: vR z :: r))) nx L S) : Gj l x y d mc ms nf Q kc ks n w pc L (vR z :: vR k :: S) := gj_putF nar_A dg hf hini hown hw hk (show 16 < (a0 :: a1 :: a2 :: a3 :: a4 :: a5 :: a6 :: a7 :: a8 :: a9 :: a10 :: a11 :: a12 :: a13 :: a14 :: a15 :: a16 :: r).length by simp only [List.length_cons]; omega) kk
theorem gj_pI17 {a0 a1 a2 a3 a4 a5 a6 a7 a8 a9 a10 a11 a12 a13 a14 a15 a16 a17 : AV} {r : List AV} {L : List (Option AV)} {j ci k : Nat} {z : Int} (dg : AtI y pc (.putfield j) 3 nx) (hf : LF y.1.cls j ci 17 false .int) (hw : w k = cO ci (a0 :: a1 :: a2 :: a3 :: a4 :: a5 :: a6 :: a7 :: a8 :: a9 :: a10 :: a11 :: a12 :: a13 :: a14 :: a15 :: a16 :: a17 :: r)) (hk : Nat.blt k n = true) (kk : Gj l x y d mc ms nf Q kc ks n (upw w k (cO ci (a0 :: a1 :: a2 :: a3 :: a4 :: a5 :: a6 :: a7 :: a8 :: a9 :: a10 :: a11 :: a12 :: a13 :: a14 :: a15 :: a16 :: vI z :: r))) nx L S) : Gj l x y d mc ms nf Q kc ks n w pc L (vI z :: vR k :: S) := gj_put nar_I dg hf hw hk (show 17 < (a0 :: a1 :: a2 :: a3 :: a4 :: a5 :: a6 :: a7 :: a8 :: a9 :: a10 :: a11 :: a12 :: a13 :: a14 :: a15 :: a16 :: a17 :: r).length by simp only [List.length_cons]; omega) kk
theorem gj_pR17 {a0 a1 a2 a3 a4 a5 a6 a7 a8 a9 a10 a11 a12 a13 a14 a15 a16 a17 : AV} {r : List AV} {L : List (Option AV)} {j ci k z : Nat} {C : String} (dg : AtI y pc (.putfield j) 3 nx) (hf : LF y.1.cls j ci 17 true (.object C)) (hini : y.1.name = "<init>") (hown : ∃ T N, vwCl[ci]? = some (y.1.cls, T, N)) (hw : w k = cO ci (a0 :: a1 :: a2 :: a3 :: a4 :: a5 :: a6 :: a7 :: a8 :: a9 :: a10 :: a11 :: a12 :: a13 :: a14 :: a15 :: a16 :: a17 :: r)) (hk : Nat.blt k n = true) (kk : Gj l x y d mc ms nf Q kc ks n (upw w k (cO ci (a0 :: a1 :: a2 :: a3 :: a4 :: a5 :: a6 :: a7 :: a8 :: a9 :: a10 :: a11 :: a12 :: a13 :: a14 :: a15 :: a16 :: vR z :: r))) nx L S) : Gj l x y d mc ms nf Q kc ks n w pc L (vR z :: vR k :: S) := gj_putF nar_R dg hf hini hown hw hk (show 17 < (a0 :: a1 :: a2 :: a3 :: a4 :: a5 :: a6 :: a7 :: a8 :: a9 :: a10 :: a11 :: a12 :: a13 :: a14 :: a15 :: a16 :: a17 :: r).length by simp only [List.length_cons]; omega) kk
theorem gj_pA17 {a0 a1 a2 a3 a4 a5 a6 a7 a8 a9 a10 a11 a12 a13 a14 a15 a16 a17 : AV} {r : List AV} {L : List (Option AV)} {j ci k z : Nat} {e : FieldType} (dg : AtI y pc (.putfield j) 3 nx) (hf : LF y.1.cls j ci 17 true (.array e)) (hini : y.1.name = "<init>") (hown : ∃ T N, vwCl[ci]? = some (y.1.cls, T, N)) (hw : w k = cO ci (a0 :: a1 :: a2 :: a3 :: a4 :: a5 :: a6 :: a7 :: a8 :: a9 :: a10 :: a11 :: a12 :: a13 :: a14 :: a15 :: a16 :: a17 :: r)) (hk : Nat.blt k n = true) (kk : Gj l x y d mc ms nf Q kc ks n (upw w k (cO ci (a0 :: a1 :: a2 :: a3 :: a4 :: a5 :: a6 :: a7 :: a8 :: a9 :: a10 :: a11 :: a12 :: a13 :: a14 :: a15 :: a16 :: vR z :: r))) nx L S) : Gj l x y d mc ms nf Q kc ks n w pc L (vR z :: vR k :: S) := gj_putF nar_A dg hf hini hown hw hk (show 17 < (a0 :: a1 :: a2 :: a3 :: a4 :: a5 :: a6 :: a7 :: a8 :: a9 :: a10 :: a11 :: a12 :: a13 :: a14 :: a15 :: a16 :: a17 :: r).length by simp only [List.length_cons]; omega) kk
theorem gj_pI18 {a0 a1 a2 a3 a4 a5 a6 a7 a8 a9 a10 a11 a12 a13 a14 a15 a16 a17 a18 : AV} {r : List AV} {L : List (Option AV)} {j ci k : Nat} {z : Int} (dg : AtI y pc (.putfield j) 3 nx) (hf : LF y.1.cls j ci 18 false .int) (hw : w k = cO ci (a0 :: a1 :: a2 :: a3 :: a4 :: a5 :: a6 :: a7 :: a8 :: a9 :: a10 :: a11 :: a12 :: a13 :: a14 :: a15 :: a16 :: a17 :: a18 :: r)) (hk : Nat.blt k n = true) (kk : Gj l x y d mc ms nf Q kc ks n (upw w k (cO ci (a0 :: a1 :: a2 :: a3 :: a4 :: a5 :: a6 :: a7 :: a8 :: a9 :: a10 :: a11 :: a12 :: a13 :: a14 :: a15 :: a16 :: a17 :: vI z :: r))) nx L S) : Gj l x y d mc ms nf Q kc ks n w pc L (vI z :: vR k :: S) := gj_put nar_I dg hf hw hk (show 18 < (a0 :: a1 :: a2 :: a3 :: a4 :: a5 :: a6 :: a7 :: a8 :: a9 :: a10 :: a11 :: a12 :: a13 :: a14 :: a15 :: a16 :: a17 :: a18 :: r).length by simp only [List.length_cons]; omega) kk
theorem gj_pR18 {a0 a1 a2 a3 a4 a5 a6 a7 a8 a9 a10 a11 a12 a13 a14 a15 a16 a17 a18 : AV} {r : List AV} {L : List (Option AV)} {j ci k z : Nat} {C : String} (dg : AtI y pc (.putfield j) 3 nx) (hf : LF y.1.cls j ci 18 true (.object C)) (hini : y.1.name = "<init>") (hown : ∃ T N, vwCl[ci]? = some (y.1.cls, T, N)) (hw : w k = cO ci (a0 :: a1 :: a2 :: a3 :: a4 :: a5 :: a6 :: a7 :: a8 :: a9 :: a10 :: a11 :: a12 :: a13 :: a14 :: a15 :: a16 :: a17 :: a18 :: r)) (hk : Nat.blt k n = true) (kk : Gj l x y d mc ms nf Q kc ks n (upw w k (cO ci (a0 :: a1 :: a2 :: a3 :: a4 :: a5 :: a6 :: a7 :: a8 :: a9 :: a10 :: a11 :: a12 :: a13 :: a14 :: a15 :: a16 :: a17 :: vR z :: r))) nx L S) : Gj l x y d mc ms nf Q kc ks n w pc L (vR z :: vR k :: S) := gj_putF nar_R dg hf hini hown hw hk (show 18 < (a0 :: a1 :: a2 :: a3 :: a4 :: a5 :: a6 :: a7 :: a8 :: a9 :: a10 :: a11 :: a12 :: a13 :: a14 :: a15 :: a16 :: a17 :: a18 :: r).length by simp only [List.length_cons]; omega) kk
theorem gj_pA18 {a0 a1 a2 a3 a4 a5 a6 a7 a8 a9 a10 a11 a12 a13 a14 a15 a16 a17 a18 : AV} {r : List AV} {L : List (Option AV)} {j ci k z : Nat} {e : FieldType} (dg : AtI y pc (.putfield j) 3 nx) (hf : LF y.1.cls j ci 18 true (.array e)) (hini : y.1.name = "<init>") (hown : ∃ T N, vwCl[ci]? = some (y.1.cls, T, N)) (hw : w k = cO ci (a0 :: a1 :: a2 :: a3 :: a4 :: a5 :: a6 :: a7 :: a8 :: a9 :: a10 :: a11 :: a12 :: a13 :: a14 :: a15 :: a16 :: a17 :: a18 :: r)) (hk : Nat.blt k n = true) (kk : Gj l x y d mc ms nf Q kc ks n (upw w k (cO ci (a0 :: a1 :: a2 :: a3 :: a4 :: a5 :: a6 :: a7 :: a8 :: a9 :: a10 :: a11 :: a12 :: a13 :: a14 :: a15 :: a16 :: a17 :: vR z :: r))) nx L S) : Gj l x y d mc ms nf Q kc ks n w pc L (vR z :: vR k :: S) := gj_putF nar_A dg hf hini hown hw hk (show 18 < (a0 :: a1 :: a2 :: a3 :: a4 :: a5 :: a6 :: a7 :: a8 :: a9 :: a10 :: a11 :: a12 :: a13 :: a14 :: a15 :: a16 :: a17 :: a18 :: r).length by simp only [List.length_cons]; omega) kk
theorem gj_pI19 {a0 a1 a2 a3 a4 a5 a6 a7 a8 a9 a10 a11 a12 a13 a14 a15 a16 a17 a18 a19 : AV} {r : List AV} {L : List (Option AV)} {j ci k : Nat} {z : Int} (dg : AtI y pc (.putfield j) 3 nx) (hf : LF y.1.cls j ci 19 false .int) (hw : w k = cO ci (a0 :: a1 :: a2 :: a3 :: a4 :: a5 :: a6 :: a7 :: a8 :: a9 :: a10 :: a11 :: a12 :: a13 :: a14 :: a15 :: a16 :: a17 :: a18 :: a19 :: r)) (hk : Nat.blt k n = true) (kk : Gj l x y d mc ms nf Q kc ks n (upw w k (cO ci (a0 :: a1 :: a2 :: a3 :: a4 :: a5 :: a6 :: a7 :: a8 :: a9 :: a10 :: a11 :: a12 :: a13 :: a14 :: a15 :: a16 :: a17 :: a18 :: vI z :: r))) nx L S) : Gj l x y d mc ms nf Q kc ks n w pc L (vI z :: vR k :: S) := gj_put nar_I dg hf hw hk (show 19 < (a0 :: a1 :: a2 :: a3 :: a4 :: a5 :: a6 :: a7 :: a8 :: a9 :: a10 :: a11 :: a12 :: a13 :: a14 :: a15 :: a16 :: a17 :: a18 :: a19 :: r).length by simp only [List.length_cons]; omega) kk
theorem gj_pR19 {a0 a1 a2 a3 a4 a5 a6 a7 a8 a9 a10 a11 a12 a13 a14 a15 a16 a17 a18 a19 : AV} {r : List AV} {L : List (Option AV)} {j ci k z : Nat} {C : String} (dg : AtI y pc (.putfield j) 3 nx) (hf : LF y.1.cls j ci 19 true (.object C)) (hini : y.1.name = "<init>") (hown : ∃ T N, vwCl[ci]? = some (y.1.cls, T, N)) (hw : w k = cO ci (a0 :: a1 :: a2 :: a3 :: a4 :: a5 :: a6 :: a7 :: a8 :: a9 :: a10 :: a11 :: a12 :: a13 :: a14 :: a15 :: a16 :: a17 :: a18 :: a19 :: r)) (hk : Nat.blt k n = true) (kk : Gj l x y d mc ms nf Q kc ks n (upw w k (cO ci (a0 :: a1 :: a2 :: a3 :: a4 :: a5 :: a6 :: a7 :: a8 :: a9 :: a10 :: a11 :: a12 :: a13 :: a14 :: a15 :: a16 :: a17 :: a18 :: vR z :: r))) nx L S) : Gj l x y d mc ms nf Q kc ks n w pc L (vR z :: vR k :: S) := gj_putF nar_R dg hf hini hown hw hk (show 19 < (a0 :: a1 :: a2 :: a3 :: a4 :: a5 :: a6 :: a7 :: a8 :: a9 :: a10 :: a11 :: a12 :: a13 :: a14 :: a15 :: a16 :: a17 :: a18 :: a19 :: r).length by simp only [List.length_cons]; omega) kk
theorem gj_pA19 {a0 a1 a2 a3 a4 a5 a6 a7 a8 a9 a10 a11 a12 a13 a14 a15 a16 a17 a18 a19 : AV} {r : List AV} {L : List (Option AV)} {j ci k z : Nat} {e : FieldType} (dg : AtI y pc (.putfield j) 3 nx) (hf : LF y.1.cls j ci 19 true (.array e)) (hini : y.1.name = "<init>") (hown : ∃ T N, vwCl[ci]? = some (y.1.cls, T, N)) (hw : w k = cO ci (a0 :: a1 :: a2 :: a3 :: a4 :: a5 :: a6 :: a7 :: a8 :: a9 :: a10 :: a11 :: a12 :: a13 :: a14 :: a15 :: a16 :: a17 :: a18 :: a19 :: r)) (hk : Nat.blt k n = true) (kk : Gj l x y d mc ms nf Q kc ks n (upw w k (cO ci (a0 :: a1 :: a2 :: a3 :: a4 :: a5 :: a6 :: a7 :: a8 :: a9 :: a10 :: a11 :: a12 :: a13 :: a14 :: a15 :: a16 :: a17 :: a18 :: vR z :: r))) nx L S) : Gj l x y d mc ms nf Q kc ks n w pc L (vR z :: vR k :: S) := gj_putF nar_A dg hf hini hown hw hk (show 19 < (a0 :: a1 :: a2 :: a3 :: a4 :: a5 :: a6 :: a7 :: a8 :: a9 :: a10 :: a11 :: a12 :: a13 :: a14 :: a15 :: a16 :: a17 :: a18 :: a19 :: r).length by simp only [List.length_cons]; omega) kk
theorem gj_pI20 {a0 a1 a2 a3 a4 a5 a6 a7 a8 a9 a10 a11 a12 a13 a14 a15 a16 a17 a18 a19 a20 : AV} {r : List AV} {L : List (Option AV)} {j ci k : Nat} {z : Int} (dg : AtI y pc (.putfield j) 3 nx) (hf : LF y.1.cls j ci 20 false .int) (hw : w k = cO ci (a0 :: a1 :: a2 :: a3 :: a4 :: a5 :: a6 :: a7 :: a8 :: a9 :: a10 :: a11 :: a12 :: a13 :: a14 :: a15 :: a16 :: a17 :: a18 :: a19 :: a20 :: r)) (hk : Nat.blt k n = true) (kk : Gj l x y d mc ms nf Q kc ks n (upw w k (cO ci (a0 :: a1 :: a2 :: a3 :: a4 :: a5 :: a6 :: a7 :: a8 :: a9 :: a10 :: a11 :: a12 :: a13 :: a14 :: a15 :: a16 :: a17 :: a18 :: a19 :: vI z :: r))) nx L S) : Gj l x y d mc ms nf Q kc ks n w pc L (vI z :: vR k :: S) := gj_put nar_I dg hf hw hk (show 20 < (a0 :: a1 :: a2 :: a3 :: a4 :: a5 :: a6 :: a7 :: a8 :: a9 :: a10 :: a11 :: a12 :: a13 :: a14 :: a15 :: a16 :: a17 :: a18 :: a19 :: a20 :: r).length by simp only [List.length_cons]; omega) kk
theorem gj_pR20 {a0 a1 a2 a3 a4 a5 a6 a7 a8 a9 a10 a11 a12 a13 a14 a15 a16 a17 a18 a19 a20 : AV} {r : List AV} {L : List (Option AV)} {j ci k z : Nat} {C : String} (dg : AtI y pc (.putfield j) 3 nx) (hf : LF y.1.cls j ci 20 true (.object C)) (hini : y.1.name = "<init>") (hown : ∃ T N, vwCl[ci]? = some (y.1.cls, T, N)) (hw : w k = cO ci (a0 :: a1 :: a2 :: a3 :: a4 :: a5 :: a6 :: a7 :: a8 :: a9 :: a10 :: a11 :: a12 :: a13 :: a14 :: a15 :: a16 :: a17 :: a18 :: a19 :: a20 :: r)) (hk : Nat.blt k n = true) (kk : Gj l x y d mc ms nf Q kc ks n (upw w k (cO ci (a0 :: a1 :: a2 :: a3 :: a4 :: a5 :: a6 :: a7 :: a8 :: a9 :: a10 :: a11 :: a12 :: a13 :: a14 :: a15 :: a16 :: a17 :: a18 :: a19 :: vR z :: r))) nx L S) : Gj l x y d mc ms nf Q kc ks n w pc L (vR z :: vR k :: S) := gj_putF nar_R dg hf hini hown hw hk (show 20 < (a0 :: a1 :: a2 :: a3 :: a4 :: a5 :: a6 :: a7 :: a8 :: a9 :: a10 :: a11 :: a12 :: a13 :: a14 :: a15 :: a16 :: a17 :: a18 :: a19 :: a20 :: r).length by simp only [List.length_cons]; omega) kk
theorem gj_pA20 {a0 a1 a2 a3 a4 a5 a6 a7 a8 a9 a10 a11 a12 a13 a14 a15 a16 a17 a18 a19 a20 : AV} {r : List AV} {L : List (Option AV)} {j ci k z : Nat} {e : FieldType} (dg : AtI y pc (.putfield j) 3 nx) (hf : LF y.1.cls j ci 20 true (.array e)) (hini : y.1.name = "<init>") (hown : ∃ T N, vwCl[ci]? = some (y.1.cls, T, N)) (hw : w k = cO ci (a0 :: a1 :: a2 :: a3 :: a4 :: a5 :: a6 :: a7 :: a8 :: a9 :: a10 :: a11 :: a12 :: a13 :: a14 :: a15 :: a16 :: a17 :: a18 :: a19 :: a20 :: r)) (hk : Nat.blt k n = true) (kk : Gj l x y d mc ms nf Q kc ks n (upw w k (cO ci (a0 :: a1 :: a2 :: a3 :: a4 :: a5 :: a6 :: a7 :: a8 :: a9 :: a10 :: a11 :: a12 :: a13 :: a14 :: a15 :: a16 :: a17 :: a18 :: a19 :: vR z :: r))) nx L S) : Gj l x y d mc ms nf Q kc ks n w pc L (vR z :: vR k :: S) := gj_putF nar_A dg hf hini hown hw hk (show 20 < (a0 :: a1 :: a2 :: a3 :: a4 :: a5 :: a6 :: a7 :: a8 :: a9 :: a10 :: a11 :: a12 :: a13 :: a14 :: a15 :: a16 :: a17 :: a18 :: a19 :: a20 :: r).length by simp only [List.length_cons]; omega) kk
theorem gj_pI21 {a0 a1 a2 a3 a4 a5 a6 a7 a8 a9 a10 a11 a12 a13 a14 a15 a16 a17 a18 a19 a20 a21 : AV} {r : List AV} {L : List (Option AV)} {j ci k : Nat} {z : Int} (dg : AtI y pc (.putfield j) 3 nx) (hf : LF y.1.cls j ci 21 false .int) (hw : w k = cO ci (a0 :: a1 :: a2 :: a3 :: a4 :: a5 :: a6 :: a7 :: a8 :: a9 :: a10 :: a11 :: a12 :: a13 :: a14 :: a15 :: a16 :: a17 :: a18 :: a19 :: a20 :: a21 :: r)) (hk : Nat.blt k n = true) (kk : Gj l x y d mc ms nf Q kc ks n (upw w k (cO ci (a0 :: a1 :: a2 :: a3 :: a4 :: a5 :: a6 :: a7 :: a8 :: a9 :: a10 :: a11 :: a12 :: a13 :: a14 :: a15 :: a16 :: a17 :: a18 :: a19 :: a20 :: vI z :: r))) nx L S) : Gj l x y d mc ms nf Q kc ks n w pc L (vI z :: vR k :: S) := gj_put nar_I dg hf hw hk (show 21 < (a0 :: a1 :: a2 :: a3 :: a4 :: a5 :: a6 :: a7 :: a8 :: a9 :: a10 :: a11 :: a12 :: a13 :: a14 :: a15 :: a16 :: a17 :: a18 :: a19 :: a20 :: a21 :: r).length by simp only [List.length_cons]; omega) kk
theorem gj_pR21 {a0 a1 a2 a3 a4 a5 a6 a7 a8 a9 a10 a11 a12 a13 a14 a15 a16 a17 a18 a19 a20 a21 : AV} {r : List AV} {L : List (Option AV)} {j ci k z : Nat} {C : String} (dg : AtI y pc (.putfield j) 3 nx) (hf : LF y.1.cls j ci 21 true (.object C)) (hini : y.1.name = "<init>") (hown : ∃ T N, vwCl[ci]? = some (y.1.cls, T, N)) (hw : w k = cO ci (a0 :: a1 :: a2 :: a3 :: a4 :: a5 :: a6 :: a7 :: a8 :: a9 :: a10 :: a11 :: a12 :: a13 :: a14 :: a15 :: a16 :: a17 :: a18 :: a19 :: a20 :: a21 :: r)) (hk : Nat.blt k n = true) (kk : Gj l x y d mc ms nf Q kc ks n (upw w k (cO ci (a0 :: a1 :: a2 :: a3 :: a4 :: a5 :: a6 :: a7 :: a8 :: a9 :: a10 :: a11 :: a12 :: a13 :: a14 :: a15 :: a16 :: a17 :: a18 :: a19 :: a20 :: vR z :: r))) nx L S) : Gj l x y d mc ms nf Q kc ks n w pc L (vR z :: vR k :: S) := gj_putF nar_R dg hf hini hown hw hk (show 21 < (a0 :: a1 :: a2 :: a3 :: a4 :: a5 :: a6 :: a7 :: a8 :: a9 :: a10 :: a11 :: a12 :: a13 :: a14 :: a15 :: a16 :: a17 :: a18 :: a19 :: a20 :: a21 :: r).length by simp only [List.length_cons]; omega) kk
theorem gj_pA21 {a0 a1 a2 a3 a4 a5 a6 a7 a8 a9 a10 a11 a12 a13 a14 a15 a16 a17 a18 a19 a20 a21 : AV} {r : List AV} {L : List (Option AV)} {j ci k z : Nat} {e : FieldType} (dg : AtI y pc (.putfield j) 3 nx) (hf : LF y.1.cls j ci 21 true (.array e)) (hini : y.1.name = "<init>") (hown : ∃ T N, vwCl[ci]? = some (y.1.cls, T, N)) (hw : w k = cO ci (a0 :: a1 :: a2 :: a3 :: a4 :: a5 :: a6 :: a7 :: a8 :: a9 :: a10 :: a11 :: a12 :: a13 :: a14 :: a15 :: a16 :: a17 :: a18 :: a19 :: a20 :: a21 :: r)) (hk : Nat.blt k n = true) (kk : Gj l x y d mc ms nf Q kc ks n (upw w k (cO ci (a0 :: a1 :: a2 :: a3 :: a4 :: a5 :: a6 :: a7 :: a8 :: a9 :: a10 :: a11 :: a12 :: a13 :: a14 :: a15 :: a16 :: a17 :: a18 :: a19 :: a20 :: vR z :: r))) nx L S) : Gj l x y d mc ms nf Q kc ks n w pc L (vR z :: vR k :: S) := gj_putF nar_A dg hf hini hown hw hk (show 21 < (a0 :: a1 :: a2 :: a3 :: a4 :: a5 :: a6 :: a7 :: a8 :: a9 :: a10 :: a11 :: a12 :: a13 :: a14 :: a15 :: a16 :: a17 :: a18 :: a19 :: a20 :: a21 :: r).length by simp only [List.length_cons]; omega) kk
theorem gj_pI22 {a0 a1 a2 a3 a4 a5 a6 a7 a8 a9 a10 a11 a12 a13 a14 a15 a16 a17 a18 a19 a20 a21 a22 : AV} {r : List AV} {L : List (Option AV)} {j ci k : Nat} {z : Int} (dg : AtI y pc (.putfield j) 3 nx) (hf : LF y.1.cls j ci 22 false .int) (hw : w k = cO ci (a0 :: a1 :: a2 :: a3 :: a4 :: a5 :: a6 :: a7 :: a8 :: a9 :: a10 :: a11 :: a12 :: a13 :: a14 :: a15 :: a16 :: a17 :: a18 :: a19 :: a20 :: a21 :: a22 :: r)) (hk : Nat.blt k n = true) (kk : Gj l x y d mc ms nf Q kc ks n (upw w k (cO ci (a0 :: a1 :: a2 :: a3 :: a4 :: a5 :: a6 :: a7 :: a8 :: a9 :: a10 :: a11 :: a12 :: a13 :: a14 :: a15 :: a16 :: a17 :: a18 :: a19 :: a20 :: a21 :: vI z :: r))) nx L S) : Gj l x y d mc ms nf Q kc ks n w pc L (vI z :: vR k :: S) := gj_put nar_I dg hf hw hk (show 22 < (a0 :: a1 :: a2 :: a3 :: a4 :: a5 :: a6 :: a7 :: a8 :: a9 :: a10 :: a11 :: a12 :: a13 :: a14 :: a15 :: a16 :: a17 :: a18 :: a19 :: a20 :: a21 :: a22 :: r).length by simp only [List.length_cons]; omega) kk
theorem gj_pR22 {a0 a1 a2 a3 a4 a5 a6 a7 a8 a9 a10 a11 a12 a13 a14 a15 a16 a17 a18 a19 a20 a21 a22 : AV} {r : List AV} {L : List (Option AV)} {j ci k z : Nat} {C : String} (dg : AtI y pc (.putfield j) 3 nx) (hf : LF y.1.cls j ci 22 true (.object C)) (hini : y.1.name = "<init>") (hown : ∃ T N, vwCl[ci]? = some (y.1.cls, T, N)) (hw : w k = cO ci (a0 :: a1 :: a2 :: a3 :: a4 :: a5 :: a6 :: a7 :: a8 :: a9 :: a10 :: a11 :: a12 :: a13 :: a14 :: a15 :: a16 :: a17 :: a18 :: a19 :: a20 :: a21 :: a22 :: r)) (hk : Nat.blt k n = true) (kk : Gj l x y d mc ms nf Q kc ks n (upw w k (cO ci (a0 :: a1 :: a2 :: a3 :: a4 :: a5 :: a6 :: a7 :: a8 :: a9 :: a10 :: a11 :: a12 :: a13 :: a14 :: a15 :: a16 :: a17 :: a18 :: a19 :: a20 :: a21 :: vR z :: r))) nx L S) : Gj l x y d mc ms nf Q kc ks n w pc L (vR z :: vR k :: S) := gj_putF nar_R dg hf hini hown hw hk (show 22 < (a0 :: a1 :: a2 :: a3 :: a4 :: a5 :: a6 :: a7 :: a8 :: a9 :: a10 :: a11 :: a12 :: a13 :: a14 :: a15 :: a16 :: a17 :: a18 :: a19 :: a20 :: a21 :: a22 :: r).length by simp only [List.length_cons]; omega) kk
theorem gj_pA22 {a0 a1 a2 a3 a4 a5 a6 a7 a8 a9 a10 a11 a12 a13 a14 a15 a16 a17 a18 a19 a20 a21 a22 : AV} {r : List AV} {L : List (Option AV)} {j ci k z : Nat} {e : FieldType} (dg : AtI y pc (.putfield j) 3 nx) (hf : LF y.1.cls j ci 22 true (.array e)) (hini : y.1.name = "<init>") (hown : ∃ T N, vwCl[ci]? = some (y.1.cls, T, N)) (hw : w k = cO ci (a0 :: a1 :: a2 :: a3 :: a4 :: a5 :: a6 :: a7 :: a8 :: a9 :: a10 :: a11 :: a12 :: a13 :: a14 :: a15 :: a16 :: a17 :: a18 :: a19 :: a20 :: a21 :: a22 :: r)) (hk : Nat.blt k n = true) (kk : Gj l x y d mc ms nf Q kc ks n (upw w k (cO ci (a0 :: a1 :: a2 :: a3 :: a4 :: a5 :: a6 :: a7 :: a8 :: a9 :: a10 :: a11 :: a12 :: a13 :: a14 :: a15 :: a16 :: a17 :: a18 :: a19 :: a20 :: a21 :: vR z :: r))) nx L S) : Gj l x y d mc ms nf Q kc ks n w pc L (vR z :: vR k :: S) := gj_putF nar_A dg hf hini hown hw hk (show 22 < (a0 :: a1 :: a2 :: a3 :: a4 :: a5 :: a6 :: a7 :: a8 :: a9 :: a10 :: a11 :: a12 :: a13 :: a14 :: a15 :: a16 :: a17 :: a18 :: a19 :: a20 :: a21 :: a22 :: r).length by simp only [List.length_cons]; omega) kk
theorem gj_pI23 {a0 a1 a2 a3 a4 a5 a6 a7 a8 a9 a10 a11 a12 a13 a14 a15 a16 a17 a18 a19 a20 a21 a22 a23 : AV} {r : List AV} {L : List (Option AV)} {j ci k : Nat} {z : Int} (dg : AtI y pc (.putfield j) 3 nx) (hf : LF y.1.cls j ci 23 false .int) (hw : w k = cO ci (a0 :: a1 :: a2 :: a3 :: a4 :: a5 :: a6 :: a7 :: a8 :: a9 :: a10 :: a11 :: a12 :: a13 :: a14 :: a15 :: a16 :: a17 :: a18 :: a19 :: a20 :: a21 :: a22 :: a23 :: r)) (hk : Nat.blt k n = true) (kk : Gj l x y d mc ms nf Q kc ks n (upw w k (cO ci (a0 :: a1 :: a2 :: a3 :: a4 :: a5 :: a6 :: a7 :: a8 :: a9 :: a10 :: a11 :: a12 :: a13 :: a14 :: a15 :: a16 :: a17 :: a18 :: a19 :: a20 :: a21 :: a22 :: vI z :: r))) nx L S) : Gj l x y d mc ms nf Q kc ks n w pc L (vI z :: vR k :: S) := gj_put nar_I dg hf hw hk (show 23 < (a0 :: a1 :: a2 :: a3 :: a4 :: a5 :: a6 :: a7 :: a8 :: a9 :: a10 :: a11 :: a12 :: a13 :: a14 :: a15 :: a16 :: a17 :: a18 :: a19 :: a20 :: a21 :: a22 :: a23 :: r).length by simp only [List.length_cons]; omega) kk
theorem gj_pR23 {a0 a1 a2 a3 a4 a5 a6 a7 a8 a9 a10 a11 a12 a13 a14 a15 a16 a17 a18 a19 a20 a21 a22 a23 : AV} {r : List AV} {L : List (Option AV)} {j ci k z : Nat} {C : String} (dg : AtI y pc (.putfield j) 3 nx) (hf : LF y.1.cls j ci 23 true (.object C)) (hini : y.1.name = "<init>") (hown : ∃ T N, vwCl[ci]? = some (y.1.cls, T, N)) (hw : w k = cO ci (a0 :: a1 :: a2 :: a3 :: a4 :: a5 :: a6 :: a7 :: a8 :: a9 :: a10 :: a11 :: a12 :: a13 :: a14 :: a15 :: a16 :: a17 :: a18 :: a19 :: a20 :: a21 :: a22 :: a23 :: r)) (hk : Nat.blt k n = true) (kk : Gj l x y d mc ms nf Q kc ks n (upw w k (cO ci (a0 :: a1 :: a2 :: a3 :: a4 :: a5 :: a6 :: a7 :: a8 :: a9 :: a10 :: a11 :: a12 :: a13 :: a14 :: a15 :: a16 :: a17 :: a18 :: a19 :: a20 :: a21 :: a22 :: vR z :: r))) nx L S) : Gj l x y d mc ms nf Q kc ks n w pc L (vR z :: vR k :: S) := gj_putF nar_R dg hf hini hown hw hk (show 23 < (a0 :: a1 :: a2 :: a3 :: a4 :: a5 :: a6 :: a7 :: a8 :: a9 :: a10 :: a11 :: a12 :: a13 :: a14 :: a15 :: a16 :: a17 :: a18 :: a19 :: a20 :: a21 :: a22 :: a23 :: r).length by simp only [List.length_cons]; omega) kk
theorem gj_pA23 {a0 a1 a2 a3 a4 a5 a6 a7 a8 a9 a10 a11 a12 a13 a14 a15 a16 a17 a18 a19 a20 a21 a22 a23 : AV} {r : List AV} {L : List (Option AV)} {j ci k z : Nat} {e : FieldType} (dg : AtI y pc (.putfield j) 3 nx) (hf : LF y.1.cls j ci 23 true (.array e)) (hini : y.1.name = "<init>") (hown : ∃ T N, vwCl[ci]? = some (y.1.cls, T, N)) (hw : w k = cO ci (a0 :: a1 :: a2 :: a3 :: a4 :: a5 :: a6 :: a7 :: a8 :: a9 :: a10 :: a11 :: a12 :: a13 :: a14 :: a15 :: a16 :: a17 :: a18 :: a19 :: a20 :: a21 :: a22 :: a23 :: r)) (hk : Nat.blt k n = true) (kk : Gj l x y d mc ms nf Q kc ks n (upw w k (cO ci (a0 :: a1 :: a2 :: a3 :: a4 :: a5 :: a6 :: a7 :: a8 :: a9 :: a10 :: a11 :: a12 :: a13 :: a14 :: a15 :: a16 :: a17 :: a18 :: a19 :: a20 :: a21 :: a22 :: vR z :: r))) nx L S) : Gj l x y d mc ms nf Q kc ks n w pc L (vR z :: vR k :: S) := gj_putF nar_A dg hf hini hown hw hk (show 23 < (a0 :: a1 :: a2 :: a3 :: a4 :: a5 :: a6 :: a7 :: a8 :: a9 :: a10 :: a11 :: a12 :: a13 :: a14 :: a15 :: a16 :: a17 :: a18 :: a19 :: a20 :: a21 :: a22 :: a23 :: r).length by simp only [List.length_cons]; omega) kk
theorem gj_pI24 {a0 a1 a2 a3 a4 a5 a6 a7 a8 a9 a10 a11 a12 a13 a14 a15 a16 a17 a18 a19 a20 a21 a22 a23 a24 : AV} {r : List AV} {L : List (Option AV)} {j ci k : Nat} {z : Int} (dg : AtI y pc (.putfield j) 3 nx) (hf : LF y.1.cls j ci 24 false .int) (hw : w k = cO ci (a0 :: a1 :: a2 :: a3 :: a4 :: a5 :: a6 :: a7 :: a8 :: a9 :: a10 :: a11 :: a12 :: a13 :: a14 :: a15 :: a16 :: a17 :: a18 :: a19 :: a20 :: a21 :: a22 :: a23 :: a24 :: r)) (hk : Nat.blt k n = true) (kk : Gj l x y d mc ms nf Q kc ks n (upw w k (cO ci (a0 :: a1 :: a2 :: a3 :: a4 :: a5 :: a6 :: a7 :: a8 :: a9 :: a10 :: a11 :: a12 :: a13 :: a14 :: a15 :: a16 :: a17 :: a18 :: a19 :: a20 :: a21 :: a22 :: a23 :: vI z :: r))) nx L S) : Gj l x y d mc ms nf Q kc ks n w pc L (vI z :: vR k :: S) := gj_put nar_I dg hf hw hk (show 24 < (a0 :: a1 :: a2 :: a3 :: a4 :: a5 :: a6 :: a7 :: a8 :: a9 :: a10 :: a11 :: a12 :: a13 :: a14 :: a15 :: a16 :: a17 :: a18 :: a19 :: a20 :: a21 :: a22 :: a23 :: a24 :: r).length by simp only [List.length_cons]; omega) kk
theorem gj_pR24 {a0 a1 a2 a3 a4 a5 a6 a7 a8 a9 a10 a11 a12 a13 a14 a15 a16 a17 a18 a19 a20 a21 a22 a23 a24 : AV} {r : List AV} {L : List (Option AV)} {j ci k z : Nat} {C : String} (dg : AtI y pc (.putfield j) 3 nx) (hf : LF y.1.cls j ci 24 true (.object C)) (hini : y.1.name = "<init>") (hown : ∃ T N, vwCl[ci]? = some (y.1.cls, T, N)) (hw : w k = cO ci (a0 :: a1 :: a2 :: a3 :: a4 :: a5 :: a6 :: a7 :: a8 :: a9 :: a10 :: a11 :: a12 :: a13 :: a14 :: a15 :: a16 :: a17 :: a18 :: a19 :: a20 :: a21 :: a22 :: a23 :: a24 :: r)) (hk : Nat.blt k n = true) (kk : Gj l x y d mc ms nf Q kc ks n (upw w k (cO ci (a0 :: a1 :: a2 :: a3 :: a4 :: a5 :: a6 :: a7 :: a8 :: a9 :: a10 :: a11 :: a12 :: a13 :: a14 :: a15 :: a16 :: a17 :: a18 :: a19 :: a20 :: a21 :: a22 :: a23 :: vR z :: r))) nx L S) : Gj l x y d mc ms nf Q kc ks n w pc L (vR z :: vR k :: S) := gj_putF nar_R dg hf hini hown hw hk (show 24 < (a0 :: a1 :: a2 :: a3 :: a4 :: a5 :: a6 :: a7 :: a8 :: a9 :: a10 :: a11 :: a12 :: a13 :: a14 :: a15 :: a16 :: a17 :: a18 :: a19 :: a20 :: a21 :: a22 :: a23 :: a24 :: r).length by simp only [List.length_cons]; omega) kk
theorem gj_pA24 {a0 a1 a2 a3 a4 a5 a6 a7 a8 a9 a10 a11 a12 a13 a14 a15 a16 a17 a18 a19 a20 a21 a22 a23 a24 : AV} {r : List AV} {L : List (Option AV)} {j ci k z : Nat} {e : FieldType} (dg : AtI y pc (.putfield j) 3 nx) (hf : LF y.1.cls j ci 24 true (.array e)) (hini : y.1.name = "<init>") (hown : ∃ T N, vwCl[ci]? = some (y.1.cls, T, N)) (hw : w k = cO ci (a0 :: a1 :: a2 :: a3 :: a4 :: a5 :: a6 :: a7 :: a8 :: a9 :: a10 :: a11 :: a12 :: a13 :: a14 :: a15 :: a16 :: a17 :: a18 :: a19 :: a20 :: a21 :: a22 :: a23 :: a24 :: r)) (hk : Nat.blt k n = true) (kk : Gj l x y d mc ms nf Q kc ks n (upw w k (cO ci (a0 :: a1 :: a2 :: a3 :: a4 :: a5 :: a6 :: a7 :: a8 :: a9 :: a10 :: a11 :: a12 :: a13 :: a14 :: a15 :: a16 :: a17 :: a18 :: a19 :: a20 :: a21 :: a22 :: a23 :: vR z :: r))) nx L S) : Gj l x y d mc ms nf Q kc ks n w pc L (vR z :: vR k :: S) := gj_putF nar_A dg hf hini hown hw hk (show 24 < (a0 :: a1 :: a2 :: a3 :: a4 :: a5 :: a6 :: a7 :: a8 :: a9 :: a10 :: a11 :: a12 :: a13 :: a14 :: a15 :: a16 :: a17 :: a18 :: a19 :: a20 :: a21 :: a22 :: a23 :: a24 :: r).length by simp only [List.length_cons]; omega) kk
theorem gj_pI25 {a0 a1 a2 a3 a4 a5 a6 a7 a8 a9 a10 a11 a12 a13 a14 a15 a16 a17 a18 a19 a20 a21 a22 a23 a24 a25 : AV} {r : List AV} {L : List (Option AV)} {j ci k : Nat} {z : Int} (dg : AtI y pc (.putfield j) 3 nx) (hf : LF y.1.cls j ci 25 false .int) (hw : w k = cO ci (a0 :: a1 :: a2 :: a3 :: a4 :: a5 :: a6 :: a7 :: a8 :: a9 :: a10 :: a11 :: a12 :: a13 :: a14 :: a15 :: a16 :: a17 :: a18 :: a19 :: a20 :: a21 :: a22 :: a23 :: a24 :: a25 :: r)) (hk : Nat.blt k n = true) (kk : Gj l x y d mc ms nf Q kc ks n (upw w k (cO ci (a0 :: a1 :: a2 :: a3 :: a4 :: a5 :: a6 :: a7 :: a8 :: a9 :: a10 :: a11 :: a12 :: a13 :: a14 :: a15 :: a16 :: a17 :: a18 :: a19 :: a20 :: a21 :: a22 :: a23 :: a24 :: vI z :: r))) nx L S) : Gj l x y d mc ms nf Q kc ks n w pc L (vI z :: vR k :: S) := gj_put nar_I dg hf hw hk (show 25 < (a0 :: a1 :: a2 :: a3 :: a4 :: a5 :: a6 :: a7 :: a8 :: a9 :: a10 :: a11 :: a12 :: a13 :: a14 :: a15 :: a16 :: a17 :: a18 :: a19 :: a20 :: a21 :: a22 :: a23 :: a24 :: a25 :: r).length by simp only [List.length_cons]; omega) kk
theorem gj_pR25 {a0 a1 a2 a3 a4 a5 a6 a7 a8 a9 a10 a11 a12 a13 a14 a15 a16 a17 a18 a19 a20 a21 a22 a23 a24 a25 : AV} {r : List AV} {L : List (Option AV)} {j ci k z : Nat} {C : String} (dg : AtI y pc (.putfield j) 3 nx) (hf : LF y.1.cls j ci 25 true (.object C)) (hini : y.1.name = "<init>") (hown : ∃ T N, vwCl[ci]? = some (y.1.cls, T, N)) (hw : w k = cO ci (a0 :: a1 :: a2 :: a3 :: a4 :: a5 :: a6 :: a7 :: a8 :: a9 :: a10 :: a11 :: a12 :: a13 :: a14 :: a15 :: a16 :: a17 :: a18 :: a19 :: a20 :: a21 :: a22 :: a23 :: a24 :: a25 :: r)) (hk : Nat.blt k n = true) (kk : Gj l x y d mc ms nf Q kc ks n (upw w k (cO ci (a0 :: a1 :: a2 :: a3 :: a4 :: a5 :: a6 :: a7 :: a8 :: a9 :: a10 :: a11 :: a12 :: a13 :: a14 :: a15 :: a16 :: a17 :: a18 :: a19 :: a20 :: a21 :: a22 :: a23 :: a24 :: vR z :: r))) nx L S) : Gj l x y d mc ms nf Q kc ks n w pc L (vR z :: vR k :: S) := gj_putF nar_R dg hf hini hown hw hk (show 25 < (a0 :: a1 :: a2 :: a3 :: a4 :: a5 :: a6 :: a7 :: a8 :: a9 :: a10 :: a11 :: a12 :: a13 :: a14 :: a15 :: a16 :: a17 :: a18 :: a19 :: a20 :: a21 :: a22 :: a23 :: a24 :: a25 :: r).length by simp only [List.length_cons]; omega) kk
theorem gj_pA25 {a0 a1 a2 a3 a4 a5 a6 a7 a8 a9 a10 a11 a12 a13 a14 a15 a16 a17 a18 a19 a20 a21 a22 a23 a24 a25 : AV} {r : List AV} {L : List (Option AV)} {j ci k z : Nat} {e : FieldType} (dg : AtI y pc (.putfield j) 3 nx) (hf : LF y.1.cls j ci 25 true (.array e)) (hini : y.1.name = "<init>") (hown : ∃ T N, vwCl[ci]? = some (y.1.cls, T, N)) (hw : w k = cO ci (a0 :: a1 :: a2 :: a3 :: a4 :: a5 :: a6 :: a7 :: a8 :: a9 :: a10 :: a11 :: a12 :: a13 :: a14 :: a15 :: a16 :: a17 :: a18 :: a19 :: a20 :: a21 :: a22 :: a23 :: a24 :: a25 :: r)) (hk : Nat.blt k n = true) (kk : Gj l x y d mc ms nf Q kc ks n (upw w k (cO ci (a0 :: a1 :: a2 :: a3 :: a4 :: a5 :: a6 :: a7 :: a8 :: a9 :: a10 :: a11 :: a12 :: a13 :: a14 :: a15 :: a16 :: a17 :: a18 :: a19 :: a20 :: a21 :: a22 :: a23 :: a24 :: vR z :: r))) nx L S) : Gj l x y d mc ms nf Q kc ks n w pc L (vR z :: vR k :: S) := gj_putF nar_A dg hf hini hown hw hk (show 25 < (a0 :: a1 :: a2 :: a3 :: a4 :: a5 :: a6 :: a7 :: a8 :: a9 :: a10 :: a11 :: a12 :: a13 :: a14 :: a15 :: a16 :: a17 :: a18 :: a19 :: a20 :: a21 :: a22 :: a23 :: a24 :: a25 :: r).length by simp only [List.length_cons]; omega) kk
theorem gj_pI26 {a0 a1 a2 a3 a4 a5 a6 a7 a8 a9 a10 a11 a12 a13 a14 a15 a16 a17 a18 a19 a20 a21 a22 a23 a24 a25 a26 : AV} {r : List AV} {L : List (Option AV)} {j ci k : Nat} {z : Int} (dg : AtI y pc (.putfield j) 3 nx) (hf : LF y.1.cls j ci 26 false .int) (hw : w k = cO ci (a0 :: a1 :: a2 :: a3 :: a4 :: a5 :: a6 :: a7 :: a8 :: a9 :: a10 :: a11 :: a12 :: a13 :: a14 :: a15 :: a16 :: a17 :: a18 :: a19 :: a20 :: a21 :: a22 :: a23 :: a24 :: a25 :: a26 :: r)) (hk : Nat.blt k n = true) (kk : Gj l x y d mc ms nf Q kc ks n (upw w k (cO ci (a0 :: a1 :: a2 :: a3 :: a4 :: a5 :: a6 :: a7 :: a8 :: a9 :: a10 :: a11 :: a12 :: a13 :: a14 :: a15 :: a16 :: a17 :: a18 :: a19 :: a20 :: a21 :: a22 :: a23 :: a24 :: a25 :: vI z :: r))) nx L S) : Gj l x y d mc ms nf Q kc ks n w pc L (vI z :: vR k :: S) := gj_put nar_I dg hf hw hk (show 26 < (a0 :: a1 :: a2 :: a3 :: a4 :: a5 :: a6 :: a7 :: a8 :: a9 :: a10 :: a11 :: a12 :: a13 :: a14 :: a15 :: a16 :: a17 :: a18 :: a19 :: a20 :: a21 :: a22 :: a23 :: a24 :: a25 :: a26 :: r).length by simp only [List.length_cons]; omega) kk
theorem gj_pR26 {a0 a1 a2 a3 a4 a5 a6 a7 a8 a9 a10 a11 a12 a13 a14 a15 a16 a17 a18 a19 a20 a21 a22 a23 a24 a25 a26 : AV} {r : List AV} {L : List (Option AV)} {j ci k z : Nat} {C : String} (dg : AtI y pc (.putfield j) 3 nx) (hf : LF y.1.cls j ci 26 true (.object C)) (hini : y.1.name = "<init>") (hown : ∃ T N, vwCl[ci]? = some (y.1.cls, T, N)) (hw : w k = cO ci (a0 :: a1 :: a2 :: a3 :: a4 :: a5 :: a6 :: a7 :: a8 :: a9 :: a10 :: a11 :: a12 :: a13 :: a14 :: a15 :: a16 :: a17 :: a18 :: a19 :: a20 :: a21 :: a22 :: a23 :: a24 :: a25 :: a26 :: r)) (hk : Nat.blt k n = true) (kk : Gj l x y d mc ms nf Q kc ks n (upw w k (cO ci (a0 :: a1 :: a2 :: a3 :: a4 :: a5 :: a6 :: a7 :: a8 :: a9 :: a10 :: a11 :: a12 :: a13 :: a14 :: a15 :: a16 :: a17 :: a18 :: a19 :: a20 :: a21 :: a22 :: a23 :: a24 :: a25 :: vR z :: r))) nx L S) : Gj l x y d mc ms nf Q kc ks n w pc L (vR z :: vR k :: S) := gj_putF nar_R dg hf hini hown hw hk (show 26 < (a0 :: a1 :: a2 :: a3 :: a4 :: a5 :: a6 :: a7 :: a8 :: a9 :: a10 :: a11 :: a12 :: a13 :: a14 :: a15 :: a16 :: a17 :: a18 :: a19 :: a20 :: a21 :: a22 :: a23 :: a24 :: a25 :: a26 :: r).length by simp only [List.length_cons]; omega) kk
theorem gj_pA26 {a0 a1 a2 a3 a4 a5 a6 a7 a8 a9 a10 a11 a12 a13 a14 a15 a16 a17 a18 a19 a20 a21 a22 a23 a24 a25 a26 : AV} {r : List AV} {L : List (Option AV)} {j ci k z : Nat} {e : FieldType} (dg : AtI y pc (.putfield j) 3 nx) (hf : LF y.1.cls j ci 26 true (.array e)) (hini : y.1.name = "<init>") (hown : ∃ T N, vwCl[ci]? = some (y.1.cls, T, N)) (hw : w k = cO ci (a0 :: a1 :: a2 :: a3 :: a4 :: a5 :: a6 :: a7 :: a8 :: a9 :: a10 :: a11 :: a12 :: a13 :: a14 :: a15 :: a16 :: a17 :: a18 :: a19 :: a20 :: a21 :: a22 :: a23 :: a24 :: a25 :: a26 :: r)) (hk : Nat.blt k n = true) (kk : Gj l x y d mc ms nf Q kc ks n (upw w k (cO ci (a0 :: a1 :: a2 :: a3 :: a4 :: a5 :: a6 :: a7 :: a8 :: a9 :: a10 :: a11 :: a12 :: a13 :: a14 :: a15 :: a16 :: a17 :: a18 :: a19 :: a20 :: a21 :: a22 :: a23 :: a24 :: a25 :: vR z :: r))) nx L S) : Gj l x y d mc ms nf Q kc ks n w pc L (vR z :: vR k :: S) := gj_putF nar_A dg hf hini hown hw hk (show 26 < (a0 :: a1 :: a2 :: a3 :: a4 :: a5 :: a6 :: a7 :: a8 :: a9 :: a10 :: a11 :: a12 :: a13 :: a14 :: a15 :: a16 :: a17 :: a18 :: a19 :: a20 :: a21 :: a22 :: a23 :: a24 :: a25 :: a26 :: r).length by simp only [List.length_cons]; omega) kk
theorem gj_pI27 {a0 a1 a2 a3 a4 a5 a6 a7 a8 a9 a10 a11 a12 a13 a14 a15 a16 a17 a18 a19 a20 a21 a22 a23 a24 a25 a26 a27 : AV} {r : List AV} {L : List (Option AV)} {j ci k : Nat} {z : Int} (dg : AtI y pc (.putfield j) 3 nx) (hf : LF y.1.cls j ci 27 false .int) (hw : w k = cO ci (a0 :: a1 :: a2 :: a3 :: a4 :: a5 :: a6 :: a7 :: a8 :: a9 :: a10 :: a11 :: a12 :: a13 :: a14 :: a15 :: a16 :: a17 :: a18 :: a19 :: a20 :: a21 :: a22 :: a23 :: a24 :: a25 :: a26 :: a27 :: r)) (hk : Nat.blt k n = true) (kk : Gj l x y d mc ms nf Q kc ks n (upw w k (cO ci (a0 :: a1 :: a2 :: a3 :: a4 :: a5 :: a6 :: a7 :: a8 :: a9 :: a10 :: a11 :: a12 :: a13 :: a14 :: a15 :: a16 :: a17 :: a18 :: a19 :: a20 :: a21 :: a22 :: a23 :: a24 :: a25 :: a26 :: vI z :: r))) nx L S) : Gj l x y d mc ms nf Q kc ks n w pc L (vI z :: vR k :: S) := gj_put nar_I dg hf hw hk (show 27 < (a0 :: a1 :: a2 :: a3 :: a4 :: a5 :: a6 :: a7 :: a8 :: a9 :: a10 :: a11 :: a12 :: a13 :: a14 :: a15 :: a16 :: a17 :: a18 :: a19 :: a20 :: a21 :: a22 :: a23 :: a24 :: a25 :: a26 :: a27 :: r).length by simp only [List.length_cons]; omega) kk
theorem gj_pR27 {a0 a1 a2 a3 a4 a5 a6 a7 a8 a9 a10 a11 a12 a13 a14 a15 a16 a17 a18 a19 a20 a21 a22 a23 a24 a25 a26 a27 : AV} {r : List AV} {L : List (Option AV)} {j ci k z : Nat} {C : String} (dg : AtI y pc (.putfield j) 3 nx) (hf : LF y.1.cls j ci 27 true (.object C)) (hini : y.1.name = "<init>") (hown : ∃ T N, vwCl[ci]? = some (y.1.cls, T, N)) (hw : w k = cO ci (a0 :: a1 :: a2 :: a3 :: a4 :: a5 :: a6 :: a7 :: a8 :: a9 :: a10 :: a11 :: a12 :: a13 :: a14 :: a15 :: a16 :: a17 :: a18 :: a19 :: a20 :: a21 :: a22 :: a23 :: a24 :: a25 :: a26 :: a27 :: r)) (hk : Nat.blt k n = true) (kk : Gj l x y d mc ms nf Q kc ks n (upw w k (cO ci (a0 :: a1 :: a2 :: a3 :: a4 :: a5 :: a6 :: a7 :: a8 :: a9 :: a10 :: a11 :: a12 :: a13 :: a14 :: a15 :: a16 :: a17 :: a18 :: a19 :: a20 :: a21 :: a22 :: a23 :: a24 :: a25 :: a26 :: vR z :: r))) nx L S) : Gj l x y d mc ms nf Q kc ks n w pc L (vR z :: vR k :: S) := gj_putF nar_R dg hf hini hown hw hk (show 27 < (a0 :: a1 :: a2 :: a3 :: a4 :: a5 :: a6 :: a7 :: a8 :: a9 :: a10 :: a11 :: a12 :: a13 :: a14 :: a15 :: a16 :: a17 :: a18 :: a19 :: a20 :: a21 :: a22 :: a23 :: a24 :: a25 :: a26 :: a27 :: r).length by simp only [List.length_cons]; omega) kk
theorem gj_pA27 {a0 a1 a2 a3 a4 a5 a6 a7 a8 a9 a10 a11 a12 a13 a14 a15 a16 a17 a18 a19 a20 a21 a22 a23 a24 a25 a26 a27 : AV} {r : List AV} {L : List (Option AV)} {j ci k z : Nat} {e : FieldType} (dg : AtI y pc (.putfield j) 3 nx) (hf : LF y.1.cls j ci 27 true (.array e)) (hini : y.1.name = "<init>") (hown : ∃ T N, vwCl[ci]? = some (y.1.cls, T, N)) (hw : w k = cO ci (a0 :: a1 :: a2 :: a3 :: a4 :: a5 :: a6 :: a7 :: a8 :: a9 :: a10 :: a11 :: a12 :: a13 :: a14 :: a15 :: a16 :: a17 :: a18 :: a19 :: a20 :: a21 :: a22 :: a23 :: a24 :: a25 :: a26 :: a27 :: r)) (hk : Nat.blt k n = true) (kk : Gj l x y d mc ms nf Q kc ks n (upw w k (cO ci (a0 :: a1 :: a2 :: a3 :: a4 :: a5 :: a6 :: a7 :: a8 :: a9 :: a10 :: a11 :: a12 :: a13 :: a14 :: a15 :: a16 :: a17 :: a18 :: a19 :: a20 :: a21 :: a22 :: a23 :: a24 :: a25 :: a26 :: vR z :: r))) nx L S) : Gj l x y d mc ms nf Q kc ks n w pc L (vR z :: vR k :: S) := gj_putF nar_A dg hf hini hown hw hk (show 27 < (a0 :: a1 :: a2 :: a3 :: a4 :: a5 :: a6 :: a7 :: a8 :: a9 :: a10 :: a11 :: a12 :: a13 :: a14 :: a15 :: a16 :: a17 :: a18 :: a19 :: a20 :: a21 :: a22 :: a23 :: a24 :: a25 :: a26 :: a27 :: r).length by simp only [List.length_cons]; omega) kk
theorem gj_pI28 {a0 a1 a2 a3 a4 a5 a6 a7 a8 a9 a10 a11 a12 a13 a14 a15 a16 a17 a18 a19 a20 a21 a22 a23 a24 a25 a26 a27 a28 : AV} {r : List AV} {L : List (Option AV)} {j ci k : Nat} {z : Int} (dg : AtI y pc (.putfield j) 3 nx) (hf : LF y.1.cls j ci 28 false .int) (hw : w k = cO ci (a0 :: a1 :: a2 :: a3 :: a4 :: a5 :: a6 :: a7 :: a8 :: a9 :: a10 :: a11 :: a12 :: a13 :: a14 :: a15 :: a16 :: a17 :: a18 :: a19 :: a20 :: a21 :: a22 :: a23 :: a24 :: a25 :: a26 :: a27 :: a28 :: r)) (hk : Nat.blt k n = true) (kk : Gj l x y d mc ms nf Q kc ks n (upw w k (cO ci (a0 :: a1 :: a2 :: a3 :: a4 :: a5 :: a6 :: a7 :: a8 :: a9 :: a10 :: a11 :: a12 :: a13 :: a14 :: a15 :: a16 :: a17 :: a18 :: a19 :: a20 :: a21 :: a22 :: a23 :: a24 :: a25 :: a26 :: a27 :: vI z :: r))) nx L S) : Gj l x y d mc ms nf Q kc ks n w pc L (vI z :: vR k :: S) := gj_put nar_I dg hf hw hk (show 28 < (a0 :: a1 :: a2 :: a3 :: a4 :: a5 :: a6 :: a7 :: a8 :: a9 :: a10 :: a11 :: a12 :: a13 :: a14 :: a15 :: a16 :: a17 :: a18 :: a19 :: a20 :: a21 :: a22 :: a23 :: a24 :: a25 :: a26 :: a27 :: a28 :: r).length by simp only [List.length_cons]; omega) kk
theorem gj_pR28 {a0 a1 a2 a3 a4 a5 a6 a7 a8 a9 a10 a11 a12 a13 a14 a15 a16 a17 a18 a19 a20 a21 a22 a23 a24 a25 a26 a27 a28 : AV} {r : List AV} {L : List (Option AV)} {j ci k z : Nat} {C : String} (dg : AtI y pc (.putfield j) 3 nx) (hf : LF y.1.cls j ci 28 true (.object C)) (hini : y.1.name = "<init>") (hown : ∃ T N, vwCl[ci]? = some (y.1.cls, T, N)) (hw : w k = cO ci (a0 :: a1 :: a2 :: a3 :: a4 :: a5 :: a6 :: a7 :: a8 :: a9 :: a10 :: a11 :: a12 :: a13 :: a14 :: a15 :: a16 :: a17 :: a18 :: a19 :: a20 :: a21 :: a22 :: a23 :: a24 :: a25 :: a26 :: a27 :: a28 :: r)) (hk : Nat.blt k n = true) (kk : Gj l x y d mc ms nf Q kc ks n (upw w k (cO ci (a0 :: a1 :: a2 :: a3 :: a4 :: a5 :: a6 :: a7 :: a8 :: a9 :: a10 :: a11 :: a12 :: a13 :: a14 :: a15 :: a16 :: a17 :: a18 :: a19 :: a20 :: a21 :: a22 :: a23 :: a24 :: a25 :: a26 :: a27 :: vR z :: r))) nx L S) : Gj l x y d mc ms nf Q kc ks n w pc L (vR z :: vR k :: S) := gj_putF nar_R dg hf hini hown hw hk (show 28 < (a0 :: a1 :: a2 :: a3 :: a4 :: a5 :: a6 :: a7 :: a8 :: a9 :: a10 :: a11 :: a12 :: a13 :: a14 :: a15 :: a16 :: a17 :: a18 :: a19 :: a20 :: a21 :: a22 :: a23 :: a24 :: a25 :: a26 :: a27 :: a28 :: r).length by simp only [List.length_cons]; omega) kk
theorem gj_pA28 {a0 a1 a2 a3 a4 a5 a6 a7 a8 a9 a10 a11 a12 a13 a14 a15 a16 a17 a18 a19 a20 a21 a22 a23 a24 a25 a26 a27 a28 : AV} {r : List AV} {L : List (Option AV)} {j ci k z : Nat} {e : FieldType} (dg : AtI y pc (.putfield j) 3 nx) (hf : LF y.1.cls j ci 28 true (.array e)) (hini : y.1.name = "<init>") (hown : ∃ T N, vwCl[ci]? = some (y.1.cls, T, N)) (hw : w k = cO ci (a0 :: a1 :: a2 :: a3 :: a4 :: a5 :: a6 :: a7 :: a8 :: a9 :: a10 :: a11 :: a12 :: a13 :: a14 :: a15 :: a16 :: a17 :: a18 :: a19 :: a20 :: a21 :: a22 :: a23 :: a24 :: a25 :: a26 :: a27 :: a28 :: r)) (hk : Nat.blt k n = true) (kk : Gj l x y d mc ms nf Q kc ks n (upw w k (cO ci (a0 :: a1 :: a2 :: a3 :: a4 :: a5 :: a6 :: a7 :: a8 :: a9 :: a10 :: a11 :: a12 :: a13 :: a14 :: a15 :: a16 :: a17 :: a18 :: a19 :: a20 :: a21 :: a22 :: a23 :: a24 :: a25 :: a26 :: a27 :: vR z :: r))) nx L S) : Gj l x y d mc ms nf Q kc ks n w pc L (vR z :: vR k :: S) := gj_putF nar_A dg hf hini hown hw hk (show 28 < (a0 :: a1 :: a2 :: a3 :: a4 :: a5 :: a6 :: a7 :: a8 :: a9 :: a10 :: a11 :: a12 :: a13 :: a14 :: a15 :: a16 :: a17 :: a18 :: a19 :: a20 :: a21 :: a22 :: a23 :: a24 :: a25 :: a26 :: a27 :: a28 :: r).length by simp only [List.length_cons]; omega) kk
theorem gj_cV0r {L : List (Option AV)} {j ci k0 : Nat} {y2 : MI} {fs : List AV} {r : AV} (dg : AtI y pc (.invokevirtual j) 3 nx) (hl : Cond.methodLink y.1.cls j y2.1 ∈ lw_g) (hc : CV y2 0 ci) (hw : w k0 = cO ci fs) (hk : Nat.blt k0 n = true) (hd : 1 ≤ d) (hst : Nat.ble (wS S) 8 = true) (hM : Mt l x y2 (d - 1) 0 0 n w (vR k0 :: []) (Rd r w)) (kk : Gj l x y d mc ms nf Q kc ks n w nx L (r :: S)) : Gj l x y d mc ms nf Q kc ks n w pc L (vR k0 :: S) := gj_callV (As := []) (mc2 := 0) (ms2 := 0) dg hl hc hw hk hd hst rfl hM (fun v w2 h => by obtain ⟨rfl, rfl⟩ := h; exact kk)
theorem gj_cV0w {L : List (Option AV)} {j ci k0 : Nat} {y2 : MI} {fs : List AV} {r : AV} {P : AW → Prop} (dg : AtI y pc (.invokevirtual j) 3 nx) (hl : Cond.methodLink y.1.cls j y2.1 ∈ lw_g) (hc : CV y2 0 ci) (hw : w k0 = cO ci fs) (hk : Nat.blt k0 n = true) (hd : 1 ≤ d) (hst : Nat.ble (wS S) 8 = true) (hM : Mt l x y2 (d - 1) 0 0 n w (vR k0 :: []) (Wr r P)) (kk : ∀ w2, P w2 → Gj l x y d mc ms nf Q kc ks n w2 nx L (r :: S)) : Gj l x y d mc ms nf Q kc ks n w pc L (vR k0 :: S) := gj_callV (As := []) (mc2 := 0) (ms2 := 0) dg hl hc hw hk hd hst rfl hM (fun v w2 h => by obtain ⟨rfl, h⟩ := h; exact kk w2 h)
theorem gj_cV0v {L : List (Option AV)} {j ci k0 : Nat} {y2 : MI} {fs : List AV} {P : AW → Prop} (dg : AtI y pc (.invokevirtual j) 3 nx) (hl : Cond.methodLink y.1.cls j y2.1 ∈ lw_g) (hc : CV y2 0 ci) (hw : w k0 = cO ci fs) (hk : Nat.blt k0 n = true) (hd : 1 ≤ d) (hst : Nat.ble (wS S) 8 = true) (hM : Mt l x y2 (d - 1) 0 0 n w (vR k0 :: []) (Wv P)) (kk : ∀ w2, P w2 → Gj l x y d mc ms nf Q kc ks n w2 nx L S) : Gj l x y d mc ms nf Q kc ks n w pc L (vR k0 :: S) := gj_callV (As := []) (mc2 := 0) (ms2 := 0) dg hl hc hw hk hd hst rfl hM (fun v w2 h => by obtain ⟨rfl, h⟩ := h; exact kk w2 h)
theorem gj_cS0r {L : List (Option AV)} {j : Nat} {y2 : MI} {r : AV} (dg : AtI y pc (.invokestatic j) 3 nx) (hl : Cond.methodLink y.1.cls j y2.1 ∈ lw_g) (hc : CS y2 0) (hd : 1 ≤ d) (hst : Nat.ble (wS S) 8 = true) (hM : Mt l x y2 (d - 1) 0 0 n w [] (Rd r w)) (kk : Gj l x y d mc ms nf Q kc ks n w nx L (r :: S)) : Gj l x y d mc ms nf Q kc ks n w pc L S := gj_callS (mc2 := 0) (ms2 := 0) (As := []) dg hl hc hd hst rfl hM (fun v w2 h => by obtain ⟨rfl, rfl⟩ := h; exact kk)
theorem gj_cS0w {L : List (Option AV)} {j : Nat} {y2 : MI} {r : AV} {P : AW → Prop} (dg : AtI y pc (.invokestatic j) 3 nx) (hl : Cond.methodLink y.1.cls j y2.1 ∈ lw_g) (hc : CS y2 0) (hd : 1 ≤ d) (hst : Nat.ble (wS S) 8 = true) (hM : Mt l x y2 (d - 1) 0 0 n w [] (Wr r P)) (kk : ∀ w2, P w2 → Gj l x y d mc ms nf Q kc ks n w2 nx L (r :: S)) : Gj l x y d mc ms nf Q kc ks n w pc L S := gj_callS (mc2 := 0) (ms2 := 0) (As := []) dg hl hc hd hst rfl hM (fun v w2 h => by obtain ⟨rfl, h⟩ := h; exact kk w2 h)
theorem gj_cS0v {L : List (Option AV)} {j : Nat} {y2 : MI} {P : AW → Prop} (dg : AtI y pc (.invokestatic j) 3 nx) (hl : Cond.methodLink y.1.cls j y2.1 ∈ lw_g) (hc : CS y2 0) (hd : 1 ≤ d) (hst : Nat.ble (wS S) 8 = true) (hM : Mt l x y2 (d - 1) 0 0 n w [] (Wv P)) (kk : ∀ w2, P w2 → Gj l x y d mc ms nf Q kc ks n w2 nx L S) : Gj l x y d mc ms nf Q kc ks n w pc L S := gj_callS (mc2 := 0) (ms2 := 0) (As := []) dg hl hc hd hst rfl hM (fun v w2 h => by obtain ⟨rfl, h⟩ := h; exact kk w2 h)
theorem gj_cV1r {a1 : AV} {L : List (Option AV)} {j ci k0 : Nat} {y2 : MI} {fs : List AV} {r : AV} (dg : AtI y pc (.invokevirtual j) 3 nx) (hl : Cond.methodLink y.1.cls j y2.1 ∈ lw_g) (hc : CV y2 1 ci) (hw : w k0 = cO ci fs) (hk : Nat.blt k0 n = true) (hd : 1 ≤ d) (hst : Nat.ble (wS S) 8 = true) (hM : Mt l x y2 (d - 1) 0 0 n w (vR k0 :: [a1]) (Rd r w)) (kk : Gj l x y d mc ms nf Q kc ks n w nx L (r :: S)) : Gj l x y d mc ms nf Q kc ks n w pc L (a1 :: vR k0 :: S) := gj_callV (As := [a1]) (mc2 := 0) (ms2 := 0) dg hl hc hw hk hd hst rfl hM (fun v w2 h => by obtain ⟨rfl, rfl⟩ := h; exact kk)
theorem gj_cV1w {a1 : AV} {L : List (Option AV)} {j ci k0 : Nat} {y2 : MI} {fs : List AV} {r : AV} {P : AW → Prop} (dg : AtI y pc (.invokevirtual j) 3 nx) (hl : Cond.methodLink y.1.cls j y2.1 ∈ lw_g) (hc : CV y2 1 ci) (hw : w k0 = cO ci fs) (hk : Nat.blt k0 n = true) (hd : 1 ≤ d) (hst : Nat.ble (wS S) 8 = true) (hM : Mt l x y2 (d - 1) 0 0 n w (vR k0 :: [a1]) (Wr r P)) (kk : ∀ w2, P w2 → Gj l x y d mc ms nf Q kc ks n w2 nx L (r :: S)) : Gj l x y d mc ms nf Q kc ks n w pc L (a1 :: vR k0 :: S) := gj_callV (As := [a1]) (mc2 := 0) (ms2 := 0) dg hl hc hw hk hd hst rfl hM (fun v w2 h => by obtain ⟨rfl, h⟩ := h; exact kk w2 h)
theorem gj_cV1v {a1 : AV} {L : List (Option AV)} {j ci k0 : Nat} {y2 : MI} {fs : List AV} {P : AW → Prop} (dg : AtI y pc (.invokevirtual j) 3 nx) (hl : Cond.methodLink y.1.cls j y2.1 ∈ lw_g) (hc : CV y2 1 ci) (hw : w k0 = cO ci fs) (hk : Nat.blt k0 n = true) (hd : 1 ≤ d) (hst : Nat.ble (wS S) 8 = true) (hM : Mt l x y2 (d - 1) 0 0 n w (vR k0 :: [a1]) (Wv P)) (kk : ∀ w2, P w2 → Gj l x y d mc ms nf Q kc ks n w2 nx L S) : Gj l x y d mc ms nf Q kc ks n w pc L (a1 :: vR k0 :: S) := gj_callV (As := [a1]) (mc2 := 0) (ms2 := 0) dg hl hc hw hk hd hst rfl hM (fun v w2 h => by obtain ⟨rfl, h⟩ := h; exact kk w2 h)
theorem gj_cS1r {a1 : AV} {L : List (Option AV)} {j : Nat} {y2 : MI} {r : AV} (dg : AtI y pc (.invokestatic j) 3 nx) (hl : Cond.methodLink y.1.cls j y2.1 ∈ lw_g) (hc : CS y2 1) (hd : 1 ≤ d) (hst : Nat.ble (wS S) 8 = true) (hM : Mt l x y2 (d - 1) 0 0 n w [a1] (Rd r w)) (kk : Gj l x y d mc ms nf Q kc ks n w nx L (r :: S)) : Gj l x y d mc ms nf Q kc ks n w pc L (a1 :: S) := gj_callS (mc2 := 0) (ms2 := 0) (As := [a1]) dg hl hc hd hst rfl hM (fun v w2 h => by obtain ⟨rfl, rfl⟩ := h; exact kk)
theorem gj_cS1w {a1 : AV} {L : List (Option AV)} {j : Nat} {y2 : MI} {r : AV} {P : AW → Prop} (dg : AtI y pc (.invokestatic j) 3 nx) (hl : Cond.methodLink y.1.cls j y2.1 ∈ lw_g) (hc : CS y2 1) (hd : 1 ≤ d) (hst : Nat.ble (wS S) 8 = true) (hM : Mt l x y2 (d - 1) 0 0 n w [a1] (Wr r P)) (kk : ∀ w2, P w2 → Gj l x y d mc ms nf Q kc ks n w2 nx L (r :: S)) : Gj l x y d mc ms nf Q kc ks n w pc L (a1 :: S) := gj_callS (mc2 := 0) (ms2 := 0) (As := [a1]) dg hl hc hd hst rfl hM (fun v w2 h => by obtain ⟨rfl, h⟩ := h; exact kk w2 h)
theorem gj_cS1v {a1 : AV} {L : List (Option AV)} {j : Nat} {y2 : MI} {P : AW → Prop} (dg : AtI y pc (.invokestatic j) 3 nx) (hl : Cond.methodLink y.1.cls j y2.1 ∈ lw_g) (hc : CS y2 1) (hd : 1 ≤ d) (hst : Nat.ble (wS S) 8 = true) (hM : Mt l x y2 (d - 1) 0 0 n w [a1] (Wv P)) (kk : ∀ w2, P w2 → Gj l x y d mc ms nf Q kc ks n w2 nx L S) : Gj l x y d mc ms nf Q kc ks n w pc L (a1 :: S) := gj_callS (mc2 := 0) (ms2 := 0) (As := [a1]) dg hl hc hd hst rfl hM (fun v w2 h => by obtain ⟨rfl, h⟩ := h; exact kk w2 h)
theorem gj_cV2r {a1 a2 : AV} {L : List (Option AV)} {j ci k0 : Nat} {y2 : MI} {fs : List AV} {r : AV} (dg : AtI y pc (.invokevirtual j) 3 nx) (hl : Cond.methodLink y.1.cls j y2.1 ∈ lw_g) (hc : CV y2 2 ci) (hw : w k0 = cO ci fs) (hk : Nat.blt k0 n = true) (hd : 1 ≤ d) (hst : Nat.ble (wS S) 8 = true) (hM : Mt l x y2 (d - 1) 0 0 n w (vR k0 :: [a1, a2]) (Rd r w)) (kk : Gj l x y d mc ms nf Q kc ks n w nx L (r :: S)) : Gj l x y d mc ms nf Q kc ks n w pc L (a2 :: a1 :: vR k0 :: S) := gj_callV (As := [a1, a2]) (mc2 := 0) (ms2 := 0) dg hl hc hw hk hd hst rfl hM (fun v w2 h => by obtain ⟨rfl, rfl⟩ := h; exact kk)
theorem gj_cV2w {a1 a2 : AV} {L : List (Option AV)} {j ci k0 : Nat} {y2 : MI} {fs : List AV} {r : AV} {P : AW → Prop} (dg : AtI y pc (.invokevirtual j) 3 nx) (hl : Cond.methodLink y.1.cls j y2.1 ∈ lw_g) (hc : CV y2 2 ci) (hw : w k0 = cO ci fs) (hk : Nat.blt k0 n = true) (hd : 1 ≤ d) (hst : Nat.ble (wS S) 8 = true) (hM : Mt l x y2 (d - 1) 0 0 n w (vR k0 :: [a1, a2]) (Wr r P)) (kk : ∀ w2, P w2 → Gj l x y d mc ms nf Q kc ks n w2 nx L (r :: S)) : Gj l x y d mc ms nf Q kc ks n w pc L (a2 :: a1 :: vR k0 :: S) := gj_callV (As := [a1, a2]) (mc2 := 0) (ms2 := 0) dg hl hc hw hk hd hst rfl hM (fun v w2 h => by obtain ⟨rfl, h⟩ := h; exact kk w2 h)
theorem gj_cV2v {a1 a2 : AV} {L : List (Option AV)} {j ci k0 : Nat} {y2 : MI} {fs : List AV} {P : AW → Prop} (dg : AtI y pc (.invokevirtual j) 3 nx) (hl : Cond.methodLink y.1.cls j y2.1 ∈ lw_g) (hc : CV y2 2 ci) (hw : w k0 = cO ci fs) (hk : Nat.blt k0 n = true) (hd : 1 ≤ d) (hst : Nat.ble (wS S) 8 = true) (hM : Mt l x y2 (d - 1) 0 0 n w (vR k0 :: [a1, a2]) (Wv P)) (kk : ∀ w2, P w2 → Gj l x y d mc ms nf Q kc ks n w2 nx L S) : Gj l x y d mc ms nf Q kc ks n w pc L (a2 :: a1 :: vR k0 :: S) := gj_callV (As := [a1, a2]) (mc2 := 0) (ms2 := 0) dg hl hc hw hk hd hst rfl hM (fun v w2 h => by obtain ⟨rfl, h⟩ := h; exact kk w2 h)
theorem gj_cS2r {a1 a2 : AV} {L : List (Option AV)} {j : Nat} {y2 : MI} {r : AV} (dg : AtI y pc (.invokestatic j) 3 nx) (hl : Cond.methodLink y.1.cls j y2.1 ∈ lw_g) (hc : CS y2 2) (hd : 1 ≤ d) (hst : Nat.ble (wS S) 8 = true) (hM : Mt l x y2 (d - 1) 0 0 n w [a1, a2] (Rd r w)) (kk : Gj l x y d mc ms nf Q kc ks n w nx L (r :: S)) : Gj l x y d mc ms nf Q kc ks n w pc L (a2 :: a1 :: S) := gj_callS (mc2 := 0) (ms2 := 0) (As := [a1, a2]) dg hl hc hd hst rfl hM (fun v w2 h => by obtain ⟨rfl, rfl⟩ := h; exact kk)
theorem gj_cS2w {a1 a2 : AV} {L : List (Option AV)} {j : Nat} {y2 : MI} {r : AV} {P : AW → Prop} (dg : AtI y pc (.invokestatic j) 3 nx) (hl : Cond.methodLink y.1.cls j y2.1 ∈ lw_g) (hc : CS y2 2) (hd : 1 ≤ d) (hst : Nat.ble (wS S) 8 = true) (hM : Mt l x y2 (d - 1) 0 0 n w [a1, a2] (Wr r P)) (kk : ∀ w2, P w2 → Gj l x y d mc ms nf Q kc ks n w2 nx L (r :: S)) : Gj l x y d mc ms nf Q kc ks n w pc L (a2 :: a1 :: S) := gj_callS (mc2 := 0) (ms2 := 0) (As := [a1, a2]) dg hl hc hd hst rfl hM (fun v w2 h => by obtain ⟨rfl, h⟩ := h; exact kk w2 h)
theorem gj_cS2v {a1 a2 : AV} {L : List (Option AV)} {j : Nat} {y2 : MI} {P : AW → Prop} (dg : AtI y pc (.invokestatic j) 3 nx) (hl : Cond.methodLink y.1.cls j y2.1 ∈ lw_g) (hc : CS y2 2) (hd : 1 ≤ d) (hst : Nat.ble (wS S) 8 = true) (hM : Mt l x y2 (d - 1) 0 0 n w [a1, a2] (Wv P)) (kk : ∀ w2, P w2 → Gj l x y d mc ms nf Q kc ks n w2 nx L S) : Gj l x y d mc ms nf Q kc ks n w pc L (a2 :: a1 :: S) := gj_callS (mc2 := 0) (ms2 := 0) (As := [a1, a2]) dg hl hc hd hst rfl hM (fun v w2 h => by obtain ⟨rfl, h⟩ := h; exact kk w2 h)
theorem gj_cV3r {a1 a2 a3 : AV} {L : List (Option AV)} {j ci k0 : Nat} {y2 : MI} {fs : List AV} {r : AV} (dg : AtI y pc (.invokevirtual j) 3 nx) (hl : Cond.methodLink y.1.cls j y2.1 ∈ lw_g) (hc : CV y2 3 ci) (hw : w k0 = cO ci fs) (hk : Nat.blt k0 n = true) (hd : 1 ≤ d) (hst : Nat.ble (wS S) 8 = true) (hM : Mt l x y2 (d - 1) 0 0 n w (vR k0 :: [a1, a2, a3]) (Rd r w)) (kk : Gj l x y d mc ms nf Q kc ks n w nx L (r :: S)) : Gj l x y d mc ms nf Q kc ks n w pc L (a3 :: a2 :: a1 :: vR k0 :: S) := gj_callV (As := [a1, a2, a3]) (mc2 := 0) (ms2 := 0) dg hl hc hw hk hd hst rfl hM (fun v w2 h => by obtain ⟨rfl, rfl⟩ := h; exact kk)
theorem gj_cV3w {a1 a2 a3 : AV} {L : List (Option AV)} {j ci k0 : Nat} {y2 : MI} {fs : List AV} {r : AV} {P : AW → Prop} (dg : AtI y pc (.invokevirtual j) 3 nx) (hl : Cond.methodLink y.1.cls j y2.1 ∈ lw_g) (hc : CV y2 3 ci) (hw : w k0 = cO ci fs) (hk : Nat.blt k0 n = true) (hd : 1 ≤ d) (hst : Nat.ble (wS S) 8 = true) (hM : Mt l x y2 (d - 1) 0 0 n w (vR k0 :: [a1, a2, a3]) (Wr r P)) (kk : ∀ w2, P w2 → Gj l x y d mc ms nf Q kc ks n w2 nx L (r :: S)) : Gj l x y d mc ms nf Q kc ks n w pc L (a3 :: a2 :: a1 :: vR k0 :: S) := gj_callV (As := [a1, a2, a3]) (mc2 := 0) (ms2 := 0) dg hl hc hw hk hd hst rfl hM (fun v w2 h => by obtain ⟨rfl, h⟩ := h; exact kk w2 h)
theorem gj_cV3v {a1 a2 a3 : AV} {L : List (Option AV)} {j ci k0 : Nat} {y2 : MI} {fs : List AV} {P : AW → Prop} (dg : AtI y pc (.invokevirtual j) 3 nx) (hl : Cond.methodLink y.1.cls j y2.1 ∈ lw_g) (hc : CV y2 3 ci) (hw : w k0 = cO ci fs) (hk : Nat.blt k0 n = true) (hd : 1 ≤ d) (hst : Nat.ble (wS S) 8 = true) (hM : Mt l x y2 (d - 1) 0 0 n w (vR k0 :: [a1, a2, a3]) (Wv P)) (kk : ∀ w2, P w2 → Gj l x y d mc ms nf Q kc ks n w2 nx L S) : Gj l x y d mc ms nf Q kc ks n w pc L (a3 :: a2 :: a1 :: vR k0 :: S) := gj_callV (As := [a1, a2, a3]) (mc2 := 0) (ms2 := 0) dg hl hc hw hk hd hst rfl hM (fun v w2 h => by obtain ⟨rfl, h⟩ := h; exact kk w2 h)
theorem gj_cS3r {a1 a2 a3 : AV} {L : List (Option AV)} {j : Nat} {y2 : MI} {r : AV} (dg : AtI y pc (.invokestatic j) 3 nx) (hl : Cond.methodLink y.1.cls j y2.1 ∈ lw_g) (hc : CS y2 3) (hd : 1 ≤ d) (hst : Nat.ble (wS S) 8 = true) (hM : Mt l x y2 (d - 1) 0 0 n w [a1, a2, a3] (Rd r w)) (kk : Gj l x y d mc ms nf Q kc ks n w nx L (r :: S)) : Gj l x y d mc ms nf Q kc ks n w pc L (a3 :: a2 :: a1 :: S) := gj_callS (mc2 := 0) (ms2 := 0) (As := [a1, a2, a3]) dg hl hc hd hst rfl hM (fun v w2 h => by obtain ⟨rfl, rfl⟩ := h; exact kk)
theorem gj_cS3w {a1 a2 a3 : AV} {L : List (Option AV)} {j : Nat} {y2 : MI} {r : AV} {P : AW → Prop} (dg : AtI y pc (.invokestatic j) 3 nx) (hl : Cond.methodLink y.1.cls j y2.1 ∈ lw_g) (hc : CS y2 3) (hd : 1 ≤ d) (hst : Nat.ble (wS S) 8 = true) (hM : Mt l x y2 (d - 1) 0 0 n w [a1, a2, a3] (Wr r P)) (kk : ∀ w2, P w2 → Gj l x y d mc ms nf Q kc ks n w2 nx L (r :: S)) : Gj l x y d mc ms nf Q kc ks n w pc L (a3 :: a2 :: a1 :: S) := gj_callS (mc2 := 0) (ms2 := 0) (As := [a1, a2, a3]) dg hl hc hd hst rfl hM (fun v w2 h => by obtain ⟨rfl, h⟩ := h; exact kk w2 h)
theorem gj_cS3v {a1 a2 a3 : AV} {L : List (Option AV)} {j : Nat} {y2 : MI} {P : AW → Prop} (dg : AtI y pc (.invokestatic j) 3 nx) (hl : Cond.methodLink y.1.cls j y2.1 ∈ lw_g) (hc : CS y2 3) (hd : 1 ≤ d) (hst : Nat.ble (wS S) 8 = true) (hM : Mt l x y2 (d - 1) 0 0 n w [a1, a2, a3] (Wv P)) (kk : ∀ w2, P w2 → Gj l x y d mc ms nf Q kc ks n w2 nx L S) : Gj l x y d mc ms nf Q kc ks n w pc L (a3 :: a2 :: a1 :: S) := gj_callS (mc2 := 0) (ms2 := 0) (As := [a1, a2, a3]) dg hl hc hd hst rfl hM (fun v w2 h => by obtain ⟨rfl, h⟩ := h; exact kk w2 h)
theorem gj_cV4r {a1 a2 a3 a4 : AV} {L : List (Option AV)} {j ci k0 : Nat} {y2 : MI} {fs : List AV} {r : AV} (dg : AtI y pc (.invokevirtual j) 3 nx) (hl : Cond.methodLink y.1.cls j y2.1 ∈ lw_g) (hc : CV y2 4 ci) (hw : w k0 = cO ci fs) (hk : Nat.blt k0 n = true) (hd : 1 ≤ d) (hst : Nat.ble (wS S) 8 = true) (hM : Mt l x y2 (d - 1) 0 0 n w (vR k0 :: [a1, a2, a3, a4]) (Rd r w)) (kk : Gj l x y d mc ms nf Q kc ks n w nx L (r :: S)) : Gj l x y d mc ms nf Q kc ks n w pc L (a4 :: a3 :: a2 :: a1 :: vR k0 :: S) := gj_callV (As := [a1, a2, a3, a4]) (mc2 := 0) (ms2 := 0) dg hl hc hw hk hd hst rfl hM (fun v w2 h => by obtain ⟨rfl, rfl⟩ := h; exact kk)
theorem gj_cV4w {a1 a2 a3 a4 : AV} {L : List (Option AV)} {j ci k0 : Nat} {y2 : MI} {fs : List AV} {r : AV} {P : AW → Prop} (dg : AtI y pc (.invokevirtual j) 3 nx) (hl : Cond.methodLink y.1.cls j y2.1 ∈ lw_g) (hc : CV y2 4 ci) (hw : w k0 = cO ci fs) (hk : Nat.blt k0 n = true) (hd : 1 ≤ d) (hst : Nat.ble (wS S) 8 = true) (hM : Mt l x y2 (d - 1) 0 0 n w (vR k0 :: [a1, a2, a3, a4]) (Wr r P)) (kk : ∀ w2, P w2 → Gj l x y d mc ms nf Q kc ks n w2 nx L (r :: S)) : Gj l x y d mc ms nf Q kc ks n w pc L (a4 :: a3 :: a2 :: a1 :: vR k0 :: S) := gj_callV (As := [a1, a2, a3, a4]) (mc2 := 0) (ms2 := 0) dg hl hc hw hk hd hst rfl hM (fun v w2 h => by obtain ⟨rfl, h⟩ := h; exact kk w2 h)
theorem gj_cV4v {a1 a2 a3 a4 : AV} {L : List (Option AV)} {j ci k0 : Nat} {y2 : MI} {fs : List AV} {P : AW → Prop} (dg : AtI y pc (.invokevirtual j) 3 nx) (hl : Cond.methodLink y.1.cls j y2.1 ∈ lw_g) (hc : CV y2 4 ci) (hw : w k0 = cO ci fs) (hk : Nat.blt k0 n = true) (hd : 1 ≤ d) (hst : Nat.ble (wS S) 8 = true) (hM : Mt l x y2 (d - 1) 0 0 n w (vR k0 :: [a1, a2, a3, a4]) (Wv P)) (kk : ∀ w2, P w2 → Gj l x y d mc ms nf Q kc ks n w2 nx L S) : Gj l x y d mc ms nf Q kc ks n w pc L (a4 :: a3 :: a2 :: a1 :: vR k0 :: S) := gj_callV (As := [a1, a2, a3, a4]) (mc2 := 0) (ms2 := 0) dg hl hc hw hk hd hst rfl hM (fun v w2 h => by obtain ⟨rfl, h⟩ := h; exact kk w2 h)
theorem gj_cS4r {a1 a2 a3 a4 : AV} {L : List (Option AV)} {j : Nat} {y2 : MI} {r : AV} (dg : AtI y pc (.invokestatic j) 3 nx) (hl : Cond.methodLink y.1.cls j y2.1 ∈ lw_g) (hc : CS y2 4) (hd : 1 ≤ d) (hst : Nat.ble (wS S) 8 = true) (hM : Mt l x y2 (d - 1) 0 0 n w [a1, a2, a3, a4] (Rd r w)) (kk : Gj l x y d mc ms nf Q kc ks n w nx L (r :: S)) : Gj l x y d mc ms nf Q kc ks n w pc L (a4 :: a3 :: a2 :: a1 :: S) := gj_callS (mc2 := 0) (ms2 := 0) (As := [a1, a2, a3, a4]) dg hl hc hd hst rfl hM (fun v w2 h => by obtain ⟨rfl, rfl⟩ := h; exact kk)
theorem gj_cS4w {a1 a2 a3 a4 : AV} {L : List (Option AV)} {j : Nat} {y2 : MI} {r : AV} {P : AW → Prop} (dg : AtI y pc (.invokestatic j) 3 nx) (hl : Cond.methodLink y.1.cls j y2.1 ∈ lw_g) (hc : CS y2 4) (hd : 1 ≤ d) (hst : Nat.ble (wS S) 8 = true) (hM : Mt l x y2 (d - 1) 0 0 n w [a1, a2, a3, a4] (Wr r P)) (kk : ∀ w2, P w2 → Gj l x y d mc ms nf Q kc ks n w2 nx L (r :: S)) : Gj l x y d mc ms nf Q kc ks n w pc L (a4 :: a3 :: a2 :: a1 :: S) := gj_callS (mc2 := 0) (ms2 := 0) (As := [a1, a2, a3, a4]) dg hl hc hd hst rfl hM (fun v w2 h => by obtain ⟨rfl, h⟩ := h; exact kk w2 h)
theorem gj_cS4v {a1 a2 a3 a4 : AV} {L : List (Option AV)} {j : Nat} {y2 : MI} {P : AW → Prop} (dg : AtI y pc (.invokestatic j) 3 nx) (hl : Cond.methodLink y.1.cls j y2.1 ∈ lw_g) (hc : CS y2 4) (hd : 1 ≤ d) (hst : Nat.ble (wS S) 8 = true) (hM : Mt l x y2 (d - 1) 0 0 n w [a1, a2, a3, a4] (Wv P)) (kk : ∀ w2, P w2 → Gj l x y d mc ms nf Q kc ks n w2 nx L S) : Gj l x y d mc ms nf Q kc ks n w pc L (a4 :: a3 :: a2 :: a1 :: S) := gj_callS (mc2 := 0) (ms2 := 0) (As := [a1, a2, a3, a4]) dg hl hc hd hst rfl hM (fun v w2 h => by obtain ⟨rfl, h⟩ := h; exact kk w2 h)
theorem gj_cV5r {a1 a2 a3 a4 a5 : AV} {L : List (Option AV)} {j ci k0 : Nat} {y2 : MI} {fs : List AV} {r : AV} (dg : AtI y pc (.invokevirtual j) 3 nx) (hl : Cond.methodLink y.1.cls j y2.1 ∈ lw_g) (hc : CV y2 5 ci) (hw : w k0 = cO ci fs) (hk : Nat.blt k0 n = true) (hd : 1 ≤ d) (hst : Nat.ble (wS S) 8 = true) (hM : Mt l x y2 (d - 1) 0 0 n w (vR k0 :: [a1, a2, a3, a4, a5]) (Rd r w)) (kk : Gj l x y d mc ms nf Q kc ks n w nx L (r :: S)) : Gj l x y d mc ms nf Q kc ks n w pc L (a5 :: a4 :: a3 :: a2 :: a1 :: vR k0 :: S) := gj_callV (As := [a1, a2, a3, a4, a5]) (mc2 := 0) (ms2 := 0) dg hl hc hw hk hd hst rfl hM (fun v w2 h => by obtain ⟨rfl, rfl⟩ := h; exact kk)
theorem gj_cV5w {a1 a2 a3 a4 a5 : AV} {L : List (Option AV)} {j ci k0 : Nat} {y2 : MI} {fs : List AV} {r : AV} {P : AW → Prop} (dg : AtI y pc (.invokevirtual j) 3 nx) (hl : Cond.methodLink y.1.cls j y2.1 ∈ lw_g) (hc : CV y2 5 ci) (hw : w k0 = cO ci fs) (hk : Nat.blt k0 n = true) (hd : 1 ≤ d) (hst : Nat.ble (wS S) 8 = true) (hM : Mt l x y2 (d - 1) 0 0 n w (vR k0 :: [a1, a2, a3, a4, a5]) (Wr r P)) (kk : ∀ w2, P w2 → Gj l x y d mc ms nf Q kc ks n w2 nx L (r :: S)) : Gj l x y d mc ms nf Q kc ks n w pc L (a5 :: a4 :: a3 :: a2 :: a1 :: vR k0 :: S) := gj_callV (As := [a1, a2, a3, a4, a5]) (mc2 := 0) (ms2 := 0) dg hl hc hw hk hd hst rfl hM (fun v w2 h => by obtain ⟨rfl, h⟩ := h; exact kk w2 h)
theorem gj_cV5v {a1 a2 a3 a4 a5 : AV} {L : List (Option AV)} {j ci k0 : Nat} {y2 : MI} {fs : List AV} {P : AW → Prop} (dg : AtI y pc (.invokevirtual j) 3 nx) (hl : Cond.methodLink y.1.cls j y2.1 ∈ lw_g) (hc : CV y2 5 ci) (hw : w k0 = cO ci fs) (hk : Nat.blt k0 n = true) (hd : 1 ≤ d) (hst : Nat.ble (wS S) 8 = true) (hM : Mt l x y2 (d - 1) 0 0 n w (vR k0 :: [a1, a2, a3, a4, a5]) (Wv P)) (kk : ∀ w2, P w2 → Gj l x y d mc ms nf Q kc ks n w2 nx L S) : Gj l x y d mc ms nf Q kc ks n w pc L (a5 :: a4 :: a3 :: a2 :: a1 :: vR k0 :: S) := gj_callV (As := [a1, a2, a3, a4, a5]) (mc2 := 0) (ms2 := 0) dg hl hc hw hk hd hst rfl hM (fun v w2 h => by obtain ⟨rfl, h⟩ := h; exact kk w2 h)
theorem gj_cS5r {a1 a2 a3 a4 a5 : AV} {L : List (Option AV)} {j : Nat} {y2 : MI} {r : AV} (dg : AtI y pc (.invokestatic j) 3 nx) (hl : Cond.methodLink y.1.cls j y2.1 ∈ lw_g) (hc : CS y2 5) (hd : 1 ≤ d) (hst : Nat.ble (wS S) 8 = true) (hM : Mt l x y2 (d - 1) 0 0 n w [a1, a2, a3, a4, a5] (Rd r w)) (kk : Gj l x y d mc ms nf Q kc ks n w nx L (r :: S)) : Gj l x y d mc ms nf Q kc ks n w pc L (a5 :: a4 :: a3 :: a2 :: a1 :: S) := gj_callS (mc2 := 0) (ms2 := 0) (As := [a1, a2, a3, a4, a5]) dg hl hc hd hst rfl hM (fun v w2 h => by obtain ⟨rfl, rfl⟩ := h; exact kk)
theorem gj_cS5w {a1 a2 a3 a4 a5 : AV} {L : List (Option AV)} {j : Nat} {y2 : MI} {r : AV} {P : AW → Prop} (dg : AtI y pc (.invokestatic j) 3 nx) (hl : Cond.methodLink y.1.cls j y2.1 ∈ lw_g) (hc : CS y2 5) (hd : 1 ≤ d) (hst : Nat.ble (wS S) 8 = true) (hM : Mt l x y2 (d - 1) 0 0 n w [a1, a2, a3, a4, a5] (Wr r P)) (kk : ∀ w2, P w2 → Gj l x y d mc ms nf Q kc ks n w2 nx L (r :: S)) : Gj l x y d mc ms nf Q kc ks n w pc L (a5 :: a4 :: a3 :: a2 :: a1 :: S) := gj_callS (mc2 := 0) (ms2 := 0) (As := [a1, a2, a3, a4, a5]) dg hl hc hd hst rfl hM (fun v w2 h => by obtain ⟨rfl, h⟩ := h; exact kk w2 h)
theorem gj_cS5v {a1 a2 a3 a4 a5 : AV} {L : List (Option AV)} {j : Nat} {y2 : MI} {P : AW → Prop} (dg : AtI y pc (.invokestatic j) 3 nx) (hl : Cond.methodLink y.1.cls j y2.1 ∈ lw_g) (hc : CS y2 5) (hd : 1 ≤ d) (hst : Nat.ble (wS S) 8 = true) (hM : Mt l x y2 (d - 1) 0 0 n w [a1, a2, a3, a4, a5] (Wv P)) (kk : ∀ w2, P w2 → Gj l x y d mc ms nf Q kc ks n w2 nx L S) : Gj l x y d mc ms nf Q kc ks n w pc L (a5 :: a4 :: a3 :: a2 :: a1 :: S) := gj_callS (mc2 := 0) (ms2 := 0) (As := [a1, a2, a3, a4, a5]) dg hl hc hd hst rfl hM (fun v w2 h => by obtain ⟨rfl, h⟩ := h; exact kk w2 h)
end GF
end
section
/-! links: each word by its place in the tables -/
theorem qL_7 : Cond.classLink RL 7 RX8 ∈ lw_g := mg 76 (by decide +kernel) (by decide +kernel)
theorem mL_9 : Cond.methodLink RL 9 iX8_init.1 ∈ lw_g := mg 78 (by decide +kernel) (by decide +kernel)
theorem mX8_3 : Cond.methodLink RX8 3 objectInit ∈ lw_g := mg 81 (by decide +kernel) (by decide +kernel)
theorem qX8_9 : Cond.classLink RX8 9 RX6 ∈ lw_g := mg 84 (by decide +kernel) (by decide +kernel)
theorem mX8_11 : Cond.methodLink RX8 11 iX6_init.1 ∈ lw_g := mg 86 (by decide +kernel) (by decide +kernel)
theorem mX6_3 : Cond.methodLink RX6 3 objectInit ∈ lw_g := mg 89 (by decide +kernel) (by decide +kernel)
theorem mX6_37 : Cond.methodLink RX6 37 iJ7_fill_53178.1 ∈ lw_g := mg 90 (by decide +kernel) (by decide +kernel)
theorem fX6_11 : LF RX6 11 6 0 true (.array .int) := ⟨RX6, TX6, 8, rfl, by decide, mg 93 (by decide +kernel) (by decide +kernel), rfl, by decide +kernel, rfl⟩
theorem fX6_15 : LF RX6 15 6 1 true (.array .int) := ⟨RX6, TX6, 8, rfl, by decide, mg 94 (by decide +kernel) (by decide +kernel), rfl, by decide +kernel, rfl⟩
theorem fX6_18 : LF RX6 18 6 2 true (.array .int) := ⟨RX6, TX6, 8, rfl, by decide, mg 95 (by decide +kernel) (by decide +kernel), rfl, by decide +kernel, rfl⟩
theorem fX6_21 : LF RX6 21 6 3 true (.array .int) := ⟨RX6, TX6, 8, rfl, by decide, mg 96 (by decide +kernel) (by decide +kernel), rfl, by decide +kernel, rfl⟩
theorem fX2_62 : LF RX2 62 6 3 true (.array .int) := ⟨RX6, TX6, 8, rfl, by decide, mg 97 (by decide +kernel) (by decide +kernel), rfl, by decide +kernel, rfl⟩
theorem fX8_96 : LF RX8 96 6 3 true (.array .int) := ⟨RX6, TX6, 8, rfl, by decide, mg 98 (by decide +kernel) (by decide +kernel), rfl, by decide +kernel, rfl⟩
theorem fX6_24 : LF RX6 24 6 4 true (.array .int) := ⟨RX6, TX6, 8, rfl, by decide, mg 99 (by decide +kernel) (by decide +kernel), rfl, by decide +kernel, rfl⟩
theorem fX6_27 : LF RX6 27 6 5 false .int := ⟨RX6, TX6, 8, rfl, by decide, mg 100 (by decide +kernel) (by decide +kernel), rfl, by decide +kernel, rfl⟩
theorem fX8_83 : LF RX8 83 6 5 false .int := ⟨RX6, TX6, 8, rfl, by decide, mg 101 (by decide +kernel) (by decide +kernel), rfl, by decide +kernel, rfl⟩
theorem fX6_31 : LF RX6 31 6 6 false .int := ⟨RX6, TX6, 8, rfl, by decide, mg 102 (by decide +kernel) (by decide +kernel), rfl, by decide +kernel, rfl⟩
theorem fX2_53 : LF RX2 53 6 6 false .int := ⟨RX6, TX6, 8, rfl, by decide, mg 103 (by decide +kernel) (by decide +kernel), rfl, by decide +kernel, rfl⟩
theorem fX8_93 : LF RX8 93 6 6 false .int := ⟨RX6, TX6, 8, rfl, by decide, mg 104 (by decide +kernel) (by decide +kernel), rfl, by decide +kernel, rfl⟩
theorem fX6_34 : LF RX6 34 6 7 false .int := ⟨RX6, TX6, 8, rfl, by decide, mg 105 (by decide +kernel) (by decide +kernel), rfl, by decide +kernel, rfl⟩
theorem fX8_90 : LF RX8 90 6 7 false .int := ⟨RX6, TX6, 8, rfl, by decide, mg 106 (by decide +kernel) (by decide +kernel), rfl, by decide +kernel, rfl⟩
theorem qX8_16 : Cond.classLink RX8 16 RX0 ∈ lw_g := mg 125 (by decide +kernel) (by decide +kernel)
theorem mX8_18 : Cond.methodLink RX8 18 iX0_init.1 ∈ lw_g := mg 127 (by decide +kernel) (by decide +kernel)
theorem mX0_3 : Cond.methodLink RX0 3 objectInit ∈ lw_g := mg 130 (by decide +kernel) (by decide +kernel)
theorem fX0_9 : LF RX0 9 0 0 true (.array .int) := ⟨RX0, TX0, 1, rfl, by decide, mg 131 (by decide +kernel) (by decide +kernel), rfl, by decide +kernel, rfl⟩
theorem fX5_39 : LF RX5 39 0 0 true (.array .int) := ⟨RX0, TX0, 1, rfl, by decide, mg 132 (by decide +kernel) (by decide +kernel), rfl, by decide +kernel, rfl⟩
theorem qX8_23 : Cond.classLink RX8 23 RX5 ∈ lw_g := mg 136 (by decide +kernel) (by decide +kernel)
theorem mX8_25 : Cond.methodLink RX8 25 iX5_init.1 ∈ lw_g := mg 138 (by decide +kernel) (by decide +kernel)
theorem mX5_3 : Cond.methodLink RX5 3 objectInit ∈ lw_g := mg 141 (by decide +kernel) (by decide +kernel)
theorem fX5_18 : LF RX5 18 5 0 true (.object "BishopsPeace$Bells") := ⟨RX5, TX5, 6, rfl, by decide, mg 142 (by decide +kernel) (by decide +kernel), rfl, by decide +kernel, rfl⟩
theorem fX5_11 : LF RX5 11 5 1 true (.array .int) := ⟨RX5, TX5, 6, rfl, by decide, mg 143 (by decide +kernel) (by decide +kernel), rfl, by decide +kernel, rfl⟩
theorem fX5_15 : LF RX5 15 5 2 true (.array .int) := ⟨RX5, TX5, 6, rfl, by decide, mg 144 (by decide +kernel) (by decide +kernel), rfl, by decide +kernel, rfl⟩
theorem fX5_22 : LF RX5 22 5 3 false .int := ⟨RX5, TX5, 6, rfl, by decide, mg 145 (by decide +kernel) (by decide +kernel), rfl, by decide +kernel, rfl⟩
theorem fX8_144 : LF RX8 144 5 3 false .int := ⟨RX5, TX5, 6, rfl, by decide, mg 146 (by decide +kernel) (by decide +kernel), rfl, by decide +kernel, rfl⟩
theorem fX5_26 : LF RX5 26 5 4 false .int := ⟨RX5, TX5, 6, rfl, by decide, mg 147 (by decide +kernel) (by decide +kernel), rfl, by decide +kernel, rfl⟩
theorem fX5_29 : LF RX5 29 5 5 false .int := ⟨RX5, TX5, 6, rfl, by decide, mg 148 (by decide +kernel) (by decide +kernel), rfl, by decide +kernel, rfl⟩
theorem fX8_151 : LF RX8 151 5 5 false .int := ⟨RX5, TX5, 6, rfl, by decide, mg 149 (by decide +kernel) (by decide +kernel), rfl, by decide +kernel, rfl⟩
theorem qX8_32 : Cond.classLink RX8 32 RX3 ∈ lw_g := mg 163 (by decide +kernel) (by decide +kernel)
theorem mX8_34 : Cond.methodLink RX8 34 iX3_init.1 ∈ lw_g := mg 165 (by decide +kernel) (by decide +kernel)
theorem mX3_3 : Cond.methodLink RX3 3 objectInit ∈ lw_g := mg 168 (by decide +kernel) (by decide +kernel)
theorem fX3_18 : LF RX3 18 3 0 true (.object "BishopsPeace$Roads") := ⟨RX3, TX3, 5, rfl, by decide, mg 169 (by decide +kernel) (by decide +kernel), rfl, by decide +kernel, rfl⟩
theorem fX3_22 : LF RX3 22 3 1 true (.object "BishopsPeace$Peace") := ⟨RX3, TX3, 5, rfl, by decide, mg 170 (by decide +kernel) (by decide +kernel), rfl, by decide +kernel, rfl⟩
theorem fX3_11 : LF RX3 11 3 2 true (.array .int) := ⟨RX3, TX3, 5, rfl, by decide, mg 171 (by decide +kernel) (by decide +kernel), rfl, by decide +kernel, rfl⟩
theorem fX3_15 : LF RX3 15 3 3 true (.array .int) := ⟨RX3, TX3, 5, rfl, by decide, mg 172 (by decide +kernel) (by decide +kernel), rfl, by decide +kernel, rfl⟩
theorem fX3_26 : LF RX3 26 3 4 false .int := ⟨RX3, TX3, 5, rfl, by decide, mg 173 (by decide +kernel) (by decide +kernel), rfl, by decide +kernel, rfl⟩
theorem qX8_41 : Cond.classLink RX8 41 RX1 ∈ lw_g := mg 185 (by decide +kernel) (by decide +kernel)
theorem mX8_43 : Cond.methodLink RX8 43 iX1_init.1 ∈ lw_g := mg 187 (by decide +kernel) (by decide +kernel)
theorem mX1_3 : Cond.methodLink RX1 3 objectInit ∈ lw_g := mg 190 (by decide +kernel) (by decide +kernel)
theorem fX1_9 : LF RX1 9 1 0 true (.object "BishopsPeace$Peace") := ⟨RX1, TX1, 4, rfl, by decide, mg 191 (by decide +kernel) (by decide +kernel), rfl, by decide +kernel, rfl⟩
theorem fX1_15 : LF RX1 15 1 1 false .int := ⟨RX1, TX1, 4, rfl, by decide, mg 192 (by decide +kernel) (by decide +kernel), rfl, by decide +kernel, rfl⟩
theorem fX8_185 : LF RX8 185 1 1 false .int := ⟨RX1, TX1, 4, rfl, by decide, mg 193 (by decide +kernel) (by decide +kernel), rfl, by decide +kernel, rfl⟩
theorem fX1_19 : LF RX1 19 1 2 false .int := ⟨RX1, TX1, 4, rfl, by decide, mg 194 (by decide +kernel) (by decide +kernel), rfl, by decide +kernel, rfl⟩
theorem fX8_188 : LF RX8 188 1 2 false .int := ⟨RX1, TX1, 4, rfl, by decide, mg 195 (by decide +kernel) (by decide +kernel), rfl, by decide +kernel, rfl⟩
theorem fX1_22 : LF RX1 22 1 3 false .int := ⟨RX1, TX1, 4, rfl, by decide, mg 196 (by decide +kernel) (by decide +kernel), rfl, by decide +kernel, rfl⟩
theorem fX8_198 : LF RX8 198 1 3 false .int := ⟨RX1, TX1, 4, rfl, by decide, mg 197 (by decide +kernel) (by decide +kernel), rfl, by decide +kernel, rfl⟩
theorem qX8_50 : Cond.classLink RX8 50 RX2 ∈ lw_g := mg 207 (by decide +kernel) (by decide +kernel)
theorem mX8_52 : Cond.methodLink RX8 52 iX2_init.1 ∈ lw_g := mg 209 (by decide +kernel) (by decide +kernel)
theorem mX2_3 : Cond.methodLink RX2 3 objectInit ∈ lw_g := mg 212 (by decide +kernel) (by decide +kernel)
theorem fX2_18 : LF RX2 18 2 0 true (.object "BishopsPeace$Roads") := ⟨RX2, TX2, 10, rfl, by decide, mg 213 (by decide +kernel) (by decide +kernel), rfl, by decide +kernel, rfl⟩
theorem fX2_22 : LF RX2 22 2 1 true (.object "BishopsPeace$Peace") := ⟨RX2, TX2, 10, rfl, by decide, mg 214 (by decide +kernel) (by decide +kernel), rfl, by decide +kernel, rfl⟩
theorem fX2_9 : LF RX2 9 2 2 true (.array .int) := ⟨RX2, TX2, 10, rfl, by decide, mg 215 (by decide +kernel) (by decide +kernel), rfl, by decide +kernel, rfl⟩
theorem fX2_15 : LF RX2 15 2 3 true (.array .int) := ⟨RX2, TX2, 10, rfl, by decide, mg 216 (by decide +kernel) (by decide +kernel), rfl, by decide +kernel, rfl⟩
theorem fX2_36 : LF RX2 36 2 4 false .int := ⟨RX2, TX2, 10, rfl, by decide, mg 217 (by decide +kernel) (by decide +kernel), rfl, by decide +kernel, rfl⟩
theorem fX2_39 : LF RX2 39 2 5 false .int := ⟨RX2, TX2, 10, rfl, by decide, mg 218 (by decide +kernel) (by decide +kernel), rfl, by decide +kernel, rfl⟩
theorem fX2_42 : LF RX2 42 2 6 false .int := ⟨RX2, TX2, 10, rfl, by decide, mg 219 (by decide +kernel) (by decide +kernel), rfl, by decide +kernel, rfl⟩
theorem fX2_26 : LF RX2 26 2 7 false .int := ⟨RX2, TX2, 10, rfl, by decide, mg 220 (by decide +kernel) (by decide +kernel), rfl, by decide +kernel, rfl⟩
theorem fX2_30 : LF RX2 30 2 8 false .int := ⟨RX2, TX2, 10, rfl, by decide, mg 221 (by decide +kernel) (by decide +kernel), rfl, by decide +kernel, rfl⟩
theorem fX8_215 : LF RX8 215 2 8 false .int := ⟨RX2, TX2, 10, rfl, by decide, mg 222 (by decide +kernel) (by decide +kernel), rfl, by decide +kernel, rfl⟩
theorem fX2_33 : LF RX2 33 2 9 false .int := ⟨RX2, TX2, 10, rfl, by decide, mg 223 (by decide +kernel) (by decide +kernel), rfl, by decide +kernel, rfl⟩
theorem qX8_57 : Cond.classLink RX8 57 RX4 ∈ lw_g := mg 245 (by decide +kernel) (by decide +kernel)
theorem mX8_59 : Cond.methodLink RX8 59 iX4_init.1 ∈ lw_g := mg 247 (by decide +kernel) (by decide +kernel)
theorem mX4_3 : Cond.methodLink RX4 3 objectInit ∈ lw_g := mg 250 (by decide +kernel) (by decide +kernel)
theorem fX4_22 : LF RX4 22 4 0 true (.object "BishopsPeace$Peace") := ⟨RX4, TX4, 5, rfl, by decide, mg 251 (by decide +kernel) (by decide +kernel), rfl, by decide +kernel, rfl⟩
theorem fX4_11 : LF RX4 11 4 1 true (.array .int) := ⟨RX4, TX4, 5, rfl, by decide, mg 252 (by decide +kernel) (by decide +kernel), rfl, by decide +kernel, rfl⟩
theorem fX4_15 : LF RX4 15 4 2 true (.array .int) := ⟨RX4, TX4, 5, rfl, by decide, mg 253 (by decide +kernel) (by decide +kernel), rfl, by decide +kernel, rfl⟩
theorem fX4_18 : LF RX4 18 4 3 true (.array .boolean) := ⟨RX4, TX4, 5, rfl, by decide, mg 254 (by decide +kernel) (by decide +kernel), rfl, by decide +kernel, rfl⟩
theorem fX4_26 : LF RX4 26 4 4 false .int := ⟨RX4, TX4, 5, rfl, by decide, mg 255 (by decide +kernel) (by decide +kernel), rfl, by decide +kernel, rfl⟩
theorem fX8_240 : LF RX8 240 4 4 false .int := ⟨RX4, TX4, 5, rfl, by decide, mg 256 (by decide +kernel) (by decide +kernel), rfl, by decide +kernel, rfl⟩
theorem qX8_64 : Cond.classLink RX8 64 RX7 ∈ lw_g := mg 269 (by decide +kernel) (by decide +kernel)
theorem mX8_70 : Cond.methodLink RX8 70 iX7_init.1 ∈ lw_g := mg 272 (by decide +kernel) (by decide +kernel)
theorem mX7_3 : Cond.methodLink RX7 3 objectInit ∈ lw_g := mg 275 (by decide +kernel) (by decide +kernel)
theorem fX7_11 : LF RX7 11 7 0 true (.array .int) := ⟨RX7, TX7, 4, rfl, by decide, mg 276 (by decide +kernel) (by decide +kernel), rfl, by decide +kernel, rfl⟩
theorem fX8_138 : LF RX8 138 7 0 true (.array .int) := ⟨RX7, TX7, 4, rfl, by decide, mg 277 (by decide +kernel) (by decide +kernel), rfl, by decide +kernel, rfl⟩
theorem fX7_15 : LF RX7 15 7 1 false .int := ⟨RX7, TX7, 4, rfl, by decide, mg 278 (by decide +kernel) (by decide +kernel), rfl, by decide +kernel, rfl⟩
theorem fX8_261 : LF RX8 261 7 1 false .int := ⟨RX7, TX7, 4, rfl, by decide, mg 279 (by decide +kernel) (by decide +kernel), rfl, by decide +kernel, rfl⟩
theorem fX7_19 : LF RX7 19 7 2 false .int := ⟨RX7, TX7, 4, rfl, by decide, mg 280 (by decide +kernel) (by decide +kernel), rfl, by decide +kernel, rfl⟩
theorem fX8_130 : LF RX8 130 7 2 false .int := ⟨RX7, TX7, 4, rfl, by decide, mg 281 (by decide +kernel) (by decide +kernel), rfl, by decide +kernel, rfl⟩
theorem fX7_22 : LF RX7 22 7 3 false .boolean := ⟨RX7, TX7, 4, rfl, by decide, mg 282 (by decide +kernel) (by decide +kernel), rfl, by decide +kernel, rfl⟩
theorem fX8_123 : LF RX8 123 7 3 false .boolean := ⟨RX7, TX7, 4, rfl, by decide, mg 283 (by decide +kernel) (by decide +kernel), rfl, by decide +kernel, rfl⟩
theorem fX8_12 : LF RX8 12 8 0 true (.object "BishopsPeace$Roads") := ⟨RX8, TX8, 9, rfl, by decide, mg 293 (by decide +kernel) (by decide +kernel), rfl, by decide +kernel, rfl⟩
theorem fX8_19 : LF RX8 19 8 1 true (.object "BishopsPeace$Bells") := ⟨RX8, TX8, 9, rfl, by decide, mg 294 (by decide +kernel) (by decide +kernel), rfl, by decide +kernel, rfl⟩
theorem fX8_28 : LF RX8 28 8 2 true (.object "BishopsPeace$Peace") := ⟨RX8, TX8, 9, rfl, by decide, mg 295 (by decide +kernel) (by decide +kernel), rfl, by decide +kernel, rfl⟩
theorem fX8_37 : LF RX8 37 8 3 true (.object "BishopsPeace$March") := ⟨RX8, TX8, 9, rfl, by decide, mg 296 (by decide +kernel) (by decide +kernel), rfl, by decide +kernel, rfl⟩
theorem fX8_46 : LF RX8 46 8 4 true (.object "BishopsPeace$Castle") := ⟨RX8, TX8, 9, rfl, by decide, mg 297 (by decide +kernel) (by decide +kernel), rfl, by decide +kernel, rfl⟩
theorem fX8_53 : LF RX8 53 8 5 true (.object "BishopsPeace$Homeward") := ⟨RX8, TX8, 9, rfl, by decide, mg 298 (by decide +kernel) (by decide +kernel), rfl, by decide +kernel, rfl⟩
theorem fX8_60 : LF RX8 60 8 6 true (.object "BishopsPeace$Memory") := ⟨RX8, TX8, 9, rfl, by decide, mg 299 (by decide +kernel) (by decide +kernel), rfl, by decide +kernel, rfl⟩
theorem fX8_66 : LF RX8 66 8 7 true (.array (.object "BishopsPeace$Sheet")) := ⟨RX8, TX8, 9, rfl, by decide, mg 300 (by decide +kernel) (by decide +kernel), rfl, by decide +kernel, rfl⟩
theorem fX8_71 : LF RX8 71 8 8 false .int := ⟨RX8, TX8, 9, rfl, by decide, mg 301 (by decide +kernel) (by decide +kernel), rfl, by decide +kernel, rfl⟩
theorem mL_13 : Cond.methodLink RL 13 iX8_type.1 ∈ lw_g := mg 321 (by decide +kernel) (by decide +kernel)
theorem mX8_75 : Cond.methodLink RX8 75 iX8_upTo.1 ∈ lw_g := mg 325 (by decide +kernel) (by decide +kernel)
theorem mX8_79 : Cond.methodLink RX8 79 iX6_append.1 ∈ lw_g := mg 328 (by decide +kernel) (by decide +kernel)
theorem mX6_43 : Cond.methodLink RX6 43 iX6_settle.1 ∈ lw_g := mg 332 (by decide +kernel) (by decide +kernel)
theorem mX6_46 : Cond.methodLink RX6 46 iX6_firstFault.1 ∈ lw_g := mg 336 (by decide +kernel) (by decide +kernel)
theorem mX6_53 : Cond.methodLink RX6 53 iX6_goesOn.1 ∈ lw_g := mg 340 (by decide +kernel) (by decide +kernel)
theorem mX6_50 : Cond.methodLink RX6 50 iX6_measure.1 ∈ lw_g := mg 344 (by decide +kernel) (by decide +kernel)
theorem mX6_57 : Cond.methodLink RX6 57 iX6_shortenWay.1 ∈ lw_g := mg 348 (by decide +kernel) (by decide +kernel)
theorem mX6_65 : Cond.methodLink RX6 65 Lib.Math.min.name ∈ lw_g := mg 352 (by decide +kernel) (by decide +kernel)
theorem mX6_61 : Cond.methodLink RX6 61 iX6_shortest.1 ∈ lw_g := mg 355 (by decide +kernel) (by decide +kernel)
theorem mL_18 : Cond.methodLink RL 18 iX8_wipe.1 ∈ lw_g := mg 359 (by decide +kernel) (by decide +kernel)
theorem mX8_86 : Cond.methodLink RX8 86 iX6_shorten.1 ∈ lw_g := mg 363 (by decide +kernel) (by decide +kernel)
theorem mL_23 : Cond.methodLink RL 23 iX8_undo.1 ∈ lw_g := mg 367 (by decide +kernel) (by decide +kernel)
theorem mL_27 : Cond.methodLink RL 27 iX8_fault.1 ∈ lw_g := mg 371 (by decide +kernel) (by decide +kernel)
theorem mL_31 : Cond.methodLink RL 31 iX8_road.1 ∈ lw_g := mg 375 (by decide +kernel) (by decide +kernel)
theorem mX8_100 : Cond.methodLink RX8 100 iX6_end.1 ∈ lw_g := mg 379 (by decide +kernel) (by decide +kernel)
theorem mL_36 : Cond.methodLink RL 36 iX8_land.1 ∈ lw_g := mg 383 (by decide +kernel) (by decide +kernel)
theorem mX8_104 : Cond.methodLink RX8 104 iX8_isLand.1 ∈ lw_g := mg 387 (by decide +kernel) (by decide +kernel)
theorem mX8_107 : Cond.methodLink RX8 107 iX5_mostOf.1 ∈ lw_g := mg 390 (by decide +kernel) (by decide +kernel)
theorem mX8_111 : Cond.methodLink RX8 111 iX5_put.1 ∈ lw_g := mg 393 (by decide +kernel) (by decide +kernel)
theorem mX5_32 : Cond.methodLink RX5 32 iX5_at.1 ∈ lw_g := mg 397 (by decide +kernel) (by decide +kernel)
theorem mL_41 : Cond.methodLink RL 41 iX8_bell.1 ∈ lw_g := mg 401 (by decide +kernel) (by decide +kernel)
theorem mX8_115 : Cond.methodLink RX8 115 iX8_isParish.1 ∈ lw_g := mg 405 (by decide +kernel) (by decide +kernel)
theorem mX8_118 : Cond.methodLink RX8 118 iX0_put.1 ∈ lw_g := mg 408 (by decide +kernel) (by decide +kernel)
theorem mL_45 : Cond.methodLink RL 45 iX8_read.1 ∈ lw_g := mg 412 (by decide +kernel) (by decide +kernel)
theorem mX8_120 : Cond.methodLink RX8 120 iX8_isSheet.1 ∈ lw_g := mg 416 (by decide +kernel) (by decide +kernel)
theorem mX8_127 : Cond.methodLink RX8 127 iX8_found.1 ∈ lw_g := mg 419 (by decide +kernel) (by decide +kernel)
theorem mX8_133 : Cond.methodLink RX8 133 Lib.Math.min.name ∈ lw_g := mg 423 (by decide +kernel) (by decide +kernel)
theorem mL_49 : Cond.methodLink RL 49 iX8_feast.1 ∈ lw_g := mg 424 (by decide +kernel) (by decide +kernel)
theorem mX8_141 : Cond.methodLink RX8 141 iX5_addFeast.1 ∈ lw_g := mg 428 (by decide +kernel) (by decide +kernel)
theorem mX5_36 : Cond.methodLink RX5 36 iX5_gatherFeasts.1 ∈ lw_g := mg 432 (by decide +kernel) (by decide +kernel)
theorem mL_53 : Cond.methodLink RL 53 iX8_back.1 ∈ lw_g := mg 436 (by decide +kernel) (by decide +kernel)
theorem mX8_147 : Cond.methodLink RX8 147 iX5_dropFeast.1 ∈ lw_g := mg 440 (by decide +kernel) (by decide +kernel)
theorem mL_57 : Cond.methodLink RL 57 iX8_lent.1 ∈ lw_g := mg 444 (by decide +kernel) (by decide +kernel)
theorem mL_61 : Cond.methodLink RL 61 iX8_war.1 ∈ lw_g := mg 448 (by decide +kernel) (by decide +kernel)
theorem mX8_154 : Cond.methodLink RX8 154 iX8_isHour.1 ∈ lw_g := mg 452 (by decide +kernel) (by decide +kernel)
theorem mX8_157 : Cond.methodLink RX8 157 iX5_isWar.1 ∈ lw_g := mg 455 (by decide +kernel) (by decide +kernel)
theorem mX5_44 : Cond.methodLink RX5 44 iX5_isOpenDay.1 ∈ lw_g := mg 459 (by decide +kernel) (by decide +kernel)
theorem mX5_48 : Cond.methodLink RX5 48 iX5_bellOf.1 ∈ lw_g := mg 463 (by decide +kernel) (by decide +kernel)
theorem mL_65 : Cond.methodLink RL 65 iX8_strikes.1 ∈ lw_g := mg 467 (by decide +kernel) (by decide +kernel)
theorem mX8_160 : Cond.methodLink RX8 160 iX8_isKind.1 ∈ lw_g := mg 471 (by decide +kernel) (by decide +kernel)
theorem mL_70 : Cond.methodLink RL 70 iX8_next.1 ∈ lw_g := mg 474 (by decide +kernel) (by decide +kernel)
theorem mL_74 : Cond.methodLink RL 74 iX8_left.1 ∈ lw_g := mg 478 (by decide +kernel) (by decide +kernel)
theorem mX8_163 : Cond.methodLink RX8 163 iX5_warInWeek.1 ∈ lw_g := mg 482 (by decide +kernel) (by decide +kernel)
theorem mX5_51 : Cond.methodLink RX5 51 iX5_warInDay.1 ∈ lw_g := mg 486 (by decide +kernel) (by decide +kernel)
theorem mL_78 : Cond.methodLink RL 78 iX8_best.1 ∈ lw_g := mg 490 (by decide +kernel) (by decide +kernel)
theorem mL_82 : Cond.methodLink RL 82 iX8_unlike.1 ∈ lw_g := mg 494 (by decide +kernel) (by decide +kernel)
theorem mX8_166 : Cond.methodLink RX8 166 iX0_hoursUnlike.1 ∈ lw_g := mg 498 (by decide +kernel) (by decide +kernel)
theorem mX0_15 : Cond.methodLink RX0 15 iX0_at.1 ∈ lw_g := mg 502 (by decide +kernel) (by decide +kernel)
theorem mX0_19 : Cond.methodLink RX0 19 Lib.Math.abs.name ∈ lw_g := mg 506 (by decide +kernel) (by decide +kernel)
theorem mL_86 : Cond.methodLink RL 86 iX8_way.1 ∈ lw_g := mg 509 (by decide +kernel) (by decide +kernel)
theorem mX8_169 : Cond.methodLink RX8 169 iX8_areTwoLands.1 ∈ lw_g := mg 513 (by decide +kernel) (by decide +kernel)
theorem mX8_172 : Cond.methodLink RX8 172 iX6_reaches.1 ∈ lw_g := mg 516 (by decide +kernel) (by decide +kernel)
theorem mX8_175 : Cond.methodLink RX8 175 iX6_shortest.1 ∈ lw_g := mg 520 (by decide +kernel) (by decide +kernel)
theorem mX8_178 : Cond.methodLink RX8 178 iX6_nextLand.1 ∈ lw_g := mg 521 (by decide +kernel) (by decide +kernel)
theorem mX6_70 : Cond.methodLink RX6 70 iX6_across.1 ∈ lw_g := mg 525 (by decide +kernel) (by decide +kernel)
theorem mL_90 : Cond.methodLink RL 90 iX8_raid.1 ∈ lw_g := mg 529 (by decide +kernel) (by decide +kernel)
theorem mX8_181 : Cond.methodLink RX8 181 iX3_firstStart.1 ∈ lw_g := mg 533 (by decide +kernel) (by decide +kernel)
theorem mX3_30 : Cond.methodLink RX3 30 iX6_shortest.1 ∈ lw_g := mg 537 (by decide +kernel) (by decide +kernel)
theorem mX3_36 : Cond.methodLink RX3 36 iX3_goBetween.1 ∈ lw_g := mg 538 (by decide +kernel) (by decide +kernel)
theorem mX3_48 : Cond.methodLink RX3 48 iX6_nextLand.1 ∈ lw_g := mg 542 (by decide +kernel) (by decide +kernel)
theorem mX3_40 : Cond.methodLink RX3 40 iX3_need.1 ∈ lw_g := mg 543 (by decide +kernel) (by decide +kernel)
theorem mX3_44 : Cond.methodLink RX3 44 iX3_isAllowed.1 ∈ lw_g := mg 547 (by decide +kernel) (by decide +kernel)
theorem mX3_51 : Cond.methodLink RX3 51 iX5_isWar.1 ∈ lw_g := mg 551 (by decide +kernel) (by decide +kernel)
theorem mL_94 : Cond.methodLink RL 94 iX8_set.1 ∈ lw_g := mg 552 (by decide +kernel) (by decide +kernel)
theorem mL_98 : Cond.methodLink RL 98 iX8_siege.1 ∈ lw_g := mg 556 (by decide +kernel) (by decide +kernel)
theorem mX8_191 : Cond.methodLink RX8 191 iX8_isSiege.1 ∈ lw_g := mg 560 (by decide +kernel) (by decide +kernel)
theorem mX8_195 : Cond.methodLink RX8 195 iX1_batter.1 ∈ lw_g := mg 563 (by decide +kernel) (by decide +kernel)
theorem mX1_25 : Cond.methodLink RX1 25 iX5_isWar.1 ∈ lw_g := mg 567 (by decide +kernel) (by decide +kernel)
theorem mX1_31 : Cond.methodLink RX1 31 Lib.Math.min.name ∈ lw_g := mg 568 (by decide +kernel) (by decide +kernel)
theorem mL_102 : Cond.methodLink RL 102 iX8_holds.1 ∈ lw_g := mg 569 (by decide +kernel) (by decide +kernel)
theorem mX8_201 : Cond.methodLink RX8 201 iX1_leastMends.1 ∈ lw_g := mg 573 (by decide +kernel) (by decide +kernel)
theorem mX1_37 : Cond.methodLink RX1 37 iX1_batter.1 ∈ lw_g := mg 577 (by decide +kernel) (by decide +kernel)
theorem mL_106 : Cond.methodLink RL 106 iX8_home.1 ∈ lw_g := mg 578 (by decide +kernel) (by decide +kernel)
theorem mX8_204 : Cond.methodLink RX8 204 iX2_seek.1 ∈ lw_g := mg 582 (by decide +kernel) (by decide +kernel)
theorem kX2_45 : Cond.constant RX2 45 (iZ (16777216)) ∈ lw_g := mg 586 (by decide +kernel) (by decide +kernel)
theorem mX2_46 : Cond.methodLink RX2 46 iX2_walk.1 ∈ lw_g := mg 587 (by decide +kernel) (by decide +kernel)
theorem mX2_50 : Cond.methodLink RX2 50 iX2_arrive.1 ∈ lw_g := mg 591 (by decide +kernel) (by decide +kernel)
theorem mX2_78 : Cond.methodLink RX2 78 iX2_isBetter.1 ∈ lw_g := mg 595 (by decide +kernel) (by decide +kernel)
theorem mX2_81 : Cond.methodLink RX2 81 arraycopyName ∈ lw_g := mg 599 (by decide +kernel) (by decide +kernel)
theorem mX2_58 : Cond.methodLink RX2 58 iX6_across.1 ∈ lw_g := mg 602 (by decide +kernel) (by decide +kernel)
theorem mX2_65 : Cond.methodLink RX2 65 iX5_isWar.1 ∈ lw_g := mg 603 (by decide +kernel) (by decide +kernel)
theorem mX2_71 : Cond.methodLink RX2 71 iX2_freeOf.1 ∈ lw_g := mg 604 (by decide +kernel) (by decide +kernel)
theorem mX2_75 : Cond.methodLink RX2 75 iX5_at.1 ∈ lw_g := mg 608 (by decide +kernel) (by decide +kernel)
theorem mX8_208 : Cond.methodLink RX8 208 iX2_above.1 ∈ lw_g := mg 609 (by decide +kernel) (by decide +kernel)
theorem mX2_87 : Cond.methodLink RX2 87 iX2_commonBits.1 ∈ lw_g := mg 613 (by decide +kernel) (by decide +kernel)
theorem mX8_212 : Cond.methodLink RX8 212 iX2_below.1 ∈ lw_g := mg 617 (by decide +kernel) (by decide +kernel)
theorem mX8_218 : Cond.methodLink RX8 218 iX2_landAt.1 ∈ lw_g := mg 621 (by decide +kernel) (by decide +kernel)
theorem mL_110 : Cond.methodLink RL 110 iX8_agree.1 ∈ lw_g := mg 625 (by decide +kernel) (by decide +kernel)
theorem mX8_221 : Cond.methodLink RX8 221 iX0_commonest.1 ∈ lw_g := mg 629 (by decide +kernel) (by decide +kernel)
theorem mX0_28 : Cond.methodLink RX0 28 iX0_likeOnes.1 ∈ lw_g := mg 633 (by decide +kernel) (by decide +kernel)
theorem mX0_25 : Cond.methodLink RX0 25 iX0_hoursUnlike.1 ∈ lw_g := mg 637 (by decide +kernel) (by decide +kernel)
theorem mX0_31 : Cond.methodLink RX0 31 iX0_rank.1 ∈ lw_g := mg 638 (by decide +kernel) (by decide +kernel)
theorem mX8_224 : Cond.methodLink RX8 224 iX0_likeOnes.1 ∈ lw_g := mg 642 (by decide +kernel) (by decide +kernel)
theorem mX8_227 : Cond.methodLink RX8 227 iX0_at.1 ∈ lw_g := mg 643 (by decide +kernel) (by decide +kernel)
theorem mL_114 : Cond.methodLink RL 114 iX8_middle.1 ∈ lw_g := mg 644 (by decide +kernel) (by decide +kernel)
theorem mX8_230 : Cond.methodLink RX8 230 iX0_middleOf.1 ∈ lw_g := mg 648 (by decide +kernel) (by decide +kernel)
theorem mX0_34 : Cond.methodLink RX0 34 iX0_change.1 ∈ lw_g := mg 652 (by decide +kernel) (by decide +kernel)
theorem mX8_233 : Cond.methodLink RX8 233 iX0_change.1 ∈ lw_g := mg 656 (by decide +kernel) (by decide +kernel)
theorem mL_118 : Cond.methodLink RL 118 iX8_seen.1 ∈ lw_g := mg 657 (by decide +kernel) (by decide +kernel)
theorem mX8_236 : Cond.methodLink RX8 236 iX4_keep.1 ∈ lw_g := mg 661 (by decide +kernel) (by decide +kernel)
theorem mL_122 : Cond.methodLink RL 122 iX8_forget.1 ∈ lw_g := mg 665 (by decide +kernel) (by decide +kernel)
theorem mL_126 : Cond.methodLink RL 126 iX8_which.1 ∈ lw_g := mg 669 (by decide +kernel) (by decide +kernel)
theorem mX8_241 : Cond.methodLink RX8 241 iX4_fits.1 ∈ lw_g := mg 673 (by decide +kernel) (by decide +kernel)
theorem mX4_30 : Cond.methodLink RX4 30 iX5_isWar.1 ∈ lw_g := mg 677 (by decide +kernel) (by decide +kernel)
theorem mL_130 : Cond.methodLink RL 130 iX8_season.1 ∈ lw_g := mg 678 (by decide +kernel) (by decide +kernel)
theorem kX8_244 : Cond.constant RX8 244 (iZ (1103515245)) ∈ lw_g := mg 682 (by decide +kernel) (by decide +kernel)
theorem mX8_245 : Cond.methodLink RX8 245 iX5_warInDay.1 ∈ lw_g := mg 683 (by decide +kernel) (by decide +kernel)
theorem mL_134 : Cond.methodLink RL 134 iX8_sheet.1 ∈ lw_g := mg 684 (by decide +kernel) (by decide +kernel)
theorem mX8_248 : Cond.methodLink RX8 248 iX8_isForm.1 ∈ lw_g := mg 688 (by decide +kernel) (by decide +kernel)
theorem mX8_251 : Cond.methodLink RX8 251 iX7_renew.1 ∈ lw_g := mg 691 (by decide +kernel) (by decide +kernel)
theorem mX7_26 : Cond.methodLink RX7 26 iJ7_fill_53178.1 ∈ lw_g := mg 695 (by decide +kernel) (by decide +kernel)
theorem mL_138 : Cond.methodLink RL 138 iX8_lose.1 ∈ lw_g := mg 696 (by decide +kernel) (by decide +kernel)
theorem mL_142 : Cond.methodLink RL 142 iX8_lay.1 ∈ lw_g := mg 700 (by decide +kernel) (by decide +kernel)
theorem mX8_255 : Cond.methodLink RX8 255 iX8_wrongItem.1 ∈ lw_g := mg 704 (by decide +kernel) (by decide +kernel)
theorem mX8_258 : Cond.methodLink RX8 258 iX7_put.1 ∈ lw_g := mg 708 (by decide +kernel) (by decide +kernel)
theorem mL_146 : Cond.methodLink RL 146 iX8_get.1 ∈ lw_g := mg 712 (by decide +kernel) (by decide +kernel)
theorem kX8_260 : Cond.constant RX8 260 (iZ (-2147483648)) ∈ lw_g := mg 716 (by decide +kernel) (by decide +kernel)
theorem mL_150 : Cond.methodLink RL 150 iX8_copy.1 ∈ lw_g := mg 717 (by decide +kernel) (by decide +kernel)
theorem mX8_264 : Cond.methodLink RX8 264 iX7_holdsRun.1 ∈ lw_g := mg 721 (by decide +kernel) (by decide +kernel)
theorem mX8_267 : Cond.methodLink RX8 267 arraycopyName ∈ lw_g := mg 725 (by decide +kernel) (by decide +kernel)
theorem mL_155 : Cond.methodLink RL 155 iX8_write.1 ∈ lw_g := mg 726 (by decide +kernel) (by decide +kernel)
theorem mL_159 : Cond.methodLink RL 159 iX8_count.1 ∈ lw_g := mg 730 (by decide +kernel) (by decide +kernel)
theorem mX8_273 : Cond.methodLink RX8 273 iX5_swornLands.1 ∈ lw_g := mg 734 (by decide +kernel) (by decide +kernel)
theorem mX8_276 : Cond.methodLink RX8 276 iX6_allHours.1 ∈ lw_g := mg 738 (by decide +kernel) (by decide +kernel)
theorem mL_163 : Cond.methodLink RL 163 iX8_digest.1 ∈ lw_g := mg 742 (by decide +kernel) (by decide +kernel)
theorem kX8_279 : Cond.constantLong RX8 279 (lZ (17)) ∈ lw_g := mg 746 (by decide +kernel) (by decide +kernel)
theorem kX8_281 : Cond.constantLong RX8 281 (lZ (31)) ∈ lw_g := mg 747 (by decide +kernel) (by decide +kernel)
theorem mX8_283 : Cond.methodLink RX8 283 iX8_count.1 ∈ lw_g := mg 748 (by decide +kernel) (by decide +kernel)
theorem mX8_286 : Cond.methodLink RX8 286 iX8_fault.1 ∈ lw_g := mg 749 (by decide +kernel) (by decide +kernel)
theorem mX8_289 : Cond.methodLink RX8 289 iX8_digestOfRoads.1 ∈ lw_g := mg 750 (by decide +kernel) (by decide +kernel)
theorem mX8_305 : Cond.methodLink RX8 305 iX8_road.1 ∈ lw_g := mg 754 (by decide +kernel) (by decide +kernel)
theorem mX8_293 : Cond.methodLink RX8 293 iX8_digestOfLands.1 ∈ lw_g := mg 755 (by decide +kernel) (by decide +kernel)
theorem mX8_308 : Cond.methodLink RX8 308 iX8_left.1 ∈ lw_g := mg 759 (by decide +kernel) (by decide +kernel)
theorem mX8_311 : Cond.methodLink RX8 311 iX8_best.1 ∈ lw_g := mg 760 (by decide +kernel) (by decide +kernel)
theorem mX8_314 : Cond.methodLink RX8 314 iX8_next.1 ∈ lw_g := mg 761 (by decide +kernel) (by decide +kernel)
theorem mX8_317 : Cond.methodLink RX8 317 iX8_siege.1 ∈ lw_g := mg 762 (by decide +kernel) (by decide +kernel)
theorem mX8_320 : Cond.methodLink RX8 320 iX8_holds.1 ∈ lw_g := mg 763 (by decide +kernel) (by decide +kernel)
theorem mX8_323 : Cond.methodLink RX8 323 iX8_season.1 ∈ lw_g := mg 764 (by decide +kernel) (by decide +kernel)
theorem mX8_296 : Cond.methodLink RX8 296 iX8_digestOfJourneys.1 ∈ lw_g := mg 765 (by decide +kernel) (by decide +kernel)
theorem mX8_326 : Cond.methodLink RX8 326 iX8_way.1 ∈ lw_g := mg 769 (by decide +kernel) (by decide +kernel)
theorem mX8_329 : Cond.methodLink RX8 329 iX8_raid.1 ∈ lw_g := mg 770 (by decide +kernel) (by decide +kernel)
theorem mX8_332 : Cond.methodLink RX8 332 iX8_home.1 ∈ lw_g := mg 771 (by decide +kernel) (by decide +kernel)
theorem mX8_299 : Cond.methodLink RX8 299 iX8_digestOfKinds.1 ∈ lw_g := mg 772 (by decide +kernel) (by decide +kernel)
theorem mX8_335 : Cond.methodLink RX8 335 iX8_strikes.1 ∈ lw_g := mg 776 (by decide +kernel) (by decide +kernel)
theorem mX8_302 : Cond.methodLink RX8 302 iX8_digestOfParishes.1 ∈ lw_g := mg 777 (by decide +kernel) (by decide +kernel)
theorem mX8_338 : Cond.methodLink RX8 338 iX8_unlike.1 ∈ lw_g := mg 781 (by decide +kernel) (by decide +kernel)
theorem mX8_341 : Cond.methodLink RX8 341 iX8_agree.1 ∈ lw_g := mg 782 (by decide +kernel) (by decide +kernel)
theorem mX8_344 : Cond.methodLink RX8 344 iX8_middle.1 ∈ lw_g := mg 783 (by decide +kernel) (by decide +kernel)
theorem mX8_347 : Cond.methodLink RX8 347 iX8_which.1 ∈ lw_g := mg 784 (by decide +kernel) (by decide +kernel)
theorem qL_10 : Cond.classLink RL 10 RX9 ∈ lw_g := mg 785 (by decide +kernel) (by decide +kernel)
theorem mL_12 : Cond.methodLink RL 12 iX9_init.1 ∈ lw_g := mg 787 (by decide +kernel) (by decide +kernel)
theorem mX9_1 : Cond.methodLink RX9 1 objectInit ∈ lw_g := mg 790 (by decide +kernel) (by decide +kernel)
theorem fX9_7 : LF RX9 7 9 0 true (.array .int) := ⟨RX9, TX9, 29, rfl, by decide, mg 791 (by decide +kernel) (by decide +kernel), rfl, by decide +kernel, rfl⟩
theorem fX9_13 : LF RX9 13 9 1 true (.array .int) := ⟨RX9, TX9, 29, rfl, by decide, mg 792 (by decide +kernel) (by decide +kernel), rfl, by decide +kernel, rfl⟩
theorem fX9_16 : LF RX9 16 9 2 true (.array .int) := ⟨RX9, TX9, 29, rfl, by decide, mg 793 (by decide +kernel) (by decide +kernel), rfl, by decide +kernel, rfl⟩
theorem fX9_19 : LF RX9 19 9 3 true (.array .int) := ⟨RX9, TX9, 29, rfl, by decide, mg 794 (by decide +kernel) (by decide +kernel), rfl, by decide +kernel, rfl⟩
theorem fX9_69 : LF RX9 69 9 4 false .int := ⟨RX9, TX9, 29, rfl, by decide, mg 795 (by decide +kernel) (by decide +kernel), rfl, by decide +kernel, rfl⟩
theorem fX9_22 : LF RX9 22 9 5 true (.array .int) := ⟨RX9, TX9, 29, rfl, by decide, mg 796 (by decide +kernel) (by decide +kernel), rfl, by decide +kernel, rfl⟩
theorem fX9_95 : LF RX9 95 9 6 false .int := ⟨RX9, TX9, 29, rfl, by decide, mg 797 (by decide +kernel) (by decide +kernel), rfl, by decide +kernel, rfl⟩
theorem fX9_109 : LF RX9 109 9 7 false .int := ⟨RX9, TX9, 29, rfl, by decide, mg 798 (by decide +kernel) (by decide +kernel), rfl, by decide +kernel, rfl⟩
theorem fX9_106 : LF RX9 106 9 8 false .int := ⟨RX9, TX9, 29, rfl, by decide, mg 799 (by decide +kernel) (by decide +kernel), rfl, by decide +kernel, rfl⟩
theorem fX9_25 : LF RX9 25 9 9 true (.array .int) := ⟨RX9, TX9, 29, rfl, by decide, mg 800 (by decide +kernel) (by decide +kernel), rfl, by decide +kernel, rfl⟩
theorem fX9_28 : LF RX9 28 9 10 true (.array .int) := ⟨RX9, TX9, 29, rfl, by decide, mg 801 (by decide +kernel) (by decide +kernel), rfl, by decide +kernel, rfl⟩
theorem fX9_31 : LF RX9 31 9 11 true (.array .int) := ⟨RX9, TX9, 29, rfl, by decide, mg 802 (by decide +kernel) (by decide +kernel), rfl, by decide +kernel, rfl⟩
theorem fX9_148 : LF RX9 148 9 12 false .int := ⟨RX9, TX9, 29, rfl, by decide, mg 803 (by decide +kernel) (by decide +kernel), rfl, by decide +kernel, rfl⟩
theorem fX9_34 : LF RX9 34 9 13 true (.array .int) := ⟨RX9, TX9, 29, rfl, by decide, mg 804 (by decide +kernel) (by decide +kernel), rfl, by decide +kernel, rfl⟩
theorem fX9_153 : LF RX9 153 9 14 false .int := ⟨RX9, TX9, 29, rfl, by decide, mg 805 (by decide +kernel) (by decide +kernel), rfl, by decide +kernel, rfl⟩
theorem fX9_37 : LF RX9 37 9 15 true (.array .int) := ⟨RX9, TX9, 29, rfl, by decide, mg 806 (by decide +kernel) (by decide +kernel), rfl, by decide +kernel, rfl⟩
theorem fX9_40 : LF RX9 40 9 16 true (.array .int) := ⟨RX9, TX9, 29, rfl, by decide, mg 807 (by decide +kernel) (by decide +kernel), rfl, by decide +kernel, rfl⟩
theorem fX9_219 : LF RX9 219 9 17 false .int := ⟨RX9, TX9, 29, rfl, by decide, mg 808 (by decide +kernel) (by decide +kernel), rfl, by decide +kernel, rfl⟩
theorem fX9_43 : LF RX9 43 9 18 true (.array .int) := ⟨RX9, TX9, 29, rfl, by decide, mg 809 (by decide +kernel) (by decide +kernel), rfl, by decide +kernel, rfl⟩
theorem fX9_46 : LF RX9 46 9 19 true (.array .int) := ⟨RX9, TX9, 29, rfl, by decide, mg 810 (by decide +kernel) (by decide +kernel), rfl, by decide +kernel, rfl⟩
theorem fX9_49 : LF RX9 49 9 20 true (.array .int) := ⟨RX9, TX9, 29, rfl, by decide, mg 811 (by decide +kernel) (by decide +kernel), rfl, by decide +kernel, rfl⟩
theorem fX9_52 : LF RX9 52 9 21 true (.array .int) := ⟨RX9, TX9, 29, rfl, by decide, mg 812 (by decide +kernel) (by decide +kernel), rfl, by decide +kernel, rfl⟩
theorem fX9_233 : LF RX9 233 9 22 false .int := ⟨RX9, TX9, 29, rfl, by decide, mg 813 (by decide +kernel) (by decide +kernel), rfl, by decide +kernel, rfl⟩
theorem fX9_236 : LF RX9 236 9 23 false .int := ⟨RX9, TX9, 29, rfl, by decide, mg 814 (by decide +kernel) (by decide +kernel), rfl, by decide +kernel, rfl⟩
theorem fX9_239 : LF RX9 239 9 24 false .int := ⟨RX9, TX9, 29, rfl, by decide, mg 815 (by decide +kernel) (by decide +kernel), rfl, by decide +kernel, rfl⟩
theorem fX9_55 : LF RX9 55 9 25 true (.array .int) := ⟨RX9, TX9, 29, rfl, by decide, mg 816 (by decide +kernel) (by decide +kernel), rfl, by decide +kernel, rfl⟩
theorem fX9_285 : LF RX9 285 9 26 false .int := ⟨RX9, TX9, 29, rfl, by decide, mg 817 (by decide +kernel) (by decide +kernel), rfl, by decide +kernel, rfl⟩
theorem fX9_58 : LF RX9 58 9 27 true (.array .int) := ⟨RX9, TX9, 29, rfl, by decide, mg 818 (by decide +kernel) (by decide +kernel), rfl, by decide +kernel, rfl⟩
theorem fX9_61 : LF RX9 61 9 28 false .int := ⟨RX9, TX9, 29, rfl, by decide, mg 819 (by decide +kernel) (by decide +kernel), rfl, by decide +kernel, rfl⟩
theorem mL_137 : Cond.methodLink RL 137 iX9_sheet.1 ∈ lw_g := mg 879 (by decide +kernel) (by decide +kernel)
theorem mX9_74 : Cond.methodLink RX9 74 iX9_isSheet.1 ∈ lw_g := mg 883 (by decide +kernel) (by decide +kernel)
theorem kX9_72 : Cond.constantLong RX9 72 (lZ (3)) ∈ lw_g := mg 886 (by decide +kernel) (by decide +kernel)
theorem mX9_65 : Cond.methodLink RX9 65 iX9_in.1 ∈ lw_g := mg 887 (by decide +kernel) (by decide +kernel)
theorem kX9_78 : Cond.constantLong RX9 78 (lZ (2)) ∈ lw_g := mg 890 (by decide +kernel) (by decide +kernel)
theorem mX9_80 : Cond.methodLink RX9 80 iX9_finds.1 ∈ lw_g := mg 891 (by decide +kernel) (by decide +kernel)
theorem mL_141 : Cond.methodLink RL 141 iX9_lose.1 ∈ lw_g := mg 895 (by decide +kernel) (by decide +kernel)
theorem mL_145 : Cond.methodLink RL 145 iX9_lay.1 ∈ lw_g := mg 899 (by decide +kernel) (by decide +kernel)
theorem mX9_84 : Cond.methodLink RX9 84 iX9_lacks.1 ∈ lw_g := mg 903 (by decide +kernel) (by decide +kernel)
theorem mX9_88 : Cond.methodLink RX9 88 iX9_cut.1 ∈ lw_g := mg 907 (by decide +kernel) (by decide +kernel)
theorem mL_149 : Cond.methodLink RL 149 iX9_get.1 ∈ lw_g := mg 910 (by decide +kernel) (by decide +kernel)
theorem kX9_92 : Cond.constant RX9 92 (iZ (-2147483648)) ∈ lw_g := mg 914 (by decide +kernel) (by decide +kernel)
theorem mL_154 : Cond.methodLink RL 154 iX9_copy.1 ∈ lw_g := mg 915 (by decide +kernel) (by decide +kernel)
theorem mL_17 : Cond.methodLink RL 17 iX9_type.1 ∈ lw_g := mg 919 (by decide +kernel) (by decide +kernel)
theorem kX9_93 : Cond.constantLong RX9 93 (lZ (255)) ∈ lw_g := mg 923 (by decide +kernel) (by decide +kernel)
theorem mL_22 : Cond.methodLink RL 22 iX9_wipe.1 ∈ lw_g := mg 924 (by decide +kernel) (by decide +kernel)
theorem mL_26 : Cond.methodLink RL 26 iX9_undo.1 ∈ lw_g := mg 928 (by decide +kernel) (by decide +kernel)
theorem mL_30 : Cond.methodLink RL 30 iX9_fault.1 ∈ lw_g := mg 932 (by decide +kernel) (by decide +kernel)
theorem mX9_119 : Cond.methodLink RX9 119 iX9_reads.1 ∈ lw_g := mg 936 (by decide +kernel) (by decide +kernel)
theorem mX9_115 : Cond.methodLink RX9 115 iX9_readsRoad.1 ∈ lw_g := mg 940 (by decide +kernel) (by decide +kernel)
theorem mX9_112 : Cond.methodLink RX9 112 iX9_tellsOf.1 ∈ lw_g := mg 944 (by decide +kernel) (by decide +kernel)
theorem kX9_98 : Cond.constantLong RX9 98 (lZ (49)) ∈ lw_g := mg 948 (by decide +kernel) (by decide +kernel)
theorem kX9_100 : Cond.constantLong RX9 100 (lZ (57)) ∈ lw_g := mg 949 (by decide +kernel) (by decide +kernel)
theorem kX9_102 : Cond.constantLong RX9 102 (lZ (97)) ∈ lw_g := mg 950 (by decide +kernel) (by decide +kernel)
theorem kX9_104 : Cond.constantLong RX9 104 (lZ (104)) ∈ lw_g := mg 951 (by decide +kernel) (by decide +kernel)
theorem mL_35 : Cond.methodLink RL 35 iX9_road.1 ∈ lw_g := mg 952 (by decide +kernel) (by decide +kernel)
theorem mL_40 : Cond.methodLink RL 40 iX9_land.1 ∈ lw_g := mg 956 (by decide +kernel) (by decide +kernel)
theorem mX9_127 : Cond.methodLink RX9 127 iX9_isLand.1 ∈ lw_g := mg 960 (by decide +kernel) (by decide +kernel)
theorem kX9_123 : Cond.constantLong RX9 123 (lZ (7)) ∈ lw_g := mg 963 (by decide +kernel) (by decide +kernel)
theorem kX9_130 : Cond.constantLong RX9 130 (lZ (16)) ∈ lw_g := mg 964 (by decide +kernel) (by decide +kernel)
theorem mL_44 : Cond.methodLink RL 44 iX9_bell.1 ∈ lw_g := mg 965 (by decide +kernel) (by decide +kernel)
theorem mX9_132 : Cond.methodLink RX9 132 iX9_isParish.1 ∈ lw_g := mg 969 (by decide +kernel) (by decide +kernel)
theorem mX9_135 : Cond.methodLink RX9 135 iX9_isTwo.1 ∈ lw_g := mg 972 (by decide +kernel) (by decide +kernel)
theorem kX9_138 : Cond.constantLong RX9 138 (lZ (23)) ∈ lw_g := mg 975 (by decide +kernel) (by decide +kernel)
theorem mL_48 : Cond.methodLink RL 48 iX9_read.1 ∈ lw_g := mg 976 (by decide +kernel) (by decide +kernel)
theorem mX9_140 : Cond.methodLink RX9 140 iX9_lesser.1 ∈ lw_g := mg 980 (by decide +kernel) (by decide +kernel)
theorem mX9_143 : Cond.methodLink RX9 143 iX9_bell.1 ∈ lw_g := mg 983 (by decide +kernel) (by decide +kernel)
theorem mL_52 : Cond.methodLink RL 52 iX9_feast.1 ∈ lw_g := mg 984 (by decide +kernel) (by decide +kernel)
theorem kX9_146 : Cond.constantLong RX9 146 (lZ (27)) ∈ lw_g := mg 988 (by decide +kernel) (by decide +kernel)
theorem mL_56 : Cond.methodLink RL 56 iX9_back.1 ∈ lw_g := mg 989 (by decide +kernel) (by decide +kernel)
theorem mL_60 : Cond.methodLink RL 60 iX9_lent.1 ∈ lw_g := mg 993 (by decide +kernel) (by decide +kernel)
theorem kX9_151 : Cond.constantLong RX9 151 (lZ (15)) ∈ lw_g := mg 997 (by decide +kernel) (by decide +kernel)
theorem mL_64 : Cond.methodLink RL 64 iX9_war.1 ∈ lw_g := mg 998 (by decide +kernel) (by decide +kernel)
theorem mX9_166 : Cond.methodLink RX9 166 iX9_isHour.1 ∈ lw_g := mg 1002 (by decide +kernel) (by decide +kernel)
theorem kX9_125 : Cond.constantLong RX9 125 (lZ (671)) ∈ lw_g := mg 1005 (by decide +kernel) (by decide +kernel)
theorem mX9_169 : Cond.methodLink RX9 169 iX9_isWar.1 ∈ lw_g := mg 1006 (by decide +kernel) (by decide +kernel)
theorem mX9_156 : Cond.methodLink RX9 156 iX9_isIn.1 ∈ lw_g := mg 1010 (by decide +kernel) (by decide +kernel)
theorem mX9_160 : Cond.methodLink RX9 160 iX9_isWarBy.1 ∈ lw_g := mg 1013 (by decide +kernel) (by decide +kernel)
theorem mX9_163 : Cond.methodLink RX9 163 iX9_isFeast.1 ∈ lw_g := mg 1017 (by decide +kernel) (by decide +kernel)
theorem mL_69 : Cond.methodLink RL 69 iX9_strikes.1 ∈ lw_g := mg 1021 (by decide +kernel) (by decide +kernel)
theorem mX9_172 : Cond.methodLink RX9 172 iX9_strikesNow.1 ∈ lw_g := mg 1025 (by decide +kernel) (by decide +kernel)
theorem mL_73 : Cond.methodLink RL 73 iX9_next.1 ∈ lw_g := mg 1029 (by decide +kernel) (by decide +kernel)
theorem mX9_176 : Cond.methodLink RX9 176 iX9_nextOf.1 ∈ lw_g := mg 1033 (by decide +kernel) (by decide +kernel)
theorem mL_77 : Cond.methodLink RL 77 iX9_left.1 ∈ lw_g := mg 1037 (by decide +kernel) (by decide +kernel)
theorem mX9_179 : Cond.methodLink RX9 179 iX9_leftIn.1 ∈ lw_g := mg 1041 (by decide +kernel) (by decide +kernel)
theorem mL_81 : Cond.methodLink RL 81 iX9_best.1 ∈ lw_g := mg 1045 (by decide +kernel) (by decide +kernel)
theorem mX9_182 : Cond.methodLink RX9 182 iX9_bestOf.1 ∈ lw_g := mg 1049 (by decide +kernel) (by decide +kernel)
theorem mL_85 : Cond.methodLink RL 85 iX9_unlike.1 ∈ lw_g := mg 1053 (by decide +kernel) (by decide +kernel)
theorem mX9_185 : Cond.methodLink RX9 185 iX9_unlikeOf.1 ∈ lw_g := mg 1057 (by decide +kernel) (by decide +kernel)
theorem mL_89 : Cond.methodLink RL 89 iX9_way.1 ∈ lw_g := mg 1061 (by decide +kernel) (by decide +kernel)
theorem mX9_198 : Cond.methodLink RX9 198 iX9_areTwo.1 ∈ lw_g := mg 1065 (by decide +kernel) (by decide +kernel)
theorem mX9_201 : Cond.methodLink RX9 201 iX9_wayOf.1 ∈ lw_g := mg 1068 (by decide +kernel) (by decide +kernel)
theorem mX9_191 : Cond.methodLink RX9 191 iX9_findFar.1 ∈ lw_g := mg 1072 (by decide +kernel) (by decide +kernel)
theorem mX9_195 : Cond.methodLink RX9 195 iX9_nextLand.1 ∈ lw_g := mg 1076 (by decide +kernel) (by decide +kernel)
theorem mX9_188 : Cond.methodLink RX9 188 iX9_hoursOf.1 ∈ lw_g := mg 1080 (by decide +kernel) (by decide +kernel)
theorem mL_93 : Cond.methodLink RL 93 iX9_raid.1 ∈ lw_g := mg 1084 (by decide +kernel) (by decide +kernel)
theorem kX9_211 : Cond.constantLong RX9 211 (lZ (9)) ∈ lw_g := mg 1088 (by decide +kernel) (by decide +kernel)
theorem mX9_213 : Cond.methodLink RX9 213 iX9_raidOf.1 ∈ lw_g := mg 1089 (by decide +kernel) (by decide +kernel)
theorem mX9_208 : Cond.methodLink RX9 208 iX9_isRaid.1 ∈ lw_g := mg 1093 (by decide +kernel) (by decide +kernel)
theorem mX9_204 : Cond.methodLink RX9 204 iX9_goes.1 ∈ lw_g := mg 1097 (by decide +kernel) (by decide +kernel)
theorem mL_97 : Cond.methodLink RL 97 iX9_set.1 ∈ lw_g := mg 1101 (by decide +kernel) (by decide +kernel)
theorem kX9_217 : Cond.constantLong RX9 217 (lZ (99)) ∈ lw_g := mg 1105 (by decide +kernel) (by decide +kernel)
theorem mL_101 : Cond.methodLink RL 101 iX9_siege.1 ∈ lw_g := mg 1106 (by decide +kernel) (by decide +kernel)
theorem kX9_225 : Cond.constantLong RX9 225 (lZ (999)) ∈ lw_g := mg 1110 (by decide +kernel) (by decide +kernel)
theorem mX9_227 : Cond.methodLink RX9 227 iX9_siegeOf.1 ∈ lw_g := mg 1111 (by decide +kernel) (by decide +kernel)
theorem mX9_222 : Cond.methodLink RX9 222 iX9_falls.1 ∈ lw_g := mg 1115 (by decide +kernel) (by decide +kernel)
theorem mL_105 : Cond.methodLink RL 105 iX9_holds.1 ∈ lw_g := mg 1119 (by decide +kernel) (by decide +kernel)
theorem mX9_230 : Cond.methodLink RX9 230 iX9_holdsBy.1 ∈ lw_g := mg 1123 (by decide +kernel) (by decide +kernel)
theorem mL_109 : Cond.methodLink RL 109 iX9_home.1 ∈ lw_g := mg 1127 (by decide +kernel) (by decide +kernel)
theorem kX9_258 : Cond.constantLong RX9 258 (lZ (-4)) ∈ lw_g := mg 1131 (by decide +kernel) (by decide +kernel)
theorem mX9_260 : Cond.methodLink RX9 260 iX9_findHome.1 ∈ lw_g := mg 1132 (by decide +kernel) (by decide +kernel)
theorem kX9_245 : Cond.constant RX9 245 (iZ (268435456)) ∈ lw_g := mg 1136 (by decide +kernel) (by decide +kernel)
theorem mX9_246 : Cond.methodLink RX9 246 iX9_otherEnd.1 ∈ lw_g := mg 1137 (by decide +kernel) (by decide +kernel)
theorem mX9_249 : Cond.methodLink RX9 249 iX9_wasAt.1 ∈ lw_g := mg 1141 (by decide +kernel) (by decide +kernel)
theorem mX9_252 : Cond.methodLink RX9 252 iX9_comes.1 ∈ lw_g := mg 1145 (by decide +kernel) (by decide +kernel)
theorem mX9_242 : Cond.methodLink RX9 242 iX9_isLess.1 ∈ lw_g := mg 1149 (by decide +kernel) (by decide +kernel)
theorem mX9_264 : Cond.methodLink RX9 264 iX9_tellsHome.1 ∈ lw_g := mg 1153 (by decide +kernel) (by decide +kernel)
theorem mX9_255 : Cond.methodLink RX9 255 iX9_common.1 ∈ lw_g := mg 1157 (by decide +kernel) (by decide +kernel)
theorem mL_113 : Cond.methodLink RL 113 iX9_agree.1 ∈ lw_g := mg 1160 (by decide +kernel) (by decide +kernel)
theorem mX9_270 : Cond.methodLink RX9 270 iX9_agreeOf.1 ∈ lw_g := mg 1164 (by decide +kernel) (by decide +kernel)
theorem mX9_267 : Cond.methodLink RX9 267 iX9_pairOf.1 ∈ lw_g := mg 1168 (by decide +kernel) (by decide +kernel)
theorem mL_117 : Cond.methodLink RL 117 iX9_middle.1 ∈ lw_g := mg 1172 (by decide +kernel) (by decide +kernel)
theorem mX9_282 : Cond.methodLink RX9 282 iX9_middleOf.1 ∈ lw_g := mg 1176 (by decide +kernel) (by decide +kernel)
theorem mX9_279 : Cond.methodLink RX9 279 iX9_middleBell.1 ∈ lw_g := mg 1180 (by decide +kernel) (by decide +kernel)
theorem mX9_276 : Cond.methodLink RX9 276 iX9_changesBy.1 ∈ lw_g := mg 1184 (by decide +kernel) (by decide +kernel)
theorem mX9_273 : Cond.methodLink RX9 273 iX9_amount.1 ∈ lw_g := mg 1188 (by decide +kernel) (by decide +kernel)
theorem mL_121 : Cond.methodLink RL 121 iX9_seen.1 ∈ lw_g := mg 1191 (by decide +kernel) (by decide +kernel)
theorem mL_125 : Cond.methodLink RL 125 iX9_forget.1 ∈ lw_g := mg 1195 (by decide +kernel) (by decide +kernel)
theorem mL_129 : Cond.methodLink RL 129 iX9_which.1 ∈ lw_g := mg 1199 (by decide +kernel) (by decide +kernel)
theorem mX9_288 : Cond.methodLink RX9 288 iX9_whichNow.1 ∈ lw_g := mg 1203 (by decide +kernel) (by decide +kernel)
theorem mL_133 : Cond.methodLink RL 133 iX9_season.1 ∈ lw_g := mg 1207 (by decide +kernel) (by decide +kernel)
theorem mX9_292 : Cond.methodLink RX9 292 iX9_seasonOf.1 ∈ lw_g := mg 1211 (by decide +kernel) (by decide +kernel)
theorem kX9_291 : Cond.constant RX9 291 (iZ (1103515245)) ∈ lw_g := mg 1215 (by decide +kernel) (by decide +kernel)
theorem mL_158 : Cond.methodLink RL 158 iX9_write.1 ∈ lw_g := mg 1216 (by decide +kernel) (by decide +kernel)
theorem mL_162 : Cond.methodLink RL 162 iX9_count.1 ∈ lw_g := mg 1220 (by decide +kernel) (by decide +kernel)
theorem mL_167 : Cond.methodLink RL 167 iX9_digest.1 ∈ lw_g := mg 1224 (by decide +kernel) (by decide +kernel)
theorem kX9_297 : Cond.constantLong RX9 297 (lZ (17)) ∈ lw_g := mg 1228 (by decide +kernel) (by decide +kernel)
theorem kX9_295 : Cond.constantLong RX9 295 (lZ (31)) ∈ lw_g := mg 1229 (by decide +kernel) (by decide +kernel)
theorem mX9_299 : Cond.methodLink RX9 299 iX9_count.1 ∈ lw_g := mg 1230 (by decide +kernel) (by decide +kernel)
theorem mX9_302 : Cond.methodLink RX9 302 iX9_tellsLand.1 ∈ lw_g := mg 1231 (by decide +kernel) (by decide +kernel)
theorem mX9_306 : Cond.methodLink RX9 306 iX9_tellsWays.1 ∈ lw_g := mg 1235 (by decide +kernel) (by decide +kernel)
theorem inLi : Cond.initialized RL ∈ lw_g := mg 62 (by decide +kernel) (by decide +kernel)
theorem inX8i : Cond.initialized RX8 ∈ lw_g := mg 63 (by decide +kernel) (by decide +kernel)
theorem inX6i : Cond.initialized RX6 ∈ lw_g := mg 64 (by decide +kernel) (by decide +kernel)
theorem inJ7i : Cond.initialized RJ7 ∈ lw_g := mg 65 (by decide +kernel) (by decide +kernel)
theorem inX0i : Cond.initialized RX0 ∈ lw_g := mg 66 (by decide +kernel) (by decide +kernel)
theorem inX5i : Cond.initialized RX5 ∈ lw_g := mg 67 (by decide +kernel) (by decide +kernel)
theorem inX3i : Cond.initialized RX3 ∈ lw_g := mg 68 (by decide +kernel) (by decide +kernel)
theorem inX1i : Cond.initialized RX1 ∈ lw_g := mg 69 (by decide +kernel) (by decide +kernel)
theorem inX2i : Cond.initialized RX2 ∈ lw_g := mg 70 (by decide +kernel) (by decide +kernel)
theorem inX4i : Cond.initialized RX4 ∈ lw_g := mg 71 (by decide +kernel) (by decide +kernel)
theorem inX7i : Cond.initialized RX7 ∈ lw_g := mg 72 (by decide +kernel) (by decide +kernel)
theorem inX9i : Cond.initialized RX9 ∈ lw_g := mg 73 (by decide +kernel) (by decide +kernel)
theorem inJ9i : Cond.initialized RJ9 ∈ lw_g := mg 74 (by decide +kernel) (by decide +kernel)
theorem inJ10i : Cond.initialized RJ10 ∈ lw_g := mg 75 (by decide +kernel) (by decide +kernel)
theorem inX8s : Cond.instantiable RX8 9 ∈ lw_g := mg 77 (by decide +kernel) (by decide +kernel)
theorem inX6s : Cond.instantiable RX6 8 ∈ lw_g := mg 85 (by decide +kernel) (by decide +kernel)
theorem inX0s : Cond.instantiable RX0 1 ∈ lw_g := mg 126 (by decide +kernel) (by decide +kernel)
theorem inX5s : Cond.instantiable RX5 6 ∈ lw_g := mg 137 (by decide +kernel) (by decide +kernel)
theorem inX3s : Cond.instantiable RX3 5 ∈ lw_g := mg 164 (by decide +kernel) (by decide +kernel)
theorem inX1s : Cond.instantiable RX1 4 ∈ lw_g := mg 186 (by decide +kernel) (by decide +kernel)
theorem inX2s : Cond.instantiable RX2 10 ∈ lw_g := mg 208 (by decide +kernel) (by decide +kernel)
theorem inX4s : Cond.instantiable RX4 5 ∈ lw_g := mg 246 (by decide +kernel) (by decide +kernel)
theorem inX7s : Cond.instantiable RX7 4 ∈ lw_g := mg 271 (by decide +kernel) (by decide +kernel)
theorem inX9s : Cond.instantiable RX9 29 ∈ lw_g := mg 786 (by decide +kernel) (by decide +kernel)
theorem hX0_init : CN iX0_init 0 := ⟨mg 128 (by decide +kernel) (by decide +kernel), inX0i, mg 129 (by decide +kernel) (by decide +kernel), rfl, rfl, ⟨by decide +kernel, by decide +kernel, by decide +kernel⟩, by decide +kernel⟩
theorem hX0_at : CV iX0_at 2 0 := ⟨mg 503 (by decide +kernel) (by decide +kernel), mg 504 (by decide +kernel) (by decide +kernel), inX0i, mg 505 (by decide +kernel) (by decide +kernel), ⟨by decide +kernel, by decide +kernel, by decide +kernel⟩, ⟨TX0, 1, rfl⟩, by decide +kernel⟩
theorem hX0_put : CV iX0_put 2 0 := ⟨mg 409 (by decide +kernel) (by decide +kernel), mg 410 (by decide +kernel) (by decide +kernel), inX0i, mg 411 (by decide +kernel) (by decide +kernel), ⟨by decide +kernel, by decide +kernel, by decide +kernel⟩, ⟨TX0, 1, rfl⟩, by decide +kernel⟩
theorem hX0_hoursUnlike : CV iX0_hoursUnlike 2 0 := ⟨mg 499 (by decide +kernel) (by decide +kernel), mg 500 (by decide +kernel) (by decide +kernel), inX0i, mg 501 (by decide +kernel) (by decide +kernel), ⟨by decide +kernel, by decide +kernel, by decide +kernel⟩, ⟨TX0, 1, rfl⟩, by decide +kernel⟩
theorem hX0_likeOnes : CV iX0_likeOnes 1 0 := ⟨mg 634 (by decide +kernel) (by decide +kernel), mg 635 (by decide +kernel) (by decide +kernel), inX0i, mg 636 (by decide +kernel) (by decide +kernel), ⟨by decide +kernel, by decide +kernel, by decide +kernel⟩, ⟨TX0, 1, rfl⟩, by decide +kernel⟩
theorem hX0_commonest : CV iX0_commonest 0 0 := ⟨mg 630 (by decide +kernel) (by decide +kernel), mg 631 (by decide +kernel) (by decide +kernel), inX0i, mg 632 (by decide +kernel) (by decide +kernel), ⟨by decide +kernel, by decide +kernel, by decide +kernel⟩, ⟨TX0, 1, rfl⟩, by decide +kernel⟩
theorem hX0_rank : CV iX0_rank 1 0 := ⟨mg 640 (by decide +kernel) (by decide +kernel), mg 17 (by decide +kernel) (by decide +kernel), inX0i, mg 641 (by decide +kernel) (by decide +kernel), ⟨by decide +kernel, by decide +kernel, by decide +kernel⟩, ⟨TX0, 1, rfl⟩, by decide +kernel⟩
theorem hX0_middleOf : CV iX0_middleOf 1 0 := ⟨mg 649 (by decide +kernel) (by decide +kernel), mg 650 (by decide +kernel) (by decide +kernel), inX0i, mg 651 (by decide +kernel) (by decide +kernel), ⟨by decide +kernel, by decide +kernel, by decide +kernel⟩, ⟨TX0, 1, rfl⟩, by decide +kernel⟩
theorem hX0_change : CV iX0_change 2 0 := ⟨mg 653 (by decide +kernel) (by decide +kernel), mg 654 (by decide +kernel) (by decide +kernel), inX0i, mg 655 (by decide +kernel) (by decide +kernel), ⟨by decide +kernel, by decide +kernel, by decide +kernel⟩, ⟨TX0, 1, rfl⟩, by decide +kernel⟩
theorem hX1_init : CN iX1_init 1 := ⟨mg 188 (by decide +kernel) (by decide +kernel), inX1i, mg 189 (by decide +kernel) (by decide +kernel), rfl, rfl, ⟨by decide +kernel, by decide +kernel, by decide +kernel⟩, by decide +kernel⟩
theorem hX1_batter : CV iX1_batter 4 1 := ⟨mg 564 (by decide +kernel) (by decide +kernel), mg 565 (by decide +kernel) (by decide +kernel), inX1i, mg 566 (by decide +kernel) (by decide +kernel), ⟨by decide +kernel, by decide +kernel, by decide +kernel⟩, ⟨TX1, 4, rfl⟩, by decide +kernel⟩
theorem hX1_leastMends : CV iX1_leastMends 3 1 := ⟨mg 574 (by decide +kernel) (by decide +kernel), mg 575 (by decide +kernel) (by decide +kernel), inX1i, mg 576 (by decide +kernel) (by decide +kernel), ⟨by decide +kernel, by decide +kernel, by decide +kernel⟩, ⟨TX1, 4, rfl⟩, by decide +kernel⟩
theorem hX2_init : CN iX2_init 2 := ⟨mg 210 (by decide +kernel) (by decide +kernel), inX2i, mg 211 (by decide +kernel) (by decide +kernel), rfl, rfl, ⟨by decide +kernel, by decide +kernel, by decide +kernel⟩, by decide +kernel⟩
theorem hX2_seek : CV iX2_seek 3 2 := ⟨mg 583 (by decide +kernel) (by decide +kernel), mg 584 (by decide +kernel) (by decide +kernel), inX2i, mg 585 (by decide +kernel) (by decide +kernel), ⟨by decide +kernel, by decide +kernel, by decide +kernel⟩, ⟨TX2, 10, rfl⟩, by decide +kernel⟩
theorem hX2_walk : CV iX2_walk 3 2 := ⟨mg 589 (by decide +kernel) (by decide +kernel), mg 12 (by decide +kernel) (by decide +kernel), inX2i, mg 590 (by decide +kernel) (by decide +kernel), ⟨by decide +kernel, by decide +kernel, by decide +kernel⟩, ⟨TX2, 10, rfl⟩, by decide +kernel⟩
theorem hX2_freeOf : CV iX2_freeOf 1 2 := ⟨mg 606 (by decide +kernel) (by decide +kernel), mg 15 (by decide +kernel) (by decide +kernel), inX2i, mg 607 (by decide +kernel) (by decide +kernel), ⟨by decide +kernel, by decide +kernel, by decide +kernel⟩, ⟨TX2, 10, rfl⟩, by decide +kernel⟩
theorem hX2_arrive : CV iX2_arrive 3 2 := ⟨mg 593 (by decide +kernel) (by decide +kernel), mg 13 (by decide +kernel) (by decide +kernel), inX2i, mg 594 (by decide +kernel) (by decide +kernel), ⟨by decide +kernel, by decide +kernel, by decide +kernel⟩, ⟨TX2, 10, rfl⟩, by decide +kernel⟩
theorem hX2_isBetter : CV iX2_isBetter 2 2 := ⟨mg 597 (by decide +kernel) (by decide +kernel), mg 14 (by decide +kernel) (by decide +kernel), inX2i, mg 598 (by decide +kernel) (by decide +kernel), ⟨by decide +kernel, by decide +kernel, by decide +kernel⟩, ⟨TX2, 10, rfl⟩, by decide +kernel⟩
theorem hX2_commonBits : CV iX2_commonBits 0 2 := ⟨mg 615 (by decide +kernel) (by decide +kernel), mg 16 (by decide +kernel) (by decide +kernel), inX2i, mg 616 (by decide +kernel) (by decide +kernel), ⟨by decide +kernel, by decide +kernel, by decide +kernel⟩, ⟨TX2, 10, rfl⟩, by decide +kernel⟩
theorem hX2_above : CV iX2_above 0 2 := ⟨mg 610 (by decide +kernel) (by decide +kernel), mg 611 (by decide +kernel) (by decide +kernel), inX2i, mg 612 (by decide +kernel) (by decide +kernel), ⟨by decide +kernel, by decide +kernel, by decide +kernel⟩, ⟨TX2, 10, rfl⟩, by decide +kernel⟩
theorem hX2_below : CV iX2_below 0 2 := ⟨mg 618 (by decide +kernel) (by decide +kernel), mg 619 (by decide +kernel) (by decide +kernel), inX2i, mg 620 (by decide +kernel) (by decide +kernel), ⟨by decide +kernel, by decide +kernel, by decide +kernel⟩, ⟨TX2, 10, rfl⟩, by decide +kernel⟩
theorem hX2_landAt : CV iX2_landAt 1 2 := ⟨mg 622 (by decide +kernel) (by decide +kernel), mg 623 (by decide +kernel) (by decide +kernel), inX2i, mg 624 (by decide +kernel) (by decide +kernel), ⟨by decide +kernel, by decide +kernel, by decide +kernel⟩, ⟨TX2, 10, rfl⟩, by decide +kernel⟩
theorem hX3_init : CN iX3_init 2 := ⟨mg 166 (by decide +kernel) (by decide +kernel), inX3i, mg 167 (by decide +kernel) (by decide +kernel), rfl, rfl, ⟨by decide +kernel, by decide +kernel, by decide +kernel⟩, by decide +kernel⟩
theorem hX3_firstStart : CV iX3_firstStart 4 3 := ⟨mg 534 (by decide +kernel) (by decide +kernel), mg 535 (by decide +kernel) (by decide +kernel), inX3i, mg 536 (by decide +kernel) (by decide +kernel), ⟨by decide +kernel, by decide +kernel, by decide +kernel⟩, ⟨TX3, 5, rfl⟩, by decide +kernel⟩
theorem hX3_goBetween : CV iX3_goBetween 3 3 := ⟨mg 540 (by decide +kernel) (by decide +kernel), mg 9 (by decide +kernel) (by decide +kernel), inX3i, mg 541 (by decide +kernel) (by decide +kernel), ⟨by decide +kernel, by decide +kernel, by decide +kernel⟩, ⟨TX3, 5, rfl⟩, by decide +kernel⟩
theorem hX3_need : CV iX3_need 2 3 := ⟨mg 545 (by decide +kernel) (by decide +kernel), mg 10 (by decide +kernel) (by decide +kernel), inX3i, mg 546 (by decide +kernel) (by decide +kernel), ⟨by decide +kernel, by decide +kernel, by decide +kernel⟩, ⟨TX3, 5, rfl⟩, by decide +kernel⟩
theorem hX3_isAllowed : CV iX3_isAllowed 1 3 := ⟨mg 549 (by decide +kernel) (by decide +kernel), mg 11 (by decide +kernel) (by decide +kernel), inX3i, mg 550 (by decide +kernel) (by decide +kernel), ⟨by decide +kernel, by decide +kernel, by decide +kernel⟩, ⟨TX3, 5, rfl⟩, by decide +kernel⟩
theorem hX4_init : CN iX4_init 1 := ⟨mg 248 (by decide +kernel) (by decide +kernel), inX4i, mg 249 (by decide +kernel) (by decide +kernel), rfl, rfl, ⟨by decide +kernel, by decide +kernel, by decide +kernel⟩, by decide +kernel⟩
theorem hX4_keep : CV iX4_keep 3 4 := ⟨mg 662 (by decide +kernel) (by decide +kernel), mg 663 (by decide +kernel) (by decide +kernel), inX4i, mg 664 (by decide +kernel) (by decide +kernel), ⟨by decide +kernel, by decide +kernel, by decide +kernel⟩, ⟨TX4, 5, rfl⟩, by decide +kernel⟩
theorem hX4_fits : CV iX4_fits 1 4 := ⟨mg 674 (by decide +kernel) (by decide +kernel), mg 675 (by decide +kernel) (by decide +kernel), inX4i, mg 676 (by decide +kernel) (by decide +kernel), ⟨by decide +kernel, by decide +kernel, by decide +kernel⟩, ⟨TX4, 5, rfl⟩, by decide +kernel⟩
theorem hX5_init : CN iX5_init 1 := ⟨mg 139 (by decide +kernel) (by decide +kernel), inX5i, mg 140 (by decide +kernel) (by decide +kernel), rfl, rfl, ⟨by decide +kernel, by decide +kernel, by decide +kernel⟩, by decide +kernel⟩
theorem hX5_mostOf : CS iX5_mostOf 1 := ⟨mg 391 (by decide +kernel) (by decide +kernel), inX5i, mg 392 (by decide +kernel) (by decide +kernel), ⟨by decide +kernel, by decide +kernel, by decide +kernel⟩, by decide +kernel⟩
theorem hX5_at : CV iX5_at 2 5 := ⟨mg 398 (by decide +kernel) (by decide +kernel), mg 399 (by decide +kernel) (by decide +kernel), inX5i, mg 400 (by decide +kernel) (by decide +kernel), ⟨by decide +kernel, by decide +kernel, by decide +kernel⟩, ⟨TX5, 6, rfl⟩, by decide +kernel⟩
theorem hX5_put : CV iX5_put 3 5 := ⟨mg 394 (by decide +kernel) (by decide +kernel), mg 395 (by decide +kernel) (by decide +kernel), inX5i, mg 396 (by decide +kernel) (by decide +kernel), ⟨by decide +kernel, by decide +kernel, by decide +kernel⟩, ⟨TX5, 6, rfl⟩, by decide +kernel⟩
theorem hX5_swornLands : CV iX5_swornLands 0 5 := ⟨mg 735 (by decide +kernel) (by decide +kernel), mg 736 (by decide +kernel) (by decide +kernel), inX5i, mg 737 (by decide +kernel) (by decide +kernel), ⟨by decide +kernel, by decide +kernel, by decide +kernel⟩, ⟨TX5, 6, rfl⟩, by decide +kernel⟩
theorem hX5_addFeast : CV iX5_addFeast 1 5 := ⟨mg 429 (by decide +kernel) (by decide +kernel), mg 430 (by decide +kernel) (by decide +kernel), inX5i, mg 431 (by decide +kernel) (by decide +kernel), ⟨by decide +kernel, by decide +kernel, by decide +kernel⟩, ⟨TX5, 6, rfl⟩, by decide +kernel⟩
theorem hX5_dropFeast : CV iX5_dropFeast 0 5 := ⟨mg 441 (by decide +kernel) (by decide +kernel), mg 442 (by decide +kernel) (by decide +kernel), inX5i, mg 443 (by decide +kernel) (by decide +kernel), ⟨by decide +kernel, by decide +kernel, by decide +kernel⟩, ⟨TX5, 6, rfl⟩, by decide +kernel⟩
theorem hX5_gatherFeasts : CV iX5_gatherFeasts 0 5 := ⟨mg 434 (by decide +kernel) (by decide +kernel), mg 6 (by decide +kernel) (by decide +kernel), inX5i, mg 435 (by decide +kernel) (by decide +kernel), ⟨by decide +kernel, by decide +kernel, by decide +kernel⟩, ⟨TX5, 6, rfl⟩, by decide +kernel⟩
theorem hX5_isOpenDay : CV iX5_isOpenDay 2 5 := ⟨mg 461 (by decide +kernel) (by decide +kernel), mg 7 (by decide +kernel) (by decide +kernel), inX5i, mg 462 (by decide +kernel) (by decide +kernel), ⟨by decide +kernel, by decide +kernel, by decide +kernel⟩, ⟨TX5, 6, rfl⟩, by decide +kernel⟩
theorem hX5_bellOf : CV iX5_bellOf 2 5 := ⟨mg 465 (by decide +kernel) (by decide +kernel), mg 8 (by decide +kernel) (by decide +kernel), inX5i, mg 466 (by decide +kernel) (by decide +kernel), ⟨by decide +kernel, by decide +kernel, by decide +kernel⟩, ⟨TX5, 6, rfl⟩, by decide +kernel⟩
theorem hX5_isWar : CV iX5_isWar 2 5 := ⟨mg 456 (by decide +kernel) (by decide +kernel), mg 457 (by decide +kernel) (by decide +kernel), inX5i, mg 458 (by decide +kernel) (by decide +kernel), ⟨by decide +kernel, by decide +kernel, by decide +kernel⟩, ⟨TX5, 6, rfl⟩, by decide +kernel⟩
theorem hX5_warInDay : CV iX5_warInDay 2 5 := ⟨mg 487 (by decide +kernel) (by decide +kernel), mg 488 (by decide +kernel) (by decide +kernel), inX5i, mg 489 (by decide +kernel) (by decide +kernel), ⟨by decide +kernel, by decide +kernel, by decide +kernel⟩, ⟨TX5, 6, rfl⟩, by decide +kernel⟩
theorem hX5_warInWeek : CV iX5_warInWeek 2 5 := ⟨mg 483 (by decide +kernel) (by decide +kernel), mg 484 (by decide +kernel) (by decide +kernel), inX5i, mg 485 (by decide +kernel) (by decide +kernel), ⟨by decide +kernel, by decide +kernel, by decide +kernel⟩, ⟨TX5, 6, rfl⟩, by decide +kernel⟩
theorem hX6_init : CN iX6_init 0 := ⟨mg 87 (by decide +kernel) (by decide +kernel), inX6i, mg 88 (by decide +kernel) (by decide +kernel), rfl, rfl, ⟨by decide +kernel, by decide +kernel, by decide +kernel⟩, by decide +kernel⟩
theorem hX6_append : CV iX6_append 1 6 := ⟨mg 329 (by decide +kernel) (by decide +kernel), mg 330 (by decide +kernel) (by decide +kernel), inX6i, mg 331 (by decide +kernel) (by decide +kernel), ⟨by decide +kernel, by decide +kernel, by decide +kernel⟩, ⟨TX6, 8, rfl⟩, by decide +kernel⟩
theorem hX6_shorten : CV iX6_shorten 1 6 := ⟨mg 364 (by decide +kernel) (by decide +kernel), mg 365 (by decide +kernel) (by decide +kernel), inX6i, mg 366 (by decide +kernel) (by decide +kernel), ⟨by decide +kernel, by decide +kernel, by decide +kernel⟩, ⟨TX6, 8, rfl⟩, by decide +kernel⟩
theorem hX6_settle : CV iX6_settle 0 6 := ⟨mg 334 (by decide +kernel) (by decide +kernel), mg 0 (by decide +kernel) (by decide +kernel), inX6i, mg 335 (by decide +kernel) (by decide +kernel), ⟨by decide +kernel, by decide +kernel, by decide +kernel⟩, ⟨TX6, 8, rfl⟩, by decide +kernel⟩
theorem hX6_firstFault : CV iX6_firstFault 0 6 := ⟨mg 338 (by decide +kernel) (by decide +kernel), mg 1 (by decide +kernel) (by decide +kernel), inX6i, mg 339 (by decide +kernel) (by decide +kernel), ⟨by decide +kernel, by decide +kernel, by decide +kernel⟩, ⟨TX6, 8, rfl⟩, by decide +kernel⟩
theorem hX6_goesOn : CV iX6_goesOn 1 6 := ⟨mg 342 (by decide +kernel) (by decide +kernel), mg 2 (by decide +kernel) (by decide +kernel), inX6i, mg 343 (by decide +kernel) (by decide +kernel), ⟨by decide +kernel, by decide +kernel, by decide +kernel⟩, ⟨TX6, 8, rfl⟩, by decide +kernel⟩
theorem hX6_measure : CV iX6_measure 0 6 := ⟨mg 346 (by decide +kernel) (by decide +kernel), mg 3 (by decide +kernel) (by decide +kernel), inX6i, mg 347 (by decide +kernel) (by decide +kernel), ⟨by decide +kernel, by decide +kernel, by decide +kernel⟩, ⟨TX6, 8, rfl⟩, by decide +kernel⟩
theorem hX6_shortenWay : CV iX6_shortenWay 3 6 := ⟨mg 350 (by decide +kernel) (by decide +kernel), mg 4 (by decide +kernel) (by decide +kernel), inX6i, mg 351 (by decide +kernel) (by decide +kernel), ⟨by decide +kernel, by decide +kernel, by decide +kernel⟩, ⟨TX6, 8, rfl⟩, by decide +kernel⟩
theorem hX6_shortest : CV iX6_shortest 2 6 := ⟨mg 356 (by decide +kernel) (by decide +kernel), mg 357 (by decide +kernel) (by decide +kernel), inX6i, mg 358 (by decide +kernel) (by decide +kernel), ⟨by decide +kernel, by decide +kernel, by decide +kernel⟩, ⟨TX6, 8, rfl⟩, by decide +kernel⟩
theorem hX6_reaches : CV iX6_reaches 2 6 := ⟨mg 517 (by decide +kernel) (by decide +kernel), mg 518 (by decide +kernel) (by decide +kernel), inX6i, mg 519 (by decide +kernel) (by decide +kernel), ⟨by decide +kernel, by decide +kernel, by decide +kernel⟩, ⟨TX6, 8, rfl⟩, by decide +kernel⟩
theorem hX6_end : CV iX6_end 2 6 := ⟨mg 380 (by decide +kernel) (by decide +kernel), mg 381 (by decide +kernel) (by decide +kernel), inX6i, mg 382 (by decide +kernel) (by decide +kernel), ⟨by decide +kernel, by decide +kernel, by decide +kernel⟩, ⟨TX6, 8, rfl⟩, by decide +kernel⟩
theorem hX6_across : CV iX6_across 2 6 := ⟨mg 526 (by decide +kernel) (by decide +kernel), mg 527 (by decide +kernel) (by decide +kernel), inX6i, mg 528 (by decide +kernel) (by decide +kernel), ⟨by decide +kernel, by decide +kernel, by decide +kernel⟩, ⟨TX6, 8, rfl⟩, by decide +kernel⟩
theorem hX6_nextLand : CV iX6_nextLand 2 6 := ⟨mg 522 (by decide +kernel) (by decide +kernel), mg 523 (by decide +kernel) (by decide +kernel), inX6i, mg 524 (by decide +kernel) (by decide +kernel), ⟨by decide +kernel, by decide +kernel, by decide +kernel⟩, ⟨TX6, 8, rfl⟩, by decide +kernel⟩
theorem hX6_allHours : CV iX6_allHours 0 6 := ⟨mg 739 (by decide +kernel) (by decide +kernel), mg 740 (by decide +kernel) (by decide +kernel), inX6i, mg 741 (by decide +kernel) (by decide +kernel), ⟨by decide +kernel, by decide +kernel, by decide +kernel⟩, ⟨TX6, 8, rfl⟩, by decide +kernel⟩
theorem hX7_init : CN iX7_init 0 := ⟨mg 273 (by decide +kernel) (by decide +kernel), inX7i, mg 274 (by decide +kernel) (by decide +kernel), rfl, rfl, ⟨by decide +kernel, by decide +kernel, by decide +kernel⟩, by decide +kernel⟩
theorem hX7_renew : CV iX7_renew 2 7 := ⟨mg 692 (by decide +kernel) (by decide +kernel), mg 693 (by decide +kernel) (by decide +kernel), inX7i, mg 694 (by decide +kernel) (by decide +kernel), ⟨by decide +kernel, by decide +kernel, by decide +kernel⟩, ⟨TX7, 4, rfl⟩, by decide +kernel⟩
theorem hX7_put : CV iX7_put 2 7 := ⟨mg 709 (by decide +kernel) (by decide +kernel), mg 710 (by decide +kernel) (by decide +kernel), inX7i, mg 711 (by decide +kernel) (by decide +kernel), ⟨by decide +kernel, by decide +kernel, by decide +kernel⟩, ⟨TX7, 4, rfl⟩, by decide +kernel⟩
theorem hX7_holdsRun : CV iX7_holdsRun 2 7 := ⟨mg 722 (by decide +kernel) (by decide +kernel), mg 723 (by decide +kernel) (by decide +kernel), inX7i, mg 724 (by decide +kernel) (by decide +kernel), ⟨by decide +kernel, by decide +kernel, by decide +kernel⟩, ⟨TX7, 4, rfl⟩, by decide +kernel⟩
theorem hX8_init : CN iX8_init 0 := ⟨mg 79 (by decide +kernel) (by decide +kernel), inX8i, mg 80 (by decide +kernel) (by decide +kernel), rfl, rfl, ⟨by decide +kernel, by decide +kernel, by decide +kernel⟩, by decide +kernel⟩
theorem hX8_type : CV iX8_type 1 8 := ⟨mg 322 (by decide +kernel) (by decide +kernel), mg 323 (by decide +kernel) (by decide +kernel), inX8i, mg 324 (by decide +kernel) (by decide +kernel), ⟨by decide +kernel, by decide +kernel, by decide +kernel⟩, ⟨TX8, 9, rfl⟩, by decide +kernel⟩
theorem hX8_wipe : CV iX8_wipe 0 8 := ⟨mg 360 (by decide +kernel) (by decide +kernel), mg 361 (by decide +kernel) (by decide +kernel), inX8i, mg 362 (by decide +kernel) (by decide +kernel), ⟨by decide +kernel, by decide +kernel, by decide +kernel⟩, ⟨TX8, 9, rfl⟩, by decide +kernel⟩
theorem hX8_undo : CV iX8_undo 0 8 := ⟨mg 368 (by decide +kernel) (by decide +kernel), mg 369 (by decide +kernel) (by decide +kernel), inX8i, mg 370 (by decide +kernel) (by decide +kernel), ⟨by decide +kernel, by decide +kernel, by decide +kernel⟩, ⟨TX8, 9, rfl⟩, by decide +kernel⟩
theorem hX8_fault : CV iX8_fault 0 8 := ⟨mg 372 (by decide +kernel) (by decide +kernel), mg 373 (by decide +kernel) (by decide +kernel), inX8i, mg 374 (by decide +kernel) (by decide +kernel), ⟨by decide +kernel, by decide +kernel, by decide +kernel⟩, ⟨TX8, 9, rfl⟩, by decide +kernel⟩
theorem hX8_road : CV iX8_road 2 8 := ⟨mg 376 (by decide +kernel) (by decide +kernel), mg 377 (by decide +kernel) (by decide +kernel), inX8i, mg 378 (by decide +kernel) (by decide +kernel), ⟨by decide +kernel, by decide +kernel, by decide +kernel⟩, ⟨TX8, 9, rfl⟩, by decide +kernel⟩
theorem hX8_land : CV iX8_land 3 8 := ⟨mg 384 (by decide +kernel) (by decide +kernel), mg 385 (by decide +kernel) (by decide +kernel), inX8i, mg 386 (by decide +kernel) (by decide +kernel), ⟨by decide +kernel, by decide +kernel, by decide +kernel⟩, ⟨TX8, 9, rfl⟩, by decide +kernel⟩
theorem hX8_bell : CV iX8_bell 3 8 := ⟨mg 402 (by decide +kernel) (by decide +kernel), mg 403 (by decide +kernel) (by decide +kernel), inX8i, mg 404 (by decide +kernel) (by decide +kernel), ⟨by decide +kernel, by decide +kernel, by decide +kernel⟩, ⟨TX8, 9, rfl⟩, by decide +kernel⟩
theorem hX8_read : CV iX8_read 1 8 := ⟨mg 413 (by decide +kernel) (by decide +kernel), mg 414 (by decide +kernel) (by decide +kernel), inX8i, mg 415 (by decide +kernel) (by decide +kernel), ⟨by decide +kernel, by decide +kernel, by decide +kernel⟩, ⟨TX8, 9, rfl⟩, by decide +kernel⟩
theorem hX8_feast : CV iX8_feast 1 8 := ⟨mg 425 (by decide +kernel) (by decide +kernel), mg 426 (by decide +kernel) (by decide +kernel), inX8i, mg 427 (by decide +kernel) (by decide +kernel), ⟨by decide +kernel, by decide +kernel, by decide +kernel⟩, ⟨TX8, 9, rfl⟩, by decide +kernel⟩
theorem hX8_back : CV iX8_back 0 8 := ⟨mg 437 (by decide +kernel) (by decide +kernel), mg 438 (by decide +kernel) (by decide +kernel), inX8i, mg 439 (by decide +kernel) (by decide +kernel), ⟨by decide +kernel, by decide +kernel, by decide +kernel⟩, ⟨TX8, 9, rfl⟩, by decide +kernel⟩
theorem hX8_lent : CV iX8_lent 1 8 := ⟨mg 445 (by decide +kernel) (by decide +kernel), mg 446 (by decide +kernel) (by decide +kernel), inX8i, mg 447 (by decide +kernel) (by decide +kernel), ⟨by decide +kernel, by decide +kernel, by decide +kernel⟩, ⟨TX8, 9, rfl⟩, by decide +kernel⟩
theorem hX8_war : CV iX8_war 2 8 := ⟨mg 449 (by decide +kernel) (by decide +kernel), mg 450 (by decide +kernel) (by decide +kernel), inX8i, mg 451 (by decide +kernel) (by decide +kernel), ⟨by decide +kernel, by decide +kernel, by decide +kernel⟩, ⟨TX8, 9, rfl⟩, by decide +kernel⟩
theorem hX8_strikes : CV iX8_strikes 4 8 := ⟨mg 468 (by decide +kernel) (by decide +kernel), mg 469 (by decide +kernel) (by decide +kernel), inX8i, mg 470 (by decide +kernel) (by decide +kernel), ⟨by decide +kernel, by decide +kernel, by decide +kernel⟩, ⟨TX8, 9, rfl⟩, by decide +kernel⟩
theorem hX8_next : CV iX8_next 3 8 := ⟨mg 475 (by decide +kernel) (by decide +kernel), mg 476 (by decide +kernel) (by decide +kernel), inX8i, mg 477 (by decide +kernel) (by decide +kernel), ⟨by decide +kernel, by decide +kernel, by decide +kernel⟩, ⟨TX8, 9, rfl⟩, by decide +kernel⟩
theorem hX8_left : CV iX8_left 2 8 := ⟨mg 479 (by decide +kernel) (by decide +kernel), mg 480 (by decide +kernel) (by decide +kernel), inX8i, mg 481 (by decide +kernel) (by decide +kernel), ⟨by decide +kernel, by decide +kernel, by decide +kernel⟩, ⟨TX8, 9, rfl⟩, by decide +kernel⟩
theorem hX8_best : CV iX8_best 1 8 := ⟨mg 491 (by decide +kernel) (by decide +kernel), mg 492 (by decide +kernel) (by decide +kernel), inX8i, mg 493 (by decide +kernel) (by decide +kernel), ⟨by decide +kernel, by decide +kernel, by decide +kernel⟩, ⟨TX8, 9, rfl⟩, by decide +kernel⟩
theorem hX8_unlike : CV iX8_unlike 2 8 := ⟨mg 495 (by decide +kernel) (by decide +kernel), mg 496 (by decide +kernel) (by decide +kernel), inX8i, mg 497 (by decide +kernel) (by decide +kernel), ⟨by decide +kernel, by decide +kernel, by decide +kernel⟩, ⟨TX8, 9, rfl⟩, by decide +kernel⟩
theorem hX8_way : CV iX8_way 3 8 := ⟨mg 510 (by decide +kernel) (by decide +kernel), mg 511 (by decide +kernel) (by decide +kernel), inX8i, mg 512 (by decide +kernel) (by decide +kernel), ⟨by decide +kernel, by decide +kernel, by decide +kernel⟩, ⟨TX8, 9, rfl⟩, by decide +kernel⟩
theorem hX8_raid : CV iX8_raid 4 8 := ⟨mg 530 (by decide +kernel) (by decide +kernel), mg 531 (by decide +kernel) (by decide +kernel), inX8i, mg 532 (by decide +kernel) (by decide +kernel), ⟨by decide +kernel, by decide +kernel, by decide +kernel⟩, ⟨TX8, 9, rfl⟩, by decide +kernel⟩
theorem hX8_set : CV iX8_set 2 8 := ⟨mg 553 (by decide +kernel) (by decide +kernel), mg 554 (by decide +kernel) (by decide +kernel), inX8i, mg 555 (by decide +kernel) (by decide +kernel), ⟨by decide +kernel, by decide +kernel, by decide +kernel⟩, ⟨TX8, 9, rfl⟩, by decide +kernel⟩
theorem hX8_siege : CV iX8_siege 4 8 := ⟨mg 557 (by decide +kernel) (by decide +kernel), mg 558 (by decide +kernel) (by decide +kernel), inX8i, mg 559 (by decide +kernel) (by decide +kernel), ⟨by decide +kernel, by decide +kernel, by decide +kernel⟩, ⟨TX8, 9, rfl⟩, by decide +kernel⟩
theorem hX8_holds : CV iX8_holds 3 8 := ⟨mg 570 (by decide +kernel) (by decide +kernel), mg 571 (by decide +kernel) (by decide +kernel), inX8i, mg 572 (by decide +kernel) (by decide +kernel), ⟨by decide +kernel, by decide +kernel, by decide +kernel⟩, ⟨TX8, 9, rfl⟩, by decide +kernel⟩
theorem hX8_home : CV iX8_home 4 8 := ⟨mg 579 (by decide +kernel) (by decide +kernel), mg 580 (by decide +kernel) (by decide +kernel), inX8i, mg 581 (by decide +kernel) (by decide +kernel), ⟨by decide +kernel, by decide +kernel, by decide +kernel⟩, ⟨TX8, 9, rfl⟩, by decide +kernel⟩
theorem hX8_agree : CV iX8_agree 1 8 := ⟨mg 626 (by decide +kernel) (by decide +kernel), mg 627 (by decide +kernel) (by decide +kernel), inX8i, mg 628 (by decide +kernel) (by decide +kernel), ⟨by decide +kernel, by decide +kernel, by decide +kernel⟩, ⟨TX8, 9, rfl⟩, by decide +kernel⟩
theorem hX8_middle : CV iX8_middle 1 8 := ⟨mg 645 (by decide +kernel) (by decide +kernel), mg 646 (by decide +kernel) (by decide +kernel), inX8i, mg 647 (by decide +kernel) (by decide +kernel), ⟨by decide +kernel, by decide +kernel, by decide +kernel⟩, ⟨TX8, 9, rfl⟩, by decide +kernel⟩
theorem hX8_seen : CV iX8_seen 3 8 := ⟨mg 658 (by decide +kernel) (by decide +kernel), mg 659 (by decide +kernel) (by decide +kernel), inX8i, mg 660 (by decide +kernel) (by decide +kernel), ⟨by decide +kernel, by decide +kernel, by decide +kernel⟩, ⟨TX8, 9, rfl⟩, by decide +kernel⟩
theorem hX8_forget : CV iX8_forget 0 8 := ⟨mg 666 (by decide +kernel) (by decide +kernel), mg 667 (by decide +kernel) (by decide +kernel), inX8i, mg 668 (by decide +kernel) (by decide +kernel), ⟨by decide +kernel, by decide +kernel, by decide +kernel⟩, ⟨TX8, 9, rfl⟩, by decide +kernel⟩
theorem hX8_which : CV iX8_which 0 8 := ⟨mg 670 (by decide +kernel) (by decide +kernel), mg 671 (by decide +kernel) (by decide +kernel), inX8i, mg 672 (by decide +kernel) (by decide +kernel), ⟨by decide +kernel, by decide +kernel, by decide +kernel⟩, ⟨TX8, 9, rfl⟩, by decide +kernel⟩
theorem hX8_season : CV iX8_season 2 8 := ⟨mg 679 (by decide +kernel) (by decide +kernel), mg 680 (by decide +kernel) (by decide +kernel), inX8i, mg 681 (by decide +kernel) (by decide +kernel), ⟨by decide +kernel, by decide +kernel, by decide +kernel⟩, ⟨TX8, 9, rfl⟩, by decide +kernel⟩
theorem hX8_sheet : CV iX8_sheet 3 8 := ⟨mg 685 (by decide +kernel) (by decide +kernel), mg 686 (by decide +kernel) (by decide +kernel), inX8i, mg 687 (by decide +kernel) (by decide +kernel), ⟨by decide +kernel, by decide +kernel, by decide +kernel⟩, ⟨TX8, 9, rfl⟩, by decide +kernel⟩
theorem hX8_lose : CV iX8_lose 1 8 := ⟨mg 697 (by decide +kernel) (by decide +kernel), mg 698 (by decide +kernel) (by decide +kernel), inX8i, mg 699 (by decide +kernel) (by decide +kernel), ⟨by decide +kernel, by decide +kernel, by decide +kernel⟩, ⟨TX8, 9, rfl⟩, by decide +kernel⟩
theorem hX8_lay : CV iX8_lay 4 8 := ⟨mg 701 (by decide +kernel) (by decide +kernel), mg 702 (by decide +kernel) (by decide +kernel), inX8i, mg 703 (by decide +kernel) (by decide +kernel), ⟨by decide +kernel, by decide +kernel, by decide +kernel⟩, ⟨TX8, 9, rfl⟩, by decide +kernel⟩
theorem hX8_get : CV iX8_get 3 8 := ⟨mg 713 (by decide +kernel) (by decide +kernel), mg 714 (by decide +kernel) (by decide +kernel), inX8i, mg 715 (by decide +kernel) (by decide +kernel), ⟨by decide +kernel, by decide +kernel, by decide +kernel⟩, ⟨TX8, 9, rfl⟩, by decide +kernel⟩
theorem hX8_copy : CV iX8_copy 5 8 := ⟨mg 718 (by decide +kernel) (by decide +kernel), mg 719 (by decide +kernel) (by decide +kernel), inX8i, mg 720 (by decide +kernel) (by decide +kernel), ⟨by decide +kernel, by decide +kernel, by decide +kernel⟩, ⟨TX8, 9, rfl⟩, by decide +kernel⟩
theorem hX8_write : CV iX8_write 3 8 := ⟨mg 727 (by decide +kernel) (by decide +kernel), mg 728 (by decide +kernel) (by decide +kernel), inX8i, mg 729 (by decide +kernel) (by decide +kernel), ⟨by decide +kernel, by decide +kernel, by decide +kernel⟩, ⟨TX8, 9, rfl⟩, by decide +kernel⟩
theorem hX8_count : CV iX8_count 1 8 := ⟨mg 731 (by decide +kernel) (by decide +kernel), mg 732 (by decide +kernel) (by decide +kernel), inX8i, mg 733 (by decide +kernel) (by decide +kernel), ⟨by decide +kernel, by decide +kernel, by decide +kernel⟩, ⟨TX8, 9, rfl⟩, by decide +kernel⟩
theorem hX8_digest : CV iX8_digest 0 8 := ⟨mg 743 (by decide +kernel) (by decide +kernel), mg 744 (by decide +kernel) (by decide +kernel), inX8i, mg 745 (by decide +kernel) (by decide +kernel), ⟨by decide +kernel, by decide +kernel, by decide +kernel⟩, ⟨TX8, 9, rfl⟩, by decide +kernel⟩
theorem hX8_digestOfRoads : CV iX8_digestOfRoads 1 8 := ⟨mg 752 (by decide +kernel) (by decide +kernel), mg 19 (by decide +kernel) (by decide +kernel), inX8i, mg 753 (by decide +kernel) (by decide +kernel), ⟨by decide +kernel, by decide +kernel, by decide +kernel⟩, ⟨TX8, 9, rfl⟩, by decide +kernel⟩
theorem hX8_digestOfLands : CV iX8_digestOfLands 1 8 := ⟨mg 757 (by decide +kernel) (by decide +kernel), mg 20 (by decide +kernel) (by decide +kernel), inX8i, mg 758 (by decide +kernel) (by decide +kernel), ⟨by decide +kernel, by decide +kernel, by decide +kernel⟩, ⟨TX8, 9, rfl⟩, by decide +kernel⟩
theorem hX8_digestOfJourneys : CV iX8_digestOfJourneys 1 8 := ⟨mg 767 (by decide +kernel) (by decide +kernel), mg 21 (by decide +kernel) (by decide +kernel), inX8i, mg 768 (by decide +kernel) (by decide +kernel), ⟨by decide +kernel, by decide +kernel, by decide +kernel⟩, ⟨TX8, 9, rfl⟩, by decide +kernel⟩
theorem hX8_digestOfKinds : CV iX8_digestOfKinds 1 8 := ⟨mg 774 (by decide +kernel) (by decide +kernel), mg 22 (by decide +kernel) (by decide +kernel), inX8i, mg 775 (by decide +kernel) (by decide +kernel), ⟨by decide +kernel, by decide +kernel, by decide +kernel⟩, ⟨TX8, 9, rfl⟩, by decide +kernel⟩
theorem hX8_digestOfParishes : CV iX8_digestOfParishes 1 8 := ⟨mg 779 (by decide +kernel) (by decide +kernel), mg 23 (by decide +kernel) (by decide +kernel), inX8i, mg 780 (by decide +kernel) (by decide +kernel), ⟨by decide +kernel, by decide +kernel, by decide +kernel⟩, ⟨TX8, 9, rfl⟩, by decide +kernel⟩
theorem hX8_found : CV iX8_found 1 8 := ⟨mg 421 (by decide +kernel) (by decide +kernel), mg 5 (by decide +kernel) (by decide +kernel), inX8i, mg 422 (by decide +kernel) (by decide +kernel), ⟨by decide +kernel, by decide +kernel, by decide +kernel⟩, ⟨TX8, 9, rfl⟩, by decide +kernel⟩
theorem hX8_wrongItem : CV iX8_wrongItem 3 8 := ⟨mg 706 (by decide +kernel) (by decide +kernel), mg 18 (by decide +kernel) (by decide +kernel), inX8i, mg 707 (by decide +kernel) (by decide +kernel), ⟨by decide +kernel, by decide +kernel, by decide +kernel⟩, ⟨TX8, 9, rfl⟩, by decide +kernel⟩
theorem hX8_upTo : CS iX8_upTo 2 := ⟨mg 326 (by decide +kernel) (by decide +kernel), inX8i, mg 327 (by decide +kernel) (by decide +kernel), ⟨by decide +kernel, by decide +kernel, by decide +kernel⟩, by decide +kernel⟩
theorem hX8_isLand : CS iX8_isLand 1 := ⟨mg 388 (by decide +kernel) (by decide +kernel), inX8i, mg 389 (by decide +kernel) (by decide +kernel), ⟨by decide +kernel, by decide +kernel, by decide +kernel⟩, by decide +kernel⟩
theorem hX8_areTwoLands : CS iX8_areTwoLands 2 := ⟨mg 514 (by decide +kernel) (by decide +kernel), inX8i, mg 515 (by decide +kernel) (by decide +kernel), ⟨by decide +kernel, by decide +kernel, by decide +kernel⟩, by decide +kernel⟩
theorem hX8_isParish : CS iX8_isParish 1 := ⟨mg 406 (by decide +kernel) (by decide +kernel), inX8i, mg 407 (by decide +kernel) (by decide +kernel), ⟨by decide +kernel, by decide +kernel, by decide +kernel⟩, by decide +kernel⟩
theorem hX8_isKind : CS iX8_isKind 1 := ⟨mg 472 (by decide +kernel) (by decide +kernel), inX8i, mg 473 (by decide +kernel) (by decide +kernel), ⟨by decide +kernel, by decide +kernel, by decide +kernel⟩, by decide +kernel⟩
theorem hX8_isHour : CS iX8_isHour 1 := ⟨mg 453 (by decide +kernel) (by decide +kernel), inX8i, mg 454 (by decide +kernel) (by decide +kernel), ⟨by decide +kernel, by decide +kernel, by decide +kernel⟩, by decide +kernel⟩
theorem hX8_isSheet : CS iX8_isSheet 1 := ⟨mg 417 (by decide +kernel) (by decide +kernel), inX8i, mg 418 (by decide +kernel) (by decide +kernel), ⟨by decide +kernel, by decide +kernel, by decide +kernel⟩, by decide +kernel⟩
theorem hX8_isForm : CS iX8_isForm 1 := ⟨mg 689 (by decide +kernel) (by decide +kernel), inX8i, mg 690 (by decide +kernel) (by decide +kernel), ⟨by decide +kernel, by decide +kernel, by decide +kernel⟩, by decide +kernel⟩
theorem hX8_isSiege : CS iX8_isSiege 3 := ⟨mg 561 (by decide +kernel) (by decide +kernel), inX8i, mg 562 (by decide +kernel) (by decide +kernel), ⟨by decide +kernel, by decide +kernel, by decide +kernel⟩, by decide +kernel⟩
theorem hX9_init : CN iX9_init 0 := ⟨mg 788 (by decide +kernel) (by decide +kernel), inX9i, mg 789 (by decide +kernel) (by decide +kernel), rfl, rfl, ⟨by decide +kernel, by decide +kernel, by decide +kernel⟩, by decide +kernel⟩
theorem hX9_in : CS iX9_in 3 := ⟨mg 888 (by decide +kernel) (by decide +kernel), inX9i, mg 889 (by decide +kernel) (by decide +kernel), ⟨by decide +kernel, by decide +kernel, by decide +kernel⟩, by decide +kernel⟩
theorem hX9_isTwo : CS iX9_isTwo 1 := ⟨mg 973 (by decide +kernel) (by decide +kernel), inX9i, mg 974 (by decide +kernel) (by decide +kernel), ⟨by decide +kernel, by decide +kernel, by decide +kernel⟩, by decide +kernel⟩
theorem hX9_isIn : CS iX9_isIn 2 := ⟨mg 1011 (by decide +kernel) (by decide +kernel), inX9i, mg 1012 (by decide +kernel) (by decide +kernel), ⟨by decide +kernel, by decide +kernel, by decide +kernel⟩, by decide +kernel⟩
theorem hX9_lesser : CS iX9_lesser 2 := ⟨mg 981 (by decide +kernel) (by decide +kernel), inX9i, mg 982 (by decide +kernel) (by decide +kernel), ⟨by decide +kernel, by decide +kernel, by decide +kernel⟩, by decide +kernel⟩
theorem hX9_amount : CS iX9_amount 1 := ⟨mg 1189 (by decide +kernel) (by decide +kernel), inX9i, mg 1190 (by decide +kernel) (by decide +kernel), ⟨by decide +kernel, by decide +kernel, by decide +kernel⟩, by decide +kernel⟩
theorem hX9_common : CS iX9_common 2 := ⟨mg 1158 (by decide +kernel) (by decide +kernel), inX9i, mg 1159 (by decide +kernel) (by decide +kernel), ⟨by decide +kernel, by decide +kernel, by decide +kernel⟩, by decide +kernel⟩
theorem hX9_finds : CV iX9_finds 1 9 := ⟨mg 893 (by decide +kernel) (by decide +kernel), mg 24 (by decide +kernel) (by decide +kernel), inX9i, mg 894 (by decide +kernel) (by decide +kernel), ⟨by decide +kernel, by decide +kernel, by decide +kernel⟩, ⟨TX9, 29, rfl⟩, by decide +kernel⟩
theorem hX9_isSheet : CS iX9_isSheet 1 := ⟨mg 884 (by decide +kernel) (by decide +kernel), inX9i, mg 885 (by decide +kernel) (by decide +kernel), ⟨by decide +kernel, by decide +kernel, by decide +kernel⟩, by decide +kernel⟩
theorem hX9_sheet : CV iX9_sheet 3 9 := ⟨mg 880 (by decide +kernel) (by decide +kernel), mg 881 (by decide +kernel) (by decide +kernel), inX9i, mg 882 (by decide +kernel) (by decide +kernel), ⟨by decide +kernel, by decide +kernel, by decide +kernel⟩, ⟨TX9, 29, rfl⟩, by decide +kernel⟩
theorem hX9_lose : CV iX9_lose 1 9 := ⟨mg 896 (by decide +kernel) (by decide +kernel), mg 897 (by decide +kernel) (by decide +kernel), inX9i, mg 898 (by decide +kernel) (by decide +kernel), ⟨by decide +kernel, by decide +kernel, by decide +kernel⟩, ⟨TX9, 29, rfl⟩, by decide +kernel⟩
theorem hX9_lacks : CV iX9_lacks 3 9 := ⟨mg 905 (by decide +kernel) (by decide +kernel), mg 25 (by decide +kernel) (by decide +kernel), inX9i, mg 906 (by decide +kernel) (by decide +kernel), ⟨by decide +kernel, by decide +kernel, by decide +kernel⟩, ⟨TX9, 29, rfl⟩, by decide +kernel⟩
theorem hX9_cut : CS iX9_cut 2 := ⟨mg 908 (by decide +kernel) (by decide +kernel), inX9i, mg 909 (by decide +kernel) (by decide +kernel), ⟨by decide +kernel, by decide +kernel, by decide +kernel⟩, by decide +kernel⟩
theorem hX9_lay : CV iX9_lay 4 9 := ⟨mg 900 (by decide +kernel) (by decide +kernel), mg 901 (by decide +kernel) (by decide +kernel), inX9i, mg 902 (by decide +kernel) (by decide +kernel), ⟨by decide +kernel, by decide +kernel, by decide +kernel⟩, ⟨TX9, 29, rfl⟩, by decide +kernel⟩
theorem hX9_get : CV iX9_get 3 9 := ⟨mg 911 (by decide +kernel) (by decide +kernel), mg 912 (by decide +kernel) (by decide +kernel), inX9i, mg 913 (by decide +kernel) (by decide +kernel), ⟨by decide +kernel, by decide +kernel, by decide +kernel⟩, ⟨TX9, 29, rfl⟩, by decide +kernel⟩
theorem hX9_copy : CV iX9_copy 5 9 := ⟨mg 916 (by decide +kernel) (by decide +kernel), mg 917 (by decide +kernel) (by decide +kernel), inX9i, mg 918 (by decide +kernel) (by decide +kernel), ⟨by decide +kernel, by decide +kernel, by decide +kernel⟩, ⟨TX9, 29, rfl⟩, by decide +kernel⟩
theorem hX9_type : CV iX9_type 1 9 := ⟨mg 920 (by decide +kernel) (by decide +kernel), mg 921 (by decide +kernel) (by decide +kernel), inX9i, mg 922 (by decide +kernel) (by decide +kernel), ⟨by decide +kernel, by decide +kernel, by decide +kernel⟩, ⟨TX9, 29, rfl⟩, by decide +kernel⟩
theorem hX9_wipe : CV iX9_wipe 0 9 := ⟨mg 925 (by decide +kernel) (by decide +kernel), mg 926 (by decide +kernel) (by decide +kernel), inX9i, mg 927 (by decide +kernel) (by decide +kernel), ⟨by decide +kernel, by decide +kernel, by decide +kernel⟩, ⟨TX9, 29, rfl⟩, by decide +kernel⟩
theorem hX9_undo : CV iX9_undo 0 9 := ⟨mg 929 (by decide +kernel) (by decide +kernel), mg 930 (by decide +kernel) (by decide +kernel), inX9i, mg 931 (by decide +kernel) (by decide +kernel), ⟨by decide +kernel, by decide +kernel, by decide +kernel⟩, ⟨TX9, 29, rfl⟩, by decide +kernel⟩
theorem hX9_tellsOf : CV iX9_tellsOf 2 9 := ⟨mg 946 (by decide +kernel) (by decide +kernel), mg 28 (by decide +kernel) (by decide +kernel), inX9i, mg 947 (by decide +kernel) (by decide +kernel), ⟨by decide +kernel, by decide +kernel, by decide +kernel⟩, ⟨TX9, 29, rfl⟩, by decide +kernel⟩
theorem hX9_readsRoad : CV iX9_readsRoad 0 9 := ⟨mg 942 (by decide +kernel) (by decide +kernel), mg 27 (by decide +kernel) (by decide +kernel), inX9i, mg 943 (by decide +kernel) (by decide +kernel), ⟨by decide +kernel, by decide +kernel, by decide +kernel⟩, ⟨TX9, 29, rfl⟩, by decide +kernel⟩
theorem hX9_reads : CV iX9_reads 0 9 := ⟨mg 938 (by decide +kernel) (by decide +kernel), mg 26 (by decide +kernel) (by decide +kernel), inX9i, mg 939 (by decide +kernel) (by decide +kernel), ⟨by decide +kernel, by decide +kernel, by decide +kernel⟩, ⟨TX9, 29, rfl⟩, by decide +kernel⟩
theorem hX9_fault : CV iX9_fault 0 9 := ⟨mg 933 (by decide +kernel) (by decide +kernel), mg 934 (by decide +kernel) (by decide +kernel), inX9i, mg 935 (by decide +kernel) (by decide +kernel), ⟨by decide +kernel, by decide +kernel, by decide +kernel⟩, ⟨TX9, 29, rfl⟩, by decide +kernel⟩
theorem hX9_road : CV iX9_road 2 9 := ⟨mg 953 (by decide +kernel) (by decide +kernel), mg 954 (by decide +kernel) (by decide +kernel), inX9i, mg 955 (by decide +kernel) (by decide +kernel), ⟨by decide +kernel, by decide +kernel, by decide +kernel⟩, ⟨TX9, 29, rfl⟩, by decide +kernel⟩
theorem hX9_isLand : CS iX9_isLand 1 := ⟨mg 961 (by decide +kernel) (by decide +kernel), inX9i, mg 962 (by decide +kernel) (by decide +kernel), ⟨by decide +kernel, by decide +kernel, by decide +kernel⟩, by decide +kernel⟩
theorem hX9_isParish : CS iX9_isParish 1 := ⟨mg 970 (by decide +kernel) (by decide +kernel), inX9i, mg 971 (by decide +kernel) (by decide +kernel), ⟨by decide +kernel, by decide +kernel, by decide +kernel⟩, by decide +kernel⟩
theorem hX9_isHour : CS iX9_isHour 1 := ⟨mg 1003 (by decide +kernel) (by decide +kernel), inX9i, mg 1004 (by decide +kernel) (by decide +kernel), ⟨by decide +kernel, by decide +kernel, by decide +kernel⟩, by decide +kernel⟩
theorem hX9_land : CV iX9_land 3 9 := ⟨mg 957 (by decide +kernel) (by decide +kernel), mg 958 (by decide +kernel) (by decide +kernel), inX9i, mg 959 (by decide +kernel) (by decide +kernel), ⟨by decide +kernel, by decide +kernel, by decide +kernel⟩, ⟨TX9, 29, rfl⟩, by decide +kernel⟩
theorem hX9_bell : CV iX9_bell 3 9 := ⟨mg 966 (by decide +kernel) (by decide +kernel), mg 967 (by decide +kernel) (by decide +kernel), inX9i, mg 968 (by decide +kernel) (by decide +kernel), ⟨by decide +kernel, by decide +kernel, by decide +kernel⟩, ⟨TX9, 29, rfl⟩, by decide +kernel⟩
theorem hX9_read : CV iX9_read 1 9 := ⟨mg 977 (by decide +kernel) (by decide +kernel), mg 978 (by decide +kernel) (by decide +kernel), inX9i, mg 979 (by decide +kernel) (by decide +kernel), ⟨by decide +kernel, by decide +kernel, by decide +kernel⟩, ⟨TX9, 29, rfl⟩, by decide +kernel⟩
theorem hX9_feast : CV iX9_feast 1 9 := ⟨mg 985 (by decide +kernel) (by decide +kernel), mg 986 (by decide +kernel) (by decide +kernel), inX9i, mg 987 (by decide +kernel) (by decide +kernel), ⟨by decide +kernel, by decide +kernel, by decide +kernel⟩, ⟨TX9, 29, rfl⟩, by decide +kernel⟩
theorem hX9_back : CV iX9_back 0 9 := ⟨mg 990 (by decide +kernel) (by decide +kernel), mg 991 (by decide +kernel) (by decide +kernel), inX9i, mg 992 (by decide +kernel) (by decide +kernel), ⟨by decide +kernel, by decide +kernel, by decide +kernel⟩, ⟨TX9, 29, rfl⟩, by decide +kernel⟩
theorem hX9_lent : CV iX9_lent 1 9 := ⟨mg 994 (by decide +kernel) (by decide +kernel), mg 995 (by decide +kernel) (by decide +kernel), inX9i, mg 996 (by decide +kernel) (by decide +kernel), ⟨by decide +kernel, by decide +kernel, by decide +kernel⟩, ⟨TX9, 29, rfl⟩, by decide +kernel⟩
theorem hX9_isWarBy : CV iX9_isWarBy 2 9 := ⟨mg 1015 (by decide +kernel) (by decide +kernel), mg 30 (by decide +kernel) (by decide +kernel), inX9i, mg 1016 (by decide +kernel) (by decide +kernel), ⟨by decide +kernel, by decide +kernel, by decide +kernel⟩, ⟨TX9, 29, rfl⟩, by decide +kernel⟩
theorem hX9_isFeast : CV iX9_isFeast 1 9 := ⟨mg 1019 (by decide +kernel) (by decide +kernel), mg 31 (by decide +kernel) (by decide +kernel), inX9i, mg 1020 (by decide +kernel) (by decide +kernel), ⟨by decide +kernel, by decide +kernel, by decide +kernel⟩, ⟨TX9, 29, rfl⟩, by decide +kernel⟩
theorem hX9_isWar : CV iX9_isWar 2 9 := ⟨mg 1008 (by decide +kernel) (by decide +kernel), mg 29 (by decide +kernel) (by decide +kernel), inX9i, mg 1009 (by decide +kernel) (by decide +kernel), ⟨by decide +kernel, by decide +kernel, by decide +kernel⟩, ⟨TX9, 29, rfl⟩, by decide +kernel⟩
theorem hX9_war : CV iX9_war 2 9 := ⟨mg 999 (by decide +kernel) (by decide +kernel), mg 1000 (by decide +kernel) (by decide +kernel), inX9i, mg 1001 (by decide +kernel) (by decide +kernel), ⟨by decide +kernel, by decide +kernel, by decide +kernel⟩, ⟨TX9, 29, rfl⟩, by decide +kernel⟩
theorem hX9_strikesNow : CV iX9_strikesNow 4 9 := ⟨mg 1027 (by decide +kernel) (by decide +kernel), mg 32 (by decide +kernel) (by decide +kernel), inX9i, mg 1028 (by decide +kernel) (by decide +kernel), ⟨by decide +kernel, by decide +kernel, by decide +kernel⟩, ⟨TX9, 29, rfl⟩, by decide +kernel⟩
theorem hX9_strikes : CV iX9_strikes 4 9 := ⟨mg 1022 (by decide +kernel) (by decide +kernel), mg 1023 (by decide +kernel) (by decide +kernel), inX9i, mg 1024 (by decide +kernel) (by decide +kernel), ⟨by decide +kernel, by decide +kernel, by decide +kernel⟩, ⟨TX9, 29, rfl⟩, by decide +kernel⟩
theorem hX9_nextOf : CV iX9_nextOf 3 9 := ⟨mg 1035 (by decide +kernel) (by decide +kernel), mg 33 (by decide +kernel) (by decide +kernel), inX9i, mg 1036 (by decide +kernel) (by decide +kernel), ⟨by decide +kernel, by decide +kernel, by decide +kernel⟩, ⟨TX9, 29, rfl⟩, by decide +kernel⟩
theorem hX9_next : CV iX9_next 3 9 := ⟨mg 1030 (by decide +kernel) (by decide +kernel), mg 1031 (by decide +kernel) (by decide +kernel), inX9i, mg 1032 (by decide +kernel) (by decide +kernel), ⟨by decide +kernel, by decide +kernel, by decide +kernel⟩, ⟨TX9, 29, rfl⟩, by decide +kernel⟩
theorem hX9_leftIn : CV iX9_leftIn 2 9 := ⟨mg 1043 (by decide +kernel) (by decide +kernel), mg 34 (by decide +kernel) (by decide +kernel), inX9i, mg 1044 (by decide +kernel) (by decide +kernel), ⟨by decide +kernel, by decide +kernel, by decide +kernel⟩, ⟨TX9, 29, rfl⟩, by decide +kernel⟩
theorem hX9_left : CV iX9_left 2 9 := ⟨mg 1038 (by decide +kernel) (by decide +kernel), mg 1039 (by decide +kernel) (by decide +kernel), inX9i, mg 1040 (by decide +kernel) (by decide +kernel), ⟨by decide +kernel, by decide +kernel, by decide +kernel⟩, ⟨TX9, 29, rfl⟩, by decide +kernel⟩
theorem hX9_bestOf : CV iX9_bestOf 1 9 := ⟨mg 1051 (by decide +kernel) (by decide +kernel), mg 35 (by decide +kernel) (by decide +kernel), inX9i, mg 1052 (by decide +kernel) (by decide +kernel), ⟨by decide +kernel, by decide +kernel, by decide +kernel⟩, ⟨TX9, 29, rfl⟩, by decide +kernel⟩
theorem hX9_best : CV iX9_best 1 9 := ⟨mg 1046 (by decide +kernel) (by decide +kernel), mg 1047 (by decide +kernel) (by decide +kernel), inX9i, mg 1048 (by decide +kernel) (by decide +kernel), ⟨by decide +kernel, by decide +kernel, by decide +kernel⟩, ⟨TX9, 29, rfl⟩, by decide +kernel⟩
theorem hX9_unlikeOf : CV iX9_unlikeOf 2 9 := ⟨mg 1059 (by decide +kernel) (by decide +kernel), mg 36 (by decide +kernel) (by decide +kernel), inX9i, mg 1060 (by decide +kernel) (by decide +kernel), ⟨by decide +kernel, by decide +kernel, by decide +kernel⟩, ⟨TX9, 29, rfl⟩, by decide +kernel⟩
theorem hX9_unlike : CV iX9_unlike 2 9 := ⟨mg 1054 (by decide +kernel) (by decide +kernel), mg 1055 (by decide +kernel) (by decide +kernel), inX9i, mg 1056 (by decide +kernel) (by decide +kernel), ⟨by decide +kernel, by decide +kernel, by decide +kernel⟩, ⟨TX9, 29, rfl⟩, by decide +kernel⟩
theorem hX9_hoursOf : CV iX9_hoursOf 2 9 := ⟨mg 1082 (by decide +kernel) (by decide +kernel), mg 40 (by decide +kernel) (by decide +kernel), inX9i, mg 1083 (by decide +kernel) (by decide +kernel), ⟨by decide +kernel, by decide +kernel, by decide +kernel⟩, ⟨TX9, 29, rfl⟩, by decide +kernel⟩
theorem hX9_findFar : CV iX9_findFar 1 9 := ⟨mg 1074 (by decide +kernel) (by decide +kernel), mg 38 (by decide +kernel) (by decide +kernel), inX9i, mg 1075 (by decide +kernel) (by decide +kernel), ⟨by decide +kernel, by decide +kernel, by decide +kernel⟩, ⟨TX9, 29, rfl⟩, by decide +kernel⟩
theorem hX9_nextLand : CV iX9_nextLand 1 9 := ⟨mg 1078 (by decide +kernel) (by decide +kernel), mg 39 (by decide +kernel) (by decide +kernel), inX9i, mg 1079 (by decide +kernel) (by decide +kernel), ⟨by decide +kernel, by decide +kernel, by decide +kernel⟩, ⟨TX9, 29, rfl⟩, by decide +kernel⟩
theorem hX9_wayOf : CV iX9_wayOf 3 9 := ⟨mg 1070 (by decide +kernel) (by decide +kernel), mg 37 (by decide +kernel) (by decide +kernel), inX9i, mg 1071 (by decide +kernel) (by decide +kernel), ⟨by decide +kernel, by decide +kernel, by decide +kernel⟩, ⟨TX9, 29, rfl⟩, by decide +kernel⟩
theorem hX9_areTwo : CS iX9_areTwo 2 := ⟨mg 1066 (by decide +kernel) (by decide +kernel), inX9i, mg 1067 (by decide +kernel) (by decide +kernel), ⟨by decide +kernel, by decide +kernel, by decide +kernel⟩, by decide +kernel⟩
theorem hX9_way : CV iX9_way 3 9 := ⟨mg 1062 (by decide +kernel) (by decide +kernel), mg 1063 (by decide +kernel) (by decide +kernel), inX9i, mg 1064 (by decide +kernel) (by decide +kernel), ⟨by decide +kernel, by decide +kernel, by decide +kernel⟩, ⟨TX9, 29, rfl⟩, by decide +kernel⟩
theorem hX9_goes : CV iX9_goes 4 9 := ⟨mg 1099 (by decide +kernel) (by decide +kernel), mg 43 (by decide +kernel) (by decide +kernel), inX9i, mg 1100 (by decide +kernel) (by decide +kernel), ⟨by decide +kernel, by decide +kernel, by decide +kernel⟩, ⟨TX9, 29, rfl⟩, by decide +kernel⟩
theorem hX9_isRaid : CV iX9_isRaid 4 9 := ⟨mg 1095 (by decide +kernel) (by decide +kernel), mg 42 (by decide +kernel) (by decide +kernel), inX9i, mg 1096 (by decide +kernel) (by decide +kernel), ⟨by decide +kernel, by decide +kernel, by decide +kernel⟩, ⟨TX9, 29, rfl⟩, by decide +kernel⟩
theorem hX9_raidOf : CV iX9_raidOf 4 9 := ⟨mg 1091 (by decide +kernel) (by decide +kernel), mg 41 (by decide +kernel) (by decide +kernel), inX9i, mg 1092 (by decide +kernel) (by decide +kernel), ⟨by decide +kernel, by decide +kernel, by decide +kernel⟩, ⟨TX9, 29, rfl⟩, by decide +kernel⟩
theorem hX9_raid : CV iX9_raid 4 9 := ⟨mg 1085 (by decide +kernel) (by decide +kernel), mg 1086 (by decide +kernel) (by decide +kernel), inX9i, mg 1087 (by decide +kernel) (by decide +kernel), ⟨by decide +kernel, by decide +kernel, by decide +kernel⟩, ⟨TX9, 29, rfl⟩, by decide +kernel⟩
theorem hX9_set : CV iX9_set 2 9 := ⟨mg 1102 (by decide +kernel) (by decide +kernel), mg 1103 (by decide +kernel) (by decide +kernel), inX9i, mg 1104 (by decide +kernel) (by decide +kernel), ⟨by decide +kernel, by decide +kernel, by decide +kernel⟩, ⟨TX9, 29, rfl⟩, by decide +kernel⟩
theorem hX9_falls : CV iX9_falls 4 9 := ⟨mg 1117 (by decide +kernel) (by decide +kernel), mg 45 (by decide +kernel) (by decide +kernel), inX9i, mg 1118 (by decide +kernel) (by decide +kernel), ⟨by decide +kernel, by decide +kernel, by decide +kernel⟩, ⟨TX9, 29, rfl⟩, by decide +kernel⟩
theorem hX9_siegeOf : CV iX9_siegeOf 4 9 := ⟨mg 1113 (by decide +kernel) (by decide +kernel), mg 44 (by decide +kernel) (by decide +kernel), inX9i, mg 1114 (by decide +kernel) (by decide +kernel), ⟨by decide +kernel, by decide +kernel, by decide +kernel⟩, ⟨TX9, 29, rfl⟩, by decide +kernel⟩
theorem hX9_siege : CV iX9_siege 4 9 := ⟨mg 1107 (by decide +kernel) (by decide +kernel), mg 1108 (by decide +kernel) (by decide +kernel), inX9i, mg 1109 (by decide +kernel) (by decide +kernel), ⟨by decide +kernel, by decide +kernel, by decide +kernel⟩, ⟨TX9, 29, rfl⟩, by decide +kernel⟩
theorem hX9_holdsBy : CV iX9_holdsBy 3 9 := ⟨mg 1125 (by decide +kernel) (by decide +kernel), mg 46 (by decide +kernel) (by decide +kernel), inX9i, mg 1126 (by decide +kernel) (by decide +kernel), ⟨by decide +kernel, by decide +kernel, by decide +kernel⟩, ⟨TX9, 29, rfl⟩, by decide +kernel⟩
theorem hX9_holds : CV iX9_holds 3 9 := ⟨mg 1120 (by decide +kernel) (by decide +kernel), mg 1121 (by decide +kernel) (by decide +kernel), inX9i, mg 1122 (by decide +kernel) (by decide +kernel), ⟨by decide +kernel, by decide +kernel, by decide +kernel⟩, ⟨TX9, 29, rfl⟩, by decide +kernel⟩
theorem hX9_otherEnd : CV iX9_otherEnd 2 9 := ⟨mg 1139 (by decide +kernel) (by decide +kernel), mg 48 (by decide +kernel) (by decide +kernel), inX9i, mg 1140 (by decide +kernel) (by decide +kernel), ⟨by decide +kernel, by decide +kernel, by decide +kernel⟩, ⟨TX9, 29, rfl⟩, by decide +kernel⟩
theorem hX9_wasAt : CV iX9_wasAt 2 9 := ⟨mg 1143 (by decide +kernel) (by decide +kernel), mg 49 (by decide +kernel) (by decide +kernel), inX9i, mg 1144 (by decide +kernel) (by decide +kernel), ⟨by decide +kernel, by decide +kernel, by decide +kernel⟩, ⟨TX9, 29, rfl⟩, by decide +kernel⟩
theorem hX9_isLess : CV iX9_isLess 1 9 := ⟨mg 1151 (by decide +kernel) (by decide +kernel), mg 51 (by decide +kernel) (by decide +kernel), inX9i, mg 1152 (by decide +kernel) (by decide +kernel), ⟨by decide +kernel, by decide +kernel, by decide +kernel⟩, ⟨TX9, 29, rfl⟩, by decide +kernel⟩
theorem hX9_comes : CV iX9_comes 1 9 := ⟨mg 1147 (by decide +kernel) (by decide +kernel), mg 50 (by decide +kernel) (by decide +kernel), inX9i, mg 1148 (by decide +kernel) (by decide +kernel), ⟨by decide +kernel, by decide +kernel, by decide +kernel⟩, ⟨TX9, 29, rfl⟩, by decide +kernel⟩
theorem hX9_findHome : CV iX9_findHome 3 9 := ⟨mg 1134 (by decide +kernel) (by decide +kernel), mg 47 (by decide +kernel) (by decide +kernel), inX9i, mg 1135 (by decide +kernel) (by decide +kernel), ⟨by decide +kernel, by decide +kernel, by decide +kernel⟩, ⟨TX9, 29, rfl⟩, by decide +kernel⟩
theorem hX9_tellsHome : CV iX9_tellsHome 1 9 := ⟨mg 1155 (by decide +kernel) (by decide +kernel), mg 52 (by decide +kernel) (by decide +kernel), inX9i, mg 1156 (by decide +kernel) (by decide +kernel), ⟨by decide +kernel, by decide +kernel, by decide +kernel⟩, ⟨TX9, 29, rfl⟩, by decide +kernel⟩
theorem hX9_home : CV iX9_home 4 9 := ⟨mg 1128 (by decide +kernel) (by decide +kernel), mg 1129 (by decide +kernel) (by decide +kernel), inX9i, mg 1130 (by decide +kernel) (by decide +kernel), ⟨by decide +kernel, by decide +kernel, by decide +kernel⟩, ⟨TX9, 29, rfl⟩, by decide +kernel⟩
theorem hX9_pairOf : CV iX9_pairOf 1 9 := ⟨mg 1170 (by decide +kernel) (by decide +kernel), mg 54 (by decide +kernel) (by decide +kernel), inX9i, mg 1171 (by decide +kernel) (by decide +kernel), ⟨by decide +kernel, by decide +kernel, by decide +kernel⟩, ⟨TX9, 29, rfl⟩, by decide +kernel⟩
theorem hX9_agreeOf : CV iX9_agreeOf 1 9 := ⟨mg 1166 (by decide +kernel) (by decide +kernel), mg 53 (by decide +kernel) (by decide +kernel), inX9i, mg 1167 (by decide +kernel) (by decide +kernel), ⟨by decide +kernel, by decide +kernel, by decide +kernel⟩, ⟨TX9, 29, rfl⟩, by decide +kernel⟩
theorem hX9_agree : CV iX9_agree 1 9 := ⟨mg 1161 (by decide +kernel) (by decide +kernel), mg 1162 (by decide +kernel) (by decide +kernel), inX9i, mg 1163 (by decide +kernel) (by decide +kernel), ⟨by decide +kernel, by decide +kernel, by decide +kernel⟩, ⟨TX9, 29, rfl⟩, by decide +kernel⟩
theorem hX9_changesBy : CV iX9_changesBy 2 9 := ⟨mg 1186 (by decide +kernel) (by decide +kernel), mg 57 (by decide +kernel) (by decide +kernel), inX9i, mg 1187 (by decide +kernel) (by decide +kernel), ⟨by decide +kernel, by decide +kernel, by decide +kernel⟩, ⟨TX9, 29, rfl⟩, by decide +kernel⟩
theorem hX9_middleBell : CV iX9_middleBell 1 9 := ⟨mg 1182 (by decide +kernel) (by decide +kernel), mg 56 (by decide +kernel) (by decide +kernel), inX9i, mg 1183 (by decide +kernel) (by decide +kernel), ⟨by decide +kernel, by decide +kernel, by decide +kernel⟩, ⟨TX9, 29, rfl⟩, by decide +kernel⟩
theorem hX9_middleOf : CV iX9_middleOf 1 9 := ⟨mg 1178 (by decide +kernel) (by decide +kernel), mg 55 (by decide +kernel) (by decide +kernel), inX9i, mg 1179 (by decide +kernel) (by decide +kernel), ⟨by decide +kernel, by decide +kernel, by decide +kernel⟩, ⟨TX9, 29, rfl⟩, by decide +kernel⟩
theorem hX9_middle : CV iX9_middle 1 9 := ⟨mg 1173 (by decide +kernel) (by decide +kernel), mg 1174 (by decide +kernel) (by decide +kernel), inX9i, mg 1175 (by decide +kernel) (by decide +kernel), ⟨by decide +kernel, by decide +kernel, by decide +kernel⟩, ⟨TX9, 29, rfl⟩, by decide +kernel⟩
theorem hX9_seen : CV iX9_seen 3 9 := ⟨mg 1192 (by decide +kernel) (by decide +kernel), mg 1193 (by decide +kernel) (by decide +kernel), inX9i, mg 1194 (by decide +kernel) (by decide +kernel), ⟨by decide +kernel, by decide +kernel, by decide +kernel⟩, ⟨TX9, 29, rfl⟩, by decide +kernel⟩
theorem hX9_forget : CV iX9_forget 0 9 := ⟨mg 1196 (by decide +kernel) (by decide +kernel), mg 1197 (by decide +kernel) (by decide +kernel), inX9i, mg 1198 (by decide +kernel) (by decide +kernel), ⟨by decide +kernel, by decide +kernel, by decide +kernel⟩, ⟨TX9, 29, rfl⟩, by decide +kernel⟩
theorem hX9_whichNow : CV iX9_whichNow 0 9 := ⟨mg 1205 (by decide +kernel) (by decide +kernel), mg 58 (by decide +kernel) (by decide +kernel), inX9i, mg 1206 (by decide +kernel) (by decide +kernel), ⟨by decide +kernel, by decide +kernel, by decide +kernel⟩, ⟨TX9, 29, rfl⟩, by decide +kernel⟩
theorem hX9_which : CV iX9_which 0 9 := ⟨mg 1200 (by decide +kernel) (by decide +kernel), mg 1201 (by decide +kernel) (by decide +kernel), inX9i, mg 1202 (by decide +kernel) (by decide +kernel), ⟨by decide +kernel, by decide +kernel, by decide +kernel⟩, ⟨TX9, 29, rfl⟩, by decide +kernel⟩
theorem hX9_seasonOf : CV iX9_seasonOf 2 9 := ⟨mg 1213 (by decide +kernel) (by decide +kernel), mg 59 (by decide +kernel) (by decide +kernel), inX9i, mg 1214 (by decide +kernel) (by decide +kernel), ⟨by decide +kernel, by decide +kernel, by decide +kernel⟩, ⟨TX9, 29, rfl⟩, by decide +kernel⟩
theorem hX9_season : CV iX9_season 2 9 := ⟨mg 1208 (by decide +kernel) (by decide +kernel), mg 1209 (by decide +kernel) (by decide +kernel), inX9i, mg 1210 (by decide +kernel) (by decide +kernel), ⟨by decide +kernel, by decide +kernel, by decide +kernel⟩, ⟨TX9, 29, rfl⟩, by decide +kernel⟩
theorem hX9_write : CV iX9_write 3 9 := ⟨mg 1217 (by decide +kernel) (by decide +kernel), mg 1218 (by decide +kernel) (by decide +kernel), inX9i, mg 1219 (by decide +kernel) (by decide +kernel), ⟨by decide +kernel, by decide +kernel, by decide +kernel⟩, ⟨TX9, 29, rfl⟩, by decide +kernel⟩
theorem hX9_count : CV iX9_count 1 9 := ⟨mg 1221 (by decide +kernel) (by decide +kernel), mg 1222 (by decide +kernel) (by decide +kernel), inX9i, mg 1223 (by decide +kernel) (by decide +kernel), ⟨by decide +kernel, by decide +kernel, by decide +kernel⟩, ⟨TX9, 29, rfl⟩, by decide +kernel⟩
theorem hX9_tellsLand : CV iX9_tellsLand 2 9 := ⟨mg 1233 (by decide +kernel) (by decide +kernel), mg 60 (by decide +kernel) (by decide +kernel), inX9i, mg 1234 (by decide +kernel) (by decide +kernel), ⟨by decide +kernel, by decide +kernel, by decide +kernel⟩, ⟨TX9, 29, rfl⟩, by decide +kernel⟩
theorem hX9_tellsWays : CV iX9_tellsWays 2 9 := ⟨mg 1237 (by decide +kernel) (by decide +kernel), mg 61 (by decide +kernel) (by decide +kernel), inX9i, mg 1238 (by decide +kernel) (by decide +kernel), ⟨by decide +kernel, by decide +kernel, by decide +kernel⟩, ⟨TX9, 29, rfl⟩, by decide +kernel⟩
theorem hX9_digest : CV iX9_digest 0 9 := ⟨mg 1225 (by decide +kernel) (by decide +kernel), mg 1226 (by decide +kernel) (by decide +kernel), inX9i, mg 1227 (by decide +kernel) (by decide +kernel), ⟨by decide +kernel, by decide +kernel, by decide +kernel⟩, ⟨TX9, 29, rfl⟩, by decide +kernel⟩
theorem hJ7_fill_53178 : CS iJ7_fill_53178 2 := ⟨mg 91 (by decide +kernel) (by decide +kernel), inJ7i, mg 92 (by decide +kernel) (by decide +kernel), ⟨by decide +kernel, by decide +kernel, by decide +kernel⟩, by decide +kernel⟩
end
section
/-! decode rows -/
theorem dX0_init_0 : AtI iX0_init 0 (.aload_n 0) 1 1 := ⟨by decide +kernel, rfl⟩
theorem dX0_init_1 : AtI iX0_init 1 (.invokespecial 3) 3 4 := ⟨by decide +kernel, rfl⟩
theorem dX0_init_4 : AtI iX0_init 4 (.aload_n 0) 1 5 := ⟨by decide +kernel, rfl⟩
theorem dX0_init_5 : AtI iX0_init 5 (.bipush 8) 2 7 := ⟨by decide +kernel, rfl⟩
theorem dX0_init_7 : AtI iX0_init 7 (.newarray .int) 2 9 := ⟨by decide +kernel, rfl⟩
theorem dX0_init_9 : AtI iX0_init 9 (.putfield 9) 3 12 := ⟨by decide +kernel, rfl⟩
theorem dX0_init_12 : AtI iX0_init 12 (.iconst 0) 1 13 := ⟨by decide +kernel, rfl⟩
theorem dX0_init_13 : AtI iX0_init 13 (.istore_n 1) 1 14 := ⟨by decide +kernel, rfl⟩
theorem dX0_init_14 : AtI iX0_init 14 (.iload_n 1) 1 15 := ⟨by decide +kernel, rfl⟩
theorem dX0_init_15 : AtI iX0_init 15 (.iconst 4) 1 16 := ⟨by decide +kernel, rfl⟩
theorem dX0_init_16 : AtJ iX0_init 16 (.if_icmp .ge 31) 31 19 47 := ⟨by decide +kernel, rfl, by decide⟩
theorem dX0_init_19 : AtI iX0_init 19 (.aload_n 0) 1 20 := ⟨by decide +kernel, rfl⟩
theorem dX0_init_20 : AtI iX0_init 20 (.getfield 9) 3 23 := ⟨by decide +kernel, rfl⟩
theorem dX0_init_23 : AtI iX0_init 23 (.iconst 2) 1 24 := ⟨by decide +kernel, rfl⟩
theorem dX0_init_24 : AtI iX0_init 24 (.iload_n 1) 1 25 := ⟨by decide +kernel, rfl⟩
theorem dX0_init_25 : AtI iX0_init 25 .imul 1 26 := ⟨by decide +kernel, rfl⟩
theorem dX0_init_26 : AtI iX0_init 26 (.bipush 6) 2 28 := ⟨by decide +kernel, rfl⟩
theorem dX0_init_28 : AtI iX0_init 28 .iastore 1 29 := ⟨by decide +kernel, rfl⟩
theorem dX0_init_29 : AtI iX0_init 29 (.aload_n 0) 1 30 := ⟨by decide +kernel, rfl⟩
theorem dX0_init_30 : AtI iX0_init 30 (.getfield 9) 3 33 := ⟨by decide +kernel, rfl⟩
theorem dX0_init_33 : AtI iX0_init 33 (.iconst 2) 1 34 := ⟨by decide +kernel, rfl⟩
theorem dX0_init_34 : AtI iX0_init 34 (.iload_n 1) 1 35 := ⟨by decide +kernel, rfl⟩
theorem dX0_init_35 : AtI iX0_init 35 .imul 1 36 := ⟨by decide +kernel, rfl⟩
theorem dX0_init_36 : AtI iX0_init 36 (.iconst 1) 1 37 := ⟨by decide +kernel, rfl⟩
theorem dX0_init_37 : AtI iX0_init 37 .iadd 1 38 := ⟨by decide +kernel, rfl⟩
theorem dX0_init_38 : AtI iX0_init 38 (.bipush 18) 2 40 := ⟨by decide +kernel, rfl⟩
theorem dX0_init_40 : AtI iX0_init 40 .iastore 1 41 := ⟨by decide +kernel, rfl⟩
theorem dX0_init_41 : AtI iX0_init 41 (.iinc 1 1) 3 44 := ⟨by decide +kernel, rfl⟩
theorem dX0_init_44 : AtJ iX0_init 44 (.goto (-30)) (-30) 47 14 := ⟨by decide +kernel, rfl, by decide⟩
theorem dX0_init_47 : AtI iX0_init 47 .return_ 1 48 := ⟨by decide +kernel, rfl⟩
theorem dX0_at_0 : AtI iX0_at 0 (.aload_n 0) 1 1 := ⟨by decide +kernel, rfl⟩
theorem dX0_at_1 : AtI iX0_at 1 (.getfield 9) 3 4 := ⟨by decide +kernel, rfl⟩
theorem dX0_at_4 : AtI iX0_at 4 (.iconst 2) 1 5 := ⟨by decide +kernel, rfl⟩
theorem dX0_at_5 : AtI iX0_at 5 (.iload_n 1) 1 6 := ⟨by decide +kernel, rfl⟩
theorem dX0_at_6 : AtI iX0_at 6 .imul 1 7 := ⟨by decide +kernel, rfl⟩
theorem dX0_at_7 : AtI iX0_at 7 (.iload_n 2) 1 8 := ⟨by decide +kernel, rfl⟩
theorem dX0_at_8 : AtI iX0_at 8 .iadd 1 9 := ⟨by decide +kernel, rfl⟩
theorem dX0_at_9 : AtI iX0_at 9 .iaload 1 10 := ⟨by decide +kernel, rfl⟩
theorem dX0_at_10 : AtI iX0_at 10 .ireturn 1 11 := ⟨by decide +kernel, rfl⟩
theorem dX0_put_0 : AtI iX0_put 0 (.aload_n 0) 1 1 := ⟨by decide +kernel, rfl⟩
theorem dX0_put_1 : AtI iX0_put 1 (.getfield 9) 3 4 := ⟨by decide +kernel, rfl⟩
theorem dX0_put_4 : AtI iX0_put 4 (.iload_n 1) 1 5 := ⟨by decide +kernel, rfl⟩
theorem dX0_put_5 : AtI iX0_put 5 .iaload 1 6 := ⟨by decide +kernel, rfl⟩
theorem dX0_put_6 : AtI iX0_put 6 (.istore_n 3) 1 7 := ⟨by decide +kernel, rfl⟩
theorem dX0_put_7 : AtI iX0_put 7 (.aload_n 0) 1 8 := ⟨by decide +kernel, rfl⟩
theorem dX0_put_8 : AtI iX0_put 8 (.getfield 9) 3 11 := ⟨by decide +kernel, rfl⟩
theorem dX0_put_11 : AtI iX0_put 11 (.iload_n 1) 1 12 := ⟨by decide +kernel, rfl⟩
theorem dX0_put_12 : AtI iX0_put 12 (.iload_n 2) 1 13 := ⟨by decide +kernel, rfl⟩
theorem dX0_put_13 : AtI iX0_put 13 .iastore 1 14 := ⟨by decide +kernel, rfl⟩
theorem dX0_put_14 : AtI iX0_put 14 (.iload_n 3) 1 15 := ⟨by decide +kernel, rfl⟩
theorem dX0_put_15 : AtI iX0_put 15 .ireturn 1 16 := ⟨by decide +kernel, rfl⟩
theorem dX0_hoursUnlike_0 : AtI iX0_hoursUnlike 0 (.aload_n 0) 1 1 := ⟨by decide +kernel, rfl⟩
theorem dX0_hoursUnlike_1 : AtI iX0_hoursUnlike 1 (.iload_n 1) 1 2 := ⟨by decide +kernel, rfl⟩
theorem dX0_hoursUnlike_2 : AtI iX0_hoursUnlike 2 (.iconst 0) 1 3 := ⟨by decide +kernel, rfl⟩
theorem dX0_hoursUnlike_3 : AtI iX0_hoursUnlike 3 (.invokevirtual 15) 3 6 := ⟨by decide +kernel, rfl⟩
theorem dX0_hoursUnlike_6 : AtI iX0_hoursUnlike 6 (.aload_n 0) 1 7 := ⟨by decide +kernel, rfl⟩
theorem dX0_hoursUnlike_7 : AtI iX0_hoursUnlike 7 (.iload_n 2) 1 8 := ⟨by decide +kernel, rfl⟩
theorem dX0_hoursUnlike_8 : AtI iX0_hoursUnlike 8 (.iconst 0) 1 9 := ⟨by decide +kernel, rfl⟩
theorem dX0_hoursUnlike_9 : AtI iX0_hoursUnlike 9 (.invokevirtual 15) 3 12 := ⟨by decide +kernel, rfl⟩
theorem dX0_hoursUnlike_12 : AtI iX0_hoursUnlike 12 .isub 1 13 := ⟨by decide +kernel, rfl⟩
theorem dX0_hoursUnlike_13 : AtI iX0_hoursUnlike 13 (.invokestatic 19) 3 16 := ⟨by decide +kernel, rfl⟩
theorem dX0_hoursUnlike_16 : AtI iX0_hoursUnlike 16 (.aload_n 0) 1 17 := ⟨by decide +kernel, rfl⟩
theorem dX0_hoursUnlike_17 : AtI iX0_hoursUnlike 17 (.iload_n 1) 1 18 := ⟨by decide +kernel, rfl⟩
theorem dX0_hoursUnlike_18 : AtI iX0_hoursUnlike 18 (.iconst 1) 1 19 := ⟨by decide +kernel, rfl⟩
theorem dX0_hoursUnlike_19 : AtI iX0_hoursUnlike 19 (.invokevirtual 15) 3 22 := ⟨by decide +kernel, rfl⟩
theorem dX0_hoursUnlike_22 : AtI iX0_hoursUnlike 22 (.aload_n 0) 1 23 := ⟨by decide +kernel, rfl⟩
theorem dX0_hoursUnlike_23 : AtI iX0_hoursUnlike 23 (.iload_n 2) 1 24 := ⟨by decide +kernel, rfl⟩
theorem dX0_hoursUnlike_24 : AtI iX0_hoursUnlike 24 (.iconst 1) 1 25 := ⟨by decide +kernel, rfl⟩
theorem dX0_hoursUnlike_25 : AtI iX0_hoursUnlike 25 (.invokevirtual 15) 3 28 := ⟨by decide +kernel, rfl⟩
theorem dX0_hoursUnlike_28 : AtI iX0_hoursUnlike 28 .isub 1 29 := ⟨by decide +kernel, rfl⟩
theorem dX0_hoursUnlike_29 : AtI iX0_hoursUnlike 29 (.invokestatic 19) 3 32 := ⟨by decide +kernel, rfl⟩
theorem dX0_hoursUnlike_32 : AtI iX0_hoursUnlike 32 .iadd 1 33 := ⟨by decide +kernel, rfl⟩
theorem dX0_hoursUnlike_33 : AtI iX0_hoursUnlike 33 .ireturn 1 34 := ⟨by decide +kernel, rfl⟩
theorem dX0_likeOnes_0 : AtI iX0_likeOnes 0 (.iconst 0) 1 1 := ⟨by decide +kernel, rfl⟩
theorem dX0_likeOnes_1 : AtI iX0_likeOnes 1 (.istore_n 2) 1 2 := ⟨by decide +kernel, rfl⟩
theorem dX0_likeOnes_2 : AtI iX0_likeOnes 2 (.iconst 0) 1 3 := ⟨by decide +kernel, rfl⟩
theorem dX0_likeOnes_3 : AtI iX0_likeOnes 3 (.istore_n 3) 1 4 := ⟨by decide +kernel, rfl⟩
theorem dX0_likeOnes_4 : AtI iX0_likeOnes 4 (.iload_n 3) 1 5 := ⟨by decide +kernel, rfl⟩
theorem dX0_likeOnes_5 : AtI iX0_likeOnes 5 (.iconst 4) 1 6 := ⟨by decide +kernel, rfl⟩
theorem dX0_likeOnes_6 : AtJ iX0_likeOnes 6 (.if_icmp .ge 21) 21 9 27 := ⟨by decide +kernel, rfl, by decide⟩
theorem dX0_likeOnes_9 : AtI iX0_likeOnes 9 (.aload_n 0) 1 10 := ⟨by decide +kernel, rfl⟩
theorem dX0_likeOnes_10 : AtI iX0_likeOnes 10 (.iload_n 3) 1 11 := ⟨by decide +kernel, rfl⟩
theorem dX0_likeOnes_11 : AtI iX0_likeOnes 11 (.iload_n 1) 1 12 := ⟨by decide +kernel, rfl⟩
theorem dX0_likeOnes_12 : AtI iX0_likeOnes 12 (.invokevirtual 25) 3 15 := ⟨by decide +kernel, rfl⟩
theorem dX0_likeOnes_15 : AtJ iX0_likeOnes 15 (.ifCond .ne 6) 6 18 21 := ⟨by decide +kernel, rfl, by decide⟩
theorem dX0_likeOnes_18 : AtI iX0_likeOnes 18 (.iinc 2 1) 3 21 := ⟨by decide +kernel, rfl⟩
theorem dX0_likeOnes_21 : AtI iX0_likeOnes 21 (.iinc 3 1) 3 24 := ⟨by decide +kernel, rfl⟩
theorem dX0_likeOnes_24 : AtJ iX0_likeOnes 24 (.goto (-20)) (-20) 27 4 := ⟨by decide +kernel, rfl, by decide⟩
theorem dX0_likeOnes_27 : AtI iX0_likeOnes 27 (.iload_n 2) 1 28 := ⟨by decide +kernel, rfl⟩
theorem dX0_likeOnes_28 : AtI iX0_likeOnes 28 .ireturn 1 29 := ⟨by decide +kernel, rfl⟩
theorem dX0_commonest_0 : AtI iX0_commonest 0 (.iconst 0) 1 1 := ⟨by decide +kernel, rfl⟩
theorem dX0_commonest_1 : AtI iX0_commonest 1 (.istore_n 1) 1 2 := ⟨by decide +kernel, rfl⟩
theorem dX0_commonest_2 : AtI iX0_commonest 2 (.iconst 1) 1 3 := ⟨by decide +kernel, rfl⟩
theorem dX0_commonest_3 : AtI iX0_commonest 3 (.istore_n 2) 1 4 := ⟨by decide +kernel, rfl⟩
theorem dX0_commonest_4 : AtI iX0_commonest 4 (.iload_n 2) 1 5 := ⟨by decide +kernel, rfl⟩
theorem dX0_commonest_5 : AtI iX0_commonest 5 (.iconst 4) 1 6 := ⟨by decide +kernel, rfl⟩
theorem dX0_commonest_6 : AtJ iX0_commonest 6 (.if_icmp .ge 44) 44 9 50 := ⟨by decide +kernel, rfl, by decide⟩
theorem dX0_commonest_9 : AtI iX0_commonest 9 (.aload_n 0) 1 10 := ⟨by decide +kernel, rfl⟩
theorem dX0_commonest_10 : AtI iX0_commonest 10 (.iload_n 2) 1 11 := ⟨by decide +kernel, rfl⟩
theorem dX0_commonest_11 : AtI iX0_commonest 11 (.invokevirtual 28) 3 14 := ⟨by decide +kernel, rfl⟩
theorem dX0_commonest_14 : AtI iX0_commonest 14 (.aload_n 0) 1 15 := ⟨by decide +kernel, rfl⟩
theorem dX0_commonest_15 : AtI iX0_commonest 15 (.iload_n 1) 1 16 := ⟨by decide +kernel, rfl⟩
theorem dX0_commonest_16 : AtI iX0_commonest 16 (.invokevirtual 28) 3 19 := ⟨by decide +kernel, rfl⟩
theorem dX0_commonest_19 : AtI iX0_commonest 19 .isub 1 20 := ⟨by decide +kernel, rfl⟩
theorem dX0_commonest_20 : AtI iX0_commonest 20 (.istore_n 3) 1 21 := ⟨by decide +kernel, rfl⟩
theorem dX0_commonest_21 : AtI iX0_commonest 21 (.iload_n 3) 1 22 := ⟨by decide +kernel, rfl⟩
theorem dX0_commonest_22 : AtJ iX0_commonest 22 (.ifCond .gt 20) 20 25 42 := ⟨by decide +kernel, rfl, by decide⟩
theorem dX0_commonest_25 : AtI iX0_commonest 25 (.iload_n 3) 1 26 := ⟨by decide +kernel, rfl⟩
theorem dX0_commonest_26 : AtJ iX0_commonest 26 (.ifCond .ne 18) 18 29 44 := ⟨by decide +kernel, rfl, by decide⟩
theorem dX0_commonest_29 : AtI iX0_commonest 29 (.aload_n 0) 1 30 := ⟨by decide +kernel, rfl⟩
theorem dX0_commonest_30 : AtI iX0_commonest 30 (.iload_n 2) 1 31 := ⟨by decide +kernel, rfl⟩
theorem dX0_commonest_31 : AtI iX0_commonest 31 (.invokevirtual 31) 3 34 := ⟨by decide +kernel, rfl⟩
theorem dX0_commonest_34 : AtI iX0_commonest 34 (.aload_n 0) 1 35 := ⟨by decide +kernel, rfl⟩
theorem dX0_commonest_35 : AtI iX0_commonest 35 (.iload_n 1) 1 36 := ⟨by decide +kernel, rfl⟩
theorem dX0_commonest_36 : AtI iX0_commonest 36 (.invokevirtual 31) 3 39 := ⟨by decide +kernel, rfl⟩
theorem dX0_commonest_39 : AtJ iX0_commonest 39 (.if_icmp .ge 5) 5 42 44 := ⟨by decide +kernel, rfl, by decide⟩
theorem dX0_commonest_42 : AtI iX0_commonest 42 (.iload_n 2) 1 43 := ⟨by decide +kernel, rfl⟩
theorem dX0_commonest_43 : AtI iX0_commonest 43 (.istore_n 1) 1 44 := ⟨by decide +kernel, rfl⟩
theorem dX0_commonest_44 : AtI iX0_commonest 44 (.iinc 2 1) 3 47 := ⟨by decide +kernel, rfl⟩
theorem dX0_commonest_47 : AtJ iX0_commonest 47 (.goto (-43)) (-43) 50 4 := ⟨by decide +kernel, rfl, by decide⟩
theorem dX0_commonest_50 : AtI iX0_commonest 50 (.iload_n 1) 1 51 := ⟨by decide +kernel, rfl⟩
theorem dX0_commonest_51 : AtI iX0_commonest 51 .ireturn 1 52 := ⟨by decide +kernel, rfl⟩
theorem dX0_rank_0 : AtI iX0_rank 0 (.aload_n 0) 1 1 := ⟨by decide +kernel, rfl⟩
theorem dX0_rank_1 : AtI iX0_rank 1 (.iload_n 1) 1 2 := ⟨by decide +kernel, rfl⟩
theorem dX0_rank_2 : AtI iX0_rank 2 (.iconst 0) 1 3 := ⟨by decide +kernel, rfl⟩
theorem dX0_rank_3 : AtI iX0_rank 3 (.invokevirtual 15) 3 6 := ⟨by decide +kernel, rfl⟩
theorem dX0_rank_6 : AtI iX0_rank 6 (.bipush 24) 2 8 := ⟨by decide +kernel, rfl⟩
theorem dX0_rank_8 : AtI iX0_rank 8 .imul 1 9 := ⟨by decide +kernel, rfl⟩
theorem dX0_rank_9 : AtI iX0_rank 9 (.aload_n 0) 1 10 := ⟨by decide +kernel, rfl⟩
theorem dX0_rank_10 : AtI iX0_rank 10 (.iload_n 1) 1 11 := ⟨by decide +kernel, rfl⟩
theorem dX0_rank_11 : AtI iX0_rank 11 (.iconst 1) 1 12 := ⟨by decide +kernel, rfl⟩
theorem dX0_rank_12 : AtI iX0_rank 12 (.invokevirtual 15) 3 15 := ⟨by decide +kernel, rfl⟩
theorem dX0_rank_15 : AtI iX0_rank 15 .iadd 1 16 := ⟨by decide +kernel, rfl⟩
theorem dX0_rank_16 : AtI iX0_rank 16 .ireturn 1 17 := ⟨by decide +kernel, rfl⟩
theorem dX0_middleOf_0 : AtI iX0_middleOf 0 (.iconst 0) 1 1 := ⟨by decide +kernel, rfl⟩
theorem dX0_middleOf_1 : AtI iX0_middleOf 1 (.istore_n 2) 1 2 := ⟨by decide +kernel, rfl⟩
theorem dX0_middleOf_2 : AtI iX0_middleOf 2 (.iconst 1) 1 3 := ⟨by decide +kernel, rfl⟩
theorem dX0_middleOf_3 : AtI iX0_middleOf 3 (.istore_n 3) 1 4 := ⟨by decide +kernel, rfl⟩
theorem dX0_middleOf_4 : AtI iX0_middleOf 4 (.iload_n 3) 1 5 := ⟨by decide +kernel, rfl⟩
theorem dX0_middleOf_5 : AtI iX0_middleOf 5 (.bipush 24) 2 7 := ⟨by decide +kernel, rfl⟩
theorem dX0_middleOf_7 : AtJ iX0_middleOf 7 (.if_icmp .ge 26) 26 10 33 := ⟨by decide +kernel, rfl, by decide⟩
theorem dX0_middleOf_10 : AtI iX0_middleOf 10 (.aload_n 0) 1 11 := ⟨by decide +kernel, rfl⟩
theorem dX0_middleOf_11 : AtI iX0_middleOf 11 (.iload_n 1) 1 12 := ⟨by decide +kernel, rfl⟩
theorem dX0_middleOf_12 : AtI iX0_middleOf 12 (.iload_n 3) 1 13 := ⟨by decide +kernel, rfl⟩
theorem dX0_middleOf_13 : AtI iX0_middleOf 13 (.invokevirtual 34) 3 16 := ⟨by decide +kernel, rfl⟩
theorem dX0_middleOf_16 : AtI iX0_middleOf 16 (.aload_n 0) 1 17 := ⟨by decide +kernel, rfl⟩
theorem dX0_middleOf_17 : AtI iX0_middleOf 17 (.iload_n 1) 1 18 := ⟨by decide +kernel, rfl⟩
theorem dX0_middleOf_18 : AtI iX0_middleOf 18 (.iload_n 2) 1 19 := ⟨by decide +kernel, rfl⟩
theorem dX0_middleOf_19 : AtI iX0_middleOf 19 (.invokevirtual 34) 3 22 := ⟨by decide +kernel, rfl⟩
theorem dX0_middleOf_22 : AtJ iX0_middleOf 22 (.if_icmp .ge 5) 5 25 27 := ⟨by decide +kernel, rfl, by decide⟩
theorem dX0_middleOf_25 : AtI iX0_middleOf 25 (.iload_n 3) 1 26 := ⟨by decide +kernel, rfl⟩
theorem dX0_middleOf_26 : AtI iX0_middleOf 26 (.istore_n 2) 1 27 := ⟨by decide +kernel, rfl⟩
theorem dX0_middleOf_27 : AtI iX0_middleOf 27 (.iinc 3 1) 3 30 := ⟨by decide +kernel, rfl⟩
theorem dX0_middleOf_30 : AtJ iX0_middleOf 30 (.goto (-26)) (-26) 33 4 := ⟨by decide +kernel, rfl, by decide⟩
theorem dX0_middleOf_33 : AtI iX0_middleOf 33 (.iload_n 2) 1 34 := ⟨by decide +kernel, rfl⟩
theorem dX0_middleOf_34 : AtI iX0_middleOf 34 .ireturn 1 35 := ⟨by decide +kernel, rfl⟩
theorem dX0_change_0 : AtI iX0_change 0 (.iconst 0) 1 1 := ⟨by decide +kernel, rfl⟩
theorem dX0_change_1 : AtI iX0_change 1 (.istore_n 3) 1 2 := ⟨by decide +kernel, rfl⟩
theorem dX0_change_2 : AtI iX0_change 2 (.iconst 0) 1 3 := ⟨by decide +kernel, rfl⟩
theorem dX0_change_3 : AtI iX0_change 3 (.istore 4) 2 5 := ⟨by decide +kernel, rfl⟩
theorem dX0_change_5 : AtI iX0_change 5 (.iload 4) 2 7 := ⟨by decide +kernel, rfl⟩
theorem dX0_change_7 : AtI iX0_change 7 (.iconst 4) 1 8 := ⟨by decide +kernel, rfl⟩
theorem dX0_change_8 : AtJ iX0_change 8 (.if_icmp .ge 24) 24 11 32 := ⟨by decide +kernel, rfl, by decide⟩
theorem dX0_change_11 : AtI iX0_change 11 (.iload_n 3) 1 12 := ⟨by decide +kernel, rfl⟩
theorem dX0_change_12 : AtI iX0_change 12 (.aload_n 0) 1 13 := ⟨by decide +kernel, rfl⟩
theorem dX0_change_13 : AtI iX0_change 13 (.iload 4) 2 15 := ⟨by decide +kernel, rfl⟩
theorem dX0_change_15 : AtI iX0_change 15 (.iload_n 1) 1 16 := ⟨by decide +kernel, rfl⟩
theorem dX0_change_16 : AtI iX0_change 16 (.invokevirtual 15) 3 19 := ⟨by decide +kernel, rfl⟩
theorem dX0_change_19 : AtI iX0_change 19 (.iload_n 2) 1 20 := ⟨by decide +kernel, rfl⟩
theorem dX0_change_20 : AtI iX0_change 20 .isub 1 21 := ⟨by decide +kernel, rfl⟩
theorem dX0_change_21 : AtI iX0_change 21 (.invokestatic 19) 3 24 := ⟨by decide +kernel, rfl⟩
theorem dX0_change_24 : AtI iX0_change 24 .iadd 1 25 := ⟨by decide +kernel, rfl⟩
theorem dX0_change_25 : AtI iX0_change 25 (.istore_n 3) 1 26 := ⟨by decide +kernel, rfl⟩
theorem dX0_change_26 : AtI iX0_change 26 (.iinc 4 1) 3 29 := ⟨by decide +kernel, rfl⟩
theorem dX0_change_29 : AtJ iX0_change 29 (.goto (-24)) (-24) 32 5 := ⟨by decide +kernel, rfl, by decide⟩
theorem dX0_change_32 : AtI iX0_change 32 (.iload_n 3) 1 33 := ⟨by decide +kernel, rfl⟩
theorem dX0_change_33 : AtI iX0_change 33 .ireturn 1 34 := ⟨by decide +kernel, rfl⟩
theorem dX1_init_0 : AtI iX1_init 0 (.aload_n 0) 1 1 := ⟨by decide +kernel, rfl⟩
theorem dX1_init_1 : AtI iX1_init 1 (.invokespecial 3) 3 4 := ⟨by decide +kernel, rfl⟩
theorem dX1_init_4 : AtI iX1_init 4 (.aload_n 0) 1 5 := ⟨by decide +kernel, rfl⟩
theorem dX1_init_5 : AtI iX1_init 5 (.aload_n 1) 1 6 := ⟨by decide +kernel, rfl⟩
theorem dX1_init_6 : AtI iX1_init 6 (.putfield 9) 3 9 := ⟨by decide +kernel, rfl⟩
theorem dX1_init_9 : AtI iX1_init 9 (.aload_n 0) 1 10 := ⟨by decide +kernel, rfl⟩
theorem dX1_init_10 : AtI iX1_init 10 (.iconst 5) 1 11 := ⟨by decide +kernel, rfl⟩
theorem dX1_init_11 : AtI iX1_init 11 (.putfield 15) 3 14 := ⟨by decide +kernel, rfl⟩
theorem dX1_init_14 : AtI iX1_init 14 (.aload_n 0) 1 15 := ⟨by decide +kernel, rfl⟩
theorem dX1_init_15 : AtI iX1_init 15 (.iconst 2) 1 16 := ⟨by decide +kernel, rfl⟩
theorem dX1_init_16 : AtI iX1_init 16 (.putfield 19) 3 19 := ⟨by decide +kernel, rfl⟩
theorem dX1_init_19 : AtI iX1_init 19 (.aload_n 0) 1 20 := ⟨by decide +kernel, rfl⟩
theorem dX1_init_20 : AtI iX1_init 20 (.iconst 0) 1 21 := ⟨by decide +kernel, rfl⟩
theorem dX1_init_21 : AtI iX1_init 21 (.putfield 22) 3 24 := ⟨by decide +kernel, rfl⟩
theorem dX1_init_24 : AtI iX1_init 24 .return_ 1 25 := ⟨by decide +kernel, rfl⟩
theorem dX1_batter_0 : AtI iX1_batter 0 (.iload_n 3) 1 1 := ⟨by decide +kernel, rfl⟩
theorem dX1_batter_1 : AtI iX1_batter 1 (.istore 5) 2 3 := ⟨by decide +kernel, rfl⟩
theorem dX1_batter_3 : AtI iX1_batter 3 (.iload_n 2) 1 4 := ⟨by decide +kernel, rfl⟩
theorem dX1_batter_4 : AtI iX1_batter 4 (.istore 6) 2 6 := ⟨by decide +kernel, rfl⟩
theorem dX1_batter_6 : AtI iX1_batter 6 (.iload 6) 2 8 := ⟨by decide +kernel, rfl⟩
theorem dX1_batter_8 : AtI iX1_batter 8 (.sipush 672) 3 11 := ⟨by decide +kernel, rfl⟩
theorem dX1_batter_11 : AtJ iX1_batter 11 (.if_icmp .ge 56) 56 14 67 := ⟨by decide +kernel, rfl, by decide⟩
theorem dX1_batter_14 : AtI iX1_batter 14 (.aload_n 0) 1 15 := ⟨by decide +kernel, rfl⟩
theorem dX1_batter_15 : AtI iX1_batter 15 (.getfield 9) 3 18 := ⟨by decide +kernel, rfl⟩
theorem dX1_batter_18 : AtI iX1_batter 18 (.iload 6) 2 20 := ⟨by decide +kernel, rfl⟩
theorem dX1_batter_20 : AtI iX1_batter 20 (.iload_n 1) 1 21 := ⟨by decide +kernel, rfl⟩
theorem dX1_batter_21 : AtI iX1_batter 21 (.invokevirtual 25) 3 24 := ⟨by decide +kernel, rfl⟩
theorem dX1_batter_24 : AtJ iX1_batter 24 (.ifCond .eq 13) 13 27 37 := ⟨by decide +kernel, rfl, by decide⟩
theorem dX1_batter_27 : AtI iX1_batter 27 (.iload 5) 2 29 := ⟨by decide +kernel, rfl⟩
theorem dX1_batter_29 : AtI iX1_batter 29 (.aload_n 0) 1 30 := ⟨by decide +kernel, rfl⟩
theorem dX1_batter_30 : AtI iX1_batter 30 (.getfield 15) 3 33 := ⟨by decide +kernel, rfl⟩
theorem dX1_batter_33 : AtI iX1_batter 33 .isub 1 34 := ⟨by decide +kernel, rfl⟩
theorem dX1_batter_34 : AtJ iX1_batter 34 (.goto 12) 12 37 46 := ⟨by decide +kernel, rfl, by decide⟩
theorem dX1_batter_37 : AtI iX1_batter 37 (.iload_n 3) 1 38 := ⟨by decide +kernel, rfl⟩
theorem dX1_batter_38 : AtI iX1_batter 38 (.iload 5) 2 40 := ⟨by decide +kernel, rfl⟩
theorem dX1_batter_40 : AtI iX1_batter 40 (.iload 4) 2 42 := ⟨by decide +kernel, rfl⟩
theorem dX1_batter_42 : AtI iX1_batter 42 .iadd 1 43 := ⟨by decide +kernel, rfl⟩
theorem dX1_batter_43 : AtI iX1_batter 43 (.invokestatic 31) 3 46 := ⟨by decide +kernel, rfl⟩
theorem dX1_batter_46 : AtI iX1_batter 46 (.istore 5) 2 48 := ⟨by decide +kernel, rfl⟩
theorem dX1_batter_48 : AtI iX1_batter 48 (.iload 5) 2 50 := ⟨by decide +kernel, rfl⟩
theorem dX1_batter_50 : AtJ iX1_batter 50 (.ifCond .gt 11) 11 53 61 := ⟨by decide +kernel, rfl, by decide⟩
theorem dX1_batter_53 : AtI iX1_batter 53 (.aload_n 0) 1 54 := ⟨by decide +kernel, rfl⟩
theorem dX1_batter_54 : AtI iX1_batter 54 (.iconst 0) 1 55 := ⟨by decide +kernel, rfl⟩
theorem dX1_batter_55 : AtI iX1_batter 55 (.putfield 22) 3 58 := ⟨by decide +kernel, rfl⟩
theorem dX1_batter_58 : AtI iX1_batter 58 (.iload 6) 2 60 := ⟨by decide +kernel, rfl⟩
theorem dX1_batter_60 : AtI iX1_batter 60 .ireturn 1 61 := ⟨by decide +kernel, rfl⟩
theorem dX1_batter_61 : AtI iX1_batter 61 (.iinc 6 1) 3 64 := ⟨by decide +kernel, rfl⟩
theorem dX1_batter_64 : AtJ iX1_batter 64 (.goto (-58)) (-58) 67 6 := ⟨by decide +kernel, rfl, by decide⟩
theorem dX1_batter_67 : AtI iX1_batter 67 (.aload_n 0) 1 68 := ⟨by decide +kernel, rfl⟩
theorem dX1_batter_68 : AtI iX1_batter 68 (.iload 5) 2 70 := ⟨by decide +kernel, rfl⟩
theorem dX1_batter_70 : AtI iX1_batter 70 (.putfield 22) 3 73 := ⟨by decide +kernel, rfl⟩
theorem dX1_batter_73 : AtI iX1_batter 73 (.iconst (-1)) 1 74 := ⟨by decide +kernel, rfl⟩
theorem dX1_batter_74 : AtI iX1_batter 74 .ireturn 1 75 := ⟨by decide +kernel, rfl⟩
theorem dX1_leastMends_0 : AtI iX1_leastMends 0 (.aload_n 0) 1 1 := ⟨by decide +kernel, rfl⟩
theorem dX1_leastMends_1 : AtI iX1_leastMends 1 (.iload_n 1) 1 2 := ⟨by decide +kernel, rfl⟩
theorem dX1_leastMends_2 : AtI iX1_leastMends 2 (.iload_n 2) 1 3 := ⟨by decide +kernel, rfl⟩
theorem dX1_leastMends_3 : AtI iX1_leastMends 3 (.iload_n 3) 1 4 := ⟨by decide +kernel, rfl⟩
theorem dX1_leastMends_4 : AtI iX1_leastMends 4 (.bipush 99) 2 6 := ⟨by decide +kernel, rfl⟩
theorem dX1_leastMends_6 : AtI iX1_leastMends 6 (.invokevirtual 37) 3 9 := ⟨by decide +kernel, rfl⟩
theorem dX1_leastMends_9 : AtI iX1_leastMends 9 (.iconst (-1)) 1 10 := ⟨by decide +kernel, rfl⟩
theorem dX1_leastMends_10 : AtJ iX1_leastMends 10 (.if_icmp .eq 5) 5 13 15 := ⟨by decide +kernel, rfl, by decide⟩
theorem dX1_leastMends_13 : AtI iX1_leastMends 13 (.iconst (-1)) 1 14 := ⟨by decide +kernel, rfl⟩
theorem dX1_leastMends_14 : AtI iX1_leastMends 14 .ireturn 1 15 := ⟨by decide +kernel, rfl⟩
theorem dX1_leastMends_15 : AtI iX1_leastMends 15 (.iconst 0) 1 16 := ⟨by decide +kernel, rfl⟩
theorem dX1_leastMends_16 : AtI iX1_leastMends 16 (.istore 4) 2 18 := ⟨by decide +kernel, rfl⟩
theorem dX1_leastMends_18 : AtI iX1_leastMends 18 (.bipush 99) 2 20 := ⟨by decide +kernel, rfl⟩
theorem dX1_leastMends_20 : AtI iX1_leastMends 20 (.istore 5) 2 22 := ⟨by decide +kernel, rfl⟩
theorem dX1_leastMends_22 : AtI iX1_leastMends 22 (.iconst 0) 1 23 := ⟨by decide +kernel, rfl⟩
theorem dX1_leastMends_23 : AtI iX1_leastMends 23 (.istore 6) 2 25 := ⟨by decide +kernel, rfl⟩
theorem dX1_leastMends_25 : AtI iX1_leastMends 25 (.iload 6) 2 27 := ⟨by decide +kernel, rfl⟩
theorem dX1_leastMends_27 : AtI iX1_leastMends 27 (.bipush 7) 2 29 := ⟨by decide +kernel, rfl⟩
theorem dX1_leastMends_29 : AtJ iX1_leastMends 29 (.if_icmp .ge 51) 51 32 80 := ⟨by decide +kernel, rfl, by decide⟩
theorem dX1_leastMends_32 : AtI iX1_leastMends 32 (.iload 4) 2 34 := ⟨by decide +kernel, rfl⟩
theorem dX1_leastMends_34 : AtI iX1_leastMends 34 (.iload 5) 2 36 := ⟨by decide +kernel, rfl⟩
theorem dX1_leastMends_36 : AtJ iX1_leastMends 36 (.if_icmp .ge 44) 44 39 80 := ⟨by decide +kernel, rfl, by decide⟩
theorem dX1_leastMends_39 : AtI iX1_leastMends 39 (.iload 4) 2 41 := ⟨by decide +kernel, rfl⟩
theorem dX1_leastMends_41 : AtI iX1_leastMends 41 (.iload 5) 2 43 := ⟨by decide +kernel, rfl⟩
theorem dX1_leastMends_43 : AtI iX1_leastMends 43 .iadd 1 44 := ⟨by decide +kernel, rfl⟩
theorem dX1_leastMends_44 : AtI iX1_leastMends 44 (.iconst 2) 1 45 := ⟨by decide +kernel, rfl⟩
theorem dX1_leastMends_45 : AtI iX1_leastMends 45 .idiv 1 46 := ⟨by decide +kernel, rfl⟩
theorem dX1_leastMends_46 : AtI iX1_leastMends 46 (.istore 7) 2 48 := ⟨by decide +kernel, rfl⟩
theorem dX1_leastMends_48 : AtI iX1_leastMends 48 (.aload_n 0) 1 49 := ⟨by decide +kernel, rfl⟩
theorem dX1_leastMends_49 : AtI iX1_leastMends 49 (.iload_n 1) 1 50 := ⟨by decide +kernel, rfl⟩
theorem dX1_leastMends_50 : AtI iX1_leastMends 50 (.iload_n 2) 1 51 := ⟨by decide +kernel, rfl⟩
theorem dX1_leastMends_51 : AtI iX1_leastMends 51 (.iload_n 3) 1 52 := ⟨by decide +kernel, rfl⟩
theorem dX1_leastMends_52 : AtI iX1_leastMends 52 (.iload 7) 2 54 := ⟨by decide +kernel, rfl⟩
theorem dX1_leastMends_54 : AtI iX1_leastMends 54 (.invokevirtual 37) 3 57 := ⟨by decide +kernel, rfl⟩
theorem dX1_leastMends_57 : AtI iX1_leastMends 57 (.iconst (-1)) 1 58 := ⟨by decide +kernel, rfl⟩
theorem dX1_leastMends_58 : AtJ iX1_leastMends 58 (.if_icmp .ne 10) 10 61 68 := ⟨by decide +kernel, rfl, by decide⟩
theorem dX1_leastMends_61 : AtI iX1_leastMends 61 (.iload 7) 2 63 := ⟨by decide +kernel, rfl⟩
theorem dX1_leastMends_63 : AtI iX1_leastMends 63 (.istore 5) 2 65 := ⟨by decide +kernel, rfl⟩
theorem dX1_leastMends_65 : AtJ iX1_leastMends 65 (.goto 9) 9 68 74 := ⟨by decide +kernel, rfl, by decide⟩
theorem dX1_leastMends_68 : AtI iX1_leastMends 68 (.iload 7) 2 70 := ⟨by decide +kernel, rfl⟩
theorem dX1_leastMends_70 : AtI iX1_leastMends 70 (.iconst 1) 1 71 := ⟨by decide +kernel, rfl⟩
theorem dX1_leastMends_71 : AtI iX1_leastMends 71 .iadd 1 72 := ⟨by decide +kernel, rfl⟩
theorem dX1_leastMends_72 : AtI iX1_leastMends 72 (.istore 4) 2 74 := ⟨by decide +kernel, rfl⟩
theorem dX1_leastMends_74 : AtI iX1_leastMends 74 (.iinc 6 1) 3 77 := ⟨by decide +kernel, rfl⟩
theorem dX1_leastMends_77 : AtJ iX1_leastMends 77 (.goto (-52)) (-52) 80 25 := ⟨by decide +kernel, rfl, by decide⟩
theorem dX1_leastMends_80 : AtI iX1_leastMends 80 (.iload 4) 2 82 := ⟨by decide +kernel, rfl⟩
theorem dX1_leastMends_82 : AtI iX1_leastMends 82 .ireturn 1 83 := ⟨by decide +kernel, rfl⟩
theorem dJ7_fill_53178_0 : AtI iJ7_fill_53178 0 (.iconst 0) 1 1 := ⟨by decide +kernel, rfl⟩
theorem dJ7_fill_53178_1 : AtI iJ7_fill_53178 1 (.istore_n 2) 1 2 := ⟨by decide +kernel, rfl⟩
theorem dJ7_fill_53178_2 : AtI iJ7_fill_53178 2 (.aload_n 0) 1 3 := ⟨by decide +kernel, rfl⟩
theorem dJ7_fill_53178_3 : AtI iJ7_fill_53178 3 .arraylength 1 4 := ⟨by decide +kernel, rfl⟩
theorem dJ7_fill_53178_4 : AtI iJ7_fill_53178 4 (.istore_n 3) 1 5 := ⟨by decide +kernel, rfl⟩
theorem dJ7_fill_53178_5 : AtI iJ7_fill_53178 5 (.iload_n 2) 1 6 := ⟨by decide +kernel, rfl⟩
theorem dJ7_fill_53178_6 : AtI iJ7_fill_53178 6 (.iload_n 3) 1 7 := ⟨by decide +kernel, rfl⟩
theorem dJ7_fill_53178_7 : AtJ iJ7_fill_53178 7 (.if_icmp .ge 13) 13 10 20 := ⟨by decide +kernel, rfl, by decide⟩
theorem dJ7_fill_53178_10 : AtI iJ7_fill_53178 10 (.aload_n 0) 1 11 := ⟨by decide +kernel, rfl⟩
theorem dJ7_fill_53178_11 : AtI iJ7_fill_53178 11 (.iload_n 2) 1 12 := ⟨by decide +kernel, rfl⟩
theorem dJ7_fill_53178_12 : AtI iJ7_fill_53178 12 (.iload_n 1) 1 13 := ⟨by decide +kernel, rfl⟩
theorem dJ7_fill_53178_13 : AtI iJ7_fill_53178 13 .iastore 1 14 := ⟨by decide +kernel, rfl⟩
theorem dJ7_fill_53178_14 : AtI iJ7_fill_53178 14 (.iinc 2 1) 3 17 := ⟨by decide +kernel, rfl⟩
theorem dJ7_fill_53178_17 : AtJ iJ7_fill_53178 17 (.goto (-12)) (-12) 20 5 := ⟨by decide +kernel, rfl, by decide⟩
theorem dJ7_fill_53178_20 : AtI iJ7_fill_53178 20 .return_ 1 21 := ⟨by decide +kernel, rfl⟩
end
section
/-! decode rows -/
theorem dX2_init_0 : AtI iX2_init 0 (.aload_n 0) 1 1 := ⟨by decide +kernel, rfl⟩
theorem dX2_init_1 : AtI iX2_init 1 (.invokespecial 3) 3 4 := ⟨by decide +kernel, rfl⟩
theorem dX2_init_4 : AtI iX2_init 4 (.aload_n 0) 1 5 := ⟨by decide +kernel, rfl⟩
theorem dX2_init_5 : AtI iX2_init 5 (.bipush 8) 2 7 := ⟨by decide +kernel, rfl⟩
theorem dX2_init_7 : AtI iX2_init 7 (.newarray .int) 2 9 := ⟨by decide +kernel, rfl⟩
theorem dX2_init_9 : AtI iX2_init 9 (.putfield 9) 3 12 := ⟨by decide +kernel, rfl⟩
theorem dX2_init_12 : AtI iX2_init 12 (.aload_n 0) 1 13 := ⟨by decide +kernel, rfl⟩
theorem dX2_init_13 : AtI iX2_init 13 (.bipush 8) 2 15 := ⟨by decide +kernel, rfl⟩
theorem dX2_init_15 : AtI iX2_init 15 (.newarray .int) 2 17 := ⟨by decide +kernel, rfl⟩
theorem dX2_init_17 : AtI iX2_init 17 (.putfield 15) 3 20 := ⟨by decide +kernel, rfl⟩
theorem dX2_init_20 : AtI iX2_init 20 (.aload_n 0) 1 21 := ⟨by decide +kernel, rfl⟩
theorem dX2_init_21 : AtI iX2_init 21 (.aload_n 1) 1 22 := ⟨by decide +kernel, rfl⟩
theorem dX2_init_22 : AtI iX2_init 22 (.putfield 18) 3 25 := ⟨by decide +kernel, rfl⟩
theorem dX2_init_25 : AtI iX2_init 25 (.aload_n 0) 1 26 := ⟨by decide +kernel, rfl⟩
theorem dX2_init_26 : AtI iX2_init 26 (.aload_n 2) 1 27 := ⟨by decide +kernel, rfl⟩
theorem dX2_init_27 : AtI iX2_init 27 (.putfield 22) 3 30 := ⟨by decide +kernel, rfl⟩
theorem dX2_init_30 : AtI iX2_init 30 (.aload_n 0) 1 31 := ⟨by decide +kernel, rfl⟩
theorem dX2_init_31 : AtI iX2_init 31 (.iconst (-1)) 1 32 := ⟨by decide +kernel, rfl⟩
theorem dX2_init_32 : AtI iX2_init 32 (.putfield 26) 3 35 := ⟨by decide +kernel, rfl⟩
theorem dX2_init_35 : AtI iX2_init 35 (.aload_n 0) 1 36 := ⟨by decide +kernel, rfl⟩
theorem dX2_init_36 : AtI iX2_init 36 (.iconst (-1)) 1 37 := ⟨by decide +kernel, rfl⟩
theorem dX2_init_37 : AtI iX2_init 37 (.putfield 30) 3 40 := ⟨by decide +kernel, rfl⟩
theorem dX2_init_40 : AtI iX2_init 40 (.aload_n 0) 1 41 := ⟨by decide +kernel, rfl⟩
theorem dX2_init_41 : AtI iX2_init 41 (.iconst 0) 1 42 := ⟨by decide +kernel, rfl⟩
theorem dX2_init_42 : AtI iX2_init 42 (.putfield 33) 3 45 := ⟨by decide +kernel, rfl⟩
theorem dX2_init_45 : AtI iX2_init 45 .return_ 1 46 := ⟨by decide +kernel, rfl⟩
theorem dX2_seek_0 : AtI iX2_seek 0 (.aload_n 0) 1 1 := ⟨by decide +kernel, rfl⟩
theorem dX2_seek_1 : AtI iX2_seek 1 (.iload_n 2) 1 2 := ⟨by decide +kernel, rfl⟩
theorem dX2_seek_2 : AtI iX2_seek 2 (.putfield 36) 3 5 := ⟨by decide +kernel, rfl⟩
theorem dX2_seek_5 : AtI iX2_seek 5 (.aload_n 0) 1 6 := ⟨by decide +kernel, rfl⟩
theorem dX2_seek_6 : AtI iX2_seek 6 (.iload_n 3) 1 7 := ⟨by decide +kernel, rfl⟩
theorem dX2_seek_7 : AtI iX2_seek 7 (.putfield 39) 3 10 := ⟨by decide +kernel, rfl⟩
theorem dX2_seek_10 : AtI iX2_seek 10 (.aload_n 0) 1 11 := ⟨by decide +kernel, rfl⟩
theorem dX2_seek_11 : AtI iX2_seek 11 (.iconst 1) 1 12 := ⟨by decide +kernel, rfl⟩
theorem dX2_seek_12 : AtI iX2_seek 12 (.iload_n 1) 1 13 := ⟨by decide +kernel, rfl⟩
theorem dX2_seek_13 : AtI iX2_seek 13 .ishl 1 14 := ⟨by decide +kernel, rfl⟩
theorem dX2_seek_14 : AtI iX2_seek 14 (.putfield 42) 3 17 := ⟨by decide +kernel, rfl⟩
theorem dX2_seek_17 : AtI iX2_seek 17 (.aload_n 0) 1 18 := ⟨by decide +kernel, rfl⟩
theorem dX2_seek_18 : AtI iX2_seek 18 (.getfield 9) 3 21 := ⟨by decide +kernel, rfl⟩
theorem dX2_seek_21 : AtI iX2_seek 21 (.iconst 0) 1 22 := ⟨by decide +kernel, rfl⟩
theorem dX2_seek_22 : AtI iX2_seek 22 (.iload_n 1) 1 23 := ⟨by decide +kernel, rfl⟩
theorem dX2_seek_23 : AtI iX2_seek 23 .iastore 1 24 := ⟨by decide +kernel, rfl⟩
theorem dX2_seek_24 : AtI iX2_seek 24 (.aload_n 0) 1 25 := ⟨by decide +kernel, rfl⟩
theorem dX2_seek_25 : AtI iX2_seek 25 (.iconst (-1)) 1 26 := ⟨by decide +kernel, rfl⟩
theorem dX2_seek_26 : AtI iX2_seek 26 (.putfield 26) 3 29 := ⟨by decide +kernel, rfl⟩
theorem dX2_seek_29 : AtI iX2_seek 29 (.aload_n 0) 1 30 := ⟨by decide +kernel, rfl⟩
theorem dX2_seek_30 : AtI iX2_seek 30 (.iconst (-1)) 1 31 := ⟨by decide +kernel, rfl⟩
theorem dX2_seek_31 : AtI iX2_seek 31 (.putfield 30) 3 34 := ⟨by decide +kernel, rfl⟩
theorem dX2_seek_34 : AtI iX2_seek 34 (.aload_n 0) 1 35 := ⟨by decide +kernel, rfl⟩
theorem dX2_seek_35 : AtI iX2_seek 35 (.iconst 0) 1 36 := ⟨by decide +kernel, rfl⟩
theorem dX2_seek_36 : AtI iX2_seek 36 (.putfield 33) 3 39 := ⟨by decide +kernel, rfl⟩
theorem dX2_seek_39 : AtI iX2_seek 39 (.aload_n 0) 1 40 := ⟨by decide +kernel, rfl⟩
theorem dX2_seek_40 : AtI iX2_seek 40 (.iconst 0) 1 41 := ⟨by decide +kernel, rfl⟩
theorem dX2_seek_41 : AtI iX2_seek 41 (.iconst 0) 1 42 := ⟨by decide +kernel, rfl⟩
theorem dX2_seek_42 : AtI iX2_seek 42 (.ldc 45) 2 44 := ⟨by decide +kernel, rfl⟩
theorem dX2_seek_44 : AtI iX2_seek 44 (.invokevirtual 46) 3 47 := ⟨by decide +kernel, rfl⟩
theorem dX2_seek_47 : AtI iX2_seek 47 .return_ 1 48 := ⟨by decide +kernel, rfl⟩
theorem dX2_walk_0 : AtI iX2_walk 0 (.aload_n 0) 1 1 := ⟨by decide +kernel, rfl⟩
theorem dX2_walk_1 : AtI iX2_walk 1 (.getfield 9) 3 4 := ⟨by decide +kernel, rfl⟩
theorem dX2_walk_4 : AtI iX2_walk 4 (.iload_n 1) 1 5 := ⟨by decide +kernel, rfl⟩
theorem dX2_walk_5 : AtI iX2_walk 5 .iaload 1 6 := ⟨by decide +kernel, rfl⟩
theorem dX2_walk_6 : AtI iX2_walk 6 (.aload_n 0) 1 7 := ⟨by decide +kernel, rfl⟩
theorem dX2_walk_7 : AtI iX2_walk 7 (.getfield 36) 3 10 := ⟨by decide +kernel, rfl⟩
theorem dX2_walk_10 : AtJ iX2_walk 10 (.if_icmp .ne 11) 11 13 21 := ⟨by decide +kernel, rfl, by decide⟩
theorem dX2_walk_13 : AtI iX2_walk 13 (.aload_n 0) 1 14 := ⟨by decide +kernel, rfl⟩
theorem dX2_walk_14 : AtI iX2_walk 14 (.iload_n 1) 1 15 := ⟨by decide +kernel, rfl⟩
theorem dX2_walk_15 : AtI iX2_walk 15 (.iload_n 2) 1 16 := ⟨by decide +kernel, rfl⟩
theorem dX2_walk_16 : AtI iX2_walk 16 (.iload_n 3) 1 17 := ⟨by decide +kernel, rfl⟩
theorem dX2_walk_17 : AtI iX2_walk 17 (.invokevirtual 50) 3 20 := ⟨by decide +kernel, rfl⟩
theorem dX2_walk_20 : AtI iX2_walk 20 .return_ 1 21 := ⟨by decide +kernel, rfl⟩
theorem dX2_walk_21 : AtI iX2_walk 21 (.iconst 0) 1 22 := ⟨by decide +kernel, rfl⟩
theorem dX2_walk_22 : AtI iX2_walk 22 (.istore 4) 2 24 := ⟨by decide +kernel, rfl⟩
theorem dX2_walk_24 : AtI iX2_walk 24 (.iload_n 1) 1 25 := ⟨by decide +kernel, rfl⟩
theorem dX2_walk_25 : AtI iX2_walk 25 (.bipush 7) 2 27 := ⟨by decide +kernel, rfl⟩
theorem dX2_walk_27 : AtJ iX2_walk 27 (.if_icmp .ge 172) 172 30 199 := ⟨by decide +kernel, rfl, by decide⟩
theorem dX2_walk_30 : AtI iX2_walk 30 (.iload 4) 2 32 := ⟨by decide +kernel, rfl⟩
theorem dX2_walk_32 : AtI iX2_walk 32 (.aload_n 0) 1 33 := ⟨by decide +kernel, rfl⟩
theorem dX2_walk_33 : AtI iX2_walk 33 (.getfield 18) 3 36 := ⟨by decide +kernel, rfl⟩
theorem dX2_walk_36 : AtI iX2_walk 36 (.getfield 53) 3 39 := ⟨by decide +kernel, rfl⟩
theorem dX2_walk_39 : AtJ iX2_walk 39 (.if_icmp .ge 160) 160 42 199 := ⟨by decide +kernel, rfl, by decide⟩
theorem dX2_walk_42 : AtI iX2_walk 42 (.aload_n 0) 1 43 := ⟨by decide +kernel, rfl⟩
theorem dX2_walk_43 : AtI iX2_walk 43 (.getfield 18) 3 46 := ⟨by decide +kernel, rfl⟩
theorem dX2_walk_46 : AtI iX2_walk 46 (.iload 4) 2 48 := ⟨by decide +kernel, rfl⟩
theorem dX2_walk_48 : AtI iX2_walk 48 (.aload_n 0) 1 49 := ⟨by decide +kernel, rfl⟩
theorem dX2_walk_49 : AtI iX2_walk 49 (.getfield 9) 3 52 := ⟨by decide +kernel, rfl⟩
theorem dX2_walk_52 : AtI iX2_walk 52 (.iload_n 1) 1 53 := ⟨by decide +kernel, rfl⟩
theorem dX2_walk_53 : AtI iX2_walk 53 .iaload 1 54 := ⟨by decide +kernel, rfl⟩
theorem dX2_walk_54 : AtI iX2_walk 54 (.invokevirtual 58) 3 57 := ⟨by decide +kernel, rfl⟩
theorem dX2_walk_57 : AtI iX2_walk 57 (.istore 5) 2 59 := ⟨by decide +kernel, rfl⟩
theorem dX2_walk_59 : AtI iX2_walk 59 (.iload 5) 2 61 := ⟨by decide +kernel, rfl⟩
theorem dX2_walk_61 : AtI iX2_walk 61 (.iconst (-1)) 1 62 := ⟨by decide +kernel, rfl⟩
theorem dX2_walk_62 : AtJ iX2_walk 62 (.if_icmp .eq 131) 131 65 193 := ⟨by decide +kernel, rfl, by decide⟩
theorem dX2_walk_65 : AtI iX2_walk 65 (.aload_n 0) 1 66 := ⟨by decide +kernel, rfl⟩
theorem dX2_walk_66 : AtI iX2_walk 66 (.getfield 42) 3 69 := ⟨by decide +kernel, rfl⟩
theorem dX2_walk_69 : AtI iX2_walk 69 (.iload 5) 2 71 := ⟨by decide +kernel, rfl⟩
theorem dX2_walk_71 : AtI iX2_walk 71 .ishr 1 72 := ⟨by decide +kernel, rfl⟩
theorem dX2_walk_72 : AtI iX2_walk 72 (.iconst 1) 1 73 := ⟨by decide +kernel, rfl⟩
theorem dX2_walk_73 : AtI iX2_walk 73 .iand 1 74 := ⟨by decide +kernel, rfl⟩
theorem dX2_walk_74 : AtJ iX2_walk 74 (.ifCond .ne 119) 119 77 193 := ⟨by decide +kernel, rfl, by decide⟩
theorem dX2_walk_77 : AtI iX2_walk 77 (.iload_n 2) 1 78 := ⟨by decide +kernel, rfl⟩
theorem dX2_walk_78 : AtI iX2_walk 78 (.aload_n 0) 1 79 := ⟨by decide +kernel, rfl⟩
theorem dX2_walk_79 : AtI iX2_walk 79 (.getfield 18) 3 82 := ⟨by decide +kernel, rfl⟩
theorem dX2_walk_82 : AtI iX2_walk 82 (.getfield 62) 3 85 := ⟨by decide +kernel, rfl⟩
theorem dX2_walk_85 : AtI iX2_walk 85 (.iload 4) 2 87 := ⟨by decide +kernel, rfl⟩
theorem dX2_walk_87 : AtI iX2_walk 87 .iaload 1 88 := ⟨by decide +kernel, rfl⟩
theorem dX2_walk_88 : AtI iX2_walk 88 .iadd 1 89 := ⟨by decide +kernel, rfl⟩
theorem dX2_walk_89 : AtI iX2_walk 89 (.istore 6) 2 91 := ⟨by decide +kernel, rfl⟩
theorem dX2_walk_91 : AtI iX2_walk 91 (.iload 5) 2 93 := ⟨by decide +kernel, rfl⟩
theorem dX2_walk_93 : AtI iX2_walk 93 (.aload_n 0) 1 94 := ⟨by decide +kernel, rfl⟩
theorem dX2_walk_94 : AtI iX2_walk 94 (.getfield 36) 3 97 := ⟨by decide +kernel, rfl⟩
theorem dX2_walk_97 : AtJ iX2_walk 97 (.if_icmp .eq 26) 26 100 123 := ⟨by decide +kernel, rfl, by decide⟩
theorem dX2_walk_100 : AtI iX2_walk 100 (.aload_n 0) 1 101 := ⟨by decide +kernel, rfl⟩
theorem dX2_walk_101 : AtI iX2_walk 101 (.getfield 22) 3 104 := ⟨by decide +kernel, rfl⟩
theorem dX2_walk_104 : AtI iX2_walk 104 (.aload_n 0) 1 105 := ⟨by decide +kernel, rfl⟩
theorem dX2_walk_105 : AtI iX2_walk 105 (.getfield 39) 3 108 := ⟨by decide +kernel, rfl⟩
theorem dX2_walk_108 : AtI iX2_walk 108 (.iload 6) 2 110 := ⟨by decide +kernel, rfl⟩
theorem dX2_walk_110 : AtI iX2_walk 110 .iadd 1 111 := ⟨by decide +kernel, rfl⟩
theorem dX2_walk_111 : AtI iX2_walk 111 (.iload 5) 2 113 := ⟨by decide +kernel, rfl⟩
theorem dX2_walk_113 : AtI iX2_walk 113 (.invokevirtual 65) 3 116 := ⟨by decide +kernel, rfl⟩
theorem dX2_walk_116 : AtJ iX2_walk 116 (.ifCond .eq 7) 7 119 123 := ⟨by decide +kernel, rfl, by decide⟩
theorem dX2_walk_119 : AtI iX2_walk 119 (.iconst 1) 1 120 := ⟨by decide +kernel, rfl⟩
theorem dX2_walk_120 : AtJ iX2_walk 120 (.goto 4) 4 123 124 := ⟨by decide +kernel, rfl, by decide⟩
theorem dX2_walk_123 : AtI iX2_walk 123 (.iconst 0) 1 124 := ⟨by decide +kernel, rfl⟩
theorem dX2_walk_124 : AtI iX2_walk 124 (.istore 7) 2 126 := ⟨by decide +kernel, rfl⟩
theorem dX2_walk_126 : AtI iX2_walk 126 (.aload_n 0) 1 127 := ⟨by decide +kernel, rfl⟩
theorem dX2_walk_127 : AtI iX2_walk 127 (.getfield 9) 3 130 := ⟨by decide +kernel, rfl⟩
theorem dX2_walk_130 : AtI iX2_walk 130 (.iload_n 1) 1 131 := ⟨by decide +kernel, rfl⟩
theorem dX2_walk_131 : AtI iX2_walk 131 (.iconst 1) 1 132 := ⟨by decide +kernel, rfl⟩
theorem dX2_walk_132 : AtI iX2_walk 132 .iadd 1 133 := ⟨by decide +kernel, rfl⟩
theorem dX2_walk_133 : AtI iX2_walk 133 (.iload 5) 2 135 := ⟨by decide +kernel, rfl⟩
theorem dX2_walk_135 : AtI iX2_walk 135 .iastore 1 136 := ⟨by decide +kernel, rfl⟩
theorem dX2_walk_136 : AtI iX2_walk 136 (.aload_n 0) 1 137 := ⟨by decide +kernel, rfl⟩
theorem dX2_walk_137 : AtI iX2_walk 137 .dup 1 138 := ⟨by decide +kernel, rfl⟩
theorem dX2_walk_138 : AtI iX2_walk 138 (.getfield 42) 3 141 := ⟨by decide +kernel, rfl⟩
theorem dX2_walk_141 : AtI iX2_walk 141 (.iconst 1) 1 142 := ⟨by decide +kernel, rfl⟩
theorem dX2_walk_142 : AtI iX2_walk 142 (.iload 5) 2 144 := ⟨by decide +kernel, rfl⟩
theorem dX2_walk_144 : AtI iX2_walk 144 .ishl 1 145 := ⟨by decide +kernel, rfl⟩
theorem dX2_walk_145 : AtI iX2_walk 145 .ior 1 146 := ⟨by decide +kernel, rfl⟩
theorem dX2_walk_146 : AtI iX2_walk 146 (.putfield 42) 3 149 := ⟨by decide +kernel, rfl⟩
theorem dX2_walk_149 : AtI iX2_walk 149 (.aload_n 0) 1 150 := ⟨by decide +kernel, rfl⟩
theorem dX2_walk_150 : AtI iX2_walk 150 (.iload_n 1) 1 151 := ⟨by decide +kernel, rfl⟩
theorem dX2_walk_151 : AtI iX2_walk 151 (.iconst 1) 1 152 := ⟨by decide +kernel, rfl⟩
theorem dX2_walk_152 : AtI iX2_walk 152 .iadd 1 153 := ⟨by decide +kernel, rfl⟩
theorem dX2_walk_153 : AtI iX2_walk 153 (.iload 6) 2 155 := ⟨by decide +kernel, rfl⟩
theorem dX2_walk_155 : AtI iX2_walk 155 (.iload 7) 2 157 := ⟨by decide +kernel, rfl⟩
theorem dX2_walk_157 : AtJ iX2_walk 157 (.ifCond .eq 17) 17 160 174 := ⟨by decide +kernel, rfl, by decide⟩
theorem dX2_walk_160 : AtI iX2_walk 160 (.iload_n 3) 1 161 := ⟨by decide +kernel, rfl⟩
theorem dX2_walk_161 : AtI iX2_walk 161 (.bipush 16) 2 163 := ⟨by decide +kernel, rfl⟩
theorem dX2_walk_163 : AtI iX2_walk 163 .idiv 1 164 := ⟨by decide +kernel, rfl⟩
theorem dX2_walk_164 : AtI iX2_walk 164 (.aload_n 0) 1 165 := ⟨by decide +kernel, rfl⟩
theorem dX2_walk_165 : AtI iX2_walk 165 (.iload 5) 2 167 := ⟨by decide +kernel, rfl⟩
theorem dX2_walk_167 : AtI iX2_walk 167 (.invokevirtual 71) 3 170 := ⟨by decide +kernel, rfl⟩
theorem dX2_walk_170 : AtI iX2_walk 170 .imul 1 171 := ⟨by decide +kernel, rfl⟩
theorem dX2_walk_171 : AtJ iX2_walk 171 (.goto 4) 4 174 175 := ⟨by decide +kernel, rfl, by decide⟩
theorem dX2_walk_174 : AtI iX2_walk 174 (.iload_n 3) 1 175 := ⟨by decide +kernel, rfl⟩
theorem dX2_walk_175 : AtI iX2_walk 175 (.invokevirtual 46) 3 178 := ⟨by decide +kernel, rfl⟩
theorem dX2_walk_178 : AtI iX2_walk 178 (.aload_n 0) 1 179 := ⟨by decide +kernel, rfl⟩
theorem dX2_walk_179 : AtI iX2_walk 179 .dup 1 180 := ⟨by decide +kernel, rfl⟩
theorem dX2_walk_180 : AtI iX2_walk 180 (.getfield 42) 3 183 := ⟨by decide +kernel, rfl⟩
theorem dX2_walk_183 : AtI iX2_walk 183 (.iconst 1) 1 184 := ⟨by decide +kernel, rfl⟩
theorem dX2_walk_184 : AtI iX2_walk 184 (.iload 5) 2 186 := ⟨by decide +kernel, rfl⟩
theorem dX2_walk_186 : AtI iX2_walk 186 .ishl 1 187 := ⟨by decide +kernel, rfl⟩
theorem dX2_walk_187 : AtI iX2_walk 187 (.iconst (-1)) 1 188 := ⟨by decide +kernel, rfl⟩
theorem dX2_walk_188 : AtI iX2_walk 188 .ixor 1 189 := ⟨by decide +kernel, rfl⟩
theorem dX2_walk_189 : AtI iX2_walk 189 .iand 1 190 := ⟨by decide +kernel, rfl⟩
theorem dX2_walk_190 : AtI iX2_walk 190 (.putfield 42) 3 193 := ⟨by decide +kernel, rfl⟩
theorem dX2_walk_193 : AtI iX2_walk 193 (.iinc 4 1) 3 196 := ⟨by decide +kernel, rfl⟩
theorem dX2_walk_196 : AtJ iX2_walk 196 (.goto (-172)) (-172) 199 24 := ⟨by decide +kernel, rfl, by decide⟩
theorem dX2_walk_199 : AtI iX2_walk 199 .return_ 1 200 := ⟨by decide +kernel, rfl⟩
theorem dX2_freeOf_0 : AtI iX2_freeOf 0 (.bipush 16) 2 2 := ⟨by decide +kernel, rfl⟩
theorem dX2_freeOf_2 : AtI iX2_freeOf 2 (.aload_n 0) 1 3 := ⟨by decide +kernel, rfl⟩
theorem dX2_freeOf_3 : AtI iX2_freeOf 3 (.getfield 22) 3 6 := ⟨by decide +kernel, rfl⟩
theorem dX2_freeOf_6 : AtI iX2_freeOf 6 (.iload_n 1) 1 7 := ⟨by decide +kernel, rfl⟩
theorem dX2_freeOf_7 : AtI iX2_freeOf 7 (.iconst 2) 1 8 := ⟨by decide +kernel, rfl⟩
theorem dX2_freeOf_8 : AtI iX2_freeOf 8 (.invokevirtual 75) 3 11 := ⟨by decide +kernel, rfl⟩
theorem dX2_freeOf_11 : AtI iX2_freeOf 11 .isub 1 12 := ⟨by decide +kernel, rfl⟩
theorem dX2_freeOf_12 : AtI iX2_freeOf 12 .ireturn 1 13 := ⟨by decide +kernel, rfl⟩
theorem dX2_arrive_0 : AtI iX2_arrive 0 (.aload_n 0) 1 1 := ⟨by decide +kernel, rfl⟩
theorem dX2_arrive_1 : AtI iX2_arrive 1 (.getfield 26) 3 4 := ⟨by decide +kernel, rfl⟩
theorem dX2_arrive_4 : AtI iX2_arrive 4 (.iconst (-1)) 1 5 := ⟨by decide +kernel, rfl⟩
theorem dX2_arrive_5 : AtJ iX2_arrive 5 (.if_icmp .eq 13) 13 8 18 := ⟨by decide +kernel, rfl, by decide⟩
theorem dX2_arrive_8 : AtI iX2_arrive 8 (.aload_n 0) 1 9 := ⟨by decide +kernel, rfl⟩
theorem dX2_arrive_9 : AtI iX2_arrive 9 (.iload_n 2) 1 10 := ⟨by decide +kernel, rfl⟩
theorem dX2_arrive_10 : AtI iX2_arrive 10 (.iload_n 3) 1 11 := ⟨by decide +kernel, rfl⟩
theorem dX2_arrive_11 : AtI iX2_arrive 11 (.invokevirtual 78) 3 14 := ⟨by decide +kernel, rfl⟩
theorem dX2_arrive_14 : AtJ iX2_arrive 14 (.ifCond .ne 4) 4 17 18 := ⟨by decide +kernel, rfl, by decide⟩
theorem dX2_arrive_17 : AtI iX2_arrive 17 .return_ 1 18 := ⟨by decide +kernel, rfl⟩
theorem dX2_arrive_18 : AtI iX2_arrive 18 (.aload_n 0) 1 19 := ⟨by decide +kernel, rfl⟩
theorem dX2_arrive_19 : AtI iX2_arrive 19 (.iload_n 1) 1 20 := ⟨by decide +kernel, rfl⟩
theorem dX2_arrive_20 : AtI iX2_arrive 20 (.putfield 26) 3 23 := ⟨by decide +kernel, rfl⟩
theorem dX2_arrive_23 : AtI iX2_arrive 23 (.aload_n 0) 1 24 := ⟨by decide +kernel, rfl⟩
theorem dX2_arrive_24 : AtI iX2_arrive 24 (.iload_n 2) 1 25 := ⟨by decide +kernel, rfl⟩
theorem dX2_arrive_25 : AtI iX2_arrive 25 (.putfield 30) 3 28 := ⟨by decide +kernel, rfl⟩
theorem dX2_arrive_28 : AtI iX2_arrive 28 (.aload_n 0) 1 29 := ⟨by decide +kernel, rfl⟩
theorem dX2_arrive_29 : AtI iX2_arrive 29 (.iload_n 3) 1 30 := ⟨by decide +kernel, rfl⟩
theorem dX2_arrive_30 : AtI iX2_arrive 30 (.putfield 33) 3 33 := ⟨by decide +kernel, rfl⟩
theorem dX2_arrive_33 : AtI iX2_arrive 33 (.aload_n 0) 1 34 := ⟨by decide +kernel, rfl⟩
theorem dX2_arrive_34 : AtI iX2_arrive 34 (.getfield 9) 3 37 := ⟨by decide +kernel, rfl⟩
theorem dX2_arrive_37 : AtI iX2_arrive 37 (.iconst 0) 1 38 := ⟨by decide +kernel, rfl⟩
theorem dX2_arrive_38 : AtI iX2_arrive 38 (.aload_n 0) 1 39 := ⟨by decide +kernel, rfl⟩
theorem dX2_arrive_39 : AtI iX2_arrive 39 (.getfield 15) 3 42 := ⟨by decide +kernel, rfl⟩
theorem dX2_arrive_42 : AtI iX2_arrive 42 (.iconst 0) 1 43 := ⟨by decide +kernel, rfl⟩
theorem dX2_arrive_43 : AtI iX2_arrive 43 (.iload_n 1) 1 44 := ⟨by decide +kernel, rfl⟩
theorem dX2_arrive_44 : AtI iX2_arrive 44 (.iconst 1) 1 45 := ⟨by decide +kernel, rfl⟩
theorem dX2_arrive_45 : AtI iX2_arrive 45 .iadd 1 46 := ⟨by decide +kernel, rfl⟩
theorem dX2_arrive_46 : AtI iX2_arrive 46 (.invokestatic 81) 3 49 := ⟨by decide +kernel, rfl⟩
theorem dX2_arrive_49 : AtI iX2_arrive 49 .return_ 1 50 := ⟨by decide +kernel, rfl⟩
theorem dX2_isBetter_0 : AtI iX2_isBetter 0 (.iload_n 2) 1 1 := ⟨by decide +kernel, rfl⟩
theorem dX2_isBetter_1 : AtI iX2_isBetter 1 (.aload_n 0) 1 2 := ⟨by decide +kernel, rfl⟩
theorem dX2_isBetter_2 : AtI iX2_isBetter 2 (.getfield 33) 3 5 := ⟨by decide +kernel, rfl⟩
theorem dX2_isBetter_5 : AtJ iX2_isBetter 5 (.if_icmp .eq 17) 17 8 22 := ⟨by decide +kernel, rfl, by decide⟩
theorem dX2_isBetter_8 : AtI iX2_isBetter 8 (.iload_n 2) 1 9 := ⟨by decide +kernel, rfl⟩
theorem dX2_isBetter_9 : AtI iX2_isBetter 9 (.aload_n 0) 1 10 := ⟨by decide +kernel, rfl⟩
theorem dX2_isBetter_10 : AtI iX2_isBetter 10 (.getfield 33) 3 13 := ⟨by decide +kernel, rfl⟩
theorem dX2_isBetter_13 : AtJ iX2_isBetter 13 (.if_icmp .le 7) 7 16 20 := ⟨by decide +kernel, rfl, by decide⟩
theorem dX2_isBetter_16 : AtI iX2_isBetter 16 (.iconst 1) 1 17 := ⟨by decide +kernel, rfl⟩
theorem dX2_isBetter_17 : AtJ iX2_isBetter 17 (.goto 4) 4 20 21 := ⟨by decide +kernel, rfl, by decide⟩
theorem dX2_isBetter_20 : AtI iX2_isBetter 20 (.iconst 0) 1 21 := ⟨by decide +kernel, rfl⟩
theorem dX2_isBetter_21 : AtI iX2_isBetter 21 .ireturn 1 22 := ⟨by decide +kernel, rfl⟩
theorem dX2_isBetter_22 : AtI iX2_isBetter 22 (.iload_n 1) 1 23 := ⟨by decide +kernel, rfl⟩
theorem dX2_isBetter_23 : AtI iX2_isBetter 23 (.aload_n 0) 1 24 := ⟨by decide +kernel, rfl⟩
theorem dX2_isBetter_24 : AtI iX2_isBetter 24 (.getfield 30) 3 27 := ⟨by decide +kernel, rfl⟩
theorem dX2_isBetter_27 : AtJ iX2_isBetter 27 (.if_icmp .eq 17) 17 30 44 := ⟨by decide +kernel, rfl, by decide⟩
theorem dX2_isBetter_30 : AtI iX2_isBetter 30 (.iload_n 1) 1 31 := ⟨by decide +kernel, rfl⟩
theorem dX2_isBetter_31 : AtI iX2_isBetter 31 (.aload_n 0) 1 32 := ⟨by decide +kernel, rfl⟩
theorem dX2_isBetter_32 : AtI iX2_isBetter 32 (.getfield 30) 3 35 := ⟨by decide +kernel, rfl⟩
theorem dX2_isBetter_35 : AtJ iX2_isBetter 35 (.if_icmp .ge 7) 7 38 42 := ⟨by decide +kernel, rfl, by decide⟩
theorem dX2_isBetter_38 : AtI iX2_isBetter 38 (.iconst 1) 1 39 := ⟨by decide +kernel, rfl⟩
theorem dX2_isBetter_39 : AtJ iX2_isBetter 39 (.goto 4) 4 42 43 := ⟨by decide +kernel, rfl, by decide⟩
theorem dX2_isBetter_42 : AtI iX2_isBetter 42 (.iconst 0) 1 43 := ⟨by decide +kernel, rfl⟩
theorem dX2_isBetter_43 : AtI iX2_isBetter 43 .ireturn 1 44 := ⟨by decide +kernel, rfl⟩
theorem dX2_isBetter_44 : AtI iX2_isBetter 44 (.iconst 0) 1 45 := ⟨by decide +kernel, rfl⟩
theorem dX2_isBetter_45 : AtI iX2_isBetter 45 (.istore_n 3) 1 46 := ⟨by decide +kernel, rfl⟩
theorem dX2_isBetter_46 : AtI iX2_isBetter 46 (.iload_n 3) 1 47 := ⟨by decide +kernel, rfl⟩
theorem dX2_isBetter_47 : AtI iX2_isBetter 47 (.aload_n 0) 1 48 := ⟨by decide +kernel, rfl⟩
theorem dX2_isBetter_48 : AtI iX2_isBetter 48 (.getfield 26) 3 51 := ⟨by decide +kernel, rfl⟩
theorem dX2_isBetter_51 : AtJ iX2_isBetter 51 (.if_icmp .gt 45) 45 54 96 := ⟨by decide +kernel, rfl, by decide⟩
theorem dX2_isBetter_54 : AtI iX2_isBetter 54 (.aload_n 0) 1 55 := ⟨by decide +kernel, rfl⟩
theorem dX2_isBetter_55 : AtI iX2_isBetter 55 (.getfield 9) 3 58 := ⟨by decide +kernel, rfl⟩
theorem dX2_isBetter_58 : AtI iX2_isBetter 58 (.iload_n 3) 1 59 := ⟨by decide +kernel, rfl⟩
theorem dX2_isBetter_59 : AtI iX2_isBetter 59 .iaload 1 60 := ⟨by decide +kernel, rfl⟩
theorem dX2_isBetter_60 : AtI iX2_isBetter 60 (.aload_n 0) 1 61 := ⟨by decide +kernel, rfl⟩
theorem dX2_isBetter_61 : AtI iX2_isBetter 61 (.getfield 15) 3 64 := ⟨by decide +kernel, rfl⟩
theorem dX2_isBetter_64 : AtI iX2_isBetter 64 (.iload_n 3) 1 65 := ⟨by decide +kernel, rfl⟩
theorem dX2_isBetter_65 : AtI iX2_isBetter 65 .iaload 1 66 := ⟨by decide +kernel, rfl⟩
theorem dX2_isBetter_66 : AtJ iX2_isBetter 66 (.if_icmp .eq 24) 24 69 90 := ⟨by decide +kernel, rfl, by decide⟩
theorem dX2_isBetter_69 : AtI iX2_isBetter 69 (.aload_n 0) 1 70 := ⟨by decide +kernel, rfl⟩
theorem dX2_isBetter_70 : AtI iX2_isBetter 70 (.getfield 9) 3 73 := ⟨by decide +kernel, rfl⟩
theorem dX2_isBetter_73 : AtI iX2_isBetter 73 (.iload_n 3) 1 74 := ⟨by decide +kernel, rfl⟩
theorem dX2_isBetter_74 : AtI iX2_isBetter 74 .iaload 1 75 := ⟨by decide +kernel, rfl⟩
theorem dX2_isBetter_75 : AtI iX2_isBetter 75 (.aload_n 0) 1 76 := ⟨by decide +kernel, rfl⟩
theorem dX2_isBetter_76 : AtI iX2_isBetter 76 (.getfield 15) 3 79 := ⟨by decide +kernel, rfl⟩
theorem dX2_isBetter_79 : AtI iX2_isBetter 79 (.iload_n 3) 1 80 := ⟨by decide +kernel, rfl⟩
theorem dX2_isBetter_80 : AtI iX2_isBetter 80 .iaload 1 81 := ⟨by decide +kernel, rfl⟩
theorem dX2_isBetter_81 : AtJ iX2_isBetter 81 (.if_icmp .ge 7) 7 84 88 := ⟨by decide +kernel, rfl, by decide⟩
theorem dX2_isBetter_84 : AtI iX2_isBetter 84 (.iconst 1) 1 85 := ⟨by decide +kernel, rfl⟩
theorem dX2_isBetter_85 : AtJ iX2_isBetter 85 (.goto 4) 4 88 89 := ⟨by decide +kernel, rfl, by decide⟩
theorem dX2_isBetter_88 : AtI iX2_isBetter 88 (.iconst 0) 1 89 := ⟨by decide +kernel, rfl⟩
theorem dX2_isBetter_89 : AtI iX2_isBetter 89 .ireturn 1 90 := ⟨by decide +kernel, rfl⟩
theorem dX2_isBetter_90 : AtI iX2_isBetter 90 (.iinc 3 1) 3 93 := ⟨by decide +kernel, rfl⟩
theorem dX2_isBetter_93 : AtJ iX2_isBetter 93 (.goto (-47)) (-47) 96 46 := ⟨by decide +kernel, rfl, by decide⟩
theorem dX2_isBetter_96 : AtI iX2_isBetter 96 (.iconst 0) 1 97 := ⟨by decide +kernel, rfl⟩
theorem dX2_isBetter_97 : AtI iX2_isBetter 97 .ireturn 1 98 := ⟨by decide +kernel, rfl⟩
theorem dX2_commonBits_0 : AtI iX2_commonBits 0 (.iconst 0) 1 1 := ⟨by decide +kernel, rfl⟩
theorem dX2_commonBits_1 : AtI iX2_commonBits 1 (.istore_n 1) 1 2 := ⟨by decide +kernel, rfl⟩
theorem dX2_commonBits_2 : AtI iX2_commonBits 2 (.iload_n 1) 1 3 := ⟨by decide +kernel, rfl⟩
theorem dX2_commonBits_3 : AtI iX2_commonBits 3 (.bipush 24) 2 5 := ⟨by decide +kernel, rfl⟩
theorem dX2_commonBits_5 : AtJ iX2_commonBits 5 (.if_icmp .ge 20) 20 8 25 := ⟨by decide +kernel, rfl, by decide⟩
theorem dX2_commonBits_8 : AtI iX2_commonBits 8 (.aload_n 0) 1 9 := ⟨by decide +kernel, rfl⟩
theorem dX2_commonBits_9 : AtI iX2_commonBits 9 (.getfield 33) 3 12 := ⟨by decide +kernel, rfl⟩
theorem dX2_commonBits_12 : AtI iX2_commonBits 12 (.iload_n 1) 1 13 := ⟨by decide +kernel, rfl⟩
theorem dX2_commonBits_13 : AtI iX2_commonBits 13 .ishr 1 14 := ⟨by decide +kernel, rfl⟩
theorem dX2_commonBits_14 : AtI iX2_commonBits 14 (.iconst 1) 1 15 := ⟨by decide +kernel, rfl⟩
theorem dX2_commonBits_15 : AtI iX2_commonBits 15 .iand 1 16 := ⟨by decide +kernel, rfl⟩
theorem dX2_commonBits_16 : AtJ iX2_commonBits 16 (.ifCond .ne 9) 9 19 25 := ⟨by decide +kernel, rfl, by decide⟩
theorem dX2_commonBits_19 : AtI iX2_commonBits 19 (.iinc 1 1) 3 22 := ⟨by decide +kernel, rfl⟩
theorem dX2_commonBits_22 : AtJ iX2_commonBits 22 (.goto (-20)) (-20) 25 2 := ⟨by decide +kernel, rfl, by decide⟩
theorem dX2_commonBits_25 : AtI iX2_commonBits 25 (.iload_n 1) 1 26 := ⟨by decide +kernel, rfl⟩
theorem dX2_commonBits_26 : AtI iX2_commonBits 26 .ireturn 1 27 := ⟨by decide +kernel, rfl⟩
theorem dX2_above_0 : AtI iX2_above 0 (.aload_n 0) 1 1 := ⟨by decide +kernel, rfl⟩
theorem dX2_above_1 : AtI iX2_above 1 (.getfield 33) 3 4 := ⟨by decide +kernel, rfl⟩
theorem dX2_above_4 : AtI iX2_above 4 (.aload_n 0) 1 5 := ⟨by decide +kernel, rfl⟩
theorem dX2_above_5 : AtI iX2_above 5 (.invokevirtual 87) 3 8 := ⟨by decide +kernel, rfl⟩
theorem dX2_above_8 : AtI iX2_above 8 .ishr 1 9 := ⟨by decide +kernel, rfl⟩
theorem dX2_above_9 : AtI iX2_above 9 .ireturn 1 10 := ⟨by decide +kernel, rfl⟩
theorem dX2_below_0 : AtI iX2_below 0 (.iconst 1) 1 1 := ⟨by decide +kernel, rfl⟩
theorem dX2_below_1 : AtI iX2_below 1 (.bipush 24) 2 3 := ⟨by decide +kernel, rfl⟩
theorem dX2_below_3 : AtI iX2_below 3 (.aload_n 0) 1 4 := ⟨by decide +kernel, rfl⟩
theorem dX2_below_4 : AtI iX2_below 4 (.invokevirtual 87) 3 7 := ⟨by decide +kernel, rfl⟩
theorem dX2_below_7 : AtI iX2_below 7 .isub 1 8 := ⟨by decide +kernel, rfl⟩
theorem dX2_below_8 : AtI iX2_below 8 .ishl 1 9 := ⟨by decide +kernel, rfl⟩
theorem dX2_below_9 : AtI iX2_below 9 .ireturn 1 10 := ⟨by decide +kernel, rfl⟩
theorem dX2_landAt_0 : AtI iX2_landAt 0 (.iload_n 1) 1 1 := ⟨by decide +kernel, rfl⟩
theorem dX2_landAt_1 : AtJ iX2_landAt 1 (.ifCond .lt 20) 20 4 21 := ⟨by decide +kernel, rfl, by decide⟩
theorem dX2_landAt_4 : AtI iX2_landAt 4 (.iload_n 1) 1 5 := ⟨by decide +kernel, rfl⟩
theorem dX2_landAt_5 : AtI iX2_landAt 5 (.aload_n 0) 1 6 := ⟨by decide +kernel, rfl⟩
theorem dX2_landAt_6 : AtI iX2_landAt 6 (.getfield 26) 3 9 := ⟨by decide +kernel, rfl⟩
theorem dX2_landAt_9 : AtJ iX2_landAt 9 (.if_icmp .gt 12) 12 12 21 := ⟨by decide +kernel, rfl, by decide⟩
theorem dX2_landAt_12 : AtI iX2_landAt 12 (.aload_n 0) 1 13 := ⟨by decide +kernel, rfl⟩
theorem dX2_landAt_13 : AtI iX2_landAt 13 (.getfield 15) 3 16 := ⟨by decide +kernel, rfl⟩
theorem dX2_landAt_16 : AtI iX2_landAt 16 (.iload_n 1) 1 17 := ⟨by decide +kernel, rfl⟩
theorem dX2_landAt_17 : AtI iX2_landAt 17 .iaload 1 18 := ⟨by decide +kernel, rfl⟩
theorem dX2_landAt_18 : AtJ iX2_landAt 18 (.goto 4) 4 21 22 := ⟨by decide +kernel, rfl, by decide⟩
theorem dX2_landAt_21 : AtI iX2_landAt 21 (.iconst (-1)) 1 22 := ⟨by decide +kernel, rfl⟩
theorem dX2_landAt_22 : AtI iX2_landAt 22 .ireturn 1 23 := ⟨by decide +kernel, rfl⟩
theorem dX3_init_0 : AtI iX3_init 0 (.aload_n 0) 1 1 := ⟨by decide +kernel, rfl⟩
theorem dX3_init_1 : AtI iX3_init 1 (.invokespecial 3) 3 4 := ⟨by decide +kernel, rfl⟩
theorem dX3_init_4 : AtI iX3_init 4 (.aload_n 0) 1 5 := ⟨by decide +kernel, rfl⟩
theorem dX3_init_5 : AtI iX3_init 5 (.bipush 24) 2 7 := ⟨by decide +kernel, rfl⟩
theorem dX3_init_7 : AtI iX3_init 7 (.newarray .int) 2 9 := ⟨by decide +kernel, rfl⟩
theorem dX3_init_9 : AtI iX3_init 9 (.putfield 11) 3 12 := ⟨by decide +kernel, rfl⟩
theorem dX3_init_12 : AtI iX3_init 12 (.aload_n 0) 1 13 := ⟨by decide +kernel, rfl⟩
theorem dX3_init_13 : AtI iX3_init 13 (.bipush 24) 2 15 := ⟨by decide +kernel, rfl⟩
theorem dX3_init_15 : AtI iX3_init 15 (.newarray .int) 2 17 := ⟨by decide +kernel, rfl⟩
theorem dX3_init_17 : AtI iX3_init 17 (.putfield 15) 3 20 := ⟨by decide +kernel, rfl⟩
theorem dX3_init_20 : AtI iX3_init 20 (.aload_n 0) 1 21 := ⟨by decide +kernel, rfl⟩
theorem dX3_init_21 : AtI iX3_init 21 (.aload_n 1) 1 22 := ⟨by decide +kernel, rfl⟩
theorem dX3_init_22 : AtI iX3_init 22 (.putfield 18) 3 25 := ⟨by decide +kernel, rfl⟩
theorem dX3_init_25 : AtI iX3_init 25 (.aload_n 0) 1 26 := ⟨by decide +kernel, rfl⟩
theorem dX3_init_26 : AtI iX3_init 26 (.aload_n 2) 1 27 := ⟨by decide +kernel, rfl⟩
theorem dX3_init_27 : AtI iX3_init 27 (.putfield 22) 3 30 := ⟨by decide +kernel, rfl⟩
theorem dX3_init_30 : AtI iX3_init 30 (.aload_n 0) 1 31 := ⟨by decide +kernel, rfl⟩
theorem dX3_init_31 : AtI iX3_init 31 (.iconst 0) 1 32 := ⟨by decide +kernel, rfl⟩
theorem dX3_init_32 : AtI iX3_init 32 (.putfield 26) 3 35 := ⟨by decide +kernel, rfl⟩
theorem dX3_init_35 : AtI iX3_init 35 .return_ 1 36 := ⟨by decide +kernel, rfl⟩
theorem dX3_firstStart_0 : AtI iX3_firstStart 0 (.aload_n 0) 1 1 := ⟨by decide +kernel, rfl⟩
theorem dX3_firstStart_1 : AtI iX3_firstStart 1 (.iconst 0) 1 2 := ⟨by decide +kernel, rfl⟩
theorem dX3_firstStart_2 : AtI iX3_firstStart 2 (.putfield 26) 3 5 := ⟨by decide +kernel, rfl⟩
theorem dX3_firstStart_5 : AtI iX3_firstStart 5 (.aload_n 0) 1 6 := ⟨by decide +kernel, rfl⟩
theorem dX3_firstStart_6 : AtI iX3_firstStart 6 (.getfield 18) 3 9 := ⟨by decide +kernel, rfl⟩
theorem dX3_firstStart_9 : AtI iX3_firstStart 9 (.iload_n 1) 1 10 := ⟨by decide +kernel, rfl⟩
theorem dX3_firstStart_10 : AtI iX3_firstStart 10 (.iload_n 2) 1 11 := ⟨by decide +kernel, rfl⟩
theorem dX3_firstStart_11 : AtI iX3_firstStart 11 (.invokevirtual 30) 3 14 := ⟨by decide +kernel, rfl⟩
theorem dX3_firstStart_14 : AtI iX3_firstStart 14 (.istore 5) 2 16 := ⟨by decide +kernel, rfl⟩
theorem dX3_firstStart_16 : AtI iX3_firstStart 16 (.aload_n 0) 1 17 := ⟨by decide +kernel, rfl⟩
theorem dX3_firstStart_17 : AtI iX3_firstStart 17 (.iload_n 1) 1 18 := ⟨by decide +kernel, rfl⟩
theorem dX3_firstStart_18 : AtI iX3_firstStart 18 (.iload_n 2) 1 19 := ⟨by decide +kernel, rfl⟩
theorem dX3_firstStart_19 : AtI iX3_firstStart 19 (.iconst 0) 1 20 := ⟨by decide +kernel, rfl⟩
theorem dX3_firstStart_20 : AtI iX3_firstStart 20 (.invokevirtual 36) 3 23 := ⟨by decide +kernel, rfl⟩
theorem dX3_firstStart_23 : AtI iX3_firstStart 23 (.iconst 0) 1 24 := ⟨by decide +kernel, rfl⟩
theorem dX3_firstStart_24 : AtI iX3_firstStart 24 (.istore 6) 2 26 := ⟨by decide +kernel, rfl⟩
theorem dX3_firstStart_26 : AtI iX3_firstStart 26 (.iload 6) 2 28 := ⟨by decide +kernel, rfl⟩
theorem dX3_firstStart_28 : AtI iX3_firstStart 28 (.iload_n 3) 1 29 := ⟨by decide +kernel, rfl⟩
theorem dX3_firstStart_29 : AtJ iX3_firstStart 29 (.if_icmp .ge 19) 19 32 48 := ⟨by decide +kernel, rfl, by decide⟩
theorem dX3_firstStart_32 : AtI iX3_firstStart 32 (.aload_n 0) 1 33 := ⟨by decide +kernel, rfl⟩
theorem dX3_firstStart_33 : AtI iX3_firstStart 33 (.iload_n 2) 1 34 := ⟨by decide +kernel, rfl⟩
theorem dX3_firstStart_34 : AtI iX3_firstStart 34 (.iload 5) 2 36 := ⟨by decide +kernel, rfl⟩
theorem dX3_firstStart_36 : AtI iX3_firstStart 36 (.iload 6) 2 38 := ⟨by decide +kernel, rfl⟩
theorem dX3_firstStart_38 : AtI iX3_firstStart 38 .iadd 1 39 := ⟨by decide +kernel, rfl⟩
theorem dX3_firstStart_39 : AtI iX3_firstStart 39 (.invokevirtual 40) 3 42 := ⟨by decide +kernel, rfl⟩
theorem dX3_firstStart_42 : AtI iX3_firstStart 42 (.iinc 6 1) 3 45 := ⟨by decide +kernel, rfl⟩
theorem dX3_firstStart_45 : AtJ iX3_firstStart 45 (.goto (-19)) (-19) 48 26 := ⟨by decide +kernel, rfl, by decide⟩
theorem dX3_firstStart_48 : AtI iX3_firstStart 48 (.aload_n 0) 1 49 := ⟨by decide +kernel, rfl⟩
theorem dX3_firstStart_49 : AtI iX3_firstStart 49 (.iload_n 2) 1 50 := ⟨by decide +kernel, rfl⟩
theorem dX3_firstStart_50 : AtI iX3_firstStart 50 (.iload_n 1) 1 51 := ⟨by decide +kernel, rfl⟩
theorem dX3_firstStart_51 : AtI iX3_firstStart 51 (.iload 5) 2 53 := ⟨by decide +kernel, rfl⟩
theorem dX3_firstStart_53 : AtI iX3_firstStart 53 (.iload_n 3) 1 54 := ⟨by decide +kernel, rfl⟩
theorem dX3_firstStart_54 : AtI iX3_firstStart 54 .iadd 1 55 := ⟨by decide +kernel, rfl⟩
theorem dX3_firstStart_55 : AtI iX3_firstStart 55 (.invokevirtual 36) 3 58 := ⟨by decide +kernel, rfl⟩
theorem dX3_firstStart_58 : AtI iX3_firstStart 58 (.iload 5) 2 60 := ⟨by decide +kernel, rfl⟩
theorem dX3_firstStart_60 : AtI iX3_firstStart 60 (.iload_n 3) 1 61 := ⟨by decide +kernel, rfl⟩
theorem dX3_firstStart_61 : AtI iX3_firstStart 61 .iadd 1 62 := ⟨by decide +kernel, rfl⟩
theorem dX3_firstStart_62 : AtI iX3_firstStart 62 (.iload 5) 2 64 := ⟨by decide +kernel, rfl⟩
theorem dX3_firstStart_64 : AtI iX3_firstStart 64 .iadd 1 65 := ⟨by decide +kernel, rfl⟩
theorem dX3_firstStart_65 : AtI iX3_firstStart 65 (.istore 6) 2 67 := ⟨by decide +kernel, rfl⟩
theorem dX3_firstStart_67 : AtI iX3_firstStart 67 (.iload 4) 2 69 := ⟨by decide +kernel, rfl⟩
theorem dX3_firstStart_69 : AtI iX3_firstStart 69 (.istore 7) 2 71 := ⟨by decide +kernel, rfl⟩
theorem dX3_firstStart_71 : AtI iX3_firstStart 71 (.iload 7) 2 73 := ⟨by decide +kernel, rfl⟩
theorem dX3_firstStart_73 : AtI iX3_firstStart 73 (.iload 6) 2 75 := ⟨by decide +kernel, rfl⟩
theorem dX3_firstStart_75 : AtI iX3_firstStart 75 .iadd 1 76 := ⟨by decide +kernel, rfl⟩
theorem dX3_firstStart_76 : AtI iX3_firstStart 76 (.sipush 672) 3 79 := ⟨by decide +kernel, rfl⟩
theorem dX3_firstStart_79 : AtJ iX3_firstStart 79 (.if_icmp .ge 21) 21 82 100 := ⟨by decide +kernel, rfl, by decide⟩
theorem dX3_firstStart_82 : AtI iX3_firstStart 82 (.aload_n 0) 1 83 := ⟨by decide +kernel, rfl⟩
theorem dX3_firstStart_83 : AtI iX3_firstStart 83 (.iload 7) 2 85 := ⟨by decide +kernel, rfl⟩
theorem dX3_firstStart_85 : AtI iX3_firstStart 85 (.invokevirtual 44) 3 88 := ⟨by decide +kernel, rfl⟩
theorem dX3_firstStart_88 : AtJ iX3_firstStart 88 (.ifCond .eq 6) 6 91 94 := ⟨by decide +kernel, rfl, by decide⟩
theorem dX3_firstStart_91 : AtI iX3_firstStart 91 (.iload 7) 2 93 := ⟨by decide +kernel, rfl⟩
theorem dX3_firstStart_93 : AtI iX3_firstStart 93 .ireturn 1 94 := ⟨by decide +kernel, rfl⟩
theorem dX3_firstStart_94 : AtI iX3_firstStart 94 (.iinc 7 1) 3 97 := ⟨by decide +kernel, rfl⟩
theorem dX3_firstStart_97 : AtJ iX3_firstStart 97 (.goto (-26)) (-26) 100 71 := ⟨by decide +kernel, rfl, by decide⟩
theorem dX3_firstStart_100 : AtI iX3_firstStart 100 (.iconst (-1)) 1 101 := ⟨by decide +kernel, rfl⟩
theorem dX3_firstStart_101 : AtI iX3_firstStart 101 .ireturn 1 102 := ⟨by decide +kernel, rfl⟩
theorem dX3_goBetween_0 : AtI iX3_goBetween 0 (.aload_n 0) 1 1 := ⟨by decide +kernel, rfl⟩
theorem dX3_goBetween_1 : AtI iX3_goBetween 1 (.getfield 18) 3 4 := ⟨by decide +kernel, rfl⟩
theorem dX3_goBetween_4 : AtI iX3_goBetween 4 (.iload_n 1) 1 5 := ⟨by decide +kernel, rfl⟩
theorem dX3_goBetween_5 : AtI iX3_goBetween 5 (.iload_n 2) 1 6 := ⟨by decide +kernel, rfl⟩
theorem dX3_goBetween_6 : AtI iX3_goBetween 6 (.invokevirtual 30) 3 9 := ⟨by decide +kernel, rfl⟩
theorem dX3_goBetween_9 : AtI iX3_goBetween 9 (.istore 4) 2 11 := ⟨by decide +kernel, rfl⟩
theorem dX3_goBetween_11 : AtI iX3_goBetween 11 (.aload_n 0) 1 12 := ⟨by decide +kernel, rfl⟩
theorem dX3_goBetween_12 : AtI iX3_goBetween 12 (.getfield 18) 3 15 := ⟨by decide +kernel, rfl⟩
theorem dX3_goBetween_15 : AtI iX3_goBetween 15 (.iload_n 1) 1 16 := ⟨by decide +kernel, rfl⟩
theorem dX3_goBetween_16 : AtI iX3_goBetween 16 (.iload_n 2) 1 17 := ⟨by decide +kernel, rfl⟩
theorem dX3_goBetween_17 : AtI iX3_goBetween 17 (.invokevirtual 48) 3 20 := ⟨by decide +kernel, rfl⟩
theorem dX3_goBetween_20 : AtI iX3_goBetween 20 (.istore 5) 2 22 := ⟨by decide +kernel, rfl⟩
theorem dX3_goBetween_22 : AtI iX3_goBetween 22 (.iconst 0) 1 23 := ⟨by decide +kernel, rfl⟩
theorem dX3_goBetween_23 : AtI iX3_goBetween 23 (.istore 6) 2 25 := ⟨by decide +kernel, rfl⟩
theorem dX3_goBetween_25 : AtI iX3_goBetween 25 (.iload 6) 2 27 := ⟨by decide +kernel, rfl⟩
theorem dX3_goBetween_27 : AtI iX3_goBetween 27 (.bipush 8) 2 29 := ⟨by decide +kernel, rfl⟩
theorem dX3_goBetween_29 : AtJ iX3_goBetween 29 (.if_icmp .ge 54) 54 32 83 := ⟨by decide +kernel, rfl, by decide⟩
theorem dX3_goBetween_32 : AtI iX3_goBetween 32 (.iload 5) 2 34 := ⟨by decide +kernel, rfl⟩
theorem dX3_goBetween_34 : AtI iX3_goBetween 34 (.iload_n 2) 1 35 := ⟨by decide +kernel, rfl⟩
theorem dX3_goBetween_35 : AtJ iX3_goBetween 35 (.if_icmp .eq 48) 48 38 83 := ⟨by decide +kernel, rfl, by decide⟩
theorem dX3_goBetween_38 : AtI iX3_goBetween 38 (.iload 5) 2 40 := ⟨by decide +kernel, rfl⟩
theorem dX3_goBetween_40 : AtI iX3_goBetween 40 (.iconst (-1)) 1 41 := ⟨by decide +kernel, rfl⟩
theorem dX3_goBetween_41 : AtJ iX3_goBetween 41 (.if_icmp .eq 42) 42 44 83 := ⟨by decide +kernel, rfl, by decide⟩
theorem dX3_goBetween_44 : AtI iX3_goBetween 44 (.aload_n 0) 1 45 := ⟨by decide +kernel, rfl⟩
theorem dX3_goBetween_45 : AtI iX3_goBetween 45 (.iload 5) 2 47 := ⟨by decide +kernel, rfl⟩
theorem dX3_goBetween_47 : AtI iX3_goBetween 47 (.iload_n 3) 1 48 := ⟨by decide +kernel, rfl⟩
theorem dX3_goBetween_48 : AtI iX3_goBetween 48 (.iload 4) 2 50 := ⟨by decide +kernel, rfl⟩
theorem dX3_goBetween_50 : AtI iX3_goBetween 50 .iadd 1 51 := ⟨by decide +kernel, rfl⟩
theorem dX3_goBetween_51 : AtI iX3_goBetween 51 (.aload_n 0) 1 52 := ⟨by decide +kernel, rfl⟩
theorem dX3_goBetween_52 : AtI iX3_goBetween 52 (.getfield 18) 3 55 := ⟨by decide +kernel, rfl⟩
theorem dX3_goBetween_55 : AtI iX3_goBetween 55 (.iload 5) 2 57 := ⟨by decide +kernel, rfl⟩
theorem dX3_goBetween_57 : AtI iX3_goBetween 57 (.iload_n 2) 1 58 := ⟨by decide +kernel, rfl⟩
theorem dX3_goBetween_58 : AtI iX3_goBetween 58 (.invokevirtual 30) 3 61 := ⟨by decide +kernel, rfl⟩
theorem dX3_goBetween_61 : AtI iX3_goBetween 61 .isub 1 62 := ⟨by decide +kernel, rfl⟩
theorem dX3_goBetween_62 : AtI iX3_goBetween 62 (.invokevirtual 40) 3 65 := ⟨by decide +kernel, rfl⟩
theorem dX3_goBetween_65 : AtI iX3_goBetween 65 (.aload_n 0) 1 66 := ⟨by decide +kernel, rfl⟩
theorem dX3_goBetween_66 : AtI iX3_goBetween 66 (.getfield 18) 3 69 := ⟨by decide +kernel, rfl⟩
theorem dX3_goBetween_69 : AtI iX3_goBetween 69 (.iload 5) 2 71 := ⟨by decide +kernel, rfl⟩
theorem dX3_goBetween_71 : AtI iX3_goBetween 71 (.iload_n 2) 1 72 := ⟨by decide +kernel, rfl⟩
theorem dX3_goBetween_72 : AtI iX3_goBetween 72 (.invokevirtual 48) 3 75 := ⟨by decide +kernel, rfl⟩
theorem dX3_goBetween_75 : AtI iX3_goBetween 75 (.istore 5) 2 77 := ⟨by decide +kernel, rfl⟩
theorem dX3_goBetween_77 : AtI iX3_goBetween 77 (.iinc 6 1) 3 80 := ⟨by decide +kernel, rfl⟩
theorem dX3_goBetween_80 : AtJ iX3_goBetween 80 (.goto (-55)) (-55) 83 25 := ⟨by decide +kernel, rfl, by decide⟩
theorem dX3_goBetween_83 : AtI iX3_goBetween 83 .return_ 1 84 := ⟨by decide +kernel, rfl⟩
theorem dX3_need_0 : AtI iX3_need 0 (.aload_n 0) 1 1 := ⟨by decide +kernel, rfl⟩
theorem dX3_need_1 : AtI iX3_need 1 (.getfield 26) 3 4 := ⟨by decide +kernel, rfl⟩
theorem dX3_need_4 : AtI iX3_need 4 (.bipush 24) 2 6 := ⟨by decide +kernel, rfl⟩
theorem dX3_need_6 : AtJ iX3_need 6 (.if_icmp .ge 33) 33 9 39 := ⟨by decide +kernel, rfl, by decide⟩
theorem dX3_need_9 : AtI iX3_need 9 (.aload_n 0) 1 10 := ⟨by decide +kernel, rfl⟩
theorem dX3_need_10 : AtI iX3_need 10 (.getfield 11) 3 13 := ⟨by decide +kernel, rfl⟩
theorem dX3_need_13 : AtI iX3_need 13 (.aload_n 0) 1 14 := ⟨by decide +kernel, rfl⟩
theorem dX3_need_14 : AtI iX3_need 14 (.getfield 26) 3 17 := ⟨by decide +kernel, rfl⟩
theorem dX3_need_17 : AtI iX3_need 17 (.iload_n 1) 1 18 := ⟨by decide +kernel, rfl⟩
theorem dX3_need_18 : AtI iX3_need 18 .iastore 1 19 := ⟨by decide +kernel, rfl⟩
theorem dX3_need_19 : AtI iX3_need 19 (.aload_n 0) 1 20 := ⟨by decide +kernel, rfl⟩
theorem dX3_need_20 : AtI iX3_need 20 (.getfield 15) 3 23 := ⟨by decide +kernel, rfl⟩
theorem dX3_need_23 : AtI iX3_need 23 (.aload_n 0) 1 24 := ⟨by decide +kernel, rfl⟩
theorem dX3_need_24 : AtI iX3_need 24 (.getfield 26) 3 27 := ⟨by decide +kernel, rfl⟩
theorem dX3_need_27 : AtI iX3_need 27 (.iload_n 2) 1 28 := ⟨by decide +kernel, rfl⟩
theorem dX3_need_28 : AtI iX3_need 28 .iastore 1 29 := ⟨by decide +kernel, rfl⟩
theorem dX3_need_29 : AtI iX3_need 29 (.aload_n 0) 1 30 := ⟨by decide +kernel, rfl⟩
theorem dX3_need_30 : AtI iX3_need 30 .dup 1 31 := ⟨by decide +kernel, rfl⟩
theorem dX3_need_31 : AtI iX3_need 31 (.getfield 26) 3 34 := ⟨by decide +kernel, rfl⟩
theorem dX3_need_34 : AtI iX3_need 34 (.iconst 1) 1 35 := ⟨by decide +kernel, rfl⟩
theorem dX3_need_35 : AtI iX3_need 35 .iadd 1 36 := ⟨by decide +kernel, rfl⟩
theorem dX3_need_36 : AtI iX3_need 36 (.putfield 26) 3 39 := ⟨by decide +kernel, rfl⟩
theorem dX3_need_39 : AtI iX3_need 39 .return_ 1 40 := ⟨by decide +kernel, rfl⟩
theorem dX3_isAllowed_0 : AtI iX3_isAllowed 0 (.iconst 0) 1 1 := ⟨by decide +kernel, rfl⟩
theorem dX3_isAllowed_1 : AtI iX3_isAllowed 1 (.istore_n 2) 1 2 := ⟨by decide +kernel, rfl⟩
theorem dX3_isAllowed_2 : AtI iX3_isAllowed 2 (.iload_n 2) 1 3 := ⟨by decide +kernel, rfl⟩
theorem dX3_isAllowed_3 : AtI iX3_isAllowed 3 (.aload_n 0) 1 4 := ⟨by decide +kernel, rfl⟩
theorem dX3_isAllowed_4 : AtI iX3_isAllowed 4 (.getfield 26) 3 7 := ⟨by decide +kernel, rfl⟩
theorem dX3_isAllowed_7 : AtJ iX3_isAllowed 7 (.if_icmp .ge 35) 35 10 42 := ⟨by decide +kernel, rfl, by decide⟩
theorem dX3_isAllowed_10 : AtI iX3_isAllowed 10 (.aload_n 0) 1 11 := ⟨by decide +kernel, rfl⟩
theorem dX3_isAllowed_11 : AtI iX3_isAllowed 11 (.getfield 22) 3 14 := ⟨by decide +kernel, rfl⟩
theorem dX3_isAllowed_14 : AtI iX3_isAllowed 14 (.iload_n 1) 1 15 := ⟨by decide +kernel, rfl⟩
theorem dX3_isAllowed_15 : AtI iX3_isAllowed 15 (.aload_n 0) 1 16 := ⟨by decide +kernel, rfl⟩
theorem dX3_isAllowed_16 : AtI iX3_isAllowed 16 (.getfield 15) 3 19 := ⟨by decide +kernel, rfl⟩
theorem dX3_isAllowed_19 : AtI iX3_isAllowed 19 (.iload_n 2) 1 20 := ⟨by decide +kernel, rfl⟩
theorem dX3_isAllowed_20 : AtI iX3_isAllowed 20 .iaload 1 21 := ⟨by decide +kernel, rfl⟩
theorem dX3_isAllowed_21 : AtI iX3_isAllowed 21 .iadd 1 22 := ⟨by decide +kernel, rfl⟩
theorem dX3_isAllowed_22 : AtI iX3_isAllowed 22 (.aload_n 0) 1 23 := ⟨by decide +kernel, rfl⟩
theorem dX3_isAllowed_23 : AtI iX3_isAllowed 23 (.getfield 11) 3 26 := ⟨by decide +kernel, rfl⟩
theorem dX3_isAllowed_26 : AtI iX3_isAllowed 26 (.iload_n 2) 1 27 := ⟨by decide +kernel, rfl⟩
theorem dX3_isAllowed_27 : AtI iX3_isAllowed 27 .iaload 1 28 := ⟨by decide +kernel, rfl⟩
theorem dX3_isAllowed_28 : AtI iX3_isAllowed 28 (.invokevirtual 51) 3 31 := ⟨by decide +kernel, rfl⟩
theorem dX3_isAllowed_31 : AtJ iX3_isAllowed 31 (.ifCond .ne 5) 5 34 36 := ⟨by decide +kernel, rfl, by decide⟩
theorem dX3_isAllowed_34 : AtI iX3_isAllowed 34 (.iconst 0) 1 35 := ⟨by decide +kernel, rfl⟩
theorem dX3_isAllowed_35 : AtI iX3_isAllowed 35 .ireturn 1 36 := ⟨by decide +kernel, rfl⟩
theorem dX3_isAllowed_36 : AtI iX3_isAllowed 36 (.iinc 2 1) 3 39 := ⟨by decide +kernel, rfl⟩
theorem dX3_isAllowed_39 : AtJ iX3_isAllowed 39 (.goto (-37)) (-37) 42 2 := ⟨by decide +kernel, rfl, by decide⟩
theorem dX3_isAllowed_42 : AtI iX3_isAllowed 42 (.iconst 1) 1 43 := ⟨by decide +kernel, rfl⟩
theorem dX3_isAllowed_43 : AtI iX3_isAllowed 43 .ireturn 1 44 := ⟨by decide +kernel, rfl⟩
theorem dX4_init_0 : AtI iX4_init 0 (.aload_n 0) 1 1 := ⟨by decide +kernel, rfl⟩
theorem dX4_init_1 : AtI iX4_init 1 (.invokespecial 3) 3 4 := ⟨by decide +kernel, rfl⟩
theorem dX4_init_4 : AtI iX4_init 4 (.aload_n 0) 1 5 := ⟨by decide +kernel, rfl⟩
theorem dX4_init_5 : AtI iX4_init 5 (.bipush 6) 2 7 := ⟨by decide +kernel, rfl⟩
theorem dX4_init_7 : AtI iX4_init 7 (.newarray .int) 2 9 := ⟨by decide +kernel, rfl⟩
theorem dX4_init_9 : AtI iX4_init 9 (.putfield 11) 3 12 := ⟨by decide +kernel, rfl⟩
theorem dX4_init_12 : AtI iX4_init 12 (.aload_n 0) 1 13 := ⟨by decide +kernel, rfl⟩
theorem dX4_init_13 : AtI iX4_init 13 (.bipush 6) 2 15 := ⟨by decide +kernel, rfl⟩
theorem dX4_init_15 : AtI iX4_init 15 (.newarray .int) 2 17 := ⟨by decide +kernel, rfl⟩
theorem dX4_init_17 : AtI iX4_init 17 (.putfield 15) 3 20 := ⟨by decide +kernel, rfl⟩
theorem dX4_init_20 : AtI iX4_init 20 (.aload_n 0) 1 21 := ⟨by decide +kernel, rfl⟩
theorem dX4_init_21 : AtI iX4_init 21 (.bipush 6) 2 23 := ⟨by decide +kernel, rfl⟩
theorem dX4_init_23 : AtI iX4_init 23 (.newarray .boolean) 2 25 := ⟨by decide +kernel, rfl⟩
theorem dX4_init_25 : AtI iX4_init 25 (.putfield 18) 3 28 := ⟨by decide +kernel, rfl⟩
theorem dX4_init_28 : AtI iX4_init 28 (.aload_n 0) 1 29 := ⟨by decide +kernel, rfl⟩
theorem dX4_init_29 : AtI iX4_init 29 (.aload_n 1) 1 30 := ⟨by decide +kernel, rfl⟩
theorem dX4_init_30 : AtI iX4_init 30 (.putfield 22) 3 33 := ⟨by decide +kernel, rfl⟩
theorem dX4_init_33 : AtI iX4_init 33 (.aload_n 0) 1 34 := ⟨by decide +kernel, rfl⟩
theorem dX4_init_34 : AtI iX4_init 34 (.iconst 0) 1 35 := ⟨by decide +kernel, rfl⟩
theorem dX4_init_35 : AtI iX4_init 35 (.putfield 26) 3 38 := ⟨by decide +kernel, rfl⟩
theorem dX4_init_38 : AtI iX4_init 38 .return_ 1 39 := ⟨by decide +kernel, rfl⟩
theorem dX4_keep_0 : AtI iX4_keep 0 (.aload_n 0) 1 1 := ⟨by decide +kernel, rfl⟩
theorem dX4_keep_1 : AtI iX4_keep 1 (.getfield 26) 3 4 := ⟨by decide +kernel, rfl⟩
theorem dX4_keep_4 : AtI iX4_keep 4 (.bipush 6) 2 6 := ⟨by decide +kernel, rfl⟩
theorem dX4_keep_6 : AtJ iX4_keep 6 (.if_icmp .lt 5) 5 9 11 := ⟨by decide +kernel, rfl, by decide⟩
theorem dX4_keep_9 : AtI iX4_keep 9 (.iconst 0) 1 10 := ⟨by decide +kernel, rfl⟩
theorem dX4_keep_10 : AtI iX4_keep 10 .ireturn 1 11 := ⟨by decide +kernel, rfl⟩
theorem dX4_keep_11 : AtI iX4_keep 11 (.aload_n 0) 1 12 := ⟨by decide +kernel, rfl⟩
theorem dX4_keep_12 : AtI iX4_keep 12 (.getfield 11) 3 15 := ⟨by decide +kernel, rfl⟩
theorem dX4_keep_15 : AtI iX4_keep 15 (.aload_n 0) 1 16 := ⟨by decide +kernel, rfl⟩
theorem dX4_keep_16 : AtI iX4_keep 16 (.getfield 26) 3 19 := ⟨by decide +kernel, rfl⟩
theorem dX4_keep_19 : AtI iX4_keep 19 (.iload_n 1) 1 20 := ⟨by decide +kernel, rfl⟩
theorem dX4_keep_20 : AtI iX4_keep 20 .iastore 1 21 := ⟨by decide +kernel, rfl⟩
theorem dX4_keep_21 : AtI iX4_keep 21 (.aload_n 0) 1 22 := ⟨by decide +kernel, rfl⟩
theorem dX4_keep_22 : AtI iX4_keep 22 (.getfield 15) 3 25 := ⟨by decide +kernel, rfl⟩
theorem dX4_keep_25 : AtI iX4_keep 25 (.aload_n 0) 1 26 := ⟨by decide +kernel, rfl⟩
theorem dX4_keep_26 : AtI iX4_keep 26 (.getfield 26) 3 29 := ⟨by decide +kernel, rfl⟩
theorem dX4_keep_29 : AtI iX4_keep 29 (.iload_n 2) 1 30 := ⟨by decide +kernel, rfl⟩
theorem dX4_keep_30 : AtI iX4_keep 30 .iastore 1 31 := ⟨by decide +kernel, rfl⟩
theorem dX4_keep_31 : AtI iX4_keep 31 (.aload_n 0) 1 32 := ⟨by decide +kernel, rfl⟩
theorem dX4_keep_32 : AtI iX4_keep 32 (.getfield 18) 3 35 := ⟨by decide +kernel, rfl⟩
theorem dX4_keep_35 : AtI iX4_keep 35 (.aload_n 0) 1 36 := ⟨by decide +kernel, rfl⟩
theorem dX4_keep_36 : AtI iX4_keep 36 (.getfield 26) 3 39 := ⟨by decide +kernel, rfl⟩
theorem dX4_keep_39 : AtI iX4_keep 39 (.iload_n 3) 1 40 := ⟨by decide +kernel, rfl⟩
theorem dX4_keep_40 : AtI iX4_keep 40 .bastore 1 41 := ⟨by decide +kernel, rfl⟩
theorem dX4_keep_41 : AtI iX4_keep 41 (.aload_n 0) 1 42 := ⟨by decide +kernel, rfl⟩
theorem dX4_keep_42 : AtI iX4_keep 42 .dup 1 43 := ⟨by decide +kernel, rfl⟩
theorem dX4_keep_43 : AtI iX4_keep 43 (.getfield 26) 3 46 := ⟨by decide +kernel, rfl⟩
theorem dX4_keep_46 : AtI iX4_keep 46 (.iconst 1) 1 47 := ⟨by decide +kernel, rfl⟩
theorem dX4_keep_47 : AtI iX4_keep 47 .iadd 1 48 := ⟨by decide +kernel, rfl⟩
theorem dX4_keep_48 : AtI iX4_keep 48 (.putfield 26) 3 51 := ⟨by decide +kernel, rfl⟩
theorem dX4_keep_51 : AtI iX4_keep 51 (.iconst 1) 1 52 := ⟨by decide +kernel, rfl⟩
theorem dX4_keep_52 : AtI iX4_keep 52 .ireturn 1 53 := ⟨by decide +kernel, rfl⟩
theorem dX4_fits_0 : AtI iX4_fits 0 (.iconst 0) 1 1 := ⟨by decide +kernel, rfl⟩
theorem dX4_fits_1 : AtI iX4_fits 1 (.istore_n 2) 1 2 := ⟨by decide +kernel, rfl⟩
theorem dX4_fits_2 : AtI iX4_fits 2 (.iload_n 2) 1 3 := ⟨by decide +kernel, rfl⟩
theorem dX4_fits_3 : AtI iX4_fits 3 (.aload_n 0) 1 4 := ⟨by decide +kernel, rfl⟩
theorem dX4_fits_4 : AtI iX4_fits 4 (.getfield 26) 3 7 := ⟨by decide +kernel, rfl⟩
theorem dX4_fits_7 : AtJ iX4_fits 7 (.if_icmp .ge 44) 44 10 51 := ⟨by decide +kernel, rfl, by decide⟩
theorem dX4_fits_10 : AtI iX4_fits 10 (.aload_n 0) 1 11 := ⟨by decide +kernel, rfl⟩
theorem dX4_fits_11 : AtI iX4_fits 11 (.getfield 22) 3 14 := ⟨by decide +kernel, rfl⟩
theorem dX4_fits_14 : AtI iX4_fits 14 (.iload_n 1) 1 15 := ⟨by decide +kernel, rfl⟩
theorem dX4_fits_15 : AtI iX4_fits 15 (.bipush 24) 2 17 := ⟨by decide +kernel, rfl⟩
theorem dX4_fits_17 : AtI iX4_fits 17 .imul 1 18 := ⟨by decide +kernel, rfl⟩
theorem dX4_fits_18 : AtI iX4_fits 18 (.aload_n 0) 1 19 := ⟨by decide +kernel, rfl⟩
theorem dX4_fits_19 : AtI iX4_fits 19 (.getfield 11) 3 22 := ⟨by decide +kernel, rfl⟩
theorem dX4_fits_22 : AtI iX4_fits 22 (.iload_n 2) 1 23 := ⟨by decide +kernel, rfl⟩
theorem dX4_fits_23 : AtI iX4_fits 23 .iaload 1 24 := ⟨by decide +kernel, rfl⟩
theorem dX4_fits_24 : AtI iX4_fits 24 .iadd 1 25 := ⟨by decide +kernel, rfl⟩
theorem dX4_fits_25 : AtI iX4_fits 25 (.aload_n 0) 1 26 := ⟨by decide +kernel, rfl⟩
theorem dX4_fits_26 : AtI iX4_fits 26 (.getfield 15) 3 29 := ⟨by decide +kernel, rfl⟩
theorem dX4_fits_29 : AtI iX4_fits 29 (.iload_n 2) 1 30 := ⟨by decide +kernel, rfl⟩
theorem dX4_fits_30 : AtI iX4_fits 30 .iaload 1 31 := ⟨by decide +kernel, rfl⟩
theorem dX4_fits_31 : AtI iX4_fits 31 (.invokevirtual 30) 3 34 := ⟨by decide +kernel, rfl⟩
theorem dX4_fits_34 : AtI iX4_fits 34 (.aload_n 0) 1 35 := ⟨by decide +kernel, rfl⟩
theorem dX4_fits_35 : AtI iX4_fits 35 (.getfield 18) 3 38 := ⟨by decide +kernel, rfl⟩
theorem dX4_fits_38 : AtI iX4_fits 38 (.iload_n 2) 1 39 := ⟨by decide +kernel, rfl⟩
theorem dX4_fits_39 : AtI iX4_fits 39 .baload 1 40 := ⟨by decide +kernel, rfl⟩
theorem dX4_fits_40 : AtJ iX4_fits 40 (.if_icmp .eq 5) 5 43 45 := ⟨by decide +kernel, rfl, by decide⟩
theorem dX4_fits_43 : AtI iX4_fits 43 (.iconst 0) 1 44 := ⟨by decide +kernel, rfl⟩
theorem dX4_fits_44 : AtI iX4_fits 44 .ireturn 1 45 := ⟨by decide +kernel, rfl⟩
theorem dX4_fits_45 : AtI iX4_fits 45 (.iinc 2 1) 3 48 := ⟨by decide +kernel, rfl⟩
theorem dX4_fits_48 : AtJ iX4_fits 48 (.goto (-46)) (-46) 51 2 := ⟨by decide +kernel, rfl, by decide⟩
theorem dX4_fits_51 : AtI iX4_fits 51 (.iconst 1) 1 52 := ⟨by decide +kernel, rfl⟩
theorem dX4_fits_52 : AtI iX4_fits 52 .ireturn 1 53 := ⟨by decide +kernel, rfl⟩
end
section
/-! decode rows -/
theorem dX5_init_0 : AtI iX5_init 0 (.aload_n 0) 1 1 := ⟨by decide +kernel, rfl⟩
theorem dX5_init_1 : AtI iX5_init 1 (.invokespecial 3) 3 4 := ⟨by decide +kernel, rfl⟩
theorem dX5_init_4 : AtI iX5_init 4 (.aload_n 0) 1 5 := ⟨by decide +kernel, rfl⟩
theorem dX5_init_5 : AtI iX5_init 5 (.bipush 24) 2 7 := ⟨by decide +kernel, rfl⟩
theorem dX5_init_7 : AtI iX5_init 7 (.newarray .int) 2 9 := ⟨by decide +kernel, rfl⟩
theorem dX5_init_9 : AtI iX5_init 9 (.putfield 11) 3 12 := ⟨by decide +kernel, rfl⟩
theorem dX5_init_12 : AtI iX5_init 12 (.aload_n 0) 1 13 := ⟨by decide +kernel, rfl⟩
theorem dX5_init_13 : AtI iX5_init 13 (.bipush 8) 2 15 := ⟨by decide +kernel, rfl⟩
theorem dX5_init_15 : AtI iX5_init 15 (.newarray .int) 2 17 := ⟨by decide +kernel, rfl⟩
theorem dX5_init_17 : AtI iX5_init 17 (.putfield 15) 3 20 := ⟨by decide +kernel, rfl⟩
theorem dX5_init_20 : AtI iX5_init 20 (.aload_n 0) 1 21 := ⟨by decide +kernel, rfl⟩
theorem dX5_init_21 : AtI iX5_init 21 (.aload_n 1) 1 22 := ⟨by decide +kernel, rfl⟩
theorem dX5_init_22 : AtI iX5_init 22 (.putfield 18) 3 25 := ⟨by decide +kernel, rfl⟩
theorem dX5_init_25 : AtI iX5_init 25 (.iconst 0) 1 26 := ⟨by decide +kernel, rfl⟩
theorem dX5_init_26 : AtI iX5_init 26 (.istore_n 2) 1 27 := ⟨by decide +kernel, rfl⟩
theorem dX5_init_27 : AtI iX5_init 27 (.iload_n 2) 1 28 := ⟨by decide +kernel, rfl⟩
theorem dX5_init_28 : AtI iX5_init 28 (.bipush 8) 2 30 := ⟨by decide +kernel, rfl⟩
theorem dX5_init_30 : AtJ iX5_init 30 (.if_icmp .ge 20) 20 33 50 := ⟨by decide +kernel, rfl, by decide⟩
theorem dX5_init_33 : AtI iX5_init 33 (.aload_n 0) 1 34 := ⟨by decide +kernel, rfl⟩
theorem dX5_init_34 : AtI iX5_init 34 (.getfield 11) 3 37 := ⟨by decide +kernel, rfl⟩
theorem dX5_init_37 : AtI iX5_init 37 (.iload_n 2) 1 38 := ⟨by decide +kernel, rfl⟩
theorem dX5_init_38 : AtI iX5_init 38 (.iconst 3) 1 39 := ⟨by decide +kernel, rfl⟩
theorem dX5_init_39 : AtI iX5_init 39 .imul 1 40 := ⟨by decide +kernel, rfl⟩
theorem dX5_init_40 : AtI iX5_init 40 (.iconst 2) 1 41 := ⟨by decide +kernel, rfl⟩
theorem dX5_init_41 : AtI iX5_init 41 .iadd 1 42 := ⟨by decide +kernel, rfl⟩
theorem dX5_init_42 : AtI iX5_init 42 (.iconst 4) 1 43 := ⟨by decide +kernel, rfl⟩
theorem dX5_init_43 : AtI iX5_init 43 .iastore 1 44 := ⟨by decide +kernel, rfl⟩
theorem dX5_init_44 : AtI iX5_init 44 (.iinc 2 1) 3 47 := ⟨by decide +kernel, rfl⟩
theorem dX5_init_47 : AtJ iX5_init 47 (.goto (-20)) (-20) 50 27 := ⟨by decide +kernel, rfl, by decide⟩
theorem dX5_init_50 : AtI iX5_init 50 (.aload_n 0) 1 51 := ⟨by decide +kernel, rfl⟩
theorem dX5_init_51 : AtI iX5_init 51 (.iconst 0) 1 52 := ⟨by decide +kernel, rfl⟩
theorem dX5_init_52 : AtI iX5_init 52 (.putfield 22) 3 55 := ⟨by decide +kernel, rfl⟩
theorem dX5_init_55 : AtI iX5_init 55 (.aload_n 0) 1 56 := ⟨by decide +kernel, rfl⟩
theorem dX5_init_56 : AtI iX5_init 56 (.iconst 0) 1 57 := ⟨by decide +kernel, rfl⟩
theorem dX5_init_57 : AtI iX5_init 57 (.putfield 26) 3 60 := ⟨by decide +kernel, rfl⟩
theorem dX5_init_60 : AtI iX5_init 60 (.aload_n 0) 1 61 := ⟨by decide +kernel, rfl⟩
theorem dX5_init_61 : AtI iX5_init 61 (.iconst 0) 1 62 := ⟨by decide +kernel, rfl⟩
theorem dX5_init_62 : AtI iX5_init 62 (.putfield 29) 3 65 := ⟨by decide +kernel, rfl⟩
theorem dX5_init_65 : AtI iX5_init 65 .return_ 1 66 := ⟨by decide +kernel, rfl⟩
theorem dX5_mostOf_0 : AtI iX5_mostOf 0 (.iload_n 0) 1 1 := ⟨by decide +kernel, rfl⟩
theorem dX5_mostOf_1 : decode iX5_mostOf.2.1 1 = .ok (.tableswitch 34 0 2 #[27, 29, 31], 27) := by decide +kernel
theorem dX5_mostOf_28 : AtI iX5_mostOf 28 (.iconst 3) 1 29 := ⟨by decide +kernel, rfl⟩
theorem dX5_mostOf_29 : AtI iX5_mostOf 29 .ireturn 1 30 := ⟨by decide +kernel, rfl⟩
theorem dX5_mostOf_30 : AtI iX5_mostOf 30 (.iconst 1) 1 31 := ⟨by decide +kernel, rfl⟩
theorem dX5_mostOf_31 : AtI iX5_mostOf 31 .ireturn 1 32 := ⟨by decide +kernel, rfl⟩
theorem dX5_mostOf_32 : AtI iX5_mostOf 32 (.bipush 16) 2 34 := ⟨by decide +kernel, rfl⟩
theorem dX5_mostOf_34 : AtI iX5_mostOf 34 .ireturn 1 35 := ⟨by decide +kernel, rfl⟩
theorem dX5_mostOf_35 : AtI iX5_mostOf 35 (.iconst (-1)) 1 36 := ⟨by decide +kernel, rfl⟩
theorem dX5_mostOf_36 : AtI iX5_mostOf 36 .ireturn 1 37 := ⟨by decide +kernel, rfl⟩
theorem dX5_at_0 : AtI iX5_at 0 (.aload_n 0) 1 1 := ⟨by decide +kernel, rfl⟩
theorem dX5_at_1 : AtI iX5_at 1 (.getfield 11) 3 4 := ⟨by decide +kernel, rfl⟩
theorem dX5_at_4 : AtI iX5_at 4 (.iload_n 1) 1 5 := ⟨by decide +kernel, rfl⟩
theorem dX5_at_5 : AtI iX5_at 5 (.iconst 3) 1 6 := ⟨by decide +kernel, rfl⟩
theorem dX5_at_6 : AtI iX5_at 6 .imul 1 7 := ⟨by decide +kernel, rfl⟩
theorem dX5_at_7 : AtI iX5_at 7 (.iload_n 2) 1 8 := ⟨by decide +kernel, rfl⟩
theorem dX5_at_8 : AtI iX5_at 8 .iadd 1 9 := ⟨by decide +kernel, rfl⟩
theorem dX5_at_9 : AtI iX5_at 9 .iaload 1 10 := ⟨by decide +kernel, rfl⟩
theorem dX5_at_10 : AtI iX5_at 10 .ireturn 1 11 := ⟨by decide +kernel, rfl⟩
theorem dX5_put_0 : AtI iX5_put 0 (.aload_n 0) 1 1 := ⟨by decide +kernel, rfl⟩
theorem dX5_put_1 : AtI iX5_put 1 (.iload_n 1) 1 2 := ⟨by decide +kernel, rfl⟩
theorem dX5_put_2 : AtI iX5_put 2 (.iload_n 2) 1 3 := ⟨by decide +kernel, rfl⟩
theorem dX5_put_3 : AtI iX5_put 3 (.invokevirtual 32) 3 6 := ⟨by decide +kernel, rfl⟩
theorem dX5_put_6 : AtI iX5_put 6 (.istore 4) 2 8 := ⟨by decide +kernel, rfl⟩
theorem dX5_put_8 : AtI iX5_put 8 (.aload_n 0) 1 9 := ⟨by decide +kernel, rfl⟩
theorem dX5_put_9 : AtI iX5_put 9 (.getfield 11) 3 12 := ⟨by decide +kernel, rfl⟩
theorem dX5_put_12 : AtI iX5_put 12 (.iload_n 1) 1 13 := ⟨by decide +kernel, rfl⟩
theorem dX5_put_13 : AtI iX5_put 13 (.iconst 3) 1 14 := ⟨by decide +kernel, rfl⟩
theorem dX5_put_14 : AtI iX5_put 14 .imul 1 15 := ⟨by decide +kernel, rfl⟩
theorem dX5_put_15 : AtI iX5_put 15 (.iload_n 2) 1 16 := ⟨by decide +kernel, rfl⟩
theorem dX5_put_16 : AtI iX5_put 16 .iadd 1 17 := ⟨by decide +kernel, rfl⟩
theorem dX5_put_17 : AtI iX5_put 17 (.iload_n 3) 1 18 := ⟨by decide +kernel, rfl⟩
theorem dX5_put_18 : AtI iX5_put 18 .iastore 1 19 := ⟨by decide +kernel, rfl⟩
theorem dX5_put_19 : AtI iX5_put 19 (.iload 4) 2 21 := ⟨by decide +kernel, rfl⟩
theorem dX5_put_21 : AtI iX5_put 21 .ireturn 1 22 := ⟨by decide +kernel, rfl⟩
theorem dX5_swornLands_0 : AtI iX5_swornLands 0 (.iconst 0) 1 1 := ⟨by decide +kernel, rfl⟩
theorem dX5_swornLands_1 : AtI iX5_swornLands 1 (.istore_n 1) 1 2 := ⟨by decide +kernel, rfl⟩
theorem dX5_swornLands_2 : AtI iX5_swornLands 2 (.iconst 0) 1 3 := ⟨by decide +kernel, rfl⟩
theorem dX5_swornLands_3 : AtI iX5_swornLands 3 (.istore_n 2) 1 4 := ⟨by decide +kernel, rfl⟩
theorem dX5_swornLands_4 : AtI iX5_swornLands 4 (.iload_n 2) 1 5 := ⟨by decide +kernel, rfl⟩
theorem dX5_swornLands_5 : AtI iX5_swornLands 5 (.bipush 8) 2 7 := ⟨by decide +kernel, rfl⟩
theorem dX5_swornLands_7 : AtJ iX5_swornLands 7 (.if_icmp .ge 18) 18 10 25 := ⟨by decide +kernel, rfl, by decide⟩
theorem dX5_swornLands_10 : AtI iX5_swornLands 10 (.iload_n 1) 1 11 := ⟨by decide +kernel, rfl⟩
theorem dX5_swornLands_11 : AtI iX5_swornLands 11 (.aload_n 0) 1 12 := ⟨by decide +kernel, rfl⟩
theorem dX5_swornLands_12 : AtI iX5_swornLands 12 (.iload_n 2) 1 13 := ⟨by decide +kernel, rfl⟩
theorem dX5_swornLands_13 : AtI iX5_swornLands 13 (.iconst 1) 1 14 := ⟨by decide +kernel, rfl⟩
theorem dX5_swornLands_14 : AtI iX5_swornLands 14 (.invokevirtual 32) 3 17 := ⟨by decide +kernel, rfl⟩
theorem dX5_swornLands_17 : AtI iX5_swornLands 17 .iadd 1 18 := ⟨by decide +kernel, rfl⟩
theorem dX5_swornLands_18 : AtI iX5_swornLands 18 (.istore_n 1) 1 19 := ⟨by decide +kernel, rfl⟩
theorem dX5_swornLands_19 : AtI iX5_swornLands 19 (.iinc 2 1) 3 22 := ⟨by decide +kernel, rfl⟩
theorem dX5_swornLands_22 : AtJ iX5_swornLands 22 (.goto (-18)) (-18) 25 4 := ⟨by decide +kernel, rfl, by decide⟩
theorem dX5_swornLands_25 : AtI iX5_swornLands 25 (.iload_n 1) 1 26 := ⟨by decide +kernel, rfl⟩
theorem dX5_swornLands_26 : AtI iX5_swornLands 26 .ireturn 1 27 := ⟨by decide +kernel, rfl⟩
theorem dX5_addFeast_0 : AtI iX5_addFeast 0 (.aload_n 0) 1 1 := ⟨by decide +kernel, rfl⟩
theorem dX5_addFeast_1 : AtI iX5_addFeast 1 (.getfield 22) 3 4 := ⟨by decide +kernel, rfl⟩
theorem dX5_addFeast_4 : AtI iX5_addFeast 4 (.bipush 8) 2 6 := ⟨by decide +kernel, rfl⟩
theorem dX5_addFeast_6 : AtJ iX5_addFeast 6 (.if_icmp .lt 5) 5 9 11 := ⟨by decide +kernel, rfl, by decide⟩
theorem dX5_addFeast_9 : AtI iX5_addFeast 9 (.iconst 0) 1 10 := ⟨by decide +kernel, rfl⟩
theorem dX5_addFeast_10 : AtI iX5_addFeast 10 .ireturn 1 11 := ⟨by decide +kernel, rfl⟩
theorem dX5_addFeast_11 : AtI iX5_addFeast 11 (.aload_n 0) 1 12 := ⟨by decide +kernel, rfl⟩
theorem dX5_addFeast_12 : AtI iX5_addFeast 12 (.getfield 15) 3 15 := ⟨by decide +kernel, rfl⟩
theorem dX5_addFeast_15 : AtI iX5_addFeast 15 (.aload_n 0) 1 16 := ⟨by decide +kernel, rfl⟩
theorem dX5_addFeast_16 : AtI iX5_addFeast 16 (.getfield 22) 3 19 := ⟨by decide +kernel, rfl⟩
theorem dX5_addFeast_19 : AtI iX5_addFeast 19 (.iload_n 1) 1 20 := ⟨by decide +kernel, rfl⟩
theorem dX5_addFeast_20 : AtI iX5_addFeast 20 .iastore 1 21 := ⟨by decide +kernel, rfl⟩
theorem dX5_addFeast_21 : AtI iX5_addFeast 21 (.aload_n 0) 1 22 := ⟨by decide +kernel, rfl⟩
theorem dX5_addFeast_22 : AtI iX5_addFeast 22 .dup 1 23 := ⟨by decide +kernel, rfl⟩
theorem dX5_addFeast_23 : AtI iX5_addFeast 23 (.getfield 22) 3 26 := ⟨by decide +kernel, rfl⟩
theorem dX5_addFeast_26 : AtI iX5_addFeast 26 (.iconst 1) 1 27 := ⟨by decide +kernel, rfl⟩
theorem dX5_addFeast_27 : AtI iX5_addFeast 27 .iadd 1 28 := ⟨by decide +kernel, rfl⟩
theorem dX5_addFeast_28 : AtI iX5_addFeast 28 (.putfield 22) 3 31 := ⟨by decide +kernel, rfl⟩
theorem dX5_addFeast_31 : AtI iX5_addFeast 31 (.aload_n 0) 1 32 := ⟨by decide +kernel, rfl⟩
theorem dX5_addFeast_32 : AtI iX5_addFeast 32 (.invokevirtual 36) 3 35 := ⟨by decide +kernel, rfl⟩
theorem dX5_addFeast_35 : AtI iX5_addFeast 35 (.iconst 1) 1 36 := ⟨by decide +kernel, rfl⟩
theorem dX5_addFeast_36 : AtI iX5_addFeast 36 .ireturn 1 37 := ⟨by decide +kernel, rfl⟩
theorem dX5_dropFeast_0 : AtI iX5_dropFeast 0 (.aload_n 0) 1 1 := ⟨by decide +kernel, rfl⟩
theorem dX5_dropFeast_1 : AtI iX5_dropFeast 1 (.getfield 22) 3 4 := ⟨by decide +kernel, rfl⟩
theorem dX5_dropFeast_4 : AtJ iX5_dropFeast 4 (.ifCond .ne 5) 5 7 9 := ⟨by decide +kernel, rfl, by decide⟩
theorem dX5_dropFeast_7 : AtI iX5_dropFeast 7 (.iconst 0) 1 8 := ⟨by decide +kernel, rfl⟩
theorem dX5_dropFeast_8 : AtI iX5_dropFeast 8 .ireturn 1 9 := ⟨by decide +kernel, rfl⟩
theorem dX5_dropFeast_9 : AtI iX5_dropFeast 9 (.aload_n 0) 1 10 := ⟨by decide +kernel, rfl⟩
theorem dX5_dropFeast_10 : AtI iX5_dropFeast 10 .dup 1 11 := ⟨by decide +kernel, rfl⟩
theorem dX5_dropFeast_11 : AtI iX5_dropFeast 11 (.getfield 22) 3 14 := ⟨by decide +kernel, rfl⟩
theorem dX5_dropFeast_14 : AtI iX5_dropFeast 14 (.iconst 1) 1 15 := ⟨by decide +kernel, rfl⟩
theorem dX5_dropFeast_15 : AtI iX5_dropFeast 15 .isub 1 16 := ⟨by decide +kernel, rfl⟩
theorem dX5_dropFeast_16 : AtI iX5_dropFeast 16 (.putfield 22) 3 19 := ⟨by decide +kernel, rfl⟩
theorem dX5_dropFeast_19 : AtI iX5_dropFeast 19 (.aload_n 0) 1 20 := ⟨by decide +kernel, rfl⟩
theorem dX5_dropFeast_20 : AtI iX5_dropFeast 20 (.invokevirtual 36) 3 23 := ⟨by decide +kernel, rfl⟩
theorem dX5_dropFeast_23 : AtI iX5_dropFeast 23 (.iconst 1) 1 24 := ⟨by decide +kernel, rfl⟩
theorem dX5_dropFeast_24 : AtI iX5_dropFeast 24 .ireturn 1 25 := ⟨by decide +kernel, rfl⟩
theorem dX5_gatherFeasts_0 : AtI iX5_gatherFeasts 0 (.aload_n 0) 1 1 := ⟨by decide +kernel, rfl⟩
theorem dX5_gatherFeasts_1 : AtI iX5_gatherFeasts 1 (.iconst 0) 1 2 := ⟨by decide +kernel, rfl⟩
theorem dX5_gatherFeasts_2 : AtI iX5_gatherFeasts 2 (.putfield 26) 3 5 := ⟨by decide +kernel, rfl⟩
theorem dX5_gatherFeasts_5 : AtI iX5_gatherFeasts 5 (.iconst 0) 1 6 := ⟨by decide +kernel, rfl⟩
theorem dX5_gatherFeasts_6 : AtI iX5_gatherFeasts 6 (.istore_n 1) 1 7 := ⟨by decide +kernel, rfl⟩
theorem dX5_gatherFeasts_7 : AtI iX5_gatherFeasts 7 (.iload_n 1) 1 8 := ⟨by decide +kernel, rfl⟩
theorem dX5_gatherFeasts_8 : AtI iX5_gatherFeasts 8 (.aload_n 0) 1 9 := ⟨by decide +kernel, rfl⟩
theorem dX5_gatherFeasts_9 : AtI iX5_gatherFeasts 9 (.getfield 22) 3 12 := ⟨by decide +kernel, rfl⟩
theorem dX5_gatherFeasts_12 : AtJ iX5_gatherFeasts 12 (.if_icmp .ge 26) 26 15 38 := ⟨by decide +kernel, rfl, by decide⟩
theorem dX5_gatherFeasts_15 : AtI iX5_gatherFeasts 15 (.aload_n 0) 1 16 := ⟨by decide +kernel, rfl⟩
theorem dX5_gatherFeasts_16 : AtI iX5_gatherFeasts 16 .dup 1 17 := ⟨by decide +kernel, rfl⟩
theorem dX5_gatherFeasts_17 : AtI iX5_gatherFeasts 17 (.getfield 26) 3 20 := ⟨by decide +kernel, rfl⟩
theorem dX5_gatherFeasts_20 : AtI iX5_gatherFeasts 20 (.iconst 1) 1 21 := ⟨by decide +kernel, rfl⟩
theorem dX5_gatherFeasts_21 : AtI iX5_gatherFeasts 21 (.aload_n 0) 1 22 := ⟨by decide +kernel, rfl⟩
theorem dX5_gatherFeasts_22 : AtI iX5_gatherFeasts 22 (.getfield 15) 3 25 := ⟨by decide +kernel, rfl⟩
theorem dX5_gatherFeasts_25 : AtI iX5_gatherFeasts 25 (.iload_n 1) 1 26 := ⟨by decide +kernel, rfl⟩
theorem dX5_gatherFeasts_26 : AtI iX5_gatherFeasts 26 .iaload 1 27 := ⟨by decide +kernel, rfl⟩
theorem dX5_gatherFeasts_27 : AtI iX5_gatherFeasts 27 .ishl 1 28 := ⟨by decide +kernel, rfl⟩
theorem dX5_gatherFeasts_28 : AtI iX5_gatherFeasts 28 .ior 1 29 := ⟨by decide +kernel, rfl⟩
theorem dX5_gatherFeasts_29 : AtI iX5_gatherFeasts 29 (.putfield 26) 3 32 := ⟨by decide +kernel, rfl⟩
theorem dX5_gatherFeasts_32 : AtI iX5_gatherFeasts 32 (.iinc 1 1) 3 35 := ⟨by decide +kernel, rfl⟩
theorem dX5_gatherFeasts_35 : AtJ iX5_gatherFeasts 35 (.goto (-28)) (-28) 38 7 := ⟨by decide +kernel, rfl, by decide⟩
theorem dX5_gatherFeasts_38 : AtI iX5_gatherFeasts 38 .return_ 1 39 := ⟨by decide +kernel, rfl⟩
theorem dX5_isOpenDay_0 : AtI iX5_isOpenDay 0 (.aload_n 0) 1 1 := ⟨by decide +kernel, rfl⟩
theorem dX5_isOpenDay_1 : AtI iX5_isOpenDay 1 (.getfield 29) 3 4 := ⟨by decide +kernel, rfl⟩
theorem dX5_isOpenDay_4 : AtI iX5_isOpenDay 4 (.iload_n 1) 1 5 := ⟨by decide +kernel, rfl⟩
theorem dX5_isOpenDay_5 : AtI iX5_isOpenDay 5 (.bipush 7) 2 7 := ⟨by decide +kernel, rfl⟩
theorem dX5_isOpenDay_7 : AtI iX5_isOpenDay 7 .idiv 1 8 := ⟨by decide +kernel, rfl⟩
theorem dX5_isOpenDay_8 : AtI iX5_isOpenDay 8 .ishr 1 9 := ⟨by decide +kernel, rfl⟩
theorem dX5_isOpenDay_9 : AtI iX5_isOpenDay 9 (.iconst 1) 1 10 := ⟨by decide +kernel, rfl⟩
theorem dX5_isOpenDay_10 : AtI iX5_isOpenDay 10 .iand 1 11 := ⟨by decide +kernel, rfl⟩
theorem dX5_isOpenDay_11 : AtJ iX5_isOpenDay 11 (.ifCond .eq 7) 7 14 18 := ⟨by decide +kernel, rfl, by decide⟩
theorem dX5_isOpenDay_14 : AtI iX5_isOpenDay 14 (.iconst 1) 1 15 := ⟨by decide +kernel, rfl⟩
theorem dX5_isOpenDay_15 : AtJ iX5_isOpenDay 15 (.goto 4) 4 18 19 := ⟨by decide +kernel, rfl, by decide⟩
theorem dX5_isOpenDay_18 : AtI iX5_isOpenDay 18 (.iconst 0) 1 19 := ⟨by decide +kernel, rfl⟩
theorem dX5_isOpenDay_19 : AtI iX5_isOpenDay 19 (.istore_n 3) 1 20 := ⟨by decide +kernel, rfl⟩
theorem dX5_isOpenDay_20 : AtI iX5_isOpenDay 20 (.aload_n 0) 1 21 := ⟨by decide +kernel, rfl⟩
theorem dX5_isOpenDay_21 : AtI iX5_isOpenDay 21 (.getfield 26) 3 24 := ⟨by decide +kernel, rfl⟩
theorem dX5_isOpenDay_24 : AtI iX5_isOpenDay 24 (.iload_n 1) 1 25 := ⟨by decide +kernel, rfl⟩
theorem dX5_isOpenDay_25 : AtI iX5_isOpenDay 25 .ishr 1 26 := ⟨by decide +kernel, rfl⟩
theorem dX5_isOpenDay_26 : AtI iX5_isOpenDay 26 (.iconst 1) 1 27 := ⟨by decide +kernel, rfl⟩
theorem dX5_isOpenDay_27 : AtI iX5_isOpenDay 27 .iand 1 28 := ⟨by decide +kernel, rfl⟩
theorem dX5_isOpenDay_28 : AtJ iX5_isOpenDay 28 (.ifCond .eq 7) 7 31 35 := ⟨by decide +kernel, rfl, by decide⟩
theorem dX5_isOpenDay_31 : AtI iX5_isOpenDay 31 (.iconst 1) 1 32 := ⟨by decide +kernel, rfl⟩
theorem dX5_isOpenDay_32 : AtJ iX5_isOpenDay 32 (.goto 4) 4 35 36 := ⟨by decide +kernel, rfl, by decide⟩
theorem dX5_isOpenDay_35 : AtI iX5_isOpenDay 35 (.iconst 0) 1 36 := ⟨by decide +kernel, rfl⟩
theorem dX5_isOpenDay_36 : AtI iX5_isOpenDay 36 (.istore 4) 2 38 := ⟨by decide +kernel, rfl⟩
theorem dX5_isOpenDay_38 : AtI iX5_isOpenDay 38 (.iload_n 3) 1 39 := ⟨by decide +kernel, rfl⟩
theorem dX5_isOpenDay_39 : AtJ iX5_isOpenDay 39 (.ifCond .ne 25) 25 42 64 := ⟨by decide +kernel, rfl, by decide⟩
theorem dX5_isOpenDay_42 : AtI iX5_isOpenDay 42 (.iload 4) 2 44 := ⟨by decide +kernel, rfl⟩
theorem dX5_isOpenDay_44 : AtJ iX5_isOpenDay 44 (.ifCond .ne 20) 20 47 64 := ⟨by decide +kernel, rfl, by decide⟩
theorem dX5_isOpenDay_47 : AtI iX5_isOpenDay 47 (.aload_n 0) 1 48 := ⟨by decide +kernel, rfl⟩
theorem dX5_isOpenDay_48 : AtI iX5_isOpenDay 48 (.getfield 11) 3 51 := ⟨by decide +kernel, rfl⟩
theorem dX5_isOpenDay_51 : AtI iX5_isOpenDay 51 (.iload_n 2) 1 52 := ⟨by decide +kernel, rfl⟩
theorem dX5_isOpenDay_52 : AtI iX5_isOpenDay 52 (.iconst 3) 1 53 := ⟨by decide +kernel, rfl⟩
theorem dX5_isOpenDay_53 : AtI iX5_isOpenDay 53 .imul 1 54 := ⟨by decide +kernel, rfl⟩
theorem dX5_isOpenDay_54 : AtI iX5_isOpenDay 54 (.iconst 1) 1 55 := ⟨by decide +kernel, rfl⟩
theorem dX5_isOpenDay_55 : AtI iX5_isOpenDay 55 .iadd 1 56 := ⟨by decide +kernel, rfl⟩
theorem dX5_isOpenDay_56 : AtI iX5_isOpenDay 56 .iaload 1 57 := ⟨by decide +kernel, rfl⟩
theorem dX5_isOpenDay_57 : AtJ iX5_isOpenDay 57 (.ifCond .ne 7) 7 60 64 := ⟨by decide +kernel, rfl, by decide⟩
theorem dX5_isOpenDay_60 : AtI iX5_isOpenDay 60 (.iconst 1) 1 61 := ⟨by decide +kernel, rfl⟩
theorem dX5_isOpenDay_61 : AtJ iX5_isOpenDay 61 (.goto 4) 4 64 65 := ⟨by decide +kernel, rfl, by decide⟩
theorem dX5_isOpenDay_64 : AtI iX5_isOpenDay 64 (.iconst 0) 1 65 := ⟨by decide +kernel, rfl⟩
theorem dX5_isOpenDay_65 : AtI iX5_isOpenDay 65 .ireturn 1 66 := ⟨by decide +kernel, rfl⟩
theorem dX5_bellOf_0 : AtI iX5_bellOf 0 (.aload_n 0) 1 1 := ⟨by decide +kernel, rfl⟩
theorem dX5_bellOf_1 : AtI iX5_bellOf 1 (.getfield 18) 3 4 := ⟨by decide +kernel, rfl⟩
theorem dX5_bellOf_4 : AtI iX5_bellOf 4 (.getfield 39) 3 7 := ⟨by decide +kernel, rfl⟩
theorem dX5_bellOf_7 : AtI iX5_bellOf 7 (.iconst 2) 1 8 := ⟨by decide +kernel, rfl⟩
theorem dX5_bellOf_8 : AtI iX5_bellOf 8 (.aload_n 0) 1 9 := ⟨by decide +kernel, rfl⟩
theorem dX5_bellOf_9 : AtI iX5_bellOf 9 (.getfield 11) 3 12 := ⟨by decide +kernel, rfl⟩
theorem dX5_bellOf_12 : AtI iX5_bellOf 12 (.iload_n 1) 1 13 := ⟨by decide +kernel, rfl⟩
theorem dX5_bellOf_13 : AtI iX5_bellOf 13 (.iconst 3) 1 14 := ⟨by decide +kernel, rfl⟩
theorem dX5_bellOf_14 : AtI iX5_bellOf 14 .imul 1 15 := ⟨by decide +kernel, rfl⟩
theorem dX5_bellOf_15 : AtI iX5_bellOf 15 (.iconst 0) 1 16 := ⟨by decide +kernel, rfl⟩
theorem dX5_bellOf_16 : AtI iX5_bellOf 16 .iadd 1 17 := ⟨by decide +kernel, rfl⟩
theorem dX5_bellOf_17 : AtI iX5_bellOf 17 .iaload 1 18 := ⟨by decide +kernel, rfl⟩
theorem dX5_bellOf_18 : AtI iX5_bellOf 18 .imul 1 19 := ⟨by decide +kernel, rfl⟩
theorem dX5_bellOf_19 : AtI iX5_bellOf 19 (.iload_n 2) 1 20 := ⟨by decide +kernel, rfl⟩
theorem dX5_bellOf_20 : AtI iX5_bellOf 20 .iadd 1 21 := ⟨by decide +kernel, rfl⟩
theorem dX5_bellOf_21 : AtI iX5_bellOf 21 .iaload 1 22 := ⟨by decide +kernel, rfl⟩
theorem dX5_bellOf_22 : AtI iX5_bellOf 22 .ireturn 1 23 := ⟨by decide +kernel, rfl⟩
theorem dX5_isWar_0 : AtI iX5_isWar 0 (.iload_n 1) 1 1 := ⟨by decide +kernel, rfl⟩
theorem dX5_isWar_1 : AtJ iX5_isWar 1 (.ifCond .lt 22) 22 4 23 := ⟨by decide +kernel, rfl, by decide⟩
theorem dX5_isWar_4 : AtI iX5_isWar 4 (.iload_n 1) 1 5 := ⟨by decide +kernel, rfl⟩
theorem dX5_isWar_5 : AtI iX5_isWar 5 (.sipush 672) 3 8 := ⟨by decide +kernel, rfl⟩
theorem dX5_isWar_8 : AtJ iX5_isWar 8 (.if_icmp .ge 15) 15 11 23 := ⟨by decide +kernel, rfl, by decide⟩
theorem dX5_isWar_11 : AtI iX5_isWar 11 (.aload_n 0) 1 12 := ⟨by decide +kernel, rfl⟩
theorem dX5_isWar_12 : AtI iX5_isWar 12 (.iload_n 1) 1 13 := ⟨by decide +kernel, rfl⟩
theorem dX5_isWar_13 : AtI iX5_isWar 13 (.bipush 24) 2 15 := ⟨by decide +kernel, rfl⟩
theorem dX5_isWar_15 : AtI iX5_isWar 15 .idiv 1 16 := ⟨by decide +kernel, rfl⟩
theorem dX5_isWar_16 : AtI iX5_isWar 16 (.iload_n 2) 1 17 := ⟨by decide +kernel, rfl⟩
theorem dX5_isWar_17 : AtI iX5_isWar 17 (.invokevirtual 44) 3 20 := ⟨by decide +kernel, rfl⟩
theorem dX5_isWar_20 : AtJ iX5_isWar 20 (.ifCond .ne 5) 5 23 25 := ⟨by decide +kernel, rfl, by decide⟩
theorem dX5_isWar_23 : AtI iX5_isWar 23 (.iconst 0) 1 24 := ⟨by decide +kernel, rfl⟩
theorem dX5_isWar_24 : AtI iX5_isWar 24 .ireturn 1 25 := ⟨by decide +kernel, rfl⟩
theorem dX5_isWar_25 : AtI iX5_isWar 25 (.iload_n 1) 1 26 := ⟨by decide +kernel, rfl⟩
theorem dX5_isWar_26 : AtI iX5_isWar 26 (.sipush 168) 3 29 := ⟨by decide +kernel, rfl⟩
theorem dX5_isWar_29 : AtI iX5_isWar 29 .irem 1 30 := ⟨by decide +kernel, rfl⟩
theorem dX5_isWar_30 : AtI iX5_isWar 30 (.istore_n 3) 1 31 := ⟨by decide +kernel, rfl⟩
theorem dX5_isWar_31 : AtI iX5_isWar 31 (.iload_n 3) 1 32 := ⟨by decide +kernel, rfl⟩
theorem dX5_isWar_32 : AtI iX5_isWar 32 (.aload_n 0) 1 33 := ⟨by decide +kernel, rfl⟩
theorem dX5_isWar_33 : AtI iX5_isWar 33 (.iload_n 2) 1 34 := ⟨by decide +kernel, rfl⟩
theorem dX5_isWar_34 : AtI iX5_isWar 34 (.iconst 0) 1 35 := ⟨by decide +kernel, rfl⟩
theorem dX5_isWar_35 : AtI iX5_isWar 35 (.invokevirtual 48) 3 38 := ⟨by decide +kernel, rfl⟩
theorem dX5_isWar_38 : AtJ iX5_isWar 38 (.if_icmp .lt 20) 20 41 58 := ⟨by decide +kernel, rfl, by decide⟩
theorem dX5_isWar_41 : AtI iX5_isWar 41 (.iload_n 3) 1 42 := ⟨by decide +kernel, rfl⟩
theorem dX5_isWar_42 : AtI iX5_isWar 42 (.bipush 48) 2 44 := ⟨by decide +kernel, rfl⟩
theorem dX5_isWar_44 : AtI iX5_isWar 44 (.aload_n 0) 1 45 := ⟨by decide +kernel, rfl⟩
theorem dX5_isWar_45 : AtI iX5_isWar 45 (.iload_n 2) 1 46 := ⟨by decide +kernel, rfl⟩
theorem dX5_isWar_46 : AtI iX5_isWar 46 (.iconst 1) 1 47 := ⟨by decide +kernel, rfl⟩
theorem dX5_isWar_47 : AtI iX5_isWar 47 (.invokevirtual 48) 3 50 := ⟨by decide +kernel, rfl⟩
theorem dX5_isWar_50 : AtI iX5_isWar 50 .iadd 1 51 := ⟨by decide +kernel, rfl⟩
theorem dX5_isWar_51 : AtJ iX5_isWar 51 (.if_icmp .ge 7) 7 54 58 := ⟨by decide +kernel, rfl, by decide⟩
theorem dX5_isWar_54 : AtI iX5_isWar 54 (.iconst 1) 1 55 := ⟨by decide +kernel, rfl⟩
theorem dX5_isWar_55 : AtJ iX5_isWar 55 (.goto 4) 4 58 59 := ⟨by decide +kernel, rfl, by decide⟩
theorem dX5_isWar_58 : AtI iX5_isWar 58 (.iconst 0) 1 59 := ⟨by decide +kernel, rfl⟩
theorem dX5_isWar_59 : AtI iX5_isWar 59 .ireturn 1 60 := ⟨by decide +kernel, rfl⟩
theorem dX5_warInDay_0 : AtI iX5_warInDay 0 (.aload_n 0) 1 1 := ⟨by decide +kernel, rfl⟩
theorem dX5_warInDay_1 : AtI iX5_warInDay 1 (.iload_n 1) 1 2 := ⟨by decide +kernel, rfl⟩
theorem dX5_warInDay_2 : AtI iX5_warInDay 2 (.iload_n 2) 1 3 := ⟨by decide +kernel, rfl⟩
theorem dX5_warInDay_3 : AtI iX5_warInDay 3 (.invokevirtual 44) 3 6 := ⟨by decide +kernel, rfl⟩
theorem dX5_warInDay_6 : AtJ iX5_warInDay 6 (.ifCond .ne 5) 5 9 11 := ⟨by decide +kernel, rfl, by decide⟩
theorem dX5_warInDay_9 : AtI iX5_warInDay 9 (.iconst 0) 1 10 := ⟨by decide +kernel, rfl⟩
theorem dX5_warInDay_10 : AtI iX5_warInDay 10 .ireturn 1 11 := ⟨by decide +kernel, rfl⟩
theorem dX5_warInDay_11 : AtI iX5_warInDay 11 (.iload_n 1) 1 12 := ⟨by decide +kernel, rfl⟩
theorem dX5_warInDay_12 : AtI iX5_warInDay 12 (.bipush 7) 2 14 := ⟨by decide +kernel, rfl⟩
theorem dX5_warInDay_14 : AtI iX5_warInDay 14 .irem 1 15 := ⟨by decide +kernel, rfl⟩
theorem dX5_warInDay_15 : decode iX5_warInDay.2.1 15 = .ok (.tableswitch 45 0 2 #[25, 35, 38], 25) := by decide +kernel
theorem dX5_warInDay_40 : AtI iX5_warInDay 40 (.bipush 24) 2 42 := ⟨by decide +kernel, rfl⟩
theorem dX5_warInDay_42 : AtI iX5_warInDay 42 (.aload_n 0) 1 43 := ⟨by decide +kernel, rfl⟩
theorem dX5_warInDay_43 : AtI iX5_warInDay 43 (.iload_n 2) 1 44 := ⟨by decide +kernel, rfl⟩
theorem dX5_warInDay_44 : AtI iX5_warInDay 44 (.iconst 0) 1 45 := ⟨by decide +kernel, rfl⟩
theorem dX5_warInDay_45 : AtI iX5_warInDay 45 (.invokevirtual 48) 3 48 := ⟨by decide +kernel, rfl⟩
theorem dX5_warInDay_48 : AtI iX5_warInDay 48 .isub 1 49 := ⟨by decide +kernel, rfl⟩
theorem dX5_warInDay_49 : AtI iX5_warInDay 49 .ireturn 1 50 := ⟨by decide +kernel, rfl⟩
theorem dX5_warInDay_50 : AtI iX5_warInDay 50 (.bipush 24) 2 52 := ⟨by decide +kernel, rfl⟩
theorem dX5_warInDay_52 : AtI iX5_warInDay 52 .ireturn 1 53 := ⟨by decide +kernel, rfl⟩
theorem dX5_warInDay_53 : AtI iX5_warInDay 53 (.aload_n 0) 1 54 := ⟨by decide +kernel, rfl⟩
theorem dX5_warInDay_54 : AtI iX5_warInDay 54 (.iload_n 2) 1 55 := ⟨by decide +kernel, rfl⟩
theorem dX5_warInDay_55 : AtI iX5_warInDay 55 (.iconst 1) 1 56 := ⟨by decide +kernel, rfl⟩
theorem dX5_warInDay_56 : AtI iX5_warInDay 56 (.invokevirtual 48) 3 59 := ⟨by decide +kernel, rfl⟩
theorem dX5_warInDay_59 : AtI iX5_warInDay 59 .ireturn 1 60 := ⟨by decide +kernel, rfl⟩
theorem dX5_warInDay_60 : AtI iX5_warInDay 60 (.iconst 0) 1 61 := ⟨by decide +kernel, rfl⟩
theorem dX5_warInDay_61 : AtI iX5_warInDay 61 .ireturn 1 62 := ⟨by decide +kernel, rfl⟩
theorem dX5_warInWeek_0 : AtI iX5_warInWeek 0 (.iconst 0) 1 1 := ⟨by decide +kernel, rfl⟩
theorem dX5_warInWeek_1 : AtI iX5_warInWeek 1 (.istore_n 3) 1 2 := ⟨by decide +kernel, rfl⟩
theorem dX5_warInWeek_2 : AtI iX5_warInWeek 2 (.iconst 0) 1 3 := ⟨by decide +kernel, rfl⟩
theorem dX5_warInWeek_3 : AtI iX5_warInWeek 3 (.istore 4) 2 5 := ⟨by decide +kernel, rfl⟩
theorem dX5_warInWeek_5 : AtI iX5_warInWeek 5 (.iload 4) 2 7 := ⟨by decide +kernel, rfl⟩
theorem dX5_warInWeek_7 : AtI iX5_warInWeek 7 (.bipush 7) 2 9 := ⟨by decide +kernel, rfl⟩
theorem dX5_warInWeek_9 : AtJ iX5_warInWeek 9 (.if_icmp .ge 24) 24 12 33 := ⟨by decide +kernel, rfl, by decide⟩
theorem dX5_warInWeek_12 : AtI iX5_warInWeek 12 (.iload_n 3) 1 13 := ⟨by decide +kernel, rfl⟩
theorem dX5_warInWeek_13 : AtI iX5_warInWeek 13 (.aload_n 0) 1 14 := ⟨by decide +kernel, rfl⟩
theorem dX5_warInWeek_14 : AtI iX5_warInWeek 14 (.iload_n 1) 1 15 := ⟨by decide +kernel, rfl⟩
theorem dX5_warInWeek_15 : AtI iX5_warInWeek 15 (.bipush 7) 2 17 := ⟨by decide +kernel, rfl⟩
theorem dX5_warInWeek_17 : AtI iX5_warInWeek 17 .imul 1 18 := ⟨by decide +kernel, rfl⟩
theorem dX5_warInWeek_18 : AtI iX5_warInWeek 18 (.iload 4) 2 20 := ⟨by decide +kernel, rfl⟩
theorem dX5_warInWeek_20 : AtI iX5_warInWeek 20 .iadd 1 21 := ⟨by decide +kernel, rfl⟩
theorem dX5_warInWeek_21 : AtI iX5_warInWeek 21 (.iload_n 2) 1 22 := ⟨by decide +kernel, rfl⟩
theorem dX5_warInWeek_22 : AtI iX5_warInWeek 22 (.invokevirtual 51) 3 25 := ⟨by decide +kernel, rfl⟩
theorem dX5_warInWeek_25 : AtI iX5_warInWeek 25 .iadd 1 26 := ⟨by decide +kernel, rfl⟩
theorem dX5_warInWeek_26 : AtI iX5_warInWeek 26 (.istore_n 3) 1 27 := ⟨by decide +kernel, rfl⟩
theorem dX5_warInWeek_27 : AtI iX5_warInWeek 27 (.iinc 4 1) 3 30 := ⟨by decide +kernel, rfl⟩
theorem dX5_warInWeek_30 : AtJ iX5_warInWeek 30 (.goto (-25)) (-25) 33 5 := ⟨by decide +kernel, rfl, by decide⟩
theorem dX5_warInWeek_33 : AtI iX5_warInWeek 33 (.iload_n 3) 1 34 := ⟨by decide +kernel, rfl⟩
theorem dX5_warInWeek_34 : AtI iX5_warInWeek 34 .ireturn 1 35 := ⟨by decide +kernel, rfl⟩
theorem dX6_init_0 : AtI iX6_init 0 (.aload_n 0) 1 1 := ⟨by decide +kernel, rfl⟩
theorem dX6_init_1 : AtI iX6_init 1 (.invokespecial 3) 3 4 := ⟨by decide +kernel, rfl⟩
theorem dX6_init_4 : AtI iX6_init 4 (.aload_n 0) 1 5 := ⟨by decide +kernel, rfl⟩
theorem dX6_init_5 : AtI iX6_init 5 (.bipush 47) 2 7 := ⟨by decide +kernel, rfl⟩
theorem dX6_init_7 : AtI iX6_init 7 (.newarray .int) 2 9 := ⟨by decide +kernel, rfl⟩
theorem dX6_init_9 : AtI iX6_init 9 (.putfield 11) 3 12 := ⟨by decide +kernel, rfl⟩
theorem dX6_init_12 : AtI iX6_init 12 (.aload_n 0) 1 13 := ⟨by decide +kernel, rfl⟩
theorem dX6_init_13 : AtI iX6_init 13 (.bipush 12) 2 15 := ⟨by decide +kernel, rfl⟩
theorem dX6_init_15 : AtI iX6_init 15 (.newarray .int) 2 17 := ⟨by decide +kernel, rfl⟩
theorem dX6_init_17 : AtI iX6_init 17 (.putfield 15) 3 20 := ⟨by decide +kernel, rfl⟩
theorem dX6_init_20 : AtI iX6_init 20 (.aload_n 0) 1 21 := ⟨by decide +kernel, rfl⟩
theorem dX6_init_21 : AtI iX6_init 21 (.bipush 12) 2 23 := ⟨by decide +kernel, rfl⟩
theorem dX6_init_23 : AtI iX6_init 23 (.newarray .int) 2 25 := ⟨by decide +kernel, rfl⟩
theorem dX6_init_25 : AtI iX6_init 25 (.putfield 18) 3 28 := ⟨by decide +kernel, rfl⟩
theorem dX6_init_28 : AtI iX6_init 28 (.aload_n 0) 1 29 := ⟨by decide +kernel, rfl⟩
theorem dX6_init_29 : AtI iX6_init 29 (.bipush 12) 2 31 := ⟨by decide +kernel, rfl⟩
theorem dX6_init_31 : AtI iX6_init 31 (.newarray .int) 2 33 := ⟨by decide +kernel, rfl⟩
theorem dX6_init_33 : AtI iX6_init 33 (.putfield 21) 3 36 := ⟨by decide +kernel, rfl⟩
theorem dX6_init_36 : AtI iX6_init 36 (.aload_n 0) 1 37 := ⟨by decide +kernel, rfl⟩
theorem dX6_init_37 : AtI iX6_init 37 (.bipush 64) 2 39 := ⟨by decide +kernel, rfl⟩
theorem dX6_init_39 : AtI iX6_init 39 (.newarray .int) 2 41 := ⟨by decide +kernel, rfl⟩
theorem dX6_init_41 : AtI iX6_init 41 (.putfield 24) 3 44 := ⟨by decide +kernel, rfl⟩
theorem dX6_init_44 : AtI iX6_init 44 (.aload_n 0) 1 45 := ⟨by decide +kernel, rfl⟩
theorem dX6_init_45 : AtI iX6_init 45 (.iconst 0) 1 46 := ⟨by decide +kernel, rfl⟩
theorem dX6_init_46 : AtI iX6_init 46 (.putfield 27) 3 49 := ⟨by decide +kernel, rfl⟩
theorem dX6_init_49 : AtI iX6_init 49 (.aload_n 0) 1 50 := ⟨by decide +kernel, rfl⟩
theorem dX6_init_50 : AtI iX6_init 50 (.iconst 0) 1 51 := ⟨by decide +kernel, rfl⟩
theorem dX6_init_51 : AtI iX6_init 51 (.putfield 31) 3 54 := ⟨by decide +kernel, rfl⟩
theorem dX6_init_54 : AtI iX6_init 54 (.aload_n 0) 1 55 := ⟨by decide +kernel, rfl⟩
theorem dX6_init_55 : AtI iX6_init 55 (.iconst (-1)) 1 56 := ⟨by decide +kernel, rfl⟩
theorem dX6_init_56 : AtI iX6_init 56 (.putfield 34) 3 59 := ⟨by decide +kernel, rfl⟩
theorem dX6_init_59 : AtI iX6_init 59 (.aload_n 0) 1 60 := ⟨by decide +kernel, rfl⟩
theorem dX6_init_60 : AtI iX6_init 60 (.getfield 24) 3 63 := ⟨by decide +kernel, rfl⟩
theorem dX6_init_63 : AtI iX6_init 63 (.sipush 1000) 3 66 := ⟨by decide +kernel, rfl⟩
theorem dX6_init_66 : AtI iX6_init 66 (.invokestatic 37) 3 69 := ⟨by decide +kernel, rfl⟩
theorem dX6_init_69 : AtI iX6_init 69 .return_ 1 70 := ⟨by decide +kernel, rfl⟩
theorem dX6_append_0 : AtI iX6_append 0 (.aload_n 0) 1 1 := ⟨by decide +kernel, rfl⟩
theorem dX6_append_1 : AtI iX6_append 1 (.getfield 27) 3 4 := ⟨by decide +kernel, rfl⟩
theorem dX6_append_4 : AtI iX6_append 4 (.bipush 47) 2 6 := ⟨by decide +kernel, rfl⟩
theorem dX6_append_6 : AtJ iX6_append 6 (.if_icmp .lt 5) 5 9 11 := ⟨by decide +kernel, rfl, by decide⟩
theorem dX6_append_9 : AtI iX6_append 9 (.iconst 0) 1 10 := ⟨by decide +kernel, rfl⟩
theorem dX6_append_10 : AtI iX6_append 10 .ireturn 1 11 := ⟨by decide +kernel, rfl⟩
theorem dX6_append_11 : AtI iX6_append 11 (.aload_n 0) 1 12 := ⟨by decide +kernel, rfl⟩
theorem dX6_append_12 : AtI iX6_append 12 (.getfield 11) 3 15 := ⟨by decide +kernel, rfl⟩
theorem dX6_append_15 : AtI iX6_append 15 (.aload_n 0) 1 16 := ⟨by decide +kernel, rfl⟩
theorem dX6_append_16 : AtI iX6_append 16 (.getfield 27) 3 19 := ⟨by decide +kernel, rfl⟩
theorem dX6_append_19 : AtI iX6_append 19 (.iload_n 1) 1 20 := ⟨by decide +kernel, rfl⟩
theorem dX6_append_20 : AtI iX6_append 20 .iastore 1 21 := ⟨by decide +kernel, rfl⟩
theorem dX6_append_21 : AtI iX6_append 21 (.aload_n 0) 1 22 := ⟨by decide +kernel, rfl⟩
theorem dX6_append_22 : AtI iX6_append 22 .dup 1 23 := ⟨by decide +kernel, rfl⟩
theorem dX6_append_23 : AtI iX6_append 23 (.getfield 27) 3 26 := ⟨by decide +kernel, rfl⟩
theorem dX6_append_26 : AtI iX6_append 26 (.iconst 1) 1 27 := ⟨by decide +kernel, rfl⟩
theorem dX6_append_27 : AtI iX6_append 27 .iadd 1 28 := ⟨by decide +kernel, rfl⟩
theorem dX6_append_28 : AtI iX6_append 28 (.putfield 27) 3 31 := ⟨by decide +kernel, rfl⟩
theorem dX6_append_31 : AtI iX6_append 31 (.aload_n 0) 1 32 := ⟨by decide +kernel, rfl⟩
theorem dX6_append_32 : AtI iX6_append 32 (.invokevirtual 43) 3 35 := ⟨by decide +kernel, rfl⟩
theorem dX6_append_35 : AtI iX6_append 35 (.iconst 1) 1 36 := ⟨by decide +kernel, rfl⟩
theorem dX6_append_36 : AtI iX6_append 36 .ireturn 1 37 := ⟨by decide +kernel, rfl⟩
theorem dX6_shorten_0 : AtI iX6_shorten 0 (.aload_n 0) 1 1 := ⟨by decide +kernel, rfl⟩
theorem dX6_shorten_1 : AtI iX6_shorten 1 (.iload_n 1) 1 2 := ⟨by decide +kernel, rfl⟩
theorem dX6_shorten_2 : AtI iX6_shorten 2 (.putfield 27) 3 5 := ⟨by decide +kernel, rfl⟩
theorem dX6_shorten_5 : AtI iX6_shorten 5 (.aload_n 0) 1 6 := ⟨by decide +kernel, rfl⟩
theorem dX6_shorten_6 : AtI iX6_shorten 6 (.invokevirtual 43) 3 9 := ⟨by decide +kernel, rfl⟩
theorem dX6_shorten_9 : AtI iX6_shorten 9 .return_ 1 10 := ⟨by decide +kernel, rfl⟩
theorem dX6_settle_0 : AtI iX6_settle 0 (.aload_n 0) 1 1 := ⟨by decide +kernel, rfl⟩
theorem dX6_settle_1 : AtI iX6_settle 1 (.aload_n 0) 1 2 := ⟨by decide +kernel, rfl⟩
theorem dX6_settle_2 : AtI iX6_settle 2 (.invokevirtual 46) 3 5 := ⟨by decide +kernel, rfl⟩
theorem dX6_settle_5 : AtI iX6_settle 5 (.putfield 34) 3 8 := ⟨by decide +kernel, rfl⟩
theorem dX6_settle_8 : AtI iX6_settle 8 (.aload_n 0) 1 9 := ⟨by decide +kernel, rfl⟩
theorem dX6_settle_9 : AtI iX6_settle 9 (.aload_n 0) 1 10 := ⟨by decide +kernel, rfl⟩
theorem dX6_settle_10 : AtI iX6_settle 10 (.getfield 34) 3 13 := ⟨by decide +kernel, rfl⟩
theorem dX6_settle_13 : AtI iX6_settle 13 (.iconst (-1)) 1 14 := ⟨by decide +kernel, rfl⟩
theorem dX6_settle_14 : AtJ iX6_settle 14 (.if_icmp .ne 14) 14 17 28 := ⟨by decide +kernel, rfl, by decide⟩
theorem dX6_settle_17 : AtI iX6_settle 17 (.aload_n 0) 1 18 := ⟨by decide +kernel, rfl⟩
theorem dX6_settle_18 : AtI iX6_settle 18 (.getfield 27) 3 21 := ⟨by decide +kernel, rfl⟩
theorem dX6_settle_21 : AtI iX6_settle 21 (.iconst 1) 1 22 := ⟨by decide +kernel, rfl⟩
theorem dX6_settle_22 : AtI iX6_settle 22 .iadd 1 23 := ⟨by decide +kernel, rfl⟩
theorem dX6_settle_23 : AtI iX6_settle 23 (.iconst 4) 1 24 := ⟨by decide +kernel, rfl⟩
theorem dX6_settle_24 : AtI iX6_settle 24 .idiv 1 25 := ⟨by decide +kernel, rfl⟩
theorem dX6_settle_25 : AtJ iX6_settle 25 (.goto 4) 4 28 29 := ⟨by decide +kernel, rfl, by decide⟩
theorem dX6_settle_28 : AtI iX6_settle 28 (.iconst 0) 1 29 := ⟨by decide +kernel, rfl⟩
theorem dX6_settle_29 : AtI iX6_settle 29 (.putfield 31) 3 32 := ⟨by decide +kernel, rfl⟩
theorem dX6_settle_32 : AtI iX6_settle 32 (.iconst 0) 1 33 := ⟨by decide +kernel, rfl⟩
theorem dX6_settle_33 : AtI iX6_settle 33 (.istore_n 1) 1 34 := ⟨by decide +kernel, rfl⟩
theorem dX6_settle_34 : AtI iX6_settle 34 (.iload_n 1) 1 35 := ⟨by decide +kernel, rfl⟩
theorem dX6_settle_35 : AtI iX6_settle 35 (.aload_n 0) 1 36 := ⟨by decide +kernel, rfl⟩
theorem dX6_settle_36 : AtI iX6_settle 36 (.getfield 31) 3 39 := ⟨by decide +kernel, rfl⟩
theorem dX6_settle_39 : AtJ iX6_settle 39 (.if_icmp .ge 64) 64 42 103 := ⟨by decide +kernel, rfl, by decide⟩
theorem dX6_settle_42 : AtI iX6_settle 42 (.aload_n 0) 1 43 := ⟨by decide +kernel, rfl⟩
theorem dX6_settle_43 : AtI iX6_settle 43 (.getfield 15) 3 46 := ⟨by decide +kernel, rfl⟩
theorem dX6_settle_46 : AtI iX6_settle 46 (.iload_n 1) 1 47 := ⟨by decide +kernel, rfl⟩
theorem dX6_settle_47 : AtI iX6_settle 47 (.aload_n 0) 1 48 := ⟨by decide +kernel, rfl⟩
theorem dX6_settle_48 : AtI iX6_settle 48 (.getfield 11) 3 51 := ⟨by decide +kernel, rfl⟩
theorem dX6_settle_51 : AtI iX6_settle 51 (.iconst 4) 1 52 := ⟨by decide +kernel, rfl⟩
theorem dX6_settle_52 : AtI iX6_settle 52 (.iload_n 1) 1 53 := ⟨by decide +kernel, rfl⟩
theorem dX6_settle_53 : AtI iX6_settle 53 .imul 1 54 := ⟨by decide +kernel, rfl⟩
theorem dX6_settle_54 : AtI iX6_settle 54 .iaload 1 55 := ⟨by decide +kernel, rfl⟩
theorem dX6_settle_55 : AtI iX6_settle 55 (.bipush 97) 2 57 := ⟨by decide +kernel, rfl⟩
theorem dX6_settle_57 : AtI iX6_settle 57 .isub 1 58 := ⟨by decide +kernel, rfl⟩
theorem dX6_settle_58 : AtI iX6_settle 58 .iastore 1 59 := ⟨by decide +kernel, rfl⟩
theorem dX6_settle_59 : AtI iX6_settle 59 (.aload_n 0) 1 60 := ⟨by decide +kernel, rfl⟩
theorem dX6_settle_60 : AtI iX6_settle 60 (.getfield 18) 3 63 := ⟨by decide +kernel, rfl⟩
theorem dX6_settle_63 : AtI iX6_settle 63 (.iload_n 1) 1 64 := ⟨by decide +kernel, rfl⟩
theorem dX6_settle_64 : AtI iX6_settle 64 (.aload_n 0) 1 65 := ⟨by decide +kernel, rfl⟩
theorem dX6_settle_65 : AtI iX6_settle 65 (.getfield 11) 3 68 := ⟨by decide +kernel, rfl⟩
theorem dX6_settle_68 : AtI iX6_settle 68 (.iconst 4) 1 69 := ⟨by decide +kernel, rfl⟩
theorem dX6_settle_69 : AtI iX6_settle 69 (.iload_n 1) 1 70 := ⟨by decide +kernel, rfl⟩
theorem dX6_settle_70 : AtI iX6_settle 70 .imul 1 71 := ⟨by decide +kernel, rfl⟩
theorem dX6_settle_71 : AtI iX6_settle 71 (.iconst 1) 1 72 := ⟨by decide +kernel, rfl⟩
theorem dX6_settle_72 : AtI iX6_settle 72 .iadd 1 73 := ⟨by decide +kernel, rfl⟩
theorem dX6_settle_73 : AtI iX6_settle 73 .iaload 1 74 := ⟨by decide +kernel, rfl⟩
theorem dX6_settle_74 : AtI iX6_settle 74 (.bipush 97) 2 76 := ⟨by decide +kernel, rfl⟩
theorem dX6_settle_76 : AtI iX6_settle 76 .isub 1 77 := ⟨by decide +kernel, rfl⟩
theorem dX6_settle_77 : AtI iX6_settle 77 .iastore 1 78 := ⟨by decide +kernel, rfl⟩
theorem dX6_settle_78 : AtI iX6_settle 78 (.aload_n 0) 1 79 := ⟨by decide +kernel, rfl⟩
theorem dX6_settle_79 : AtI iX6_settle 79 (.getfield 21) 3 82 := ⟨by decide +kernel, rfl⟩
theorem dX6_settle_82 : AtI iX6_settle 82 (.iload_n 1) 1 83 := ⟨by decide +kernel, rfl⟩
theorem dX6_settle_83 : AtI iX6_settle 83 (.aload_n 0) 1 84 := ⟨by decide +kernel, rfl⟩
theorem dX6_settle_84 : AtI iX6_settle 84 (.getfield 11) 3 87 := ⟨by decide +kernel, rfl⟩
theorem dX6_settle_87 : AtI iX6_settle 87 (.iconst 4) 1 88 := ⟨by decide +kernel, rfl⟩
theorem dX6_settle_88 : AtI iX6_settle 88 (.iload_n 1) 1 89 := ⟨by decide +kernel, rfl⟩
theorem dX6_settle_89 : AtI iX6_settle 89 .imul 1 90 := ⟨by decide +kernel, rfl⟩
theorem dX6_settle_90 : AtI iX6_settle 90 (.iconst 2) 1 91 := ⟨by decide +kernel, rfl⟩
theorem dX6_settle_91 : AtI iX6_settle 91 .iadd 1 92 := ⟨by decide +kernel, rfl⟩
theorem dX6_settle_92 : AtI iX6_settle 92 .iaload 1 93 := ⟨by decide +kernel, rfl⟩
theorem dX6_settle_93 : AtI iX6_settle 93 (.bipush 48) 2 95 := ⟨by decide +kernel, rfl⟩
theorem dX6_settle_95 : AtI iX6_settle 95 .isub 1 96 := ⟨by decide +kernel, rfl⟩
theorem dX6_settle_96 : AtI iX6_settle 96 .iastore 1 97 := ⟨by decide +kernel, rfl⟩
theorem dX6_settle_97 : AtI iX6_settle 97 (.iinc 1 1) 3 100 := ⟨by decide +kernel, rfl⟩
theorem dX6_settle_100 : AtJ iX6_settle 100 (.goto (-66)) (-66) 103 34 := ⟨by decide +kernel, rfl, by decide⟩
theorem dX6_settle_103 : AtI iX6_settle 103 (.aload_n 0) 1 104 := ⟨by decide +kernel, rfl⟩
theorem dX6_settle_104 : AtI iX6_settle 104 (.invokevirtual 50) 3 107 := ⟨by decide +kernel, rfl⟩
theorem dX6_settle_107 : AtI iX6_settle 107 .return_ 1 108 := ⟨by decide +kernel, rfl⟩
theorem dX6_firstFault_0 : AtI iX6_firstFault 0 (.iconst 0) 1 1 := ⟨by decide +kernel, rfl⟩
theorem dX6_firstFault_1 : AtI iX6_firstFault 1 (.istore_n 1) 1 2 := ⟨by decide +kernel, rfl⟩
theorem dX6_firstFault_2 : AtI iX6_firstFault 2 (.iload_n 1) 1 3 := ⟨by decide +kernel, rfl⟩
theorem dX6_firstFault_3 : AtI iX6_firstFault 3 (.aload_n 0) 1 4 := ⟨by decide +kernel, rfl⟩
theorem dX6_firstFault_4 : AtI iX6_firstFault 4 (.getfield 27) 3 7 := ⟨by decide +kernel, rfl⟩
theorem dX6_firstFault_7 : AtJ iX6_firstFault 7 (.if_icmp .ge 19) 19 10 26 := ⟨by decide +kernel, rfl, by decide⟩
theorem dX6_firstFault_10 : AtI iX6_firstFault 10 (.aload_n 0) 1 11 := ⟨by decide +kernel, rfl⟩
theorem dX6_firstFault_11 : AtI iX6_firstFault 11 (.iload_n 1) 1 12 := ⟨by decide +kernel, rfl⟩
theorem dX6_firstFault_12 : AtI iX6_firstFault 12 (.invokevirtual 53) 3 15 := ⟨by decide +kernel, rfl⟩
theorem dX6_firstFault_15 : AtJ iX6_firstFault 15 (.ifCond .ne 5) 5 18 20 := ⟨by decide +kernel, rfl, by decide⟩
theorem dX6_firstFault_18 : AtI iX6_firstFault 18 (.iload_n 1) 1 19 := ⟨by decide +kernel, rfl⟩
theorem dX6_firstFault_19 : AtI iX6_firstFault 19 .ireturn 1 20 := ⟨by decide +kernel, rfl⟩
theorem dX6_firstFault_20 : AtI iX6_firstFault 20 (.iinc 1 1) 3 23 := ⟨by decide +kernel, rfl⟩
theorem dX6_firstFault_23 : AtJ iX6_firstFault 23 (.goto (-21)) (-21) 26 2 := ⟨by decide +kernel, rfl, by decide⟩
theorem dX6_firstFault_26 : AtI iX6_firstFault 26 (.aload_n 0) 1 27 := ⟨by decide +kernel, rfl⟩
theorem dX6_firstFault_27 : AtI iX6_firstFault 27 (.getfield 27) 3 30 := ⟨by decide +kernel, rfl⟩
theorem dX6_firstFault_30 : AtJ iX6_firstFault 30 (.ifCond .eq 13) 13 33 43 := ⟨by decide +kernel, rfl, by decide⟩
theorem dX6_firstFault_33 : AtI iX6_firstFault 33 (.aload_n 0) 1 34 := ⟨by decide +kernel, rfl⟩
theorem dX6_firstFault_34 : AtI iX6_firstFault 34 (.getfield 27) 3 37 := ⟨by decide +kernel, rfl⟩
theorem dX6_firstFault_37 : AtI iX6_firstFault 37 (.iconst 4) 1 38 := ⟨by decide +kernel, rfl⟩
theorem dX6_firstFault_38 : AtI iX6_firstFault 38 .irem 1 39 := ⟨by decide +kernel, rfl⟩
theorem dX6_firstFault_39 : AtI iX6_firstFault 39 (.iconst 3) 1 40 := ⟨by decide +kernel, rfl⟩
theorem dX6_firstFault_40 : AtJ iX6_firstFault 40 (.if_icmp .ne 7) 7 43 47 := ⟨by decide +kernel, rfl, by decide⟩
theorem dX6_firstFault_43 : AtI iX6_firstFault 43 (.iconst (-1)) 1 44 := ⟨by decide +kernel, rfl⟩
theorem dX6_firstFault_44 : AtJ iX6_firstFault 44 (.goto 7) 7 47 51 := ⟨by decide +kernel, rfl, by decide⟩
theorem dX6_firstFault_47 : AtI iX6_firstFault 47 (.aload_n 0) 1 48 := ⟨by decide +kernel, rfl⟩
theorem dX6_firstFault_48 : AtI iX6_firstFault 48 (.getfield 27) 3 51 := ⟨by decide +kernel, rfl⟩
theorem dX6_firstFault_51 : AtI iX6_firstFault 51 .ireturn 1 52 := ⟨by decide +kernel, rfl⟩
theorem dX6_goesOn_0 : AtI iX6_goesOn 0 (.aload_n 0) 1 1 := ⟨by decide +kernel, rfl⟩
theorem dX6_goesOn_1 : AtI iX6_goesOn 1 (.getfield 11) 3 4 := ⟨by decide +kernel, rfl⟩
theorem dX6_goesOn_4 : AtI iX6_goesOn 4 (.iload_n 1) 1 5 := ⟨by decide +kernel, rfl⟩
theorem dX6_goesOn_5 : AtI iX6_goesOn 5 .iaload 1 6 := ⟨by decide +kernel, rfl⟩
theorem dX6_goesOn_6 : AtI iX6_goesOn 6 (.istore_n 2) 1 7 := ⟨by decide +kernel, rfl⟩
theorem dX6_goesOn_7 : AtI iX6_goesOn 7 (.iload_n 1) 1 8 := ⟨by decide +kernel, rfl⟩
theorem dX6_goesOn_8 : AtI iX6_goesOn 8 (.iconst 4) 1 9 := ⟨by decide +kernel, rfl⟩
theorem dX6_goesOn_9 : AtI iX6_goesOn 9 .irem 1 10 := ⟨by decide +kernel, rfl⟩
theorem dX6_goesOn_10 : decode iX6_goesOn.2.1 10 = .ok (.tableswitch 92 0 2 #[26, 44, 74], 26) := by decide +kernel
theorem dX6_goesOn_36 : AtI iX6_goesOn 36 (.iload_n 2) 1 37 := ⟨by decide +kernel, rfl⟩
theorem dX6_goesOn_37 : AtI iX6_goesOn 37 (.bipush 97) 2 39 := ⟨by decide +kernel, rfl⟩
theorem dX6_goesOn_39 : AtJ iX6_goesOn 39 (.if_icmp .lt 13) 13 42 52 := ⟨by decide +kernel, rfl, by decide⟩
theorem dX6_goesOn_42 : AtI iX6_goesOn 42 (.iload_n 2) 1 43 := ⟨by decide +kernel, rfl⟩
theorem dX6_goesOn_43 : AtI iX6_goesOn 43 (.bipush 104) 2 45 := ⟨by decide +kernel, rfl⟩
theorem dX6_goesOn_45 : AtJ iX6_goesOn 45 (.if_icmp .gt 7) 7 48 52 := ⟨by decide +kernel, rfl, by decide⟩
theorem dX6_goesOn_48 : AtI iX6_goesOn 48 (.iconst 1) 1 49 := ⟨by decide +kernel, rfl⟩
theorem dX6_goesOn_49 : AtJ iX6_goesOn 49 (.goto 4) 4 52 53 := ⟨by decide +kernel, rfl, by decide⟩
theorem dX6_goesOn_52 : AtI iX6_goesOn 52 (.iconst 0) 1 53 := ⟨by decide +kernel, rfl⟩
theorem dX6_goesOn_53 : AtI iX6_goesOn 53 .ireturn 1 54 := ⟨by decide +kernel, rfl⟩
theorem dX6_goesOn_54 : AtI iX6_goesOn 54 (.iload_n 2) 1 55 := ⟨by decide +kernel, rfl⟩
theorem dX6_goesOn_55 : AtI iX6_goesOn 55 (.bipush 97) 2 57 := ⟨by decide +kernel, rfl⟩
theorem dX6_goesOn_57 : AtJ iX6_goesOn 57 (.if_icmp .lt 25) 25 60 82 := ⟨by decide +kernel, rfl, by decide⟩
theorem dX6_goesOn_60 : AtI iX6_goesOn 60 (.iload_n 2) 1 61 := ⟨by decide +kernel, rfl⟩
theorem dX6_goesOn_61 : AtI iX6_goesOn 61 (.bipush 104) 2 63 := ⟨by decide +kernel, rfl⟩
theorem dX6_goesOn_63 : AtJ iX6_goesOn 63 (.if_icmp .gt 19) 19 66 82 := ⟨by decide +kernel, rfl, by decide⟩
theorem dX6_goesOn_66 : AtI iX6_goesOn 66 (.iload_n 2) 1 67 := ⟨by decide +kernel, rfl⟩
theorem dX6_goesOn_67 : AtI iX6_goesOn 67 (.aload_n 0) 1 68 := ⟨by decide +kernel, rfl⟩
theorem dX6_goesOn_68 : AtI iX6_goesOn 68 (.getfield 11) 3 71 := ⟨by decide +kernel, rfl⟩
theorem dX6_goesOn_71 : AtI iX6_goesOn 71 (.iload_n 1) 1 72 := ⟨by decide +kernel, rfl⟩
theorem dX6_goesOn_72 : AtI iX6_goesOn 72 (.iconst 1) 1 73 := ⟨by decide +kernel, rfl⟩
theorem dX6_goesOn_73 : AtI iX6_goesOn 73 .isub 1 74 := ⟨by decide +kernel, rfl⟩
theorem dX6_goesOn_74 : AtI iX6_goesOn 74 .iaload 1 75 := ⟨by decide +kernel, rfl⟩
theorem dX6_goesOn_75 : AtJ iX6_goesOn 75 (.if_icmp .eq 7) 7 78 82 := ⟨by decide +kernel, rfl, by decide⟩
theorem dX6_goesOn_78 : AtI iX6_goesOn 78 (.iconst 1) 1 79 := ⟨by decide +kernel, rfl⟩
theorem dX6_goesOn_79 : AtJ iX6_goesOn 79 (.goto 4) 4 82 83 := ⟨by decide +kernel, rfl, by decide⟩
theorem dX6_goesOn_82 : AtI iX6_goesOn 82 (.iconst 0) 1 83 := ⟨by decide +kernel, rfl⟩
theorem dX6_goesOn_83 : AtI iX6_goesOn 83 .ireturn 1 84 := ⟨by decide +kernel, rfl⟩
theorem dX6_goesOn_84 : AtI iX6_goesOn 84 (.iload_n 2) 1 85 := ⟨by decide +kernel, rfl⟩
theorem dX6_goesOn_85 : AtI iX6_goesOn 85 (.bipush 49) 2 87 := ⟨by decide +kernel, rfl⟩
theorem dX6_goesOn_87 : AtJ iX6_goesOn 87 (.if_icmp .lt 13) 13 90 100 := ⟨by decide +kernel, rfl, by decide⟩
theorem dX6_goesOn_90 : AtI iX6_goesOn 90 (.iload_n 2) 1 91 := ⟨by decide +kernel, rfl⟩
theorem dX6_goesOn_91 : AtI iX6_goesOn 91 (.bipush 57) 2 93 := ⟨by decide +kernel, rfl⟩
theorem dX6_goesOn_93 : AtJ iX6_goesOn 93 (.if_icmp .gt 7) 7 96 100 := ⟨by decide +kernel, rfl, by decide⟩
theorem dX6_goesOn_96 : AtI iX6_goesOn 96 (.iconst 1) 1 97 := ⟨by decide +kernel, rfl⟩
theorem dX6_goesOn_97 : AtJ iX6_goesOn 97 (.goto 4) 4 100 101 := ⟨by decide +kernel, rfl, by decide⟩
theorem dX6_goesOn_100 : AtI iX6_goesOn 100 (.iconst 0) 1 101 := ⟨by decide +kernel, rfl⟩
theorem dX6_goesOn_101 : AtI iX6_goesOn 101 .ireturn 1 102 := ⟨by decide +kernel, rfl⟩
theorem dX6_goesOn_102 : AtI iX6_goesOn 102 (.iload_n 2) 1 103 := ⟨by decide +kernel, rfl⟩
theorem dX6_goesOn_103 : AtI iX6_goesOn 103 (.bipush 59) 2 105 := ⟨by decide +kernel, rfl⟩
theorem dX6_goesOn_105 : AtJ iX6_goesOn 105 (.if_icmp .ne 7) 7 108 112 := ⟨by decide +kernel, rfl, by decide⟩
theorem dX6_goesOn_108 : AtI iX6_goesOn 108 (.iconst 1) 1 109 := ⟨by decide +kernel, rfl⟩
theorem dX6_goesOn_109 : AtJ iX6_goesOn 109 (.goto 4) 4 112 113 := ⟨by decide +kernel, rfl, by decide⟩
theorem dX6_goesOn_112 : AtI iX6_goesOn 112 (.iconst 0) 1 113 := ⟨by decide +kernel, rfl⟩
theorem dX6_goesOn_113 : AtI iX6_goesOn 113 .ireturn 1 114 := ⟨by decide +kernel, rfl⟩
theorem dX6_measure_0 : AtI iX6_measure 0 (.aload_n 0) 1 1 := ⟨by decide +kernel, rfl⟩
theorem dX6_measure_1 : AtI iX6_measure 1 (.getfield 24) 3 4 := ⟨by decide +kernel, rfl⟩
theorem dX6_measure_4 : AtI iX6_measure 4 (.sipush 1000) 3 7 := ⟨by decide +kernel, rfl⟩
theorem dX6_measure_7 : AtI iX6_measure 7 (.invokestatic 37) 3 10 := ⟨by decide +kernel, rfl⟩
theorem dX6_measure_10 : AtI iX6_measure 10 (.iconst 0) 1 11 := ⟨by decide +kernel, rfl⟩
theorem dX6_measure_11 : AtI iX6_measure 11 (.istore_n 1) 1 12 := ⟨by decide +kernel, rfl⟩
theorem dX6_measure_12 : AtI iX6_measure 12 (.iload_n 1) 1 13 := ⟨by decide +kernel, rfl⟩
theorem dX6_measure_13 : AtI iX6_measure 13 (.bipush 8) 2 15 := ⟨by decide +kernel, rfl⟩
theorem dX6_measure_15 : AtJ iX6_measure 15 (.if_icmp .ge 21) 21 18 36 := ⟨by decide +kernel, rfl, by decide⟩
theorem dX6_measure_18 : AtI iX6_measure 18 (.aload_n 0) 1 19 := ⟨by decide +kernel, rfl⟩
theorem dX6_measure_19 : AtI iX6_measure 19 (.getfield 24) 3 22 := ⟨by decide +kernel, rfl⟩
theorem dX6_measure_22 : AtI iX6_measure 22 (.iload_n 1) 1 23 := ⟨by decide +kernel, rfl⟩
theorem dX6_measure_23 : AtI iX6_measure 23 (.bipush 8) 2 25 := ⟨by decide +kernel, rfl⟩
theorem dX6_measure_25 : AtI iX6_measure 25 .imul 1 26 := ⟨by decide +kernel, rfl⟩
theorem dX6_measure_26 : AtI iX6_measure 26 (.iload_n 1) 1 27 := ⟨by decide +kernel, rfl⟩
theorem dX6_measure_27 : AtI iX6_measure 27 .iadd 1 28 := ⟨by decide +kernel, rfl⟩
theorem dX6_measure_28 : AtI iX6_measure 28 (.iconst 0) 1 29 := ⟨by decide +kernel, rfl⟩
theorem dX6_measure_29 : AtI iX6_measure 29 .iastore 1 30 := ⟨by decide +kernel, rfl⟩
theorem dX6_measure_30 : AtI iX6_measure 30 (.iinc 1 1) 3 33 := ⟨by decide +kernel, rfl⟩
theorem dX6_measure_33 : AtJ iX6_measure 33 (.goto (-21)) (-21) 36 12 := ⟨by decide +kernel, rfl, by decide⟩
theorem dX6_measure_36 : AtI iX6_measure 36 (.iconst 0) 1 37 := ⟨by decide +kernel, rfl⟩
theorem dX6_measure_37 : AtI iX6_measure 37 (.istore_n 1) 1 38 := ⟨by decide +kernel, rfl⟩
theorem dX6_measure_38 : AtI iX6_measure 38 (.iload_n 1) 1 39 := ⟨by decide +kernel, rfl⟩
theorem dX6_measure_39 : AtI iX6_measure 39 (.aload_n 0) 1 40 := ⟨by decide +kernel, rfl⟩
theorem dX6_measure_40 : AtI iX6_measure 40 (.getfield 31) 3 43 := ⟨by decide +kernel, rfl⟩
theorem dX6_measure_43 : AtJ iX6_measure 43 (.if_icmp .ge 53) 53 46 96 := ⟨by decide +kernel, rfl, by decide⟩
theorem dX6_measure_46 : AtI iX6_measure 46 (.aload_n 0) 1 47 := ⟨by decide +kernel, rfl⟩
theorem dX6_measure_47 : AtI iX6_measure 47 (.aload_n 0) 1 48 := ⟨by decide +kernel, rfl⟩
theorem dX6_measure_48 : AtI iX6_measure 48 (.getfield 15) 3 51 := ⟨by decide +kernel, rfl⟩
theorem dX6_measure_51 : AtI iX6_measure 51 (.iload_n 1) 1 52 := ⟨by decide +kernel, rfl⟩
theorem dX6_measure_52 : AtI iX6_measure 52 .iaload 1 53 := ⟨by decide +kernel, rfl⟩
theorem dX6_measure_53 : AtI iX6_measure 53 (.aload_n 0) 1 54 := ⟨by decide +kernel, rfl⟩
theorem dX6_measure_54 : AtI iX6_measure 54 (.getfield 18) 3 57 := ⟨by decide +kernel, rfl⟩
theorem dX6_measure_57 : AtI iX6_measure 57 (.iload_n 1) 1 58 := ⟨by decide +kernel, rfl⟩
theorem dX6_measure_58 : AtI iX6_measure 58 .iaload 1 59 := ⟨by decide +kernel, rfl⟩
theorem dX6_measure_59 : AtI iX6_measure 59 (.aload_n 0) 1 60 := ⟨by decide +kernel, rfl⟩
theorem dX6_measure_60 : AtI iX6_measure 60 (.getfield 21) 3 63 := ⟨by decide +kernel, rfl⟩
theorem dX6_measure_63 : AtI iX6_measure 63 (.iload_n 1) 1 64 := ⟨by decide +kernel, rfl⟩
theorem dX6_measure_64 : AtI iX6_measure 64 .iaload 1 65 := ⟨by decide +kernel, rfl⟩
theorem dX6_measure_65 : AtI iX6_measure 65 (.invokevirtual 57) 3 68 := ⟨by decide +kernel, rfl⟩
theorem dX6_measure_68 : AtI iX6_measure 68 (.aload_n 0) 1 69 := ⟨by decide +kernel, rfl⟩
theorem dX6_measure_69 : AtI iX6_measure 69 (.aload_n 0) 1 70 := ⟨by decide +kernel, rfl⟩
theorem dX6_measure_70 : AtI iX6_measure 70 (.getfield 18) 3 73 := ⟨by decide +kernel, rfl⟩
theorem dX6_measure_73 : AtI iX6_measure 73 (.iload_n 1) 1 74 := ⟨by decide +kernel, rfl⟩
theorem dX6_measure_74 : AtI iX6_measure 74 .iaload 1 75 := ⟨by decide +kernel, rfl⟩
theorem dX6_measure_75 : AtI iX6_measure 75 (.aload_n 0) 1 76 := ⟨by decide +kernel, rfl⟩
theorem dX6_measure_76 : AtI iX6_measure 76 (.getfield 15) 3 79 := ⟨by decide +kernel, rfl⟩
theorem dX6_measure_79 : AtI iX6_measure 79 (.iload_n 1) 1 80 := ⟨by decide +kernel, rfl⟩
theorem dX6_measure_80 : AtI iX6_measure 80 .iaload 1 81 := ⟨by decide +kernel, rfl⟩
theorem dX6_measure_81 : AtI iX6_measure 81 (.aload_n 0) 1 82 := ⟨by decide +kernel, rfl⟩
theorem dX6_measure_82 : AtI iX6_measure 82 (.getfield 21) 3 85 := ⟨by decide +kernel, rfl⟩
theorem dX6_measure_85 : AtI iX6_measure 85 (.iload_n 1) 1 86 := ⟨by decide +kernel, rfl⟩
theorem dX6_measure_86 : AtI iX6_measure 86 .iaload 1 87 := ⟨by decide +kernel, rfl⟩
theorem dX6_measure_87 : AtI iX6_measure 87 (.invokevirtual 57) 3 90 := ⟨by decide +kernel, rfl⟩
theorem dX6_measure_90 : AtI iX6_measure 90 (.iinc 1 1) 3 93 := ⟨by decide +kernel, rfl⟩
theorem dX6_measure_93 : AtJ iX6_measure 93 (.goto (-55)) (-55) 96 38 := ⟨by decide +kernel, rfl, by decide⟩
theorem dX6_measure_96 : AtI iX6_measure 96 (.iconst 0) 1 97 := ⟨by decide +kernel, rfl⟩
theorem dX6_measure_97 : AtI iX6_measure 97 (.istore_n 1) 1 98 := ⟨by decide +kernel, rfl⟩
theorem dX6_measure_98 : AtI iX6_measure 98 (.aload_n 0) 1 99 := ⟨by decide +kernel, rfl⟩
theorem dX6_measure_99 : AtI iX6_measure 99 (.getfield 31) 3 102 := ⟨by decide +kernel, rfl⟩
theorem dX6_measure_102 : AtJ iX6_measure 102 (.ifCond .le 62) 62 105 164 := ⟨by decide +kernel, rfl, by decide⟩
theorem dX6_measure_105 : AtI iX6_measure 105 (.iload_n 1) 1 106 := ⟨by decide +kernel, rfl⟩
theorem dX6_measure_106 : AtI iX6_measure 106 (.bipush 8) 2 108 := ⟨by decide +kernel, rfl⟩
theorem dX6_measure_108 : AtJ iX6_measure 108 (.if_icmp .ge 56) 56 111 164 := ⟨by decide +kernel, rfl, by decide⟩
theorem dX6_measure_111 : AtI iX6_measure 111 (.iconst 0) 1 112 := ⟨by decide +kernel, rfl⟩
theorem dX6_measure_112 : AtI iX6_measure 112 (.istore_n 2) 1 113 := ⟨by decide +kernel, rfl⟩
theorem dX6_measure_113 : AtI iX6_measure 113 (.iload_n 2) 1 114 := ⟨by decide +kernel, rfl⟩
theorem dX6_measure_114 : AtI iX6_measure 114 (.bipush 8) 2 116 := ⟨by decide +kernel, rfl⟩
theorem dX6_measure_116 : AtJ iX6_measure 116 (.if_icmp .ge 42) 42 119 158 := ⟨by decide +kernel, rfl, by decide⟩
theorem dX6_measure_119 : AtI iX6_measure 119 (.iconst 0) 1 120 := ⟨by decide +kernel, rfl⟩
theorem dX6_measure_120 : AtI iX6_measure 120 (.istore_n 3) 1 121 := ⟨by decide +kernel, rfl⟩
theorem dX6_measure_121 : AtI iX6_measure 121 (.iload_n 3) 1 122 := ⟨by decide +kernel, rfl⟩
theorem dX6_measure_122 : AtI iX6_measure 122 (.bipush 8) 2 124 := ⟨by decide +kernel, rfl⟩
theorem dX6_measure_124 : AtJ iX6_measure 124 (.if_icmp .ge 28) 28 127 152 := ⟨by decide +kernel, rfl, by decide⟩
theorem dX6_measure_127 : AtI iX6_measure 127 (.aload_n 0) 1 128 := ⟨by decide +kernel, rfl⟩
theorem dX6_measure_128 : AtI iX6_measure 128 (.iload_n 2) 1 129 := ⟨by decide +kernel, rfl⟩
theorem dX6_measure_129 : AtI iX6_measure 129 (.iload_n 3) 1 130 := ⟨by decide +kernel, rfl⟩
theorem dX6_measure_130 : AtI iX6_measure 130 (.aload_n 0) 1 131 := ⟨by decide +kernel, rfl⟩
theorem dX6_measure_131 : AtI iX6_measure 131 (.iload_n 2) 1 132 := ⟨by decide +kernel, rfl⟩
theorem dX6_measure_132 : AtI iX6_measure 132 (.iload_n 1) 1 133 := ⟨by decide +kernel, rfl⟩
theorem dX6_measure_133 : AtI iX6_measure 133 (.invokevirtual 61) 3 136 := ⟨by decide +kernel, rfl⟩
theorem dX6_measure_136 : AtI iX6_measure 136 (.aload_n 0) 1 137 := ⟨by decide +kernel, rfl⟩
theorem dX6_measure_137 : AtI iX6_measure 137 (.iload_n 1) 1 138 := ⟨by decide +kernel, rfl⟩
theorem dX6_measure_138 : AtI iX6_measure 138 (.iload_n 3) 1 139 := ⟨by decide +kernel, rfl⟩
theorem dX6_measure_139 : AtI iX6_measure 139 (.invokevirtual 61) 3 142 := ⟨by decide +kernel, rfl⟩
theorem dX6_measure_142 : AtI iX6_measure 142 .iadd 1 143 := ⟨by decide +kernel, rfl⟩
theorem dX6_measure_143 : AtI iX6_measure 143 (.invokevirtual 57) 3 146 := ⟨by decide +kernel, rfl⟩
theorem dX6_measure_146 : AtI iX6_measure 146 (.iinc 3 1) 3 149 := ⟨by decide +kernel, rfl⟩
theorem dX6_measure_149 : AtJ iX6_measure 149 (.goto (-28)) (-28) 152 121 := ⟨by decide +kernel, rfl, by decide⟩
theorem dX6_measure_152 : AtI iX6_measure 152 (.iinc 2 1) 3 155 := ⟨by decide +kernel, rfl⟩
theorem dX6_measure_155 : AtJ iX6_measure 155 (.goto (-42)) (-42) 158 113 := ⟨by decide +kernel, rfl, by decide⟩
theorem dX6_measure_158 : AtI iX6_measure 158 (.iinc 1 1) 3 161 := ⟨by decide +kernel, rfl⟩
theorem dX6_measure_161 : AtJ iX6_measure 161 (.goto (-63)) (-63) 164 98 := ⟨by decide +kernel, rfl, by decide⟩
theorem dX6_measure_164 : AtI iX6_measure 164 .return_ 1 165 := ⟨by decide +kernel, rfl⟩
theorem dX6_shortenWay_0 : AtI iX6_shortenWay 0 (.aload_n 0) 1 1 := ⟨by decide +kernel, rfl⟩
theorem dX6_shortenWay_1 : AtI iX6_shortenWay 1 (.getfield 24) 3 4 := ⟨by decide +kernel, rfl⟩
theorem dX6_shortenWay_4 : AtI iX6_shortenWay 4 (.iload_n 1) 1 5 := ⟨by decide +kernel, rfl⟩
theorem dX6_shortenWay_5 : AtI iX6_shortenWay 5 (.bipush 8) 2 7 := ⟨by decide +kernel, rfl⟩
theorem dX6_shortenWay_7 : AtI iX6_shortenWay 7 .imul 1 8 := ⟨by decide +kernel, rfl⟩
theorem dX6_shortenWay_8 : AtI iX6_shortenWay 8 (.iload_n 2) 1 9 := ⟨by decide +kernel, rfl⟩
theorem dX6_shortenWay_9 : AtI iX6_shortenWay 9 .iadd 1 10 := ⟨by decide +kernel, rfl⟩
theorem dX6_shortenWay_10 : AtI iX6_shortenWay 10 (.aload_n 0) 1 11 := ⟨by decide +kernel, rfl⟩
theorem dX6_shortenWay_11 : AtI iX6_shortenWay 11 (.getfield 24) 3 14 := ⟨by decide +kernel, rfl⟩
theorem dX6_shortenWay_14 : AtI iX6_shortenWay 14 (.iload_n 1) 1 15 := ⟨by decide +kernel, rfl⟩
theorem dX6_shortenWay_15 : AtI iX6_shortenWay 15 (.bipush 8) 2 17 := ⟨by decide +kernel, rfl⟩
theorem dX6_shortenWay_17 : AtI iX6_shortenWay 17 .imul 1 18 := ⟨by decide +kernel, rfl⟩
theorem dX6_shortenWay_18 : AtI iX6_shortenWay 18 (.iload_n 2) 1 19 := ⟨by decide +kernel, rfl⟩
theorem dX6_shortenWay_19 : AtI iX6_shortenWay 19 .iadd 1 20 := ⟨by decide +kernel, rfl⟩
theorem dX6_shortenWay_20 : AtI iX6_shortenWay 20 .iaload 1 21 := ⟨by decide +kernel, rfl⟩
theorem dX6_shortenWay_21 : AtI iX6_shortenWay 21 (.iload_n 3) 1 22 := ⟨by decide +kernel, rfl⟩
theorem dX6_shortenWay_22 : AtI iX6_shortenWay 22 (.invokestatic 65) 3 25 := ⟨by decide +kernel, rfl⟩
theorem dX6_shortenWay_25 : AtI iX6_shortenWay 25 .iastore 1 26 := ⟨by decide +kernel, rfl⟩
theorem dX6_shortenWay_26 : AtI iX6_shortenWay 26 .return_ 1 27 := ⟨by decide +kernel, rfl⟩
theorem dX6_shortest_0 : AtI iX6_shortest 0 (.aload_n 0) 1 1 := ⟨by decide +kernel, rfl⟩
theorem dX6_shortest_1 : AtI iX6_shortest 1 (.getfield 24) 3 4 := ⟨by decide +kernel, rfl⟩
theorem dX6_shortest_4 : AtI iX6_shortest 4 (.iload_n 1) 1 5 := ⟨by decide +kernel, rfl⟩
theorem dX6_shortest_5 : AtI iX6_shortest 5 (.bipush 8) 2 7 := ⟨by decide +kernel, rfl⟩
theorem dX6_shortest_7 : AtI iX6_shortest 7 .imul 1 8 := ⟨by decide +kernel, rfl⟩
theorem dX6_shortest_8 : AtI iX6_shortest 8 (.iload_n 2) 1 9 := ⟨by decide +kernel, rfl⟩
theorem dX6_shortest_9 : AtI iX6_shortest 9 .iadd 1 10 := ⟨by decide +kernel, rfl⟩
theorem dX6_shortest_10 : AtI iX6_shortest 10 .iaload 1 11 := ⟨by decide +kernel, rfl⟩
theorem dX6_shortest_11 : AtI iX6_shortest 11 .ireturn 1 12 := ⟨by decide +kernel, rfl⟩
theorem dX6_reaches_0 : AtI iX6_reaches 0 (.aload_n 0) 1 1 := ⟨by decide +kernel, rfl⟩
theorem dX6_reaches_1 : AtI iX6_reaches 1 (.iload_n 1) 1 2 := ⟨by decide +kernel, rfl⟩
theorem dX6_reaches_2 : AtI iX6_reaches 2 (.iload_n 2) 1 3 := ⟨by decide +kernel, rfl⟩
theorem dX6_reaches_3 : AtI iX6_reaches 3 (.invokevirtual 61) 3 6 := ⟨by decide +kernel, rfl⟩
theorem dX6_reaches_6 : AtI iX6_reaches 6 (.sipush 1000) 3 9 := ⟨by decide +kernel, rfl⟩
theorem dX6_reaches_9 : AtJ iX6_reaches 9 (.if_icmp .ge 7) 7 12 16 := ⟨by decide +kernel, rfl, by decide⟩
theorem dX6_reaches_12 : AtI iX6_reaches 12 (.iconst 1) 1 13 := ⟨by decide +kernel, rfl⟩
theorem dX6_reaches_13 : AtJ iX6_reaches 13 (.goto 4) 4 16 17 := ⟨by decide +kernel, rfl, by decide⟩
theorem dX6_reaches_16 : AtI iX6_reaches 16 (.iconst 0) 1 17 := ⟨by decide +kernel, rfl⟩
theorem dX6_reaches_17 : AtI iX6_reaches 17 .ireturn 1 18 := ⟨by decide +kernel, rfl⟩
theorem dX6_end_0 : AtI iX6_end 0 (.iload_n 2) 1 1 := ⟨by decide +kernel, rfl⟩
theorem dX6_end_1 : AtJ iX6_end 1 (.ifCond .ne 12) 12 4 13 := ⟨by decide +kernel, rfl, by decide⟩
theorem dX6_end_4 : AtI iX6_end 4 (.aload_n 0) 1 5 := ⟨by decide +kernel, rfl⟩
theorem dX6_end_5 : AtI iX6_end 5 (.getfield 15) 3 8 := ⟨by decide +kernel, rfl⟩
theorem dX6_end_8 : AtI iX6_end 8 (.iload_n 1) 1 9 := ⟨by decide +kernel, rfl⟩
theorem dX6_end_9 : AtI iX6_end 9 .iaload 1 10 := ⟨by decide +kernel, rfl⟩
theorem dX6_end_10 : AtJ iX6_end 10 (.goto 9) 9 13 19 := ⟨by decide +kernel, rfl, by decide⟩
theorem dX6_end_13 : AtI iX6_end 13 (.aload_n 0) 1 14 := ⟨by decide +kernel, rfl⟩
theorem dX6_end_14 : AtI iX6_end 14 (.getfield 18) 3 17 := ⟨by decide +kernel, rfl⟩
theorem dX6_end_17 : AtI iX6_end 17 (.iload_n 1) 1 18 := ⟨by decide +kernel, rfl⟩
theorem dX6_end_18 : AtI iX6_end 18 .iaload 1 19 := ⟨by decide +kernel, rfl⟩
theorem dX6_end_19 : AtI iX6_end 19 .ireturn 1 20 := ⟨by decide +kernel, rfl⟩
theorem dX6_across_0 : AtI iX6_across 0 (.aload_n 0) 1 1 := ⟨by decide +kernel, rfl⟩
theorem dX6_across_1 : AtI iX6_across 1 (.getfield 15) 3 4 := ⟨by decide +kernel, rfl⟩
theorem dX6_across_4 : AtI iX6_across 4 (.iload_n 1) 1 5 := ⟨by decide +kernel, rfl⟩
theorem dX6_across_5 : AtI iX6_across 5 .iaload 1 6 := ⟨by decide +kernel, rfl⟩
theorem dX6_across_6 : AtI iX6_across 6 (.iload_n 2) 1 7 := ⟨by decide +kernel, rfl⟩
theorem dX6_across_7 : AtJ iX6_across 7 (.if_icmp .ne 10) 10 10 17 := ⟨by decide +kernel, rfl, by decide⟩
theorem dX6_across_10 : AtI iX6_across 10 (.aload_n 0) 1 11 := ⟨by decide +kernel, rfl⟩
theorem dX6_across_11 : AtI iX6_across 11 (.getfield 18) 3 14 := ⟨by decide +kernel, rfl⟩
theorem dX6_across_14 : AtI iX6_across 14 (.iload_n 1) 1 15 := ⟨by decide +kernel, rfl⟩
theorem dX6_across_15 : AtI iX6_across 15 .iaload 1 16 := ⟨by decide +kernel, rfl⟩
theorem dX6_across_16 : AtI iX6_across 16 .ireturn 1 17 := ⟨by decide +kernel, rfl⟩
theorem dX6_across_17 : AtI iX6_across 17 (.aload_n 0) 1 18 := ⟨by decide +kernel, rfl⟩
theorem dX6_across_18 : AtI iX6_across 18 (.getfield 18) 3 21 := ⟨by decide +kernel, rfl⟩
theorem dX6_across_21 : AtI iX6_across 21 (.iload_n 1) 1 22 := ⟨by decide +kernel, rfl⟩
theorem dX6_across_22 : AtI iX6_across 22 .iaload 1 23 := ⟨by decide +kernel, rfl⟩
theorem dX6_across_23 : AtI iX6_across 23 (.iload_n 2) 1 24 := ⟨by decide +kernel, rfl⟩
theorem dX6_across_24 : AtJ iX6_across 24 (.if_icmp .ne 12) 12 27 36 := ⟨by decide +kernel, rfl, by decide⟩
theorem dX6_across_27 : AtI iX6_across 27 (.aload_n 0) 1 28 := ⟨by decide +kernel, rfl⟩
theorem dX6_across_28 : AtI iX6_across 28 (.getfield 15) 3 31 := ⟨by decide +kernel, rfl⟩
theorem dX6_across_31 : AtI iX6_across 31 (.iload_n 1) 1 32 := ⟨by decide +kernel, rfl⟩
theorem dX6_across_32 : AtI iX6_across 32 .iaload 1 33 := ⟨by decide +kernel, rfl⟩
theorem dX6_across_33 : AtJ iX6_across 33 (.goto 4) 4 36 37 := ⟨by decide +kernel, rfl, by decide⟩
theorem dX6_across_36 : AtI iX6_across 36 (.iconst (-1)) 1 37 := ⟨by decide +kernel, rfl⟩
theorem dX6_across_37 : AtI iX6_across 37 .ireturn 1 38 := ⟨by decide +kernel, rfl⟩
theorem dX6_nextLand_0 : AtI iX6_nextLand 0 (.iconst (-1)) 1 1 := ⟨by decide +kernel, rfl⟩
theorem dX6_nextLand_1 : AtI iX6_nextLand 1 (.istore_n 3) 1 2 := ⟨by decide +kernel, rfl⟩
theorem dX6_nextLand_2 : AtI iX6_nextLand 2 (.iconst 0) 1 3 := ⟨by decide +kernel, rfl⟩
theorem dX6_nextLand_3 : AtI iX6_nextLand 3 (.istore 4) 2 5 := ⟨by decide +kernel, rfl⟩
theorem dX6_nextLand_5 : AtI iX6_nextLand 5 (.iload 4) 2 7 := ⟨by decide +kernel, rfl⟩
theorem dX6_nextLand_7 : AtI iX6_nextLand 7 (.aload_n 0) 1 8 := ⟨by decide +kernel, rfl⟩
theorem dX6_nextLand_8 : AtI iX6_nextLand 8 (.getfield 31) 3 11 := ⟨by decide +kernel, rfl⟩
theorem dX6_nextLand_11 : AtJ iX6_nextLand 11 (.if_icmp .ge 74) 74 14 85 := ⟨by decide +kernel, rfl, by decide⟩
theorem dX6_nextLand_14 : AtI iX6_nextLand 14 (.aload_n 0) 1 15 := ⟨by decide +kernel, rfl⟩
theorem dX6_nextLand_15 : AtI iX6_nextLand 15 (.iload 4) 2 17 := ⟨by decide +kernel, rfl⟩
theorem dX6_nextLand_17 : AtI iX6_nextLand 17 (.iload_n 1) 1 18 := ⟨by decide +kernel, rfl⟩
theorem dX6_nextLand_18 : AtI iX6_nextLand 18 (.invokevirtual 70) 3 21 := ⟨by decide +kernel, rfl⟩
theorem dX6_nextLand_21 : AtI iX6_nextLand 21 (.istore 5) 2 23 := ⟨by decide +kernel, rfl⟩
theorem dX6_nextLand_23 : AtI iX6_nextLand 23 (.iload 5) 2 25 := ⟨by decide +kernel, rfl⟩
theorem dX6_nextLand_25 : AtI iX6_nextLand 25 (.iconst (-1)) 1 26 := ⟨by decide +kernel, rfl⟩
theorem dX6_nextLand_26 : AtJ iX6_nextLand 26 (.if_icmp .eq 31) 31 29 57 := ⟨by decide +kernel, rfl, by decide⟩
theorem dX6_nextLand_29 : AtI iX6_nextLand 29 (.aload_n 0) 1 30 := ⟨by decide +kernel, rfl⟩
theorem dX6_nextLand_30 : AtI iX6_nextLand 30 (.getfield 21) 3 33 := ⟨by decide +kernel, rfl⟩
theorem dX6_nextLand_33 : AtI iX6_nextLand 33 (.iload 4) 2 35 := ⟨by decide +kernel, rfl⟩
theorem dX6_nextLand_35 : AtI iX6_nextLand 35 .iaload 1 36 := ⟨by decide +kernel, rfl⟩
theorem dX6_nextLand_36 : AtI iX6_nextLand 36 (.aload_n 0) 1 37 := ⟨by decide +kernel, rfl⟩
theorem dX6_nextLand_37 : AtI iX6_nextLand 37 (.iload 5) 2 39 := ⟨by decide +kernel, rfl⟩
theorem dX6_nextLand_39 : AtI iX6_nextLand 39 (.iload_n 2) 1 40 := ⟨by decide +kernel, rfl⟩
theorem dX6_nextLand_40 : AtI iX6_nextLand 40 (.invokevirtual 61) 3 43 := ⟨by decide +kernel, rfl⟩
theorem dX6_nextLand_43 : AtI iX6_nextLand 43 .iadd 1 44 := ⟨by decide +kernel, rfl⟩
theorem dX6_nextLand_44 : AtI iX6_nextLand 44 (.aload_n 0) 1 45 := ⟨by decide +kernel, rfl⟩
theorem dX6_nextLand_45 : AtI iX6_nextLand 45 (.iload_n 1) 1 46 := ⟨by decide +kernel, rfl⟩
theorem dX6_nextLand_46 : AtI iX6_nextLand 46 (.iload_n 2) 1 47 := ⟨by decide +kernel, rfl⟩
theorem dX6_nextLand_47 : AtI iX6_nextLand 47 (.invokevirtual 61) 3 50 := ⟨by decide +kernel, rfl⟩
theorem dX6_nextLand_50 : AtJ iX6_nextLand 50 (.if_icmp .ne 7) 7 53 57 := ⟨by decide +kernel, rfl, by decide⟩
theorem dX6_nextLand_53 : AtI iX6_nextLand 53 (.iconst 1) 1 54 := ⟨by decide +kernel, rfl⟩
theorem dX6_nextLand_54 : AtJ iX6_nextLand 54 (.goto 4) 4 57 58 := ⟨by decide +kernel, rfl, by decide⟩
theorem dX6_nextLand_57 : AtI iX6_nextLand 57 (.iconst 0) 1 58 := ⟨by decide +kernel, rfl⟩
theorem dX6_nextLand_58 : AtI iX6_nextLand 58 (.istore 6) 2 60 := ⟨by decide +kernel, rfl⟩
theorem dX6_nextLand_60 : AtI iX6_nextLand 60 (.iload 6) 2 62 := ⟨by decide +kernel, rfl⟩
theorem dX6_nextLand_62 : AtJ iX6_nextLand 62 (.ifCond .eq 17) 17 65 79 := ⟨by decide +kernel, rfl, by decide⟩
theorem dX6_nextLand_65 : AtI iX6_nextLand 65 (.iload_n 3) 1 66 := ⟨by decide +kernel, rfl⟩
theorem dX6_nextLand_66 : AtI iX6_nextLand 66 (.iconst (-1)) 1 67 := ⟨by decide +kernel, rfl⟩
theorem dX6_nextLand_67 : AtJ iX6_nextLand 67 (.if_icmp .eq 9) 9 70 76 := ⟨by decide +kernel, rfl, by decide⟩
theorem dX6_nextLand_70 : AtI iX6_nextLand 70 (.iload 5) 2 72 := ⟨by decide +kernel, rfl⟩
theorem dX6_nextLand_72 : AtI iX6_nextLand 72 (.iload_n 3) 1 73 := ⟨by decide +kernel, rfl⟩
theorem dX6_nextLand_73 : AtJ iX6_nextLand 73 (.if_icmp .ge 6) 6 76 79 := ⟨by decide +kernel, rfl, by decide⟩
theorem dX6_nextLand_76 : AtI iX6_nextLand 76 (.iload 5) 2 78 := ⟨by decide +kernel, rfl⟩
theorem dX6_nextLand_78 : AtI iX6_nextLand 78 (.istore_n 3) 1 79 := ⟨by decide +kernel, rfl⟩
theorem dX6_nextLand_79 : AtI iX6_nextLand 79 (.iinc 4 1) 3 82 := ⟨by decide +kernel, rfl⟩
theorem dX6_nextLand_82 : AtJ iX6_nextLand 82 (.goto (-77)) (-77) 85 5 := ⟨by decide +kernel, rfl, by decide⟩
theorem dX6_nextLand_85 : AtI iX6_nextLand 85 (.iload_n 3) 1 86 := ⟨by decide +kernel, rfl⟩
theorem dX6_nextLand_86 : AtI iX6_nextLand 86 .ireturn 1 87 := ⟨by decide +kernel, rfl⟩
theorem dX6_allHours_0 : AtI iX6_allHours 0 (.iconst 0) 1 1 := ⟨by decide +kernel, rfl⟩
theorem dX6_allHours_1 : AtI iX6_allHours 1 (.istore_n 1) 1 2 := ⟨by decide +kernel, rfl⟩
theorem dX6_allHours_2 : AtI iX6_allHours 2 (.iconst 0) 1 3 := ⟨by decide +kernel, rfl⟩
theorem dX6_allHours_3 : AtI iX6_allHours 3 (.istore_n 2) 1 4 := ⟨by decide +kernel, rfl⟩
theorem dX6_allHours_4 : AtI iX6_allHours 4 (.iload_n 2) 1 5 := ⟨by decide +kernel, rfl⟩
theorem dX6_allHours_5 : AtI iX6_allHours 5 (.aload_n 0) 1 6 := ⟨by decide +kernel, rfl⟩
theorem dX6_allHours_6 : AtI iX6_allHours 6 (.getfield 31) 3 9 := ⟨by decide +kernel, rfl⟩
theorem dX6_allHours_9 : AtJ iX6_allHours 9 (.if_icmp .ge 18) 18 12 27 := ⟨by decide +kernel, rfl, by decide⟩
theorem dX6_allHours_12 : AtI iX6_allHours 12 (.iload_n 1) 1 13 := ⟨by decide +kernel, rfl⟩
theorem dX6_allHours_13 : AtI iX6_allHours 13 (.aload_n 0) 1 14 := ⟨by decide +kernel, rfl⟩
theorem dX6_allHours_14 : AtI iX6_allHours 14 (.getfield 21) 3 17 := ⟨by decide +kernel, rfl⟩
theorem dX6_allHours_17 : AtI iX6_allHours 17 (.iload_n 2) 1 18 := ⟨by decide +kernel, rfl⟩
theorem dX6_allHours_18 : AtI iX6_allHours 18 .iaload 1 19 := ⟨by decide +kernel, rfl⟩
theorem dX6_allHours_19 : AtI iX6_allHours 19 .iadd 1 20 := ⟨by decide +kernel, rfl⟩
theorem dX6_allHours_20 : AtI iX6_allHours 20 (.istore_n 1) 1 21 := ⟨by decide +kernel, rfl⟩
theorem dX6_allHours_21 : AtI iX6_allHours 21 (.iinc 2 1) 3 24 := ⟨by decide +kernel, rfl⟩
theorem dX6_allHours_24 : AtJ iX6_allHours 24 (.goto (-20)) (-20) 27 4 := ⟨by decide +kernel, rfl, by decide⟩
theorem dX6_allHours_27 : AtI iX6_allHours 27 (.iload_n 1) 1 28 := ⟨by decide +kernel, rfl⟩
theorem dX6_allHours_28 : AtI iX6_allHours 28 .ireturn 1 29 := ⟨by decide +kernel, rfl⟩
theorem dX7_init_0 : AtI iX7_init 0 (.aload_n 0) 1 1 := ⟨by decide +kernel, rfl⟩
theorem dX7_init_1 : AtI iX7_init 1 (.invokespecial 3) 3 4 := ⟨by decide +kernel, rfl⟩
theorem dX7_init_4 : AtI iX7_init 4 (.aload_n 0) 1 5 := ⟨by decide +kernel, rfl⟩
theorem dX7_init_5 : AtI iX7_init 5 (.bipush 60) 2 7 := ⟨by decide +kernel, rfl⟩
theorem dX7_init_7 : AtI iX7_init 7 (.newarray .int) 2 9 := ⟨by decide +kernel, rfl⟩
theorem dX7_init_9 : AtI iX7_init 9 (.putfield 11) 3 12 := ⟨by decide +kernel, rfl⟩
theorem dX7_init_12 : AtI iX7_init 12 (.aload_n 0) 1 13 := ⟨by decide +kernel, rfl⟩
theorem dX7_init_13 : AtI iX7_init 13 (.iconst 0) 1 14 := ⟨by decide +kernel, rfl⟩
theorem dX7_init_14 : AtI iX7_init 14 (.putfield 15) 3 17 := ⟨by decide +kernel, rfl⟩
theorem dX7_init_17 : AtI iX7_init 17 (.aload_n 0) 1 18 := ⟨by decide +kernel, rfl⟩
theorem dX7_init_18 : AtI iX7_init 18 (.iconst 0) 1 19 := ⟨by decide +kernel, rfl⟩
theorem dX7_init_19 : AtI iX7_init 19 (.putfield 19) 3 22 := ⟨by decide +kernel, rfl⟩
theorem dX7_init_22 : AtI iX7_init 22 (.aload_n 0) 1 23 := ⟨by decide +kernel, rfl⟩
theorem dX7_init_23 : AtI iX7_init 23 (.iconst 1) 1 24 := ⟨by decide +kernel, rfl⟩
theorem dX7_init_24 : AtI iX7_init 24 (.putfield 22) 3 27 := ⟨by decide +kernel, rfl⟩
theorem dX7_init_27 : AtI iX7_init 27 .return_ 1 28 := ⟨by decide +kernel, rfl⟩
theorem dX7_renew_0 : AtI iX7_renew 0 (.aload_n 0) 1 1 := ⟨by decide +kernel, rfl⟩
theorem dX7_renew_1 : AtI iX7_renew 1 (.getfield 11) 3 4 := ⟨by decide +kernel, rfl⟩
theorem dX7_renew_4 : AtI iX7_renew 4 (.iconst 0) 1 5 := ⟨by decide +kernel, rfl⟩
theorem dX7_renew_5 : AtI iX7_renew 5 (.invokestatic 26) 3 8 := ⟨by decide +kernel, rfl⟩
theorem dX7_renew_8 : AtI iX7_renew 8 (.aload_n 0) 1 9 := ⟨by decide +kernel, rfl⟩
theorem dX7_renew_9 : AtI iX7_renew 9 (.iload_n 1) 1 10 := ⟨by decide +kernel, rfl⟩
theorem dX7_renew_10 : AtI iX7_renew 10 (.putfield 15) 3 13 := ⟨by decide +kernel, rfl⟩
theorem dX7_renew_13 : AtI iX7_renew 13 (.aload_n 0) 1 14 := ⟨by decide +kernel, rfl⟩
theorem dX7_renew_14 : AtI iX7_renew 14 (.iload_n 2) 1 15 := ⟨by decide +kernel, rfl⟩
theorem dX7_renew_15 : AtI iX7_renew 15 (.putfield 19) 3 18 := ⟨by decide +kernel, rfl⟩
theorem dX7_renew_18 : AtI iX7_renew 18 (.aload_n 0) 1 19 := ⟨by decide +kernel, rfl⟩
theorem dX7_renew_19 : AtI iX7_renew 19 (.iconst 0) 1 20 := ⟨by decide +kernel, rfl⟩
theorem dX7_renew_20 : AtI iX7_renew 20 (.putfield 22) 3 23 := ⟨by decide +kernel, rfl⟩
theorem dX7_renew_23 : AtI iX7_renew 23 .return_ 1 24 := ⟨by decide +kernel, rfl⟩
theorem dX7_put_0 : AtI iX7_put 0 (.aload_n 0) 1 1 := ⟨by decide +kernel, rfl⟩
theorem dX7_put_1 : AtI iX7_put 1 (.getfield 15) 3 4 := ⟨by decide +kernel, rfl⟩
theorem dX7_put_4 : AtJ iX7_put 4 (.ifCond .ne 14) 14 7 18 := ⟨by decide +kernel, rfl, by decide⟩
theorem dX7_put_7 : AtI iX7_put 7 (.aload_n 0) 1 8 := ⟨by decide +kernel, rfl⟩
theorem dX7_put_8 : AtI iX7_put 8 (.getfield 11) 3 11 := ⟨by decide +kernel, rfl⟩
theorem dX7_put_11 : AtI iX7_put 11 (.iload_n 1) 1 12 := ⟨by decide +kernel, rfl⟩
theorem dX7_put_12 : AtI iX7_put 12 (.iload_n 2) 1 13 := ⟨by decide +kernel, rfl⟩
theorem dX7_put_13 : AtI iX7_put 13 .i2b 1 14 := ⟨by decide +kernel, rfl⟩
theorem dX7_put_14 : AtI iX7_put 14 .iastore 1 15 := ⟨by decide +kernel, rfl⟩
theorem dX7_put_15 : AtJ iX7_put 15 (.goto 23) 23 18 38 := ⟨by decide +kernel, rfl, by decide⟩
theorem dX7_put_18 : AtI iX7_put 18 (.aload_n 0) 1 19 := ⟨by decide +kernel, rfl⟩
theorem dX7_put_19 : AtI iX7_put 19 (.getfield 11) 3 22 := ⟨by decide +kernel, rfl⟩
theorem dX7_put_22 : AtI iX7_put 22 (.iload_n 1) 1 23 := ⟨by decide +kernel, rfl⟩
theorem dX7_put_23 : AtI iX7_put 23 (.aload_n 0) 1 24 := ⟨by decide +kernel, rfl⟩
theorem dX7_put_24 : AtI iX7_put 24 (.getfield 15) 3 27 := ⟨by decide +kernel, rfl⟩
theorem dX7_put_27 : AtI iX7_put 27 (.iconst 1) 1 28 := ⟨by decide +kernel, rfl⟩
theorem dX7_put_28 : AtJ iX7_put 28 (.if_icmp .ne 8) 8 31 36 := ⟨by decide +kernel, rfl, by decide⟩
theorem dX7_put_31 : AtI iX7_put 31 (.iload_n 2) 1 32 := ⟨by decide +kernel, rfl⟩
theorem dX7_put_32 : AtI iX7_put 32 .i2s 1 33 := ⟨by decide +kernel, rfl⟩
theorem dX7_put_33 : AtJ iX7_put 33 (.goto 4) 4 36 37 := ⟨by decide +kernel, rfl, by decide⟩
theorem dX7_put_36 : AtI iX7_put 36 (.iload_n 2) 1 37 := ⟨by decide +kernel, rfl⟩
theorem dX7_put_37 : AtI iX7_put 37 .iastore 1 38 := ⟨by decide +kernel, rfl⟩
theorem dX7_put_38 : AtI iX7_put 38 .return_ 1 39 := ⟨by decide +kernel, rfl⟩
theorem dX7_holdsRun_0 : AtI iX7_holdsRun 0 (.iload_n 1) 1 1 := ⟨by decide +kernel, rfl⟩
theorem dX7_holdsRun_1 : AtJ iX7_holdsRun 1 (.ifCond .lt 29) 29 4 30 := ⟨by decide +kernel, rfl, by decide⟩
theorem dX7_holdsRun_4 : AtI iX7_holdsRun 4 (.iload_n 2) 1 5 := ⟨by decide +kernel, rfl⟩
theorem dX7_holdsRun_5 : AtJ iX7_holdsRun 5 (.ifCond .lt 25) 25 8 30 := ⟨by decide +kernel, rfl, by decide⟩
theorem dX7_holdsRun_8 : AtI iX7_holdsRun 8 (.iload_n 1) 1 9 := ⟨by decide +kernel, rfl⟩
theorem dX7_holdsRun_9 : AtI iX7_holdsRun 9 (.aload_n 0) 1 10 := ⟨by decide +kernel, rfl⟩
theorem dX7_holdsRun_10 : AtI iX7_holdsRun 10 (.getfield 19) 3 13 := ⟨by decide +kernel, rfl⟩
theorem dX7_holdsRun_13 : AtJ iX7_holdsRun 13 (.if_icmp .gt 17) 17 16 30 := ⟨by decide +kernel, rfl, by decide⟩
theorem dX7_holdsRun_16 : AtI iX7_holdsRun 16 (.iload_n 2) 1 17 := ⟨by decide +kernel, rfl⟩
theorem dX7_holdsRun_17 : AtI iX7_holdsRun 17 (.aload_n 0) 1 18 := ⟨by decide +kernel, rfl⟩
theorem dX7_holdsRun_18 : AtI iX7_holdsRun 18 (.getfield 19) 3 21 := ⟨by decide +kernel, rfl⟩
theorem dX7_holdsRun_21 : AtI iX7_holdsRun 21 (.iload_n 1) 1 22 := ⟨by decide +kernel, rfl⟩
theorem dX7_holdsRun_22 : AtI iX7_holdsRun 22 .isub 1 23 := ⟨by decide +kernel, rfl⟩
theorem dX7_holdsRun_23 : AtJ iX7_holdsRun 23 (.if_icmp .gt 7) 7 26 30 := ⟨by decide +kernel, rfl, by decide⟩
theorem dX7_holdsRun_26 : AtI iX7_holdsRun 26 (.iconst 1) 1 27 := ⟨by decide +kernel, rfl⟩
theorem dX7_holdsRun_27 : AtJ iX7_holdsRun 27 (.goto 4) 4 30 31 := ⟨by decide +kernel, rfl, by decide⟩
theorem dX7_holdsRun_30 : AtI iX7_holdsRun 30 (.iconst 0) 1 31 := ⟨by decide +kernel, rfl⟩
theorem dX7_holdsRun_31 : AtI iX7_holdsRun 31 .ireturn 1 32 := ⟨by decide +kernel, rfl⟩
end
section
/-! decode rows -/
theorem dX8_init_0 : AtI iX8_init 0 (.aload_n 0) 1 1 := ⟨by decide +kernel, rfl⟩
theorem dX8_init_1 : AtI iX8_init 1 (.invokespecial 3) 3 4 := ⟨by decide +kernel, rfl⟩
theorem dX8_init_4 : AtI iX8_init 4 (.aload_n 0) 1 5 := ⟨by decide +kernel, rfl⟩
theorem dX8_init_5 : AtI iX8_init 5 (.new 9) 3 8 := ⟨by decide +kernel, rfl⟩
theorem dX8_init_8 : AtI iX8_init 8 .dup 1 9 := ⟨by decide +kernel, rfl⟩
theorem dX8_init_9 : AtI iX8_init 9 (.invokespecial 11) 3 12 := ⟨by decide +kernel, rfl⟩
theorem dX8_init_12 : AtI iX8_init 12 (.putfield 12) 3 15 := ⟨by decide +kernel, rfl⟩
theorem dX8_init_15 : AtI iX8_init 15 (.aload_n 0) 1 16 := ⟨by decide +kernel, rfl⟩
theorem dX8_init_16 : AtI iX8_init 16 (.new 16) 3 19 := ⟨by decide +kernel, rfl⟩
theorem dX8_init_19 : AtI iX8_init 19 .dup 1 20 := ⟨by decide +kernel, rfl⟩
theorem dX8_init_20 : AtI iX8_init 20 (.invokespecial 18) 3 23 := ⟨by decide +kernel, rfl⟩
theorem dX8_init_23 : AtI iX8_init 23 (.putfield 19) 3 26 := ⟨by decide +kernel, rfl⟩
theorem dX8_init_26 : AtI iX8_init 26 (.aload_n 0) 1 27 := ⟨by decide +kernel, rfl⟩
theorem dX8_init_27 : AtI iX8_init 27 (.new 23) 3 30 := ⟨by decide +kernel, rfl⟩
theorem dX8_init_30 : AtI iX8_init 30 .dup 1 31 := ⟨by decide +kernel, rfl⟩
theorem dX8_init_31 : AtI iX8_init 31 (.aload_n 0) 1 32 := ⟨by decide +kernel, rfl⟩
theorem dX8_init_32 : AtI iX8_init 32 (.getfield 19) 3 35 := ⟨by decide +kernel, rfl⟩
theorem dX8_init_35 : AtI iX8_init 35 (.invokespecial 25) 3 38 := ⟨by decide +kernel, rfl⟩
theorem dX8_init_38 : AtI iX8_init 38 (.putfield 28) 3 41 := ⟨by decide +kernel, rfl⟩
theorem dX8_init_41 : AtI iX8_init 41 (.aload_n 0) 1 42 := ⟨by decide +kernel, rfl⟩
theorem dX8_init_42 : AtI iX8_init 42 (.new 32) 3 45 := ⟨by decide +kernel, rfl⟩
theorem dX8_init_45 : AtI iX8_init 45 .dup 1 46 := ⟨by decide +kernel, rfl⟩
theorem dX8_init_46 : AtI iX8_init 46 (.aload_n 0) 1 47 := ⟨by decide +kernel, rfl⟩
theorem dX8_init_47 : AtI iX8_init 47 (.getfield 12) 3 50 := ⟨by decide +kernel, rfl⟩
theorem dX8_init_50 : AtI iX8_init 50 (.aload_n 0) 1 51 := ⟨by decide +kernel, rfl⟩
theorem dX8_init_51 : AtI iX8_init 51 (.getfield 28) 3 54 := ⟨by decide +kernel, rfl⟩
theorem dX8_init_54 : AtI iX8_init 54 (.invokespecial 34) 3 57 := ⟨by decide +kernel, rfl⟩
theorem dX8_init_57 : AtI iX8_init 57 (.putfield 37) 3 60 := ⟨by decide +kernel, rfl⟩
theorem dX8_init_60 : AtI iX8_init 60 (.aload_n 0) 1 61 := ⟨by decide +kernel, rfl⟩
theorem dX8_init_61 : AtI iX8_init 61 (.new 41) 3 64 := ⟨by decide +kernel, rfl⟩
theorem dX8_init_64 : AtI iX8_init 64 .dup 1 65 := ⟨by decide +kernel, rfl⟩
theorem dX8_init_65 : AtI iX8_init 65 (.aload_n 0) 1 66 := ⟨by decide +kernel, rfl⟩
theorem dX8_init_66 : AtI iX8_init 66 (.getfield 28) 3 69 := ⟨by decide +kernel, rfl⟩
theorem dX8_init_69 : AtI iX8_init 69 (.invokespecial 43) 3 72 := ⟨by decide +kernel, rfl⟩
theorem dX8_init_72 : AtI iX8_init 72 (.putfield 46) 3 75 := ⟨by decide +kernel, rfl⟩
theorem dX8_init_75 : AtI iX8_init 75 (.aload_n 0) 1 76 := ⟨by decide +kernel, rfl⟩
theorem dX8_init_76 : AtI iX8_init 76 (.new 50) 3 79 := ⟨by decide +kernel, rfl⟩
theorem dX8_init_79 : AtI iX8_init 79 .dup 1 80 := ⟨by decide +kernel, rfl⟩
theorem dX8_init_80 : AtI iX8_init 80 (.aload_n 0) 1 81 := ⟨by decide +kernel, rfl⟩
theorem dX8_init_81 : AtI iX8_init 81 (.getfield 12) 3 84 := ⟨by decide +kernel, rfl⟩
theorem dX8_init_84 : AtI iX8_init 84 (.aload_n 0) 1 85 := ⟨by decide +kernel, rfl⟩
theorem dX8_init_85 : AtI iX8_init 85 (.getfield 28) 3 88 := ⟨by decide +kernel, rfl⟩
theorem dX8_init_88 : AtI iX8_init 88 (.invokespecial 52) 3 91 := ⟨by decide +kernel, rfl⟩
theorem dX8_init_91 : AtI iX8_init 91 (.putfield 53) 3 94 := ⟨by decide +kernel, rfl⟩
theorem dX8_init_94 : AtI iX8_init 94 (.aload_n 0) 1 95 := ⟨by decide +kernel, rfl⟩
theorem dX8_init_95 : AtI iX8_init 95 (.new 57) 3 98 := ⟨by decide +kernel, rfl⟩
theorem dX8_init_98 : AtI iX8_init 98 .dup 1 99 := ⟨by decide +kernel, rfl⟩
theorem dX8_init_99 : AtI iX8_init 99 (.aload_n 0) 1 100 := ⟨by decide +kernel, rfl⟩
theorem dX8_init_100 : AtI iX8_init 100 (.getfield 28) 3 103 := ⟨by decide +kernel, rfl⟩
theorem dX8_init_103 : AtI iX8_init 103 (.invokespecial 59) 3 106 := ⟨by decide +kernel, rfl⟩
theorem dX8_init_106 : AtI iX8_init 106 (.putfield 60) 3 109 := ⟨by decide +kernel, rfl⟩
theorem dX8_init_109 : AtI iX8_init 109 (.aload_n 0) 1 110 := ⟨by decide +kernel, rfl⟩
theorem dX8_init_110 : AtI iX8_init 110 (.iconst 4) 1 111 := ⟨by decide +kernel, rfl⟩
theorem dX8_init_111 : AtI iX8_init 111 (.anewarray 64) 3 114 := ⟨by decide +kernel, rfl⟩
theorem dX8_init_114 : AtI iX8_init 114 (.putfield 66) 3 117 := ⟨by decide +kernel, rfl⟩
theorem dX8_init_117 : AtI iX8_init 117 (.iconst 0) 1 118 := ⟨by decide +kernel, rfl⟩
theorem dX8_init_118 : AtI iX8_init 118 (.istore_n 1) 1 119 := ⟨by decide +kernel, rfl⟩
theorem dX8_init_119 : AtI iX8_init 119 (.iload_n 1) 1 120 := ⟨by decide +kernel, rfl⟩
theorem dX8_init_120 : AtI iX8_init 120 (.iconst 4) 1 121 := ⟨by decide +kernel, rfl⟩
theorem dX8_init_121 : AtJ iX8_init 121 (.if_icmp .ge 22) 22 124 143 := ⟨by decide +kernel, rfl, by decide⟩
theorem dX8_init_124 : AtI iX8_init 124 (.aload_n 0) 1 125 := ⟨by decide +kernel, rfl⟩
theorem dX8_init_125 : AtI iX8_init 125 (.getfield 66) 3 128 := ⟨by decide +kernel, rfl⟩
theorem dX8_init_128 : AtI iX8_init 128 (.iload_n 1) 1 129 := ⟨by decide +kernel, rfl⟩
theorem dX8_init_129 : AtI iX8_init 129 (.new 64) 3 132 := ⟨by decide +kernel, rfl⟩
theorem dX8_init_132 : AtI iX8_init 132 .dup 1 133 := ⟨by decide +kernel, rfl⟩
theorem dX8_init_133 : AtI iX8_init 133 (.invokespecial 70) 3 136 := ⟨by decide +kernel, rfl⟩
theorem dX8_init_136 : AtI iX8_init 136 .aastore 1 137 := ⟨by decide +kernel, rfl⟩
theorem dX8_init_137 : AtI iX8_init 137 (.iinc 1 1) 3 140 := ⟨by decide +kernel, rfl⟩
theorem dX8_init_140 : AtJ iX8_init 140 (.goto (-21)) (-21) 143 119 := ⟨by decide +kernel, rfl, by decide⟩
theorem dX8_init_143 : AtI iX8_init 143 (.aload_n 0) 1 144 := ⟨by decide +kernel, rfl⟩
theorem dX8_init_144 : AtI iX8_init 144 (.iconst 0) 1 145 := ⟨by decide +kernel, rfl⟩
theorem dX8_init_145 : AtI iX8_init 145 (.putfield 71) 3 148 := ⟨by decide +kernel, rfl⟩
theorem dX8_init_148 : AtI iX8_init 148 .return_ 1 149 := ⟨by decide +kernel, rfl⟩
theorem dX8_type_0 : AtI iX8_type 0 (.iload_n 1) 1 1 := ⟨by decide +kernel, rfl⟩
theorem dX8_type_1 : AtI iX8_type 1 (.sipush 255) 3 4 := ⟨by decide +kernel, rfl⟩
theorem dX8_type_4 : AtI iX8_type 4 (.invokestatic 75) 3 7 := ⟨by decide +kernel, rfl⟩
theorem dX8_type_7 : AtJ iX8_type 7 (.ifCond .ne 6) 6 10 13 := ⟨by decide +kernel, rfl, by decide⟩
theorem dX8_type_10 : AtI iX8_type 10 (.bipush (-2)) 2 12 := ⟨by decide +kernel, rfl⟩
theorem dX8_type_12 : AtI iX8_type 12 .ireturn 1 13 := ⟨by decide +kernel, rfl⟩
theorem dX8_type_13 : AtI iX8_type 13 (.aload_n 0) 1 14 := ⟨by decide +kernel, rfl⟩
theorem dX8_type_14 : AtI iX8_type 14 (.getfield 12) 3 17 := ⟨by decide +kernel, rfl⟩
theorem dX8_type_17 : AtI iX8_type 17 (.iload_n 1) 1 18 := ⟨by decide +kernel, rfl⟩
theorem dX8_type_18 : AtI iX8_type 18 (.invokevirtual 79) 3 21 := ⟨by decide +kernel, rfl⟩
theorem dX8_type_21 : AtJ iX8_type 21 (.ifCond .eq 13) 13 24 34 := ⟨by decide +kernel, rfl, by decide⟩
theorem dX8_type_24 : AtI iX8_type 24 (.aload_n 0) 1 25 := ⟨by decide +kernel, rfl⟩
theorem dX8_type_25 : AtI iX8_type 25 (.getfield 12) 3 28 := ⟨by decide +kernel, rfl⟩
theorem dX8_type_28 : AtI iX8_type 28 (.getfield 83) 3 31 := ⟨by decide +kernel, rfl⟩
theorem dX8_type_31 : AtJ iX8_type 31 (.goto 5) 5 34 36 := ⟨by decide +kernel, rfl, by decide⟩
theorem dX8_type_34 : AtI iX8_type 34 (.bipush (-4)) 2 36 := ⟨by decide +kernel, rfl⟩
theorem dX8_type_36 : AtI iX8_type 36 .ireturn 1 37 := ⟨by decide +kernel, rfl⟩
theorem dX8_wipe_0 : AtI iX8_wipe 0 (.aload_n 0) 1 1 := ⟨by decide +kernel, rfl⟩
theorem dX8_wipe_1 : AtI iX8_wipe 1 (.getfield 12) 3 4 := ⟨by decide +kernel, rfl⟩
theorem dX8_wipe_4 : AtI iX8_wipe 4 (.getfield 83) 3 7 := ⟨by decide +kernel, rfl⟩
theorem dX8_wipe_7 : AtI iX8_wipe 7 (.istore_n 1) 1 8 := ⟨by decide +kernel, rfl⟩
theorem dX8_wipe_8 : AtI iX8_wipe 8 (.aload_n 0) 1 9 := ⟨by decide +kernel, rfl⟩
theorem dX8_wipe_9 : AtI iX8_wipe 9 (.getfield 12) 3 12 := ⟨by decide +kernel, rfl⟩
theorem dX8_wipe_12 : AtI iX8_wipe 12 (.iconst 0) 1 13 := ⟨by decide +kernel, rfl⟩
theorem dX8_wipe_13 : AtI iX8_wipe 13 (.invokevirtual 86) 3 16 := ⟨by decide +kernel, rfl⟩
theorem dX8_wipe_16 : AtI iX8_wipe 16 (.iload_n 1) 1 17 := ⟨by decide +kernel, rfl⟩
theorem dX8_wipe_17 : AtI iX8_wipe 17 .ireturn 1 18 := ⟨by decide +kernel, rfl⟩
theorem dX8_undo_0 : AtI iX8_undo 0 (.aload_n 0) 1 1 := ⟨by decide +kernel, rfl⟩
theorem dX8_undo_1 : AtI iX8_undo 1 (.getfield 12) 3 4 := ⟨by decide +kernel, rfl⟩
theorem dX8_undo_4 : AtI iX8_undo 4 (.getfield 83) 3 7 := ⟨by decide +kernel, rfl⟩
theorem dX8_undo_7 : AtJ iX8_undo 7 (.ifCond .ne 6) 6 10 13 := ⟨by decide +kernel, rfl, by decide⟩
theorem dX8_undo_10 : AtI iX8_undo 10 (.bipush (-3)) 2 12 := ⟨by decide +kernel, rfl⟩
theorem dX8_undo_12 : AtI iX8_undo 12 .ireturn 1 13 := ⟨by decide +kernel, rfl⟩
theorem dX8_undo_13 : AtI iX8_undo 13 (.aload_n 0) 1 14 := ⟨by decide +kernel, rfl⟩
theorem dX8_undo_14 : AtI iX8_undo 14 (.getfield 12) 3 17 := ⟨by decide +kernel, rfl⟩
theorem dX8_undo_17 : AtI iX8_undo 17 (.aload_n 0) 1 18 := ⟨by decide +kernel, rfl⟩
theorem dX8_undo_18 : AtI iX8_undo 18 (.getfield 12) 3 21 := ⟨by decide +kernel, rfl⟩
theorem dX8_undo_21 : AtI iX8_undo 21 (.getfield 83) 3 24 := ⟨by decide +kernel, rfl⟩
theorem dX8_undo_24 : AtI iX8_undo 24 (.iconst 1) 1 25 := ⟨by decide +kernel, rfl⟩
theorem dX8_undo_25 : AtI iX8_undo 25 .isub 1 26 := ⟨by decide +kernel, rfl⟩
theorem dX8_undo_26 : AtI iX8_undo 26 (.invokevirtual 86) 3 29 := ⟨by decide +kernel, rfl⟩
theorem dX8_undo_29 : AtI iX8_undo 29 (.aload_n 0) 1 30 := ⟨by decide +kernel, rfl⟩
theorem dX8_undo_30 : AtI iX8_undo 30 (.getfield 12) 3 33 := ⟨by decide +kernel, rfl⟩
theorem dX8_undo_33 : AtI iX8_undo 33 (.getfield 83) 3 36 := ⟨by decide +kernel, rfl⟩
theorem dX8_undo_36 : AtI iX8_undo 36 .ireturn 1 37 := ⟨by decide +kernel, rfl⟩
theorem dX8_fault_0 : AtI iX8_fault 0 (.aload_n 0) 1 1 := ⟨by decide +kernel, rfl⟩
theorem dX8_fault_1 : AtI iX8_fault 1 (.getfield 12) 3 4 := ⟨by decide +kernel, rfl⟩
theorem dX8_fault_4 : AtI iX8_fault 4 (.getfield 90) 3 7 := ⟨by decide +kernel, rfl⟩
theorem dX8_fault_7 : AtI iX8_fault 7 .ireturn 1 8 := ⟨by decide +kernel, rfl⟩
theorem dX8_road_0 : AtI iX8_road 0 (.iload_n 1) 1 1 := ⟨by decide +kernel, rfl⟩
theorem dX8_road_1 : AtI iX8_road 1 (.aload_n 0) 1 2 := ⟨by decide +kernel, rfl⟩
theorem dX8_road_2 : AtI iX8_road 2 (.getfield 12) 3 5 := ⟨by decide +kernel, rfl⟩
theorem dX8_road_5 : AtI iX8_road 5 (.getfield 93) 3 8 := ⟨by decide +kernel, rfl⟩
theorem dX8_road_8 : AtI iX8_road 8 (.iconst 1) 1 9 := ⟨by decide +kernel, rfl⟩
theorem dX8_road_9 : AtI iX8_road 9 .isub 1 10 := ⟨by decide +kernel, rfl⟩
theorem dX8_road_10 : AtI iX8_road 10 (.invokestatic 75) 3 13 := ⟨by decide +kernel, rfl⟩
theorem dX8_road_13 : AtJ iX8_road 13 (.ifCond .eq 11) 11 16 24 := ⟨by decide +kernel, rfl, by decide⟩
theorem dX8_road_16 : AtI iX8_road 16 (.iload_n 2) 1 17 := ⟨by decide +kernel, rfl⟩
theorem dX8_road_17 : AtI iX8_road 17 (.iconst 2) 1 18 := ⟨by decide +kernel, rfl⟩
theorem dX8_road_18 : AtI iX8_road 18 (.invokestatic 75) 3 21 := ⟨by decide +kernel, rfl⟩
theorem dX8_road_21 : AtJ iX8_road 21 (.ifCond .ne 6) 6 24 27 := ⟨by decide +kernel, rfl, by decide⟩
theorem dX8_road_24 : AtI iX8_road 24 (.bipush (-2)) 2 26 := ⟨by decide +kernel, rfl⟩
theorem dX8_road_26 : AtI iX8_road 26 .ireturn 1 27 := ⟨by decide +kernel, rfl⟩
theorem dX8_road_27 : AtI iX8_road 27 (.iload_n 2) 1 28 := ⟨by decide +kernel, rfl⟩
theorem dX8_road_28 : AtI iX8_road 28 (.iconst 2) 1 29 := ⟨by decide +kernel, rfl⟩
theorem dX8_road_29 : AtJ iX8_road 29 (.if_icmp .ne 15) 15 32 44 := ⟨by decide +kernel, rfl, by decide⟩
theorem dX8_road_32 : AtI iX8_road 32 (.aload_n 0) 1 33 := ⟨by decide +kernel, rfl⟩
theorem dX8_road_33 : AtI iX8_road 33 (.getfield 12) 3 36 := ⟨by decide +kernel, rfl⟩
theorem dX8_road_36 : AtI iX8_road 36 (.getfield 96) 3 39 := ⟨by decide +kernel, rfl⟩
theorem dX8_road_39 : AtI iX8_road 39 (.iload_n 1) 1 40 := ⟨by decide +kernel, rfl⟩
theorem dX8_road_40 : AtI iX8_road 40 .iaload 1 41 := ⟨by decide +kernel, rfl⟩
theorem dX8_road_41 : AtJ iX8_road 41 (.goto 12) 12 44 53 := ⟨by decide +kernel, rfl, by decide⟩
theorem dX8_road_44 : AtI iX8_road 44 (.aload_n 0) 1 45 := ⟨by decide +kernel, rfl⟩
theorem dX8_road_45 : AtI iX8_road 45 (.getfield 12) 3 48 := ⟨by decide +kernel, rfl⟩
theorem dX8_road_48 : AtI iX8_road 48 (.iload_n 1) 1 49 := ⟨by decide +kernel, rfl⟩
theorem dX8_road_49 : AtI iX8_road 49 (.iload_n 2) 1 50 := ⟨by decide +kernel, rfl⟩
theorem dX8_road_50 : AtI iX8_road 50 (.invokevirtual 100) 3 53 := ⟨by decide +kernel, rfl⟩
theorem dX8_road_53 : AtI iX8_road 53 .ireturn 1 54 := ⟨by decide +kernel, rfl⟩
theorem dX8_land_0 : AtI iX8_land 0 (.iload_n 1) 1 1 := ⟨by decide +kernel, rfl⟩
theorem dX8_land_1 : AtI iX8_land 1 (.invokestatic 104) 3 4 := ⟨by decide +kernel, rfl⟩
theorem dX8_land_4 : AtJ iX8_land 4 (.ifCond .eq 14) 14 7 18 := ⟨by decide +kernel, rfl, by decide⟩
theorem dX8_land_7 : AtI iX8_land 7 (.iload_n 3) 1 8 := ⟨by decide +kernel, rfl⟩
theorem dX8_land_8 : AtI iX8_land 8 (.iload_n 2) 1 9 := ⟨by decide +kernel, rfl⟩
theorem dX8_land_9 : AtI iX8_land 9 (.invokestatic 107) 3 12 := ⟨by decide +kernel, rfl⟩
theorem dX8_land_12 : AtI iX8_land 12 (.invokestatic 75) 3 15 := ⟨by decide +kernel, rfl⟩
theorem dX8_land_15 : AtJ iX8_land 15 (.ifCond .ne 6) 6 18 21 := ⟨by decide +kernel, rfl, by decide⟩
theorem dX8_land_18 : AtI iX8_land 18 (.bipush (-2)) 2 20 := ⟨by decide +kernel, rfl⟩
theorem dX8_land_20 : AtI iX8_land 20 .ireturn 1 21 := ⟨by decide +kernel, rfl⟩
theorem dX8_land_21 : AtI iX8_land 21 (.aload_n 0) 1 22 := ⟨by decide +kernel, rfl⟩
theorem dX8_land_22 : AtI iX8_land 22 (.getfield 28) 3 25 := ⟨by decide +kernel, rfl⟩
theorem dX8_land_25 : AtI iX8_land 25 (.iload_n 1) 1 26 := ⟨by decide +kernel, rfl⟩
theorem dX8_land_26 : AtI iX8_land 26 (.iload_n 2) 1 27 := ⟨by decide +kernel, rfl⟩
theorem dX8_land_27 : AtI iX8_land 27 (.iload_n 3) 1 28 := ⟨by decide +kernel, rfl⟩
theorem dX8_land_28 : AtI iX8_land 28 (.invokevirtual 111) 3 31 := ⟨by decide +kernel, rfl⟩
theorem dX8_land_31 : AtI iX8_land 31 .ireturn 1 32 := ⟨by decide +kernel, rfl⟩
theorem dX8_bell_0 : AtI iX8_bell 0 (.iload_n 1) 1 1 := ⟨by decide +kernel, rfl⟩
theorem dX8_bell_1 : AtI iX8_bell 1 (.invokestatic 115) 3 4 := ⟨by decide +kernel, rfl⟩
theorem dX8_bell_4 : AtJ iX8_bell 4 (.ifCond .eq 20) 20 7 24 := ⟨by decide +kernel, rfl, by decide⟩
theorem dX8_bell_7 : AtI iX8_bell 7 (.iload_n 2) 1 8 := ⟨by decide +kernel, rfl⟩
theorem dX8_bell_8 : AtI iX8_bell 8 (.iconst 1) 1 9 := ⟨by decide +kernel, rfl⟩
theorem dX8_bell_9 : AtI iX8_bell 9 (.invokestatic 75) 3 12 := ⟨by decide +kernel, rfl⟩
theorem dX8_bell_12 : AtJ iX8_bell 12 (.ifCond .eq 12) 12 15 24 := ⟨by decide +kernel, rfl, by decide⟩
theorem dX8_bell_15 : AtI iX8_bell 15 (.iload_n 3) 1 16 := ⟨by decide +kernel, rfl⟩
theorem dX8_bell_16 : AtI iX8_bell 16 (.bipush 23) 2 18 := ⟨by decide +kernel, rfl⟩
theorem dX8_bell_18 : AtI iX8_bell 18 (.invokestatic 75) 3 21 := ⟨by decide +kernel, rfl⟩
theorem dX8_bell_21 : AtJ iX8_bell 21 (.ifCond .ne 6) 6 24 27 := ⟨by decide +kernel, rfl, by decide⟩
theorem dX8_bell_24 : AtI iX8_bell 24 (.bipush (-2)) 2 26 := ⟨by decide +kernel, rfl⟩
theorem dX8_bell_26 : AtI iX8_bell 26 .ireturn 1 27 := ⟨by decide +kernel, rfl⟩
theorem dX8_bell_27 : AtI iX8_bell 27 (.aload_n 0) 1 28 := ⟨by decide +kernel, rfl⟩
theorem dX8_bell_28 : AtI iX8_bell 28 (.getfield 19) 3 31 := ⟨by decide +kernel, rfl⟩
theorem dX8_bell_31 : AtI iX8_bell 31 (.iconst 2) 1 32 := ⟨by decide +kernel, rfl⟩
theorem dX8_bell_32 : AtI iX8_bell 32 (.iload_n 1) 1 33 := ⟨by decide +kernel, rfl⟩
theorem dX8_bell_33 : AtI iX8_bell 33 .imul 1 34 := ⟨by decide +kernel, rfl⟩
theorem dX8_bell_34 : AtI iX8_bell 34 (.iload_n 2) 1 35 := ⟨by decide +kernel, rfl⟩
theorem dX8_bell_35 : AtI iX8_bell 35 .iadd 1 36 := ⟨by decide +kernel, rfl⟩
theorem dX8_bell_36 : AtI iX8_bell 36 (.iload_n 3) 1 37 := ⟨by decide +kernel, rfl⟩
theorem dX8_bell_37 : AtI iX8_bell 37 (.invokevirtual 118) 3 40 := ⟨by decide +kernel, rfl⟩
theorem dX8_bell_40 : AtI iX8_bell 40 .ireturn 1 41 := ⟨by decide +kernel, rfl⟩
theorem dX8_read_0 : AtI iX8_read 0 (.iload_n 1) 1 1 := ⟨by decide +kernel, rfl⟩
theorem dX8_read_1 : AtI iX8_read 1 (.invokestatic 120) 3 4 := ⟨by decide +kernel, rfl⟩
theorem dX8_read_4 : AtJ iX8_read 4 (.ifCond .ne 6) 6 7 10 := ⟨by decide +kernel, rfl, by decide⟩
theorem dX8_read_7 : AtI iX8_read 7 (.bipush (-2)) 2 9 := ⟨by decide +kernel, rfl⟩
theorem dX8_read_9 : AtI iX8_read 9 .ireturn 1 10 := ⟨by decide +kernel, rfl⟩
theorem dX8_read_10 : AtI iX8_read 10 (.aload_n 0) 1 11 := ⟨by decide +kernel, rfl⟩
theorem dX8_read_11 : AtI iX8_read 11 (.getfield 66) 3 14 := ⟨by decide +kernel, rfl⟩
theorem dX8_read_14 : AtI iX8_read 14 (.iload_n 1) 1 15 := ⟨by decide +kernel, rfl⟩
theorem dX8_read_15 : AtI iX8_read 15 .aaload 1 16 := ⟨by decide +kernel, rfl⟩
theorem dX8_read_16 : AtI iX8_read 16 (.getfield 123) 3 19 := ⟨by decide +kernel, rfl⟩
theorem dX8_read_19 : AtJ iX8_read 19 (.ifCond .eq 9) 9 22 28 := ⟨by decide +kernel, rfl, by decide⟩
theorem dX8_read_22 : AtI iX8_read 22 (.aload_n 0) 1 23 := ⟨by decide +kernel, rfl⟩
theorem dX8_read_23 : AtI iX8_read 23 (.iconst 1) 1 24 := ⟨by decide +kernel, rfl⟩
theorem dX8_read_24 : AtI iX8_read 24 (.invokevirtual 127) 3 27 := ⟨by decide +kernel, rfl⟩
theorem dX8_read_27 : AtI iX8_read 27 .ireturn 1 28 := ⟨by decide +kernel, rfl⟩
theorem dX8_read_28 : AtI iX8_read 28 (.aload_n 0) 1 29 := ⟨by decide +kernel, rfl⟩
theorem dX8_read_29 : AtI iX8_read 29 (.getfield 66) 3 32 := ⟨by decide +kernel, rfl⟩
theorem dX8_read_32 : AtI iX8_read 32 (.iload_n 1) 1 33 := ⟨by decide +kernel, rfl⟩
theorem dX8_read_33 : AtI iX8_read 33 .aaload 1 34 := ⟨by decide +kernel, rfl⟩
theorem dX8_read_34 : AtI iX8_read 34 (.astore_n 2) 1 35 := ⟨by decide +kernel, rfl⟩
theorem dX8_read_35 : AtI iX8_read 35 (.aload_n 2) 1 36 := ⟨by decide +kernel, rfl⟩
theorem dX8_read_36 : AtI iX8_read 36 (.getfield 130) 3 39 := ⟨by decide +kernel, rfl⟩
theorem dX8_read_39 : AtI iX8_read 39 (.bipush 8) 2 41 := ⟨by decide +kernel, rfl⟩
theorem dX8_read_41 : AtI iX8_read 41 (.invokestatic 133) 3 44 := ⟨by decide +kernel, rfl⟩
theorem dX8_read_44 : AtI iX8_read 44 (.istore_n 3) 1 45 := ⟨by decide +kernel, rfl⟩
theorem dX8_read_45 : AtI iX8_read 45 (.iconst 0) 1 46 := ⟨by decide +kernel, rfl⟩
theorem dX8_read_46 : AtI iX8_read 46 (.istore 4) 2 48 := ⟨by decide +kernel, rfl⟩
theorem dX8_read_48 : AtI iX8_read 48 (.iload 4) 2 50 := ⟨by decide +kernel, rfl⟩
theorem dX8_read_50 : AtI iX8_read 50 (.iload_n 3) 1 51 := ⟨by decide +kernel, rfl⟩
theorem dX8_read_51 : AtJ iX8_read 51 (.if_icmp .ge 41) 41 54 92 := ⟨by decide +kernel, rfl, by decide⟩
theorem dX8_read_54 : AtI iX8_read 54 (.aload_n 2) 1 55 := ⟨by decide +kernel, rfl⟩
theorem dX8_read_55 : AtI iX8_read 55 (.getfield 138) 3 58 := ⟨by decide +kernel, rfl⟩
theorem dX8_read_58 : AtI iX8_read 58 (.iload 4) 2 60 := ⟨by decide +kernel, rfl⟩
theorem dX8_read_60 : AtI iX8_read 60 .iaload 1 61 := ⟨by decide +kernel, rfl⟩
theorem dX8_read_61 : AtI iX8_read 61 (.bipush 23) 2 63 := ⟨by decide +kernel, rfl⟩
theorem dX8_read_63 : AtI iX8_read 63 (.invokestatic 75) 3 66 := ⟨by decide +kernel, rfl⟩
theorem dX8_read_66 : AtJ iX8_read 66 (.ifCond .eq 26) 26 69 92 := ⟨by decide +kernel, rfl, by decide⟩
theorem dX8_read_69 : AtI iX8_read 69 (.aload_n 0) 1 70 := ⟨by decide +kernel, rfl⟩
theorem dX8_read_70 : AtI iX8_read 70 (.getfield 19) 3 73 := ⟨by decide +kernel, rfl⟩
theorem dX8_read_73 : AtI iX8_read 73 (.iload 4) 2 75 := ⟨by decide +kernel, rfl⟩
theorem dX8_read_75 : AtI iX8_read 75 (.aload_n 2) 1 76 := ⟨by decide +kernel, rfl⟩
theorem dX8_read_76 : AtI iX8_read 76 (.getfield 138) 3 79 := ⟨by decide +kernel, rfl⟩
theorem dX8_read_79 : AtI iX8_read 79 (.iload 4) 2 81 := ⟨by decide +kernel, rfl⟩
theorem dX8_read_81 : AtI iX8_read 81 .iaload 1 82 := ⟨by decide +kernel, rfl⟩
theorem dX8_read_82 : AtI iX8_read 82 (.invokevirtual 118) 3 85 := ⟨by decide +kernel, rfl⟩
theorem dX8_read_85 : AtI iX8_read 85 .pop 1 86 := ⟨by decide +kernel, rfl⟩
theorem dX8_read_86 : AtI iX8_read 86 (.iinc 4 1) 3 89 := ⟨by decide +kernel, rfl⟩
theorem dX8_read_89 : AtJ iX8_read 89 (.goto (-41)) (-41) 92 48 := ⟨by decide +kernel, rfl, by decide⟩
theorem dX8_read_92 : AtI iX8_read 92 (.iload 4) 2 94 := ⟨by decide +kernel, rfl⟩
theorem dX8_read_94 : AtI iX8_read 94 .ireturn 1 95 := ⟨by decide +kernel, rfl⟩
theorem dX8_feast_0 : AtI iX8_feast 0 (.iload_n 1) 1 1 := ⟨by decide +kernel, rfl⟩
theorem dX8_feast_1 : AtI iX8_feast 1 (.bipush 27) 2 3 := ⟨by decide +kernel, rfl⟩
theorem dX8_feast_3 : AtI iX8_feast 3 (.invokestatic 75) 3 6 := ⟨by decide +kernel, rfl⟩
theorem dX8_feast_6 : AtJ iX8_feast 6 (.ifCond .ne 6) 6 9 12 := ⟨by decide +kernel, rfl, by decide⟩
theorem dX8_feast_9 : AtI iX8_feast 9 (.bipush (-2)) 2 11 := ⟨by decide +kernel, rfl⟩
theorem dX8_feast_11 : AtI iX8_feast 11 .ireturn 1 12 := ⟨by decide +kernel, rfl⟩
theorem dX8_feast_12 : AtI iX8_feast 12 (.aload_n 0) 1 13 := ⟨by decide +kernel, rfl⟩
theorem dX8_feast_13 : AtI iX8_feast 13 (.getfield 28) 3 16 := ⟨by decide +kernel, rfl⟩
theorem dX8_feast_16 : AtI iX8_feast 16 (.iload_n 1) 1 17 := ⟨by decide +kernel, rfl⟩
theorem dX8_feast_17 : AtI iX8_feast 17 (.invokevirtual 141) 3 20 := ⟨by decide +kernel, rfl⟩
theorem dX8_feast_20 : AtJ iX8_feast 20 (.ifCond .eq 13) 13 23 33 := ⟨by decide +kernel, rfl, by decide⟩
theorem dX8_feast_23 : AtI iX8_feast 23 (.aload_n 0) 1 24 := ⟨by decide +kernel, rfl⟩
theorem dX8_feast_24 : AtI iX8_feast 24 (.getfield 28) 3 27 := ⟨by decide +kernel, rfl⟩
theorem dX8_feast_27 : AtI iX8_feast 27 (.getfield 144) 3 30 := ⟨by decide +kernel, rfl⟩
theorem dX8_feast_30 : AtJ iX8_feast 30 (.goto 5) 5 33 35 := ⟨by decide +kernel, rfl, by decide⟩
theorem dX8_feast_33 : AtI iX8_feast 33 (.bipush (-4)) 2 35 := ⟨by decide +kernel, rfl⟩
theorem dX8_feast_35 : AtI iX8_feast 35 .ireturn 1 36 := ⟨by decide +kernel, rfl⟩
theorem dX8_back_0 : AtI iX8_back 0 (.aload_n 0) 1 1 := ⟨by decide +kernel, rfl⟩
theorem dX8_back_1 : AtI iX8_back 1 (.getfield 28) 3 4 := ⟨by decide +kernel, rfl⟩
theorem dX8_back_4 : AtI iX8_back 4 (.invokevirtual 147) 3 7 := ⟨by decide +kernel, rfl⟩
theorem dX8_back_7 : AtJ iX8_back 7 (.ifCond .eq 13) 13 10 20 := ⟨by decide +kernel, rfl, by decide⟩
theorem dX8_back_10 : AtI iX8_back 10 (.aload_n 0) 1 11 := ⟨by decide +kernel, rfl⟩
theorem dX8_back_11 : AtI iX8_back 11 (.getfield 28) 3 14 := ⟨by decide +kernel, rfl⟩
theorem dX8_back_14 : AtI iX8_back 14 (.getfield 144) 3 17 := ⟨by decide +kernel, rfl⟩
theorem dX8_back_17 : AtJ iX8_back 17 (.goto 5) 5 20 22 := ⟨by decide +kernel, rfl, by decide⟩
theorem dX8_back_20 : AtI iX8_back 20 (.bipush (-3)) 2 22 := ⟨by decide +kernel, rfl⟩
theorem dX8_back_22 : AtI iX8_back 22 .ireturn 1 23 := ⟨by decide +kernel, rfl⟩
theorem dX8_lent_0 : AtI iX8_lent 0 (.iload_n 1) 1 1 := ⟨by decide +kernel, rfl⟩
theorem dX8_lent_1 : AtI iX8_lent 1 (.bipush 15) 2 3 := ⟨by decide +kernel, rfl⟩
theorem dX8_lent_3 : AtI iX8_lent 3 (.invokestatic 75) 3 6 := ⟨by decide +kernel, rfl⟩
theorem dX8_lent_6 : AtJ iX8_lent 6 (.ifCond .ne 6) 6 9 12 := ⟨by decide +kernel, rfl, by decide⟩
theorem dX8_lent_9 : AtI iX8_lent 9 (.bipush (-2)) 2 11 := ⟨by decide +kernel, rfl⟩
theorem dX8_lent_11 : AtI iX8_lent 11 .ireturn 1 12 := ⟨by decide +kernel, rfl⟩
theorem dX8_lent_12 : AtI iX8_lent 12 (.aload_n 0) 1 13 := ⟨by decide +kernel, rfl⟩
theorem dX8_lent_13 : AtI iX8_lent 13 (.getfield 28) 3 16 := ⟨by decide +kernel, rfl⟩
theorem dX8_lent_16 : AtI iX8_lent 16 (.getfield 151) 3 19 := ⟨by decide +kernel, rfl⟩
theorem dX8_lent_19 : AtI iX8_lent 19 (.istore_n 2) 1 20 := ⟨by decide +kernel, rfl⟩
theorem dX8_lent_20 : AtI iX8_lent 20 (.aload_n 0) 1 21 := ⟨by decide +kernel, rfl⟩
theorem dX8_lent_21 : AtI iX8_lent 21 (.getfield 28) 3 24 := ⟨by decide +kernel, rfl⟩
theorem dX8_lent_24 : AtI iX8_lent 24 (.iload_n 1) 1 25 := ⟨by decide +kernel, rfl⟩
theorem dX8_lent_25 : AtI iX8_lent 25 (.putfield 151) 3 28 := ⟨by decide +kernel, rfl⟩
theorem dX8_lent_28 : AtI iX8_lent 28 (.iload_n 2) 1 29 := ⟨by decide +kernel, rfl⟩
theorem dX8_lent_29 : AtI iX8_lent 29 .ireturn 1 30 := ⟨by decide +kernel, rfl⟩
theorem dX8_war_0 : AtI iX8_war 0 (.iload_n 1) 1 1 := ⟨by decide +kernel, rfl⟩
theorem dX8_war_1 : AtI iX8_war 1 (.invokestatic 154) 3 4 := ⟨by decide +kernel, rfl⟩
theorem dX8_war_4 : AtJ iX8_war 4 (.ifCond .eq 10) 10 7 14 := ⟨by decide +kernel, rfl, by decide⟩
theorem dX8_war_7 : AtI iX8_war 7 (.iload_n 2) 1 8 := ⟨by decide +kernel, rfl⟩
theorem dX8_war_8 : AtI iX8_war 8 (.invokestatic 104) 3 11 := ⟨by decide +kernel, rfl⟩
theorem dX8_war_11 : AtJ iX8_war 11 (.ifCond .ne 6) 6 14 17 := ⟨by decide +kernel, rfl, by decide⟩
theorem dX8_war_14 : AtI iX8_war 14 (.bipush (-2)) 2 16 := ⟨by decide +kernel, rfl⟩
theorem dX8_war_16 : AtI iX8_war 16 .ireturn 1 17 := ⟨by decide +kernel, rfl⟩
theorem dX8_war_17 : AtI iX8_war 17 (.aload_n 0) 1 18 := ⟨by decide +kernel, rfl⟩
theorem dX8_war_18 : AtI iX8_war 18 (.getfield 28) 3 21 := ⟨by decide +kernel, rfl⟩
theorem dX8_war_21 : AtI iX8_war 21 (.iload_n 1) 1 22 := ⟨by decide +kernel, rfl⟩
theorem dX8_war_22 : AtI iX8_war 22 (.iload_n 2) 1 23 := ⟨by decide +kernel, rfl⟩
theorem dX8_war_23 : AtI iX8_war 23 (.invokevirtual 157) 3 26 := ⟨by decide +kernel, rfl⟩
theorem dX8_war_26 : AtJ iX8_war 26 (.ifCond .eq 7) 7 29 33 := ⟨by decide +kernel, rfl, by decide⟩
theorem dX8_war_29 : AtI iX8_war 29 (.iconst 1) 1 30 := ⟨by decide +kernel, rfl⟩
theorem dX8_war_30 : AtJ iX8_war 30 (.goto 4) 4 33 34 := ⟨by decide +kernel, rfl, by decide⟩
theorem dX8_war_33 : AtI iX8_war 33 (.iconst 0) 1 34 := ⟨by decide +kernel, rfl⟩
theorem dX8_war_34 : AtI iX8_war 34 .ireturn 1 35 := ⟨by decide +kernel, rfl⟩
theorem dX8_strikes_0 : AtI iX8_strikes 0 (.iload_n 1) 1 1 := ⟨by decide +kernel, rfl⟩
theorem dX8_strikes_1 : AtI iX8_strikes 1 (.invokestatic 154) 3 4 := ⟨by decide +kernel, rfl⟩
theorem dX8_strikes_4 : AtJ iX8_strikes 4 (.ifCond .eq 25) 25 7 29 := ⟨by decide +kernel, rfl, by decide⟩
theorem dX8_strikes_7 : AtI iX8_strikes 7 (.iload_n 2) 1 8 := ⟨by decide +kernel, rfl⟩
theorem dX8_strikes_8 : AtI iX8_strikes 8 (.invokestatic 104) 3 11 := ⟨by decide +kernel, rfl⟩
theorem dX8_strikes_11 : AtJ iX8_strikes 11 (.ifCond .eq 18) 18 14 29 := ⟨by decide +kernel, rfl, by decide⟩
theorem dX8_strikes_14 : AtI iX8_strikes 14 (.iload_n 3) 1 15 := ⟨by decide +kernel, rfl⟩
theorem dX8_strikes_15 : AtI iX8_strikes 15 (.invokestatic 160) 3 18 := ⟨by decide +kernel, rfl⟩
theorem dX8_strikes_18 : AtJ iX8_strikes 18 (.ifCond .eq 11) 11 21 29 := ⟨by decide +kernel, rfl, by decide⟩
theorem dX8_strikes_21 : AtI iX8_strikes 21 (.iload 4) 2 23 := ⟨by decide +kernel, rfl⟩
theorem dX8_strikes_23 : AtI iX8_strikes 23 (.invokestatic 160) 3 26 := ⟨by decide +kernel, rfl⟩
theorem dX8_strikes_26 : AtJ iX8_strikes 26 (.ifCond .ne 6) 6 29 32 := ⟨by decide +kernel, rfl, by decide⟩
theorem dX8_strikes_29 : AtI iX8_strikes 29 (.bipush (-2)) 2 31 := ⟨by decide +kernel, rfl⟩
theorem dX8_strikes_31 : AtI iX8_strikes 31 .ireturn 1 32 := ⟨by decide +kernel, rfl⟩
theorem dX8_strikes_32 : AtI iX8_strikes 32 (.iload_n 3) 1 33 := ⟨by decide +kernel, rfl⟩
theorem dX8_strikes_33 : AtJ iX8_strikes 33 (.ifCond .eq 19) 19 36 52 := ⟨by decide +kernel, rfl, by decide⟩
theorem dX8_strikes_36 : AtI iX8_strikes 36 (.iload_n 3) 1 37 := ⟨by decide +kernel, rfl⟩
theorem dX8_strikes_37 : AtI iX8_strikes 37 (.iconst 2) 1 38 := ⟨by decide +kernel, rfl⟩
theorem dX8_strikes_38 : AtJ iX8_strikes 38 (.if_icmp .ne 18) 18 41 56 := ⟨by decide +kernel, rfl, by decide⟩
theorem dX8_strikes_41 : AtI iX8_strikes 41 (.iload_n 1) 1 42 := ⟨by decide +kernel, rfl⟩
theorem dX8_strikes_42 : AtI iX8_strikes 42 (.bipush 24) 2 44 := ⟨by decide +kernel, rfl⟩
theorem dX8_strikes_44 : AtI iX8_strikes 44 .idiv 1 45 := ⟨by decide +kernel, rfl⟩
theorem dX8_strikes_45 : AtI iX8_strikes 45 (.bipush 7) 2 47 := ⟨by decide +kernel, rfl⟩
theorem dX8_strikes_47 : AtI iX8_strikes 47 .irem 1 48 := ⟨by decide +kernel, rfl⟩
theorem dX8_strikes_48 : AtI iX8_strikes 48 (.iconst 1) 1 49 := ⟨by decide +kernel, rfl⟩
theorem dX8_strikes_49 : AtJ iX8_strikes 49 (.if_icmp .ne 7) 7 52 56 := ⟨by decide +kernel, rfl, by decide⟩
theorem dX8_strikes_52 : AtI iX8_strikes 52 (.iconst 1) 1 53 := ⟨by decide +kernel, rfl⟩
theorem dX8_strikes_53 : AtJ iX8_strikes 53 (.goto 4) 4 56 57 := ⟨by decide +kernel, rfl, by decide⟩
theorem dX8_strikes_56 : AtI iX8_strikes 56 (.iconst 0) 1 57 := ⟨by decide +kernel, rfl⟩
theorem dX8_strikes_57 : AtI iX8_strikes 57 (.istore 5) 2 59 := ⟨by decide +kernel, rfl⟩
theorem dX8_strikes_59 : AtI iX8_strikes 59 (.iload 5) 2 61 := ⟨by decide +kernel, rfl⟩
theorem dX8_strikes_61 : AtJ iX8_strikes 61 (.ifCond .eq 25) 25 64 86 := ⟨by decide +kernel, rfl, by decide⟩
theorem dX8_strikes_64 : AtI iX8_strikes 64 (.iload 4) 2 66 := ⟨by decide +kernel, rfl⟩
theorem dX8_strikes_66 : AtI iX8_strikes 66 (.iconst 3) 1 67 := ⟨by decide +kernel, rfl⟩
theorem dX8_strikes_67 : AtJ iX8_strikes 67 (.if_icmp .eq 19) 19 70 86 := ⟨by decide +kernel, rfl, by decide⟩
theorem dX8_strikes_70 : AtI iX8_strikes 70 (.aload_n 0) 1 71 := ⟨by decide +kernel, rfl⟩
theorem dX8_strikes_71 : AtI iX8_strikes 71 (.getfield 28) 3 74 := ⟨by decide +kernel, rfl⟩
theorem dX8_strikes_74 : AtI iX8_strikes 74 (.iload_n 1) 1 75 := ⟨by decide +kernel, rfl⟩
theorem dX8_strikes_75 : AtI iX8_strikes 75 (.iload_n 2) 1 76 := ⟨by decide +kernel, rfl⟩
theorem dX8_strikes_76 : AtI iX8_strikes 76 (.invokevirtual 157) 3 79 := ⟨by decide +kernel, rfl⟩
theorem dX8_strikes_79 : AtJ iX8_strikes 79 (.ifCond .eq 7) 7 82 86 := ⟨by decide +kernel, rfl, by decide⟩
theorem dX8_strikes_82 : AtI iX8_strikes 82 (.iconst 1) 1 83 := ⟨by decide +kernel, rfl⟩
theorem dX8_strikes_83 : AtJ iX8_strikes 83 (.goto 4) 4 86 87 := ⟨by decide +kernel, rfl, by decide⟩
theorem dX8_strikes_86 : AtI iX8_strikes 86 (.iconst 0) 1 87 := ⟨by decide +kernel, rfl⟩
theorem dX8_strikes_87 : AtI iX8_strikes 87 .ireturn 1 88 := ⟨by decide +kernel, rfl⟩
theorem dX8_next_0 : AtI iX8_next 0 (.iload_n 1) 1 1 := ⟨by decide +kernel, rfl⟩
theorem dX8_next_1 : AtI iX8_next 1 (.invokestatic 154) 3 4 := ⟨by decide +kernel, rfl⟩
theorem dX8_next_4 : AtJ iX8_next 4 (.ifCond .eq 18) 18 7 22 := ⟨by decide +kernel, rfl, by decide⟩
theorem dX8_next_7 : AtI iX8_next 7 (.iload_n 2) 1 8 := ⟨by decide +kernel, rfl⟩
theorem dX8_next_8 : AtI iX8_next 8 (.invokestatic 104) 3 11 := ⟨by decide +kernel, rfl⟩
theorem dX8_next_11 : AtJ iX8_next 11 (.ifCond .eq 11) 11 14 22 := ⟨by decide +kernel, rfl, by decide⟩
theorem dX8_next_14 : AtI iX8_next 14 (.iload_n 3) 1 15 := ⟨by decide +kernel, rfl⟩
theorem dX8_next_15 : AtI iX8_next 15 (.iconst 1) 1 16 := ⟨by decide +kernel, rfl⟩
theorem dX8_next_16 : AtI iX8_next 16 (.invokestatic 75) 3 19 := ⟨by decide +kernel, rfl⟩
theorem dX8_next_19 : AtJ iX8_next 19 (.ifCond .ne 6) 6 22 25 := ⟨by decide +kernel, rfl, by decide⟩
theorem dX8_next_22 : AtI iX8_next 22 (.bipush (-2)) 2 24 := ⟨by decide +kernel, rfl⟩
theorem dX8_next_24 : AtI iX8_next 24 .ireturn 1 25 := ⟨by decide +kernel, rfl⟩
theorem dX8_next_25 : AtI iX8_next 25 (.iload_n 1) 1 26 := ⟨by decide +kernel, rfl⟩
theorem dX8_next_26 : AtI iX8_next 26 (.istore 4) 2 28 := ⟨by decide +kernel, rfl⟩
theorem dX8_next_28 : AtI iX8_next 28 (.iload 4) 2 30 := ⟨by decide +kernel, rfl⟩
theorem dX8_next_30 : AtI iX8_next 30 (.sipush 672) 3 33 := ⟨by decide +kernel, rfl⟩
theorem dX8_next_33 : AtJ iX8_next 33 (.if_icmp .ge 35) 35 36 68 := ⟨by decide +kernel, rfl, by decide⟩
theorem dX8_next_36 : AtI iX8_next 36 (.aload_n 0) 1 37 := ⟨by decide +kernel, rfl⟩
theorem dX8_next_37 : AtI iX8_next 37 (.getfield 28) 3 40 := ⟨by decide +kernel, rfl⟩
theorem dX8_next_40 : AtI iX8_next 40 (.iload 4) 2 42 := ⟨by decide +kernel, rfl⟩
theorem dX8_next_42 : AtI iX8_next 42 (.iload_n 2) 1 43 := ⟨by decide +kernel, rfl⟩
theorem dX8_next_43 : AtI iX8_next 43 (.invokevirtual 157) 3 46 := ⟨by decide +kernel, rfl⟩
theorem dX8_next_46 : AtI iX8_next 46 (.iload_n 3) 1 47 := ⟨by decide +kernel, rfl⟩
theorem dX8_next_47 : AtI iX8_next 47 (.iconst 1) 1 48 := ⟨by decide +kernel, rfl⟩
theorem dX8_next_48 : AtJ iX8_next 48 (.if_icmp .ne 7) 7 51 55 := ⟨by decide +kernel, rfl, by decide⟩
theorem dX8_next_51 : AtI iX8_next 51 (.iconst 1) 1 52 := ⟨by decide +kernel, rfl⟩
theorem dX8_next_52 : AtJ iX8_next 52 (.goto 4) 4 55 56 := ⟨by decide +kernel, rfl, by decide⟩
theorem dX8_next_55 : AtI iX8_next 55 (.iconst 0) 1 56 := ⟨by decide +kernel, rfl⟩
theorem dX8_next_56 : AtJ iX8_next 56 (.if_icmp .ne 6) 6 59 62 := ⟨by decide +kernel, rfl, by decide⟩
theorem dX8_next_59 : AtI iX8_next 59 (.iload 4) 2 61 := ⟨by decide +kernel, rfl⟩
theorem dX8_next_61 : AtI iX8_next 61 .ireturn 1 62 := ⟨by decide +kernel, rfl⟩
theorem dX8_next_62 : AtI iX8_next 62 (.iinc 4 1) 3 65 := ⟨by decide +kernel, rfl⟩
theorem dX8_next_65 : AtJ iX8_next 65 (.goto (-37)) (-37) 68 28 := ⟨by decide +kernel, rfl, by decide⟩
theorem dX8_next_68 : AtI iX8_next 68 (.iconst (-1)) 1 69 := ⟨by decide +kernel, rfl⟩
theorem dX8_next_69 : AtI iX8_next 69 .ireturn 1 70 := ⟨by decide +kernel, rfl⟩
theorem dX8_left_0 : AtI iX8_left 0 (.iload_n 1) 1 1 := ⟨by decide +kernel, rfl⟩
theorem dX8_left_1 : AtI iX8_left 1 (.iconst 3) 1 2 := ⟨by decide +kernel, rfl⟩
theorem dX8_left_2 : AtI iX8_left 2 (.invokestatic 75) 3 5 := ⟨by decide +kernel, rfl⟩
theorem dX8_left_5 : AtJ iX8_left 5 (.ifCond .eq 10) 10 8 15 := ⟨by decide +kernel, rfl, by decide⟩
theorem dX8_left_8 : AtI iX8_left 8 (.iload_n 2) 1 9 := ⟨by decide +kernel, rfl⟩
theorem dX8_left_9 : AtI iX8_left 9 (.invokestatic 104) 3 12 := ⟨by decide +kernel, rfl⟩
theorem dX8_left_12 : AtJ iX8_left 12 (.ifCond .ne 6) 6 15 18 := ⟨by decide +kernel, rfl, by decide⟩
theorem dX8_left_15 : AtI iX8_left 15 (.bipush (-2)) 2 17 := ⟨by decide +kernel, rfl⟩
theorem dX8_left_17 : AtI iX8_left 17 .ireturn 1 18 := ⟨by decide +kernel, rfl⟩
theorem dX8_left_18 : AtI iX8_left 18 (.aload_n 0) 1 19 := ⟨by decide +kernel, rfl⟩
theorem dX8_left_19 : AtI iX8_left 19 (.getfield 28) 3 22 := ⟨by decide +kernel, rfl⟩
theorem dX8_left_22 : AtI iX8_left 22 (.iload_n 1) 1 23 := ⟨by decide +kernel, rfl⟩
theorem dX8_left_23 : AtI iX8_left 23 (.iload_n 2) 1 24 := ⟨by decide +kernel, rfl⟩
theorem dX8_left_24 : AtI iX8_left 24 (.invokevirtual 163) 3 27 := ⟨by decide +kernel, rfl⟩
theorem dX8_left_27 : AtI iX8_left 27 .ireturn 1 28 := ⟨by decide +kernel, rfl⟩
theorem dX8_best_0 : AtI iX8_best 0 (.iload_n 1) 1 1 := ⟨by decide +kernel, rfl⟩
theorem dX8_best_1 : AtI iX8_best 1 (.invokestatic 104) 3 4 := ⟨by decide +kernel, rfl⟩
theorem dX8_best_4 : AtJ iX8_best 4 (.ifCond .ne 6) 6 7 10 := ⟨by decide +kernel, rfl, by decide⟩
theorem dX8_best_7 : AtI iX8_best 7 (.bipush (-2)) 2 9 := ⟨by decide +kernel, rfl⟩
theorem dX8_best_9 : AtI iX8_best 9 .ireturn 1 10 := ⟨by decide +kernel, rfl⟩
theorem dX8_best_10 : AtI iX8_best 10 (.iconst 0) 1 11 := ⟨by decide +kernel, rfl⟩
theorem dX8_best_11 : AtI iX8_best 11 (.istore_n 2) 1 12 := ⟨by decide +kernel, rfl⟩
theorem dX8_best_12 : AtI iX8_best 12 (.iconst 1) 1 13 := ⟨by decide +kernel, rfl⟩
theorem dX8_best_13 : AtI iX8_best 13 (.istore_n 3) 1 14 := ⟨by decide +kernel, rfl⟩
theorem dX8_best_14 : AtI iX8_best 14 (.iload_n 3) 1 15 := ⟨by decide +kernel, rfl⟩
theorem dX8_best_15 : AtI iX8_best 15 (.iconst 4) 1 16 := ⟨by decide +kernel, rfl⟩
theorem dX8_best_16 : AtJ iX8_best 16 (.if_icmp .ge 32) 32 19 48 := ⟨by decide +kernel, rfl, by decide⟩
theorem dX8_best_19 : AtI iX8_best 19 (.aload_n 0) 1 20 := ⟨by decide +kernel, rfl⟩
theorem dX8_best_20 : AtI iX8_best 20 (.getfield 28) 3 23 := ⟨by decide +kernel, rfl⟩
theorem dX8_best_23 : AtI iX8_best 23 (.iload_n 3) 1 24 := ⟨by decide +kernel, rfl⟩
theorem dX8_best_24 : AtI iX8_best 24 (.iload_n 1) 1 25 := ⟨by decide +kernel, rfl⟩
theorem dX8_best_25 : AtI iX8_best 25 (.invokevirtual 163) 3 28 := ⟨by decide +kernel, rfl⟩
theorem dX8_best_28 : AtI iX8_best 28 (.aload_n 0) 1 29 := ⟨by decide +kernel, rfl⟩
theorem dX8_best_29 : AtI iX8_best 29 (.getfield 28) 3 32 := ⟨by decide +kernel, rfl⟩
theorem dX8_best_32 : AtI iX8_best 32 (.iload_n 2) 1 33 := ⟨by decide +kernel, rfl⟩
theorem dX8_best_33 : AtI iX8_best 33 (.iload_n 1) 1 34 := ⟨by decide +kernel, rfl⟩
theorem dX8_best_34 : AtI iX8_best 34 (.invokevirtual 163) 3 37 := ⟨by decide +kernel, rfl⟩
theorem dX8_best_37 : AtJ iX8_best 37 (.if_icmp .le 5) 5 40 42 := ⟨by decide +kernel, rfl, by decide⟩
theorem dX8_best_40 : AtI iX8_best 40 (.iload_n 3) 1 41 := ⟨by decide +kernel, rfl⟩
theorem dX8_best_41 : AtI iX8_best 41 (.istore_n 2) 1 42 := ⟨by decide +kernel, rfl⟩
theorem dX8_best_42 : AtI iX8_best 42 (.iinc 3 1) 3 45 := ⟨by decide +kernel, rfl⟩
theorem dX8_best_45 : AtJ iX8_best 45 (.goto (-31)) (-31) 48 14 := ⟨by decide +kernel, rfl, by decide⟩
theorem dX8_best_48 : AtI iX8_best 48 (.iload_n 2) 1 49 := ⟨by decide +kernel, rfl⟩
theorem dX8_best_49 : AtI iX8_best 49 .ireturn 1 50 := ⟨by decide +kernel, rfl⟩
theorem dX8_unlike_0 : AtI iX8_unlike 0 (.iload_n 1) 1 1 := ⟨by decide +kernel, rfl⟩
theorem dX8_unlike_1 : AtI iX8_unlike 1 (.invokestatic 115) 3 4 := ⟨by decide +kernel, rfl⟩
theorem dX8_unlike_4 : AtJ iX8_unlike 4 (.ifCond .eq 10) 10 7 14 := ⟨by decide +kernel, rfl, by decide⟩
theorem dX8_unlike_7 : AtI iX8_unlike 7 (.iload_n 2) 1 8 := ⟨by decide +kernel, rfl⟩
theorem dX8_unlike_8 : AtI iX8_unlike 8 (.invokestatic 115) 3 11 := ⟨by decide +kernel, rfl⟩
theorem dX8_unlike_11 : AtJ iX8_unlike 11 (.ifCond .ne 6) 6 14 17 := ⟨by decide +kernel, rfl, by decide⟩
theorem dX8_unlike_14 : AtI iX8_unlike 14 (.bipush (-2)) 2 16 := ⟨by decide +kernel, rfl⟩
theorem dX8_unlike_16 : AtI iX8_unlike 16 .ireturn 1 17 := ⟨by decide +kernel, rfl⟩
theorem dX8_unlike_17 : AtI iX8_unlike 17 (.aload_n 0) 1 18 := ⟨by decide +kernel, rfl⟩
theorem dX8_unlike_18 : AtI iX8_unlike 18 (.getfield 19) 3 21 := ⟨by decide +kernel, rfl⟩
theorem dX8_unlike_21 : AtI iX8_unlike 21 (.iload_n 1) 1 22 := ⟨by decide +kernel, rfl⟩
theorem dX8_unlike_22 : AtI iX8_unlike 22 (.iload_n 2) 1 23 := ⟨by decide +kernel, rfl⟩
theorem dX8_unlike_23 : AtI iX8_unlike 23 (.invokevirtual 166) 3 26 := ⟨by decide +kernel, rfl⟩
theorem dX8_unlike_26 : AtI iX8_unlike 26 .ireturn 1 27 := ⟨by decide +kernel, rfl⟩
theorem dX8_way_0 : AtI iX8_way 0 (.iload_n 1) 1 1 := ⟨by decide +kernel, rfl⟩
theorem dX8_way_1 : AtI iX8_way 1 (.iload_n 2) 1 2 := ⟨by decide +kernel, rfl⟩
theorem dX8_way_2 : AtI iX8_way 2 (.invokestatic 169) 3 5 := ⟨by decide +kernel, rfl⟩
theorem dX8_way_5 : AtJ iX8_way 5 (.ifCond .eq 11) 11 8 16 := ⟨by decide +kernel, rfl, by decide⟩
theorem dX8_way_8 : AtI iX8_way 8 (.iload_n 3) 1 9 := ⟨by decide +kernel, rfl⟩
theorem dX8_way_9 : AtI iX8_way 9 (.iconst 1) 1 10 := ⟨by decide +kernel, rfl⟩
theorem dX8_way_10 : AtI iX8_way 10 (.invokestatic 75) 3 13 := ⟨by decide +kernel, rfl⟩
theorem dX8_way_13 : AtJ iX8_way 13 (.ifCond .ne 6) 6 16 19 := ⟨by decide +kernel, rfl, by decide⟩
theorem dX8_way_16 : AtI iX8_way 16 (.bipush (-2)) 2 18 := ⟨by decide +kernel, rfl⟩
theorem dX8_way_18 : AtI iX8_way 18 .ireturn 1 19 := ⟨by decide +kernel, rfl⟩
theorem dX8_way_19 : AtI iX8_way 19 (.aload_n 0) 1 20 := ⟨by decide +kernel, rfl⟩
theorem dX8_way_20 : AtI iX8_way 20 (.getfield 12) 3 23 := ⟨by decide +kernel, rfl⟩
theorem dX8_way_23 : AtI iX8_way 23 (.iload_n 1) 1 24 := ⟨by decide +kernel, rfl⟩
theorem dX8_way_24 : AtI iX8_way 24 (.iload_n 2) 1 25 := ⟨by decide +kernel, rfl⟩
theorem dX8_way_25 : AtI iX8_way 25 (.invokevirtual 172) 3 28 := ⟨by decide +kernel, rfl⟩
theorem dX8_way_28 : AtJ iX8_way 28 (.ifCond .ne 5) 5 31 33 := ⟨by decide +kernel, rfl, by decide⟩
theorem dX8_way_31 : AtI iX8_way 31 (.iconst (-1)) 1 32 := ⟨by decide +kernel, rfl⟩
theorem dX8_way_32 : AtI iX8_way 32 .ireturn 1 33 := ⟨by decide +kernel, rfl⟩
theorem dX8_way_33 : AtI iX8_way 33 (.iload_n 3) 1 34 := ⟨by decide +kernel, rfl⟩
theorem dX8_way_34 : AtJ iX8_way 34 (.ifCond .ne 15) 15 37 49 := ⟨by decide +kernel, rfl, by decide⟩
theorem dX8_way_37 : AtI iX8_way 37 (.aload_n 0) 1 38 := ⟨by decide +kernel, rfl⟩
theorem dX8_way_38 : AtI iX8_way 38 (.getfield 12) 3 41 := ⟨by decide +kernel, rfl⟩
theorem dX8_way_41 : AtI iX8_way 41 (.iload_n 1) 1 42 := ⟨by decide +kernel, rfl⟩
theorem dX8_way_42 : AtI iX8_way 42 (.iload_n 2) 1 43 := ⟨by decide +kernel, rfl⟩
theorem dX8_way_43 : AtI iX8_way 43 (.invokevirtual 175) 3 46 := ⟨by decide +kernel, rfl⟩
theorem dX8_way_46 : AtJ iX8_way 46 (.goto 12) 12 49 58 := ⟨by decide +kernel, rfl, by decide⟩
theorem dX8_way_49 : AtI iX8_way 49 (.aload_n 0) 1 50 := ⟨by decide +kernel, rfl⟩
theorem dX8_way_50 : AtI iX8_way 50 (.getfield 12) 3 53 := ⟨by decide +kernel, rfl⟩
theorem dX8_way_53 : AtI iX8_way 53 (.iload_n 1) 1 54 := ⟨by decide +kernel, rfl⟩
theorem dX8_way_54 : AtI iX8_way 54 (.iload_n 2) 1 55 := ⟨by decide +kernel, rfl⟩
theorem dX8_way_55 : AtI iX8_way 55 (.invokevirtual 178) 3 58 := ⟨by decide +kernel, rfl⟩
theorem dX8_way_58 : AtI iX8_way 58 .ireturn 1 59 := ⟨by decide +kernel, rfl⟩
theorem dX8_raid_0 : AtI iX8_raid 0 (.iload_n 1) 1 1 := ⟨by decide +kernel, rfl⟩
theorem dX8_raid_1 : AtI iX8_raid 1 (.iload_n 2) 1 2 := ⟨by decide +kernel, rfl⟩
theorem dX8_raid_2 : AtI iX8_raid 2 (.invokestatic 169) 3 5 := ⟨by decide +kernel, rfl⟩
theorem dX8_raid_5 : AtJ iX8_raid 5 (.ifCond .eq 22) 22 8 27 := ⟨by decide +kernel, rfl, by decide⟩
theorem dX8_raid_8 : AtI iX8_raid 8 (.iload_n 3) 1 9 := ⟨by decide +kernel, rfl⟩
theorem dX8_raid_9 : AtI iX8_raid 9 (.iconst 1) 1 10 := ⟨by decide +kernel, rfl⟩
theorem dX8_raid_10 : AtJ iX8_raid 10 (.if_icmp .lt 17) 17 13 27 := ⟨by decide +kernel, rfl, by decide⟩
theorem dX8_raid_13 : AtI iX8_raid 13 (.iload_n 3) 1 14 := ⟨by decide +kernel, rfl⟩
theorem dX8_raid_14 : AtI iX8_raid 14 (.bipush 9) 2 16 := ⟨by decide +kernel, rfl⟩
theorem dX8_raid_16 : AtJ iX8_raid 16 (.if_icmp .gt 11) 11 19 27 := ⟨by decide +kernel, rfl, by decide⟩
theorem dX8_raid_19 : AtI iX8_raid 19 (.iload 4) 2 21 := ⟨by decide +kernel, rfl⟩
theorem dX8_raid_21 : AtI iX8_raid 21 (.invokestatic 154) 3 24 := ⟨by decide +kernel, rfl⟩
theorem dX8_raid_24 : AtJ iX8_raid 24 (.ifCond .ne 6) 6 27 30 := ⟨by decide +kernel, rfl, by decide⟩
theorem dX8_raid_27 : AtI iX8_raid 27 (.bipush (-2)) 2 29 := ⟨by decide +kernel, rfl⟩
theorem dX8_raid_29 : AtI iX8_raid 29 .ireturn 1 30 := ⟨by decide +kernel, rfl⟩
theorem dX8_raid_30 : AtI iX8_raid 30 (.aload_n 0) 1 31 := ⟨by decide +kernel, rfl⟩
theorem dX8_raid_31 : AtI iX8_raid 31 (.getfield 12) 3 34 := ⟨by decide +kernel, rfl⟩
theorem dX8_raid_34 : AtI iX8_raid 34 (.iload_n 1) 1 35 := ⟨by decide +kernel, rfl⟩
theorem dX8_raid_35 : AtI iX8_raid 35 (.iload_n 2) 1 36 := ⟨by decide +kernel, rfl⟩
theorem dX8_raid_36 : AtI iX8_raid 36 (.invokevirtual 172) 3 39 := ⟨by decide +kernel, rfl⟩
theorem dX8_raid_39 : AtJ iX8_raid 39 (.ifCond .eq 18) 18 42 57 := ⟨by decide +kernel, rfl, by decide⟩
theorem dX8_raid_42 : AtI iX8_raid 42 (.aload_n 0) 1 43 := ⟨by decide +kernel, rfl⟩
theorem dX8_raid_43 : AtI iX8_raid 43 (.getfield 37) 3 46 := ⟨by decide +kernel, rfl⟩
theorem dX8_raid_46 : AtI iX8_raid 46 (.iload_n 1) 1 47 := ⟨by decide +kernel, rfl⟩
theorem dX8_raid_47 : AtI iX8_raid 47 (.iload_n 2) 1 48 := ⟨by decide +kernel, rfl⟩
theorem dX8_raid_48 : AtI iX8_raid 48 (.iload_n 3) 1 49 := ⟨by decide +kernel, rfl⟩
theorem dX8_raid_49 : AtI iX8_raid 49 (.iload 4) 2 51 := ⟨by decide +kernel, rfl⟩
theorem dX8_raid_51 : AtI iX8_raid 51 (.invokevirtual 181) 3 54 := ⟨by decide +kernel, rfl⟩
theorem dX8_raid_54 : AtJ iX8_raid 54 (.goto 4) 4 57 58 := ⟨by decide +kernel, rfl, by decide⟩
theorem dX8_raid_57 : AtI iX8_raid 57 (.iconst (-1)) 1 58 := ⟨by decide +kernel, rfl⟩
theorem dX8_raid_58 : AtI iX8_raid 58 .ireturn 1 59 := ⟨by decide +kernel, rfl⟩
theorem dX8_set_0 : AtI iX8_set 0 (.iload_n 1) 1 1 := ⟨by decide +kernel, rfl⟩
theorem dX8_set_1 : AtI iX8_set 1 (.iconst 1) 1 2 := ⟨by decide +kernel, rfl⟩
theorem dX8_set_2 : AtI iX8_set 2 (.invokestatic 75) 3 5 := ⟨by decide +kernel, rfl⟩
theorem dX8_set_5 : AtJ iX8_set 5 (.ifCond .eq 12) 12 8 17 := ⟨by decide +kernel, rfl, by decide⟩
theorem dX8_set_8 : AtI iX8_set 8 (.iload_n 2) 1 9 := ⟨by decide +kernel, rfl⟩
theorem dX8_set_9 : AtI iX8_set 9 (.bipush 99) 2 11 := ⟨by decide +kernel, rfl⟩
theorem dX8_set_11 : AtI iX8_set 11 (.invokestatic 75) 3 14 := ⟨by decide +kernel, rfl⟩
theorem dX8_set_14 : AtJ iX8_set 14 (.ifCond .ne 6) 6 17 20 := ⟨by decide +kernel, rfl, by decide⟩
theorem dX8_set_17 : AtI iX8_set 17 (.bipush (-2)) 2 19 := ⟨by decide +kernel, rfl⟩
theorem dX8_set_19 : AtI iX8_set 19 .ireturn 1 20 := ⟨by decide +kernel, rfl⟩
theorem dX8_set_20 : AtI iX8_set 20 (.iload_n 1) 1 21 := ⟨by decide +kernel, rfl⟩
theorem dX8_set_21 : AtJ iX8_set 21 (.ifCond .ne 13) 13 24 34 := ⟨by decide +kernel, rfl, by decide⟩
theorem dX8_set_24 : AtI iX8_set 24 (.aload_n 0) 1 25 := ⟨by decide +kernel, rfl⟩
theorem dX8_set_25 : AtI iX8_set 25 (.getfield 46) 3 28 := ⟨by decide +kernel, rfl⟩
theorem dX8_set_28 : AtI iX8_set 28 (.getfield 185) 3 31 := ⟨by decide +kernel, rfl⟩
theorem dX8_set_31 : AtJ iX8_set 31 (.goto 10) 10 34 41 := ⟨by decide +kernel, rfl, by decide⟩
theorem dX8_set_34 : AtI iX8_set 34 (.aload_n 0) 1 35 := ⟨by decide +kernel, rfl⟩
theorem dX8_set_35 : AtI iX8_set 35 (.getfield 46) 3 38 := ⟨by decide +kernel, rfl⟩
theorem dX8_set_38 : AtI iX8_set 38 (.getfield 188) 3 41 := ⟨by decide +kernel, rfl⟩
theorem dX8_set_41 : AtI iX8_set 41 (.istore_n 3) 1 42 := ⟨by decide +kernel, rfl⟩
theorem dX8_set_42 : AtI iX8_set 42 (.iload_n 1) 1 43 := ⟨by decide +kernel, rfl⟩
theorem dX8_set_43 : AtJ iX8_set 43 (.ifCond .ne 14) 14 46 57 := ⟨by decide +kernel, rfl, by decide⟩
theorem dX8_set_46 : AtI iX8_set 46 (.aload_n 0) 1 47 := ⟨by decide +kernel, rfl⟩
theorem dX8_set_47 : AtI iX8_set 47 (.getfield 46) 3 50 := ⟨by decide +kernel, rfl⟩
theorem dX8_set_50 : AtI iX8_set 50 (.iload_n 2) 1 51 := ⟨by decide +kernel, rfl⟩
theorem dX8_set_51 : AtI iX8_set 51 (.putfield 185) 3 54 := ⟨by decide +kernel, rfl⟩
theorem dX8_set_54 : AtJ iX8_set 54 (.goto 11) 11 57 65 := ⟨by decide +kernel, rfl, by decide⟩
theorem dX8_set_57 : AtI iX8_set 57 (.aload_n 0) 1 58 := ⟨by decide +kernel, rfl⟩
theorem dX8_set_58 : AtI iX8_set 58 (.getfield 46) 3 61 := ⟨by decide +kernel, rfl⟩
theorem dX8_set_61 : AtI iX8_set 61 (.iload_n 2) 1 62 := ⟨by decide +kernel, rfl⟩
theorem dX8_set_62 : AtI iX8_set 62 (.putfield 188) 3 65 := ⟨by decide +kernel, rfl⟩
theorem dX8_set_65 : AtI iX8_set 65 (.iload_n 3) 1 66 := ⟨by decide +kernel, rfl⟩
theorem dX8_set_66 : AtI iX8_set 66 .ireturn 1 67 := ⟨by decide +kernel, rfl⟩
theorem dX8_siege_0 : AtI iX8_siege 0 (.iload_n 1) 1 1 := ⟨by decide +kernel, rfl⟩
theorem dX8_siege_1 : AtI iX8_siege 1 (.iload_n 2) 1 2 := ⟨by decide +kernel, rfl⟩
theorem dX8_siege_2 : AtI iX8_siege 2 (.iload_n 3) 1 3 := ⟨by decide +kernel, rfl⟩
theorem dX8_siege_3 : AtI iX8_siege 3 (.invokestatic 191) 3 6 := ⟨by decide +kernel, rfl⟩
theorem dX8_siege_6 : AtJ iX8_siege 6 (.ifCond .eq 12) 12 9 18 := ⟨by decide +kernel, rfl, by decide⟩
theorem dX8_siege_9 : AtI iX8_siege 9 (.iload 4) 2 11 := ⟨by decide +kernel, rfl⟩
theorem dX8_siege_11 : AtI iX8_siege 11 (.iconst 1) 1 12 := ⟨by decide +kernel, rfl⟩
theorem dX8_siege_12 : AtI iX8_siege 12 (.invokestatic 75) 3 15 := ⟨by decide +kernel, rfl⟩
theorem dX8_siege_15 : AtJ iX8_siege 15 (.ifCond .ne 6) 6 18 21 := ⟨by decide +kernel, rfl, by decide⟩
theorem dX8_siege_18 : AtI iX8_siege 18 (.bipush (-2)) 2 20 := ⟨by decide +kernel, rfl⟩
theorem dX8_siege_20 : AtI iX8_siege 20 .ireturn 1 21 := ⟨by decide +kernel, rfl⟩
theorem dX8_siege_21 : AtI iX8_siege 21 (.aload_n 0) 1 22 := ⟨by decide +kernel, rfl⟩
theorem dX8_siege_22 : AtI iX8_siege 22 (.getfield 46) 3 25 := ⟨by decide +kernel, rfl⟩
theorem dX8_siege_25 : AtI iX8_siege 25 (.iload_n 1) 1 26 := ⟨by decide +kernel, rfl⟩
theorem dX8_siege_26 : AtI iX8_siege 26 (.iload_n 2) 1 27 := ⟨by decide +kernel, rfl⟩
theorem dX8_siege_27 : AtI iX8_siege 27 (.iload_n 3) 1 28 := ⟨by decide +kernel, rfl⟩
theorem dX8_siege_28 : AtI iX8_siege 28 (.aload_n 0) 1 29 := ⟨by decide +kernel, rfl⟩
theorem dX8_siege_29 : AtI iX8_siege 29 (.getfield 46) 3 32 := ⟨by decide +kernel, rfl⟩
theorem dX8_siege_32 : AtI iX8_siege 32 (.getfield 188) 3 35 := ⟨by decide +kernel, rfl⟩
theorem dX8_siege_35 : AtI iX8_siege 35 (.invokevirtual 195) 3 38 := ⟨by decide +kernel, rfl⟩
theorem dX8_siege_38 : AtI iX8_siege 38 (.istore 5) 2 40 := ⟨by decide +kernel, rfl⟩
theorem dX8_siege_40 : AtI iX8_siege 40 (.iload 4) 2 42 := ⟨by decide +kernel, rfl⟩
theorem dX8_siege_42 : AtJ iX8_siege 42 (.ifCond .ne 8) 8 45 50 := ⟨by decide +kernel, rfl, by decide⟩
theorem dX8_siege_45 : AtI iX8_siege 45 (.iload 5) 2 47 := ⟨by decide +kernel, rfl⟩
theorem dX8_siege_47 : AtJ iX8_siege 47 (.goto 10) 10 50 57 := ⟨by decide +kernel, rfl, by decide⟩
theorem dX8_siege_50 : AtI iX8_siege 50 (.aload_n 0) 1 51 := ⟨by decide +kernel, rfl⟩
theorem dX8_siege_51 : AtI iX8_siege 51 (.getfield 46) 3 54 := ⟨by decide +kernel, rfl⟩
theorem dX8_siege_54 : AtI iX8_siege 54 (.getfield 198) 3 57 := ⟨by decide +kernel, rfl⟩
theorem dX8_siege_57 : AtI iX8_siege 57 .ireturn 1 58 := ⟨by decide +kernel, rfl⟩
theorem dX8_holds_0 : AtI iX8_holds 0 (.iload_n 1) 1 1 := ⟨by decide +kernel, rfl⟩
theorem dX8_holds_1 : AtI iX8_holds 1 (.iload_n 2) 1 2 := ⟨by decide +kernel, rfl⟩
theorem dX8_holds_2 : AtI iX8_holds 2 (.iload_n 3) 1 3 := ⟨by decide +kernel, rfl⟩
theorem dX8_holds_3 : AtI iX8_holds 3 (.invokestatic 191) 3 6 := ⟨by decide +kernel, rfl⟩
theorem dX8_holds_6 : AtJ iX8_holds 6 (.ifCond .ne 6) 6 9 12 := ⟨by decide +kernel, rfl, by decide⟩
theorem dX8_holds_9 : AtI iX8_holds 9 (.bipush (-2)) 2 11 := ⟨by decide +kernel, rfl⟩
theorem dX8_holds_11 : AtI iX8_holds 11 .ireturn 1 12 := ⟨by decide +kernel, rfl⟩
theorem dX8_holds_12 : AtI iX8_holds 12 (.aload_n 0) 1 13 := ⟨by decide +kernel, rfl⟩
theorem dX8_holds_13 : AtI iX8_holds 13 (.getfield 46) 3 16 := ⟨by decide +kernel, rfl⟩
theorem dX8_holds_16 : AtI iX8_holds 16 (.iload_n 1) 1 17 := ⟨by decide +kernel, rfl⟩
theorem dX8_holds_17 : AtI iX8_holds 17 (.iload_n 2) 1 18 := ⟨by decide +kernel, rfl⟩
theorem dX8_holds_18 : AtI iX8_holds 18 (.iload_n 3) 1 19 := ⟨by decide +kernel, rfl⟩
theorem dX8_holds_19 : AtI iX8_holds 19 (.invokevirtual 201) 3 22 := ⟨by decide +kernel, rfl⟩
theorem dX8_holds_22 : AtI iX8_holds 22 .ireturn 1 23 := ⟨by decide +kernel, rfl⟩
theorem dX8_home_0 : AtI iX8_home 0 (.iload_n 1) 1 1 := ⟨by decide +kernel, rfl⟩
theorem dX8_home_1 : AtI iX8_home 1 (.iload_n 2) 1 2 := ⟨by decide +kernel, rfl⟩
theorem dX8_home_2 : AtI iX8_home 2 (.invokestatic 169) 3 5 := ⟨by decide +kernel, rfl⟩
theorem dX8_home_5 : AtJ iX8_home 5 (.ifCond .eq 30) 30 8 35 := ⟨by decide +kernel, rfl, by decide⟩
theorem dX8_home_8 : AtI iX8_home 8 (.iload_n 3) 1 9 := ⟨by decide +kernel, rfl⟩
theorem dX8_home_9 : AtI iX8_home 9 (.invokestatic 154) 3 12 := ⟨by decide +kernel, rfl⟩
theorem dX8_home_12 : AtJ iX8_home 12 (.ifCond .eq 23) 23 15 35 := ⟨by decide +kernel, rfl, by decide⟩
theorem dX8_home_15 : AtI iX8_home 15 (.iload 4) 2 17 := ⟨by decide +kernel, rfl⟩
theorem dX8_home_17 : AtI iX8_home 17 (.bipush (-4)) 2 19 := ⟨by decide +kernel, rfl⟩
theorem dX8_home_19 : AtJ iX8_home 19 (.if_icmp .lt 16) 16 22 35 := ⟨by decide +kernel, rfl, by decide⟩
theorem dX8_home_22 : AtI iX8_home 22 (.iload 4) 2 24 := ⟨by decide +kernel, rfl⟩
theorem dX8_home_24 : AtI iX8_home 24 (.iconst (-1)) 1 25 := ⟨by decide +kernel, rfl⟩
theorem dX8_home_25 : AtJ iX8_home 25 (.if_icmp .eq 10) 10 28 35 := ⟨by decide +kernel, rfl, by decide⟩
theorem dX8_home_28 : AtI iX8_home 28 (.iload 4) 2 30 := ⟨by decide +kernel, rfl⟩
theorem dX8_home_30 : AtI iX8_home 30 (.bipush 8) 2 32 := ⟨by decide +kernel, rfl⟩
theorem dX8_home_32 : AtJ iX8_home 32 (.if_icmp .lt 6) 6 35 38 := ⟨by decide +kernel, rfl, by decide⟩
theorem dX8_home_35 : AtI iX8_home 35 (.bipush (-2)) 2 37 := ⟨by decide +kernel, rfl⟩
theorem dX8_home_37 : AtI iX8_home 37 .ireturn 1 38 := ⟨by decide +kernel, rfl⟩
theorem dX8_home_38 : AtI iX8_home 38 (.aload_n 0) 1 39 := ⟨by decide +kernel, rfl⟩
theorem dX8_home_39 : AtI iX8_home 39 (.getfield 53) 3 42 := ⟨by decide +kernel, rfl⟩
theorem dX8_home_42 : AtI iX8_home 42 (.iload_n 1) 1 43 := ⟨by decide +kernel, rfl⟩
theorem dX8_home_43 : AtI iX8_home 43 (.iload_n 2) 1 44 := ⟨by decide +kernel, rfl⟩
theorem dX8_home_44 : AtI iX8_home 44 (.iload_n 3) 1 45 := ⟨by decide +kernel, rfl⟩
theorem dX8_home_45 : AtI iX8_home 45 (.invokevirtual 204) 3 48 := ⟨by decide +kernel, rfl⟩
theorem dX8_home_48 : AtI iX8_home 48 (.iload 4) 2 50 := ⟨by decide +kernel, rfl⟩
theorem dX8_home_50 : AtI iX8_home 50 (.bipush (-4)) 2 52 := ⟨by decide +kernel, rfl⟩
theorem dX8_home_52 : AtJ iX8_home 52 (.if_icmp .ne 11) 11 55 63 := ⟨by decide +kernel, rfl, by decide⟩
theorem dX8_home_55 : AtI iX8_home 55 (.aload_n 0) 1 56 := ⟨by decide +kernel, rfl⟩
theorem dX8_home_56 : AtI iX8_home 56 (.getfield 53) 3 59 := ⟨by decide +kernel, rfl⟩
theorem dX8_home_59 : AtI iX8_home 59 (.invokevirtual 208) 3 62 := ⟨by decide +kernel, rfl⟩
theorem dX8_home_62 : AtI iX8_home 62 .ireturn 1 63 := ⟨by decide +kernel, rfl⟩
theorem dX8_home_63 : AtI iX8_home 63 (.iload 4) 2 65 := ⟨by decide +kernel, rfl⟩
theorem dX8_home_65 : AtI iX8_home 65 (.bipush (-3)) 2 67 := ⟨by decide +kernel, rfl⟩
theorem dX8_home_67 : AtJ iX8_home 67 (.if_icmp .ne 11) 11 70 78 := ⟨by decide +kernel, rfl, by decide⟩
theorem dX8_home_70 : AtI iX8_home 70 (.aload_n 0) 1 71 := ⟨by decide +kernel, rfl⟩
theorem dX8_home_71 : AtI iX8_home 71 (.getfield 53) 3 74 := ⟨by decide +kernel, rfl⟩
theorem dX8_home_74 : AtI iX8_home 74 (.invokevirtual 212) 3 77 := ⟨by decide +kernel, rfl⟩
theorem dX8_home_77 : AtI iX8_home 77 .ireturn 1 78 := ⟨by decide +kernel, rfl⟩
theorem dX8_home_78 : AtI iX8_home 78 (.iload 4) 2 80 := ⟨by decide +kernel, rfl⟩
theorem dX8_home_80 : AtI iX8_home 80 (.bipush (-2)) 2 82 := ⟨by decide +kernel, rfl⟩
theorem dX8_home_82 : AtJ iX8_home 82 (.if_icmp .ne 13) 13 85 95 := ⟨by decide +kernel, rfl, by decide⟩
theorem dX8_home_85 : AtI iX8_home 85 (.aload_n 0) 1 86 := ⟨by decide +kernel, rfl⟩
theorem dX8_home_86 : AtI iX8_home 86 (.getfield 53) 3 89 := ⟨by decide +kernel, rfl⟩
theorem dX8_home_89 : AtI iX8_home 89 (.getfield 215) 3 92 := ⟨by decide +kernel, rfl⟩
theorem dX8_home_92 : AtJ iX8_home 92 (.goto 12) 12 95 104 := ⟨by decide +kernel, rfl, by decide⟩
theorem dX8_home_95 : AtI iX8_home 95 (.aload_n 0) 1 96 := ⟨by decide +kernel, rfl⟩
theorem dX8_home_96 : AtI iX8_home 96 (.getfield 53) 3 99 := ⟨by decide +kernel, rfl⟩
theorem dX8_home_99 : AtI iX8_home 99 (.iload 4) 2 101 := ⟨by decide +kernel, rfl⟩
theorem dX8_home_101 : AtI iX8_home 101 (.invokevirtual 218) 3 104 := ⟨by decide +kernel, rfl⟩
theorem dX8_home_104 : AtI iX8_home 104 .ireturn 1 105 := ⟨by decide +kernel, rfl⟩
theorem dX8_agree_0 : AtI iX8_agree 0 (.iload_n 1) 1 1 := ⟨by decide +kernel, rfl⟩
theorem dX8_agree_1 : AtI iX8_agree 1 (.iconst 2) 1 2 := ⟨by decide +kernel, rfl⟩
theorem dX8_agree_2 : AtI iX8_agree 2 (.invokestatic 75) 3 5 := ⟨by decide +kernel, rfl⟩
theorem dX8_agree_5 : AtJ iX8_agree 5 (.ifCond .ne 6) 6 8 11 := ⟨by decide +kernel, rfl, by decide⟩
theorem dX8_agree_8 : AtI iX8_agree 8 (.bipush (-2)) 2 10 := ⟨by decide +kernel, rfl⟩
theorem dX8_agree_10 : AtI iX8_agree 10 .ireturn 1 11 := ⟨by decide +kernel, rfl⟩
theorem dX8_agree_11 : AtI iX8_agree 11 (.aload_n 0) 1 12 := ⟨by decide +kernel, rfl⟩
theorem dX8_agree_12 : AtI iX8_agree 12 (.getfield 19) 3 15 := ⟨by decide +kernel, rfl⟩
theorem dX8_agree_15 : AtI iX8_agree 15 (.invokevirtual 221) 3 18 := ⟨by decide +kernel, rfl⟩
theorem dX8_agree_18 : AtI iX8_agree 18 (.istore_n 2) 1 19 := ⟨by decide +kernel, rfl⟩
theorem dX8_agree_19 : AtI iX8_agree 19 (.iload_n 1) 1 20 := ⟨by decide +kernel, rfl⟩
theorem dX8_agree_20 : AtJ iX8_agree 20 (.ifCond .ne 16) 16 23 36 := ⟨by decide +kernel, rfl, by decide⟩
theorem dX8_agree_23 : AtI iX8_agree 23 (.iconst 4) 1 24 := ⟨by decide +kernel, rfl⟩
theorem dX8_agree_24 : AtI iX8_agree 24 (.aload_n 0) 1 25 := ⟨by decide +kernel, rfl⟩
theorem dX8_agree_25 : AtI iX8_agree 25 (.getfield 19) 3 28 := ⟨by decide +kernel, rfl⟩
theorem dX8_agree_28 : AtI iX8_agree 28 (.iload_n 2) 1 29 := ⟨by decide +kernel, rfl⟩
theorem dX8_agree_29 : AtI iX8_agree 29 (.invokevirtual 224) 3 32 := ⟨by decide +kernel, rfl⟩
theorem dX8_agree_32 : AtI iX8_agree 32 .isub 1 33 := ⟨by decide +kernel, rfl⟩
theorem dX8_agree_33 : AtJ iX8_agree 33 (.goto 14) 14 36 47 := ⟨by decide +kernel, rfl, by decide⟩
theorem dX8_agree_36 : AtI iX8_agree 36 (.aload_n 0) 1 37 := ⟨by decide +kernel, rfl⟩
theorem dX8_agree_37 : AtI iX8_agree 37 (.getfield 19) 3 40 := ⟨by decide +kernel, rfl⟩
theorem dX8_agree_40 : AtI iX8_agree 40 (.iload_n 2) 1 41 := ⟨by decide +kernel, rfl⟩
theorem dX8_agree_41 : AtI iX8_agree 41 (.iload_n 1) 1 42 := ⟨by decide +kernel, rfl⟩
theorem dX8_agree_42 : AtI iX8_agree 42 (.iconst 1) 1 43 := ⟨by decide +kernel, rfl⟩
theorem dX8_agree_43 : AtI iX8_agree 43 .isub 1 44 := ⟨by decide +kernel, rfl⟩
theorem dX8_agree_44 : AtI iX8_agree 44 (.invokevirtual 227) 3 47 := ⟨by decide +kernel, rfl⟩
theorem dX8_agree_47 : AtI iX8_agree 47 .ireturn 1 48 := ⟨by decide +kernel, rfl⟩
theorem dX8_middle_0 : AtI iX8_middle 0 (.iload_n 1) 1 1 := ⟨by decide +kernel, rfl⟩
theorem dX8_middle_1 : AtI iX8_middle 1 (.iconst 2) 1 2 := ⟨by decide +kernel, rfl⟩
theorem dX8_middle_2 : AtI iX8_middle 2 (.invokestatic 75) 3 5 := ⟨by decide +kernel, rfl⟩
theorem dX8_middle_5 : AtJ iX8_middle 5 (.ifCond .ne 6) 6 8 11 := ⟨by decide +kernel, rfl, by decide⟩
theorem dX8_middle_8 : AtI iX8_middle 8 (.bipush (-2)) 2 10 := ⟨by decide +kernel, rfl⟩
theorem dX8_middle_10 : AtI iX8_middle 10 .ireturn 1 11 := ⟨by decide +kernel, rfl⟩
theorem dX8_middle_11 : AtI iX8_middle 11 (.aload_n 0) 1 12 := ⟨by decide +kernel, rfl⟩
theorem dX8_middle_12 : AtI iX8_middle 12 (.getfield 19) 3 15 := ⟨by decide +kernel, rfl⟩
theorem dX8_middle_15 : AtI iX8_middle 15 (.iconst 0) 1 16 := ⟨by decide +kernel, rfl⟩
theorem dX8_middle_16 : AtI iX8_middle 16 (.invokevirtual 230) 3 19 := ⟨by decide +kernel, rfl⟩
theorem dX8_middle_19 : AtI iX8_middle 19 (.istore_n 2) 1 20 := ⟨by decide +kernel, rfl⟩
theorem dX8_middle_20 : AtI iX8_middle 20 (.aload_n 0) 1 21 := ⟨by decide +kernel, rfl⟩
theorem dX8_middle_21 : AtI iX8_middle 21 (.getfield 19) 3 24 := ⟨by decide +kernel, rfl⟩
theorem dX8_middle_24 : AtI iX8_middle 24 (.iconst 1) 1 25 := ⟨by decide +kernel, rfl⟩
theorem dX8_middle_25 : AtI iX8_middle 25 (.invokevirtual 230) 3 28 := ⟨by decide +kernel, rfl⟩
theorem dX8_middle_28 : AtI iX8_middle 28 (.istore_n 3) 1 29 := ⟨by decide +kernel, rfl⟩
theorem dX8_middle_29 : AtI iX8_middle 29 (.iload_n 1) 1 30 := ⟨by decide +kernel, rfl⟩
theorem dX8_middle_30 : AtJ iX8_middle 30 (.ifCond .ne 23) 23 33 53 := ⟨by decide +kernel, rfl, by decide⟩
theorem dX8_middle_33 : AtI iX8_middle 33 (.aload_n 0) 1 34 := ⟨by decide +kernel, rfl⟩
theorem dX8_middle_34 : AtI iX8_middle 34 (.getfield 19) 3 37 := ⟨by decide +kernel, rfl⟩
theorem dX8_middle_37 : AtI iX8_middle 37 (.iconst 0) 1 38 := ⟨by decide +kernel, rfl⟩
theorem dX8_middle_38 : AtI iX8_middle 38 (.iload_n 2) 1 39 := ⟨by decide +kernel, rfl⟩
theorem dX8_middle_39 : AtI iX8_middle 39 (.invokevirtual 233) 3 42 := ⟨by decide +kernel, rfl⟩
theorem dX8_middle_42 : AtI iX8_middle 42 (.aload_n 0) 1 43 := ⟨by decide +kernel, rfl⟩
theorem dX8_middle_43 : AtI iX8_middle 43 (.getfield 19) 3 46 := ⟨by decide +kernel, rfl⟩
theorem dX8_middle_46 : AtI iX8_middle 46 (.iconst 1) 1 47 := ⟨by decide +kernel, rfl⟩
theorem dX8_middle_47 : AtI iX8_middle 47 (.iload_n 3) 1 48 := ⟨by decide +kernel, rfl⟩
theorem dX8_middle_48 : AtI iX8_middle 48 (.invokevirtual 233) 3 51 := ⟨by decide +kernel, rfl⟩
theorem dX8_middle_51 : AtI iX8_middle 51 .iadd 1 52 := ⟨by decide +kernel, rfl⟩
theorem dX8_middle_52 : AtI iX8_middle 52 .ireturn 1 53 := ⟨by decide +kernel, rfl⟩
theorem dX8_middle_53 : AtI iX8_middle 53 (.iload_n 1) 1 54 := ⟨by decide +kernel, rfl⟩
theorem dX8_middle_54 : AtI iX8_middle 54 (.iconst 1) 1 55 := ⟨by decide +kernel, rfl⟩
theorem dX8_middle_55 : AtJ iX8_middle 55 (.if_icmp .ne 7) 7 58 62 := ⟨by decide +kernel, rfl, by decide⟩
theorem dX8_middle_58 : AtI iX8_middle 58 (.iload_n 2) 1 59 := ⟨by decide +kernel, rfl⟩
theorem dX8_middle_59 : AtJ iX8_middle 59 (.goto 4) 4 62 63 := ⟨by decide +kernel, rfl, by decide⟩
theorem dX8_middle_62 : AtI iX8_middle 62 (.iload_n 3) 1 63 := ⟨by decide +kernel, rfl⟩
theorem dX8_middle_63 : AtI iX8_middle 63 .ireturn 1 64 := ⟨by decide +kernel, rfl⟩
theorem dX8_seen_0 : AtI iX8_seen 0 (.iload_n 1) 1 1 := ⟨by decide +kernel, rfl⟩
theorem dX8_seen_1 : AtI iX8_seen 1 (.bipush 23) 2 3 := ⟨by decide +kernel, rfl⟩
theorem dX8_seen_3 : AtI iX8_seen 3 (.invokestatic 75) 3 6 := ⟨by decide +kernel, rfl⟩
theorem dX8_seen_6 : AtJ iX8_seen 6 (.ifCond .eq 18) 18 9 24 := ⟨by decide +kernel, rfl, by decide⟩
theorem dX8_seen_9 : AtI iX8_seen 9 (.iload_n 2) 1 10 := ⟨by decide +kernel, rfl⟩
theorem dX8_seen_10 : AtI iX8_seen 10 (.invokestatic 104) 3 13 := ⟨by decide +kernel, rfl⟩
theorem dX8_seen_13 : AtJ iX8_seen 13 (.ifCond .eq 11) 11 16 24 := ⟨by decide +kernel, rfl, by decide⟩
theorem dX8_seen_16 : AtI iX8_seen 16 (.iload_n 3) 1 17 := ⟨by decide +kernel, rfl⟩
theorem dX8_seen_17 : AtI iX8_seen 17 (.iconst 1) 1 18 := ⟨by decide +kernel, rfl⟩
theorem dX8_seen_18 : AtI iX8_seen 18 (.invokestatic 75) 3 21 := ⟨by decide +kernel, rfl⟩
theorem dX8_seen_21 : AtJ iX8_seen 21 (.ifCond .ne 6) 6 24 27 := ⟨by decide +kernel, rfl, by decide⟩
theorem dX8_seen_24 : AtI iX8_seen 24 (.bipush (-2)) 2 26 := ⟨by decide +kernel, rfl⟩
theorem dX8_seen_26 : AtI iX8_seen 26 .ireturn 1 27 := ⟨by decide +kernel, rfl⟩
theorem dX8_seen_27 : AtI iX8_seen 27 (.aload_n 0) 1 28 := ⟨by decide +kernel, rfl⟩
theorem dX8_seen_28 : AtI iX8_seen 28 (.getfield 60) 3 31 := ⟨by decide +kernel, rfl⟩
theorem dX8_seen_31 : AtI iX8_seen 31 (.iload_n 1) 1 32 := ⟨by decide +kernel, rfl⟩
theorem dX8_seen_32 : AtI iX8_seen 32 (.iload_n 2) 1 33 := ⟨by decide +kernel, rfl⟩
theorem dX8_seen_33 : AtI iX8_seen 33 (.iload_n 3) 1 34 := ⟨by decide +kernel, rfl⟩
theorem dX8_seen_34 : AtI iX8_seen 34 (.iconst 1) 1 35 := ⟨by decide +kernel, rfl⟩
theorem dX8_seen_35 : AtJ iX8_seen 35 (.if_icmp .ne 7) 7 38 42 := ⟨by decide +kernel, rfl, by decide⟩
theorem dX8_seen_38 : AtI iX8_seen 38 (.iconst 1) 1 39 := ⟨by decide +kernel, rfl⟩
theorem dX8_seen_39 : AtJ iX8_seen 39 (.goto 4) 4 42 43 := ⟨by decide +kernel, rfl, by decide⟩
theorem dX8_seen_42 : AtI iX8_seen 42 (.iconst 0) 1 43 := ⟨by decide +kernel, rfl⟩
theorem dX8_seen_43 : AtI iX8_seen 43 (.invokevirtual 236) 3 46 := ⟨by decide +kernel, rfl⟩
theorem dX8_seen_46 : AtJ iX8_seen 46 (.ifCond .eq 13) 13 49 59 := ⟨by decide +kernel, rfl, by decide⟩
theorem dX8_seen_49 : AtI iX8_seen 49 (.aload_n 0) 1 50 := ⟨by decide +kernel, rfl⟩
theorem dX8_seen_50 : AtI iX8_seen 50 (.getfield 60) 3 53 := ⟨by decide +kernel, rfl⟩
theorem dX8_seen_53 : AtI iX8_seen 53 (.getfield 240) 3 56 := ⟨by decide +kernel, rfl⟩
theorem dX8_seen_56 : AtJ iX8_seen 56 (.goto 5) 5 59 61 := ⟨by decide +kernel, rfl, by decide⟩
theorem dX8_seen_59 : AtI iX8_seen 59 (.bipush (-4)) 2 61 := ⟨by decide +kernel, rfl⟩
theorem dX8_seen_61 : AtI iX8_seen 61 .ireturn 1 62 := ⟨by decide +kernel, rfl⟩
theorem dX8_forget_0 : AtI iX8_forget 0 (.aload_n 0) 1 1 := ⟨by decide +kernel, rfl⟩
theorem dX8_forget_1 : AtI iX8_forget 1 (.getfield 60) 3 4 := ⟨by decide +kernel, rfl⟩
theorem dX8_forget_4 : AtI iX8_forget 4 (.getfield 240) 3 7 := ⟨by decide +kernel, rfl⟩
theorem dX8_forget_7 : AtI iX8_forget 7 (.istore_n 1) 1 8 := ⟨by decide +kernel, rfl⟩
theorem dX8_forget_8 : AtI iX8_forget 8 (.aload_n 0) 1 9 := ⟨by decide +kernel, rfl⟩
theorem dX8_forget_9 : AtI iX8_forget 9 (.getfield 60) 3 12 := ⟨by decide +kernel, rfl⟩
theorem dX8_forget_12 : AtI iX8_forget 12 (.iconst 0) 1 13 := ⟨by decide +kernel, rfl⟩
theorem dX8_forget_13 : AtI iX8_forget 13 (.putfield 240) 3 16 := ⟨by decide +kernel, rfl⟩
theorem dX8_forget_16 : AtI iX8_forget 16 (.iload_n 1) 1 17 := ⟨by decide +kernel, rfl⟩
theorem dX8_forget_17 : AtI iX8_forget 17 .ireturn 1 18 := ⟨by decide +kernel, rfl⟩
theorem dX8_which_0 : AtI iX8_which 0 (.iconst 0) 1 1 := ⟨by decide +kernel, rfl⟩
theorem dX8_which_1 : AtI iX8_which 1 (.istore_n 1) 1 2 := ⟨by decide +kernel, rfl⟩
theorem dX8_which_2 : AtI iX8_which 2 (.iconst 0) 1 3 := ⟨by decide +kernel, rfl⟩
theorem dX8_which_3 : AtI iX8_which 3 (.istore_n 2) 1 4 := ⟨by decide +kernel, rfl⟩
theorem dX8_which_4 : AtI iX8_which 4 (.iload_n 2) 1 5 := ⟨by decide +kernel, rfl⟩
theorem dX8_which_5 : AtI iX8_which 5 (.bipush 28) 2 7 := ⟨by decide +kernel, rfl⟩
theorem dX8_which_7 : AtJ iX8_which 7 (.if_icmp .ge 26) 26 10 33 := ⟨by decide +kernel, rfl, by decide⟩
theorem dX8_which_10 : AtI iX8_which 10 (.aload_n 0) 1 11 := ⟨by decide +kernel, rfl⟩
theorem dX8_which_11 : AtI iX8_which 11 (.getfield 60) 3 14 := ⟨by decide +kernel, rfl⟩
theorem dX8_which_14 : AtI iX8_which 14 (.iload_n 2) 1 15 := ⟨by decide +kernel, rfl⟩
theorem dX8_which_15 : AtI iX8_which 15 (.invokevirtual 241) 3 18 := ⟨by decide +kernel, rfl⟩
theorem dX8_which_18 : AtJ iX8_which 18 (.ifCond .eq 9) 9 21 27 := ⟨by decide +kernel, rfl, by decide⟩
theorem dX8_which_21 : AtI iX8_which 21 (.iload_n 1) 1 22 := ⟨by decide +kernel, rfl⟩
theorem dX8_which_22 : AtI iX8_which 22 (.iconst 1) 1 23 := ⟨by decide +kernel, rfl⟩
theorem dX8_which_23 : AtI iX8_which 23 (.iload_n 2) 1 24 := ⟨by decide +kernel, rfl⟩
theorem dX8_which_24 : AtI iX8_which 24 .ishl 1 25 := ⟨by decide +kernel, rfl⟩
theorem dX8_which_25 : AtI iX8_which 25 .ior 1 26 := ⟨by decide +kernel, rfl⟩
theorem dX8_which_26 : AtI iX8_which 26 (.istore_n 1) 1 27 := ⟨by decide +kernel, rfl⟩
theorem dX8_which_27 : AtI iX8_which 27 (.iinc 2 1) 3 30 := ⟨by decide +kernel, rfl⟩
theorem dX8_which_30 : AtJ iX8_which 30 (.goto (-26)) (-26) 33 4 := ⟨by decide +kernel, rfl, by decide⟩
theorem dX8_which_33 : AtI iX8_which 33 (.iload_n 1) 1 34 := ⟨by decide +kernel, rfl⟩
theorem dX8_which_34 : AtI iX8_which 34 .ireturn 1 35 := ⟨by decide +kernel, rfl⟩
theorem dX8_season_0 : AtI iX8_season 0 (.iload_n 2) 1 1 := ⟨by decide +kernel, rfl⟩
theorem dX8_season_1 : AtI iX8_season 1 (.invokestatic 104) 3 4 := ⟨by decide +kernel, rfl⟩
theorem dX8_season_4 : AtJ iX8_season 4 (.ifCond .ne 6) 6 7 10 := ⟨by decide +kernel, rfl, by decide⟩
theorem dX8_season_7 : AtI iX8_season 7 (.bipush (-2)) 2 9 := ⟨by decide +kernel, rfl⟩
theorem dX8_season_9 : AtI iX8_season 9 .ireturn 1 10 := ⟨by decide +kernel, rfl⟩
theorem dX8_season_10 : AtI iX8_season 10 (.iconst 0) 1 11 := ⟨by decide +kernel, rfl⟩
theorem dX8_season_11 : AtI iX8_season 11 (.istore_n 3) 1 12 := ⟨by decide +kernel, rfl⟩
theorem dX8_season_12 : AtI iX8_season 12 (.iload_n 1) 1 13 := ⟨by decide +kernel, rfl⟩
theorem dX8_season_13 : AtI iX8_season 13 (.istore 4) 2 15 := ⟨by decide +kernel, rfl⟩
theorem dX8_season_15 : AtI iX8_season 15 (.iconst 0) 1 16 := ⟨by decide +kernel, rfl⟩
theorem dX8_season_16 : AtI iX8_season 16 (.istore 5) 2 18 := ⟨by decide +kernel, rfl⟩
theorem dX8_season_18 : AtI iX8_season 18 (.iload 5) 2 20 := ⟨by decide +kernel, rfl⟩
theorem dX8_season_20 : AtI iX8_season 20 (.iconst 4) 1 21 := ⟨by decide +kernel, rfl⟩
theorem dX8_season_21 : AtJ iX8_season 21 (.if_icmp .ge 60) 60 24 81 := ⟨by decide +kernel, rfl, by decide⟩
theorem dX8_season_24 : AtI iX8_season 24 (.ldc 244) 2 26 := ⟨by decide +kernel, rfl⟩
theorem dX8_season_26 : AtI iX8_season 26 (.iload 4) 2 28 := ⟨by decide +kernel, rfl⟩
theorem dX8_season_28 : AtI iX8_season 28 .imul 1 29 := ⟨by decide +kernel, rfl⟩
theorem dX8_season_29 : AtI iX8_season 29 (.sipush 12345) 3 32 := ⟨by decide +kernel, rfl⟩
theorem dX8_season_32 : AtI iX8_season 32 .iadd 1 33 := ⟨by decide +kernel, rfl⟩
theorem dX8_season_33 : AtI iX8_season 33 (.istore 4) 2 35 := ⟨by decide +kernel, rfl⟩
theorem dX8_season_35 : AtI iX8_season 35 (.iload 5) 2 37 := ⟨by decide +kernel, rfl⟩
theorem dX8_season_37 : AtI iX8_season 37 (.bipush 7) 2 39 := ⟨by decide +kernel, rfl⟩
theorem dX8_season_39 : AtI iX8_season 39 .imul 1 40 := ⟨by decide +kernel, rfl⟩
theorem dX8_season_40 : AtI iX8_season 40 (.iload 4) 2 42 := ⟨by decide +kernel, rfl⟩
theorem dX8_season_42 : AtI iX8_season 42 (.bipush 16) 2 44 := ⟨by decide +kernel, rfl⟩
theorem dX8_season_44 : AtI iX8_season 44 .iushr 1 45 := ⟨by decide +kernel, rfl⟩
theorem dX8_season_45 : AtI iX8_season 45 (.bipush 7) 2 47 := ⟨by decide +kernel, rfl⟩
theorem dX8_season_47 : AtI iX8_season 47 .irem 1 48 := ⟨by decide +kernel, rfl⟩
theorem dX8_season_48 : AtI iX8_season 48 .iadd 1 49 := ⟨by decide +kernel, rfl⟩
theorem dX8_season_49 : AtI iX8_season 49 (.istore 6) 2 51 := ⟨by decide +kernel, rfl⟩
theorem dX8_season_51 : AtI iX8_season 51 (.iload_n 3) 1 52 := ⟨by decide +kernel, rfl⟩
theorem dX8_season_52 : AtI iX8_season 52 (.aload_n 0) 1 53 := ⟨by decide +kernel, rfl⟩
theorem dX8_season_53 : AtI iX8_season 53 (.getfield 28) 3 56 := ⟨by decide +kernel, rfl⟩
theorem dX8_season_56 : AtI iX8_season 56 (.iload 5) 2 58 := ⟨by decide +kernel, rfl⟩
theorem dX8_season_58 : AtI iX8_season 58 (.iload_n 2) 1 59 := ⟨by decide +kernel, rfl⟩
theorem dX8_season_59 : AtI iX8_season 59 (.invokevirtual 163) 3 62 := ⟨by decide +kernel, rfl⟩
theorem dX8_season_62 : AtI iX8_season 62 (.aload_n 0) 1 63 := ⟨by decide +kernel, rfl⟩
theorem dX8_season_63 : AtI iX8_season 63 (.getfield 28) 3 66 := ⟨by decide +kernel, rfl⟩
theorem dX8_season_66 : AtI iX8_season 66 (.iload 6) 2 68 := ⟨by decide +kernel, rfl⟩
theorem dX8_season_68 : AtI iX8_season 68 (.iload_n 2) 1 69 := ⟨by decide +kernel, rfl⟩
theorem dX8_season_69 : AtI iX8_season 69 (.invokevirtual 245) 3 72 := ⟨by decide +kernel, rfl⟩
theorem dX8_season_72 : AtI iX8_season 72 .isub 1 73 := ⟨by decide +kernel, rfl⟩
theorem dX8_season_73 : AtI iX8_season 73 .iadd 1 74 := ⟨by decide +kernel, rfl⟩
theorem dX8_season_74 : AtI iX8_season 74 (.istore_n 3) 1 75 := ⟨by decide +kernel, rfl⟩
theorem dX8_season_75 : AtI iX8_season 75 (.iinc 5 1) 3 78 := ⟨by decide +kernel, rfl⟩
theorem dX8_season_78 : AtJ iX8_season 78 (.goto (-60)) (-60) 81 18 := ⟨by decide +kernel, rfl, by decide⟩
theorem dX8_season_81 : AtI iX8_season 81 (.iload_n 3) 1 82 := ⟨by decide +kernel, rfl⟩
theorem dX8_season_82 : AtI iX8_season 82 .ireturn 1 83 := ⟨by decide +kernel, rfl⟩
theorem dX8_sheet_0 : AtI iX8_sheet 0 (.iload_n 1) 1 1 := ⟨by decide +kernel, rfl⟩
theorem dX8_sheet_1 : AtI iX8_sheet 1 (.invokestatic 120) 3 4 := ⟨by decide +kernel, rfl⟩
theorem dX8_sheet_4 : AtJ iX8_sheet 4 (.ifCond .eq 16) 16 7 20 := ⟨by decide +kernel, rfl, by decide⟩
theorem dX8_sheet_7 : AtI iX8_sheet 7 (.iload_n 2) 1 8 := ⟨by decide +kernel, rfl⟩
theorem dX8_sheet_8 : AtI iX8_sheet 8 (.invokestatic 248) 3 11 := ⟨by decide +kernel, rfl⟩
theorem dX8_sheet_11 : AtJ iX8_sheet 11 (.ifCond .eq 9) 9 14 20 := ⟨by decide +kernel, rfl, by decide⟩
theorem dX8_sheet_14 : AtI iX8_sheet 14 (.iload_n 3) 1 15 := ⟨by decide +kernel, rfl⟩
theorem dX8_sheet_15 : AtI iX8_sheet 15 (.bipush 60) 2 17 := ⟨by decide +kernel, rfl⟩
theorem dX8_sheet_17 : AtJ iX8_sheet 17 (.if_icmp .le 6) 6 20 23 := ⟨by decide +kernel, rfl, by decide⟩
theorem dX8_sheet_20 : AtI iX8_sheet 20 (.bipush (-2)) 2 22 := ⟨by decide +kernel, rfl⟩
theorem dX8_sheet_22 : AtI iX8_sheet 22 .ireturn 1 23 := ⟨by decide +kernel, rfl⟩
theorem dX8_sheet_23 : AtI iX8_sheet 23 (.iload_n 3) 1 24 := ⟨by decide +kernel, rfl⟩
theorem dX8_sheet_24 : AtJ iX8_sheet 24 (.ifCond .ge 9) 9 27 33 := ⟨by decide +kernel, rfl, by decide⟩
theorem dX8_sheet_27 : AtI iX8_sheet 27 (.aload_n 0) 1 28 := ⟨by decide +kernel, rfl⟩
theorem dX8_sheet_28 : AtI iX8_sheet 28 (.iconst 5) 1 29 := ⟨by decide +kernel, rfl⟩
theorem dX8_sheet_29 : AtI iX8_sheet 29 (.invokevirtual 127) 3 32 := ⟨by decide +kernel, rfl⟩
theorem dX8_sheet_32 : AtI iX8_sheet 32 .ireturn 1 33 := ⟨by decide +kernel, rfl⟩
theorem dX8_sheet_33 : AtI iX8_sheet 33 (.aload_n 0) 1 34 := ⟨by decide +kernel, rfl⟩
theorem dX8_sheet_34 : AtI iX8_sheet 34 (.getfield 66) 3 37 := ⟨by decide +kernel, rfl⟩
theorem dX8_sheet_37 : AtI iX8_sheet 37 (.iload_n 1) 1 38 := ⟨by decide +kernel, rfl⟩
theorem dX8_sheet_38 : AtI iX8_sheet 38 .aaload 1 39 := ⟨by decide +kernel, rfl⟩
theorem dX8_sheet_39 : AtI iX8_sheet 39 (.iload_n 2) 1 40 := ⟨by decide +kernel, rfl⟩
theorem dX8_sheet_40 : AtI iX8_sheet 40 (.iload_n 3) 1 41 := ⟨by decide +kernel, rfl⟩
theorem dX8_sheet_41 : AtI iX8_sheet 41 (.invokevirtual 251) 3 44 := ⟨by decide +kernel, rfl⟩
theorem dX8_sheet_44 : AtI iX8_sheet 44 (.iload_n 3) 1 45 := ⟨by decide +kernel, rfl⟩
theorem dX8_sheet_45 : AtI iX8_sheet 45 .ireturn 1 46 := ⟨by decide +kernel, rfl⟩
theorem dX8_lose_0 : AtI iX8_lose 0 (.iload_n 1) 1 1 := ⟨by decide +kernel, rfl⟩
theorem dX8_lose_1 : AtI iX8_lose 1 (.invokestatic 120) 3 4 := ⟨by decide +kernel, rfl⟩
theorem dX8_lose_4 : AtJ iX8_lose 4 (.ifCond .ne 6) 6 7 10 := ⟨by decide +kernel, rfl, by decide⟩
theorem dX8_lose_7 : AtI iX8_lose 7 (.bipush (-2)) 2 9 := ⟨by decide +kernel, rfl⟩
theorem dX8_lose_9 : AtI iX8_lose 9 .ireturn 1 10 := ⟨by decide +kernel, rfl⟩
theorem dX8_lose_10 : AtI iX8_lose 10 (.aload_n 0) 1 11 := ⟨by decide +kernel, rfl⟩
theorem dX8_lose_11 : AtI iX8_lose 11 (.getfield 66) 3 14 := ⟨by decide +kernel, rfl⟩
theorem dX8_lose_14 : AtI iX8_lose 14 (.iload_n 1) 1 15 := ⟨by decide +kernel, rfl⟩
theorem dX8_lose_15 : AtI iX8_lose 15 .aaload 1 16 := ⟨by decide +kernel, rfl⟩
theorem dX8_lose_16 : AtI iX8_lose 16 (.getfield 123) 3 19 := ⟨by decide +kernel, rfl⟩
theorem dX8_lose_19 : AtJ iX8_lose 19 (.ifCond .eq 9) 9 22 28 := ⟨by decide +kernel, rfl, by decide⟩
theorem dX8_lose_22 : AtI iX8_lose 22 (.aload_n 0) 1 23 := ⟨by decide +kernel, rfl⟩
theorem dX8_lose_23 : AtI iX8_lose 23 (.iconst 1) 1 24 := ⟨by decide +kernel, rfl⟩
theorem dX8_lose_24 : AtI iX8_lose 24 (.invokevirtual 127) 3 27 := ⟨by decide +kernel, rfl⟩
theorem dX8_lose_27 : AtI iX8_lose 27 .ireturn 1 28 := ⟨by decide +kernel, rfl⟩
theorem dX8_lose_28 : AtI iX8_lose 28 (.aload_n 0) 1 29 := ⟨by decide +kernel, rfl⟩
theorem dX8_lose_29 : AtI iX8_lose 29 (.getfield 66) 3 32 := ⟨by decide +kernel, rfl⟩
theorem dX8_lose_32 : AtI iX8_lose 32 (.iload_n 1) 1 33 := ⟨by decide +kernel, rfl⟩
theorem dX8_lose_33 : AtI iX8_lose 33 .aaload 1 34 := ⟨by decide +kernel, rfl⟩
theorem dX8_lose_34 : AtI iX8_lose 34 (.iconst 1) 1 35 := ⟨by decide +kernel, rfl⟩
theorem dX8_lose_35 : AtI iX8_lose 35 (.putfield 123) 3 38 := ⟨by decide +kernel, rfl⟩
theorem dX8_lose_38 : AtI iX8_lose 38 (.aload_n 0) 1 39 := ⟨by decide +kernel, rfl⟩
theorem dX8_lose_39 : AtI iX8_lose 39 (.getfield 66) 3 42 := ⟨by decide +kernel, rfl⟩
theorem dX8_lose_42 : AtI iX8_lose 42 (.iload_n 1) 1 43 := ⟨by decide +kernel, rfl⟩
theorem dX8_lose_43 : AtI iX8_lose 43 .aaload 1 44 := ⟨by decide +kernel, rfl⟩
theorem dX8_lose_44 : AtI iX8_lose 44 (.getfield 130) 3 47 := ⟨by decide +kernel, rfl⟩
theorem dX8_lose_47 : AtI iX8_lose 47 .ireturn 1 48 := ⟨by decide +kernel, rfl⟩
theorem dX8_lay_0 : AtI iX8_lay 0 (.iload_n 1) 1 1 := ⟨by decide +kernel, rfl⟩
theorem dX8_lay_1 : AtI iX8_lay 1 (.invokestatic 120) 3 4 := ⟨by decide +kernel, rfl⟩
theorem dX8_lay_4 : AtJ iX8_lay 4 (.ifCond .eq 10) 10 7 14 := ⟨by decide +kernel, rfl, by decide⟩
theorem dX8_lay_7 : AtI iX8_lay 7 (.iload_n 2) 1 8 := ⟨by decide +kernel, rfl⟩
theorem dX8_lay_8 : AtI iX8_lay 8 (.invokestatic 248) 3 11 := ⟨by decide +kernel, rfl⟩
theorem dX8_lay_11 : AtJ iX8_lay 11 (.ifCond .ne 6) 6 14 17 := ⟨by decide +kernel, rfl, by decide⟩
theorem dX8_lay_14 : AtI iX8_lay 14 (.bipush (-2)) 2 16 := ⟨by decide +kernel, rfl⟩
theorem dX8_lay_16 : AtI iX8_lay 16 .ireturn 1 17 := ⟨by decide +kernel, rfl⟩
theorem dX8_lay_17 : AtI iX8_lay 17 (.aload_n 0) 1 18 := ⟨by decide +kernel, rfl⟩
theorem dX8_lay_18 : AtI iX8_lay 18 (.iload_n 1) 1 19 := ⟨by decide +kernel, rfl⟩
theorem dX8_lay_19 : AtI iX8_lay 19 (.iload_n 2) 1 20 := ⟨by decide +kernel, rfl⟩
theorem dX8_lay_20 : AtI iX8_lay 20 (.iload_n 3) 1 21 := ⟨by decide +kernel, rfl⟩
theorem dX8_lay_21 : AtI iX8_lay 21 (.invokevirtual 255) 3 24 := ⟨by decide +kernel, rfl⟩
theorem dX8_lay_24 : AtI iX8_lay 24 (.istore 5) 2 26 := ⟨by decide +kernel, rfl⟩
theorem dX8_lay_26 : AtI iX8_lay 26 (.iload 5) 2 28 := ⟨by decide +kernel, rfl⟩
theorem dX8_lay_28 : AtJ iX8_lay 28 (.ifCond .eq 10) 10 31 38 := ⟨by decide +kernel, rfl, by decide⟩
theorem dX8_lay_31 : AtI iX8_lay 31 (.aload_n 0) 1 32 := ⟨by decide +kernel, rfl⟩
theorem dX8_lay_32 : AtI iX8_lay 32 (.iload 5) 2 34 := ⟨by decide +kernel, rfl⟩
theorem dX8_lay_34 : AtI iX8_lay 34 (.invokevirtual 127) 3 37 := ⟨by decide +kernel, rfl⟩
theorem dX8_lay_37 : AtI iX8_lay 37 .ireturn 1 38 := ⟨by decide +kernel, rfl⟩
theorem dX8_lay_38 : AtI iX8_lay 38 (.aload_n 0) 1 39 := ⟨by decide +kernel, rfl⟩
theorem dX8_lay_39 : AtI iX8_lay 39 (.getfield 66) 3 42 := ⟨by decide +kernel, rfl⟩
theorem dX8_lay_42 : AtI iX8_lay 42 (.iload_n 1) 1 43 := ⟨by decide +kernel, rfl⟩
theorem dX8_lay_43 : AtI iX8_lay 43 .aaload 1 44 := ⟨by decide +kernel, rfl⟩
theorem dX8_lay_44 : AtI iX8_lay 44 (.iload_n 3) 1 45 := ⟨by decide +kernel, rfl⟩
theorem dX8_lay_45 : AtI iX8_lay 45 (.iload 4) 2 47 := ⟨by decide +kernel, rfl⟩
theorem dX8_lay_47 : AtI iX8_lay 47 (.invokevirtual 258) 3 50 := ⟨by decide +kernel, rfl⟩
theorem dX8_lay_50 : AtI iX8_lay 50 (.iconst 1) 1 51 := ⟨by decide +kernel, rfl⟩
theorem dX8_lay_51 : AtI iX8_lay 51 .ireturn 1 52 := ⟨by decide +kernel, rfl⟩
theorem dX8_get_0 : AtI iX8_get 0 (.iload_n 1) 1 1 := ⟨by decide +kernel, rfl⟩
theorem dX8_get_1 : AtI iX8_get 1 (.invokestatic 120) 3 4 := ⟨by decide +kernel, rfl⟩
theorem dX8_get_4 : AtJ iX8_get 4 (.ifCond .eq 10) 10 7 14 := ⟨by decide +kernel, rfl, by decide⟩
theorem dX8_get_7 : AtI iX8_get 7 (.iload_n 2) 1 8 := ⟨by decide +kernel, rfl⟩
theorem dX8_get_8 : AtI iX8_get 8 (.invokestatic 248) 3 11 := ⟨by decide +kernel, rfl⟩
theorem dX8_get_11 : AtJ iX8_get 11 (.ifCond .ne 7) 7 14 18 := ⟨by decide +kernel, rfl, by decide⟩
theorem dX8_get_14 : AtI iX8_get 14 (.ldc_w 260) 3 17 := ⟨by decide +kernel, rfl⟩
theorem dX8_get_17 : AtI iX8_get 17 .ireturn 1 18 := ⟨by decide +kernel, rfl⟩
theorem dX8_get_18 : AtI iX8_get 18 (.aload_n 0) 1 19 := ⟨by decide +kernel, rfl⟩
theorem dX8_get_19 : AtI iX8_get 19 (.iload_n 1) 1 20 := ⟨by decide +kernel, rfl⟩
theorem dX8_get_20 : AtI iX8_get 20 (.iload_n 2) 1 21 := ⟨by decide +kernel, rfl⟩
theorem dX8_get_21 : AtI iX8_get 21 (.iload_n 3) 1 22 := ⟨by decide +kernel, rfl⟩
theorem dX8_get_22 : AtI iX8_get 22 (.invokevirtual 255) 3 25 := ⟨by decide +kernel, rfl⟩
theorem dX8_get_25 : AtI iX8_get 25 (.istore 4) 2 27 := ⟨by decide +kernel, rfl⟩
theorem dX8_get_27 : AtI iX8_get 27 (.iload 4) 2 29 := ⟨by decide +kernel, rfl⟩
theorem dX8_get_29 : AtJ iX8_get 29 (.ifCond .eq 13) 13 32 42 := ⟨by decide +kernel, rfl, by decide⟩
theorem dX8_get_32 : AtI iX8_get 32 (.aload_n 0) 1 33 := ⟨by decide +kernel, rfl⟩
theorem dX8_get_33 : AtI iX8_get 33 (.iload 4) 2 35 := ⟨by decide +kernel, rfl⟩
theorem dX8_get_35 : AtI iX8_get 35 (.putfield 71) 3 38 := ⟨by decide +kernel, rfl⟩
theorem dX8_get_38 : AtI iX8_get 38 (.ldc_w 260) 3 41 := ⟨by decide +kernel, rfl⟩
theorem dX8_get_41 : AtI iX8_get 41 .ireturn 1 42 := ⟨by decide +kernel, rfl⟩
theorem dX8_get_42 : AtI iX8_get 42 (.aload_n 0) 1 43 := ⟨by decide +kernel, rfl⟩
theorem dX8_get_43 : AtI iX8_get 43 (.getfield 66) 3 46 := ⟨by decide +kernel, rfl⟩
theorem dX8_get_46 : AtI iX8_get 46 (.iload_n 1) 1 47 := ⟨by decide +kernel, rfl⟩
theorem dX8_get_47 : AtI iX8_get 47 .aaload 1 48 := ⟨by decide +kernel, rfl⟩
theorem dX8_get_48 : AtI iX8_get 48 (.getfield 138) 3 51 := ⟨by decide +kernel, rfl⟩
theorem dX8_get_51 : AtI iX8_get 51 (.iload_n 3) 1 52 := ⟨by decide +kernel, rfl⟩
theorem dX8_get_52 : AtI iX8_get 52 .iaload 1 53 := ⟨by decide +kernel, rfl⟩
theorem dX8_get_53 : AtI iX8_get 53 .ireturn 1 54 := ⟨by decide +kernel, rfl⟩
theorem dX8_copy_0 : AtI iX8_copy 0 (.iload_n 1) 1 1 := ⟨by decide +kernel, rfl⟩
theorem dX8_copy_1 : AtI iX8_copy 1 (.invokestatic 120) 3 4 := ⟨by decide +kernel, rfl⟩
theorem dX8_copy_4 : AtJ iX8_copy 4 (.ifCond .eq 10) 10 7 14 := ⟨by decide +kernel, rfl, by decide⟩
theorem dX8_copy_7 : AtI iX8_copy 7 (.iload_n 3) 1 8 := ⟨by decide +kernel, rfl⟩
theorem dX8_copy_8 : AtI iX8_copy 8 (.invokestatic 120) 3 11 := ⟨by decide +kernel, rfl⟩
theorem dX8_copy_11 : AtJ iX8_copy 11 (.ifCond .ne 6) 6 14 17 := ⟨by decide +kernel, rfl, by decide⟩
theorem dX8_copy_14 : AtI iX8_copy 14 (.bipush (-2)) 2 16 := ⟨by decide +kernel, rfl⟩
theorem dX8_copy_16 : AtI iX8_copy 16 .ireturn 1 17 := ⟨by decide +kernel, rfl⟩
theorem dX8_copy_17 : AtI iX8_copy 17 (.aload_n 0) 1 18 := ⟨by decide +kernel, rfl⟩
theorem dX8_copy_18 : AtI iX8_copy 18 (.getfield 66) 3 21 := ⟨by decide +kernel, rfl⟩
theorem dX8_copy_21 : AtI iX8_copy 21 (.iload_n 1) 1 22 := ⟨by decide +kernel, rfl⟩
theorem dX8_copy_22 : AtI iX8_copy 22 .aaload 1 23 := ⟨by decide +kernel, rfl⟩
theorem dX8_copy_23 : AtI iX8_copy 23 (.astore 6) 2 25 := ⟨by decide +kernel, rfl⟩
theorem dX8_copy_25 : AtI iX8_copy 25 (.aload_n 0) 1 26 := ⟨by decide +kernel, rfl⟩
theorem dX8_copy_26 : AtI iX8_copy 26 (.getfield 66) 3 29 := ⟨by decide +kernel, rfl⟩
theorem dX8_copy_29 : AtI iX8_copy 29 (.iload_n 3) 1 30 := ⟨by decide +kernel, rfl⟩
theorem dX8_copy_30 : AtI iX8_copy 30 .aaload 1 31 := ⟨by decide +kernel, rfl⟩
theorem dX8_copy_31 : AtI iX8_copy 31 (.astore 7) 2 33 := ⟨by decide +kernel, rfl⟩
theorem dX8_copy_33 : AtI iX8_copy 33 (.aload 6) 2 35 := ⟨by decide +kernel, rfl⟩
theorem dX8_copy_35 : AtI iX8_copy 35 (.getfield 123) 3 38 := ⟨by decide +kernel, rfl⟩
theorem dX8_copy_38 : AtJ iX8_copy 38 (.ifCond .ne 11) 11 41 49 := ⟨by decide +kernel, rfl, by decide⟩
theorem dX8_copy_41 : AtI iX8_copy 41 (.aload 7) 2 43 := ⟨by decide +kernel, rfl⟩
theorem dX8_copy_43 : AtI iX8_copy 43 (.getfield 123) 3 46 := ⟨by decide +kernel, rfl⟩
theorem dX8_copy_46 : AtJ iX8_copy 46 (.ifCond .eq 9) 9 49 55 := ⟨by decide +kernel, rfl, by decide⟩
theorem dX8_copy_49 : AtI iX8_copy 49 (.aload_n 0) 1 50 := ⟨by decide +kernel, rfl⟩
theorem dX8_copy_50 : AtI iX8_copy 50 (.iconst 1) 1 51 := ⟨by decide +kernel, rfl⟩
theorem dX8_copy_51 : AtI iX8_copy 51 (.invokevirtual 127) 3 54 := ⟨by decide +kernel, rfl⟩
theorem dX8_copy_54 : AtI iX8_copy 54 .ireturn 1 55 := ⟨by decide +kernel, rfl⟩
theorem dX8_copy_55 : AtI iX8_copy 55 (.aload 6) 2 57 := ⟨by decide +kernel, rfl⟩
theorem dX8_copy_57 : AtI iX8_copy 57 (.getfield 261) 3 60 := ⟨by decide +kernel, rfl⟩
theorem dX8_copy_60 : AtI iX8_copy 60 (.aload 7) 2 62 := ⟨by decide +kernel, rfl⟩
theorem dX8_copy_62 : AtI iX8_copy 62 (.getfield 261) 3 65 := ⟨by decide +kernel, rfl⟩
theorem dX8_copy_65 : AtJ iX8_copy 65 (.if_icmp .eq 9) 9 68 74 := ⟨by decide +kernel, rfl, by decide⟩
theorem dX8_copy_68 : AtI iX8_copy 68 (.aload_n 0) 1 69 := ⟨by decide +kernel, rfl⟩
theorem dX8_copy_69 : AtI iX8_copy 69 (.iconst 4) 1 70 := ⟨by decide +kernel, rfl⟩
theorem dX8_copy_70 : AtI iX8_copy 70 (.invokevirtual 127) 3 73 := ⟨by decide +kernel, rfl⟩
theorem dX8_copy_73 : AtI iX8_copy 73 .ireturn 1 74 := ⟨by decide +kernel, rfl⟩
theorem dX8_copy_74 : AtI iX8_copy 74 (.aload 6) 2 76 := ⟨by decide +kernel, rfl⟩
theorem dX8_copy_76 : AtI iX8_copy 76 (.iload_n 2) 1 77 := ⟨by decide +kernel, rfl⟩
theorem dX8_copy_77 : AtI iX8_copy 77 (.iload 5) 2 79 := ⟨by decide +kernel, rfl⟩
theorem dX8_copy_79 : AtI iX8_copy 79 (.invokevirtual 264) 3 82 := ⟨by decide +kernel, rfl⟩
theorem dX8_copy_82 : AtJ iX8_copy 82 (.ifCond .eq 15) 15 85 97 := ⟨by decide +kernel, rfl, by decide⟩
theorem dX8_copy_85 : AtI iX8_copy 85 (.aload 7) 2 87 := ⟨by decide +kernel, rfl⟩
theorem dX8_copy_87 : AtI iX8_copy 87 (.iload 4) 2 89 := ⟨by decide +kernel, rfl⟩
theorem dX8_copy_89 : AtI iX8_copy 89 (.iload 5) 2 91 := ⟨by decide +kernel, rfl⟩
theorem dX8_copy_91 : AtI iX8_copy 91 (.invokevirtual 264) 3 94 := ⟨by decide +kernel, rfl⟩
theorem dX8_copy_94 : AtJ iX8_copy 94 (.ifCond .ne 9) 9 97 103 := ⟨by decide +kernel, rfl, by decide⟩
theorem dX8_copy_97 : AtI iX8_copy 97 (.aload_n 0) 1 98 := ⟨by decide +kernel, rfl⟩
theorem dX8_copy_98 : AtI iX8_copy 98 (.iconst 2) 1 99 := ⟨by decide +kernel, rfl⟩
theorem dX8_copy_99 : AtI iX8_copy 99 (.invokevirtual 127) 3 102 := ⟨by decide +kernel, rfl⟩
theorem dX8_copy_102 : AtI iX8_copy 102 .ireturn 1 103 := ⟨by decide +kernel, rfl⟩
theorem dX8_copy_103 : AtI iX8_copy 103 (.aload 6) 2 105 := ⟨by decide +kernel, rfl⟩
theorem dX8_copy_105 : AtI iX8_copy 105 (.getfield 138) 3 108 := ⟨by decide +kernel, rfl⟩
theorem dX8_copy_108 : AtI iX8_copy 108 (.iload_n 2) 1 109 := ⟨by decide +kernel, rfl⟩
theorem dX8_copy_109 : AtI iX8_copy 109 (.aload 7) 2 111 := ⟨by decide +kernel, rfl⟩
theorem dX8_copy_111 : AtI iX8_copy 111 (.getfield 138) 3 114 := ⟨by decide +kernel, rfl⟩
theorem dX8_copy_114 : AtI iX8_copy 114 (.iload 4) 2 116 := ⟨by decide +kernel, rfl⟩
theorem dX8_copy_116 : AtI iX8_copy 116 (.iload 5) 2 118 := ⟨by decide +kernel, rfl⟩
theorem dX8_copy_118 : AtI iX8_copy 118 (.invokestatic 267) 3 121 := ⟨by decide +kernel, rfl⟩
theorem dX8_copy_121 : AtI iX8_copy 121 (.iconst 1) 1 122 := ⟨by decide +kernel, rfl⟩
theorem dX8_copy_122 : AtI iX8_copy 122 .ireturn 1 123 := ⟨by decide +kernel, rfl⟩
theorem dX8_write_0 : AtI iX8_write 0 (.iload_n 1) 1 1 := ⟨by decide +kernel, rfl⟩
theorem dX8_write_1 : AtI iX8_write 1 (.invokestatic 104) 3 4 := ⟨by decide +kernel, rfl⟩
theorem dX8_write_4 : AtJ iX8_write 4 (.ifCond .eq 17) 17 7 21 := ⟨by decide +kernel, rfl, by decide⟩
theorem dX8_write_7 : AtI iX8_write 7 (.iload_n 2) 1 8 := ⟨by decide +kernel, rfl⟩
theorem dX8_write_8 : AtI iX8_write 8 (.invokestatic 154) 3 11 := ⟨by decide +kernel, rfl⟩
theorem dX8_write_11 : AtJ iX8_write 11 (.ifCond .eq 10) 10 14 21 := ⟨by decide +kernel, rfl, by decide⟩
theorem dX8_write_14 : AtI iX8_write 14 (.iload_n 3) 1 15 := ⟨by decide +kernel, rfl⟩
theorem dX8_write_15 : AtI iX8_write 15 (.invokestatic 120) 3 18 := ⟨by decide +kernel, rfl⟩
theorem dX8_write_18 : AtJ iX8_write 18 (.ifCond .ne 6) 6 21 24 := ⟨by decide +kernel, rfl, by decide⟩
theorem dX8_write_21 : AtI iX8_write 21 (.bipush (-2)) 2 23 := ⟨by decide +kernel, rfl⟩
theorem dX8_write_23 : AtI iX8_write 23 .ireturn 1 24 := ⟨by decide +kernel, rfl⟩
theorem dX8_write_24 : AtI iX8_write 24 (.aload_n 0) 1 25 := ⟨by decide +kernel, rfl⟩
theorem dX8_write_25 : AtI iX8_write 25 (.getfield 66) 3 28 := ⟨by decide +kernel, rfl⟩
theorem dX8_write_28 : AtI iX8_write 28 (.iload_n 3) 1 29 := ⟨by decide +kernel, rfl⟩
theorem dX8_write_29 : AtI iX8_write 29 .aaload 1 30 := ⟨by decide +kernel, rfl⟩
theorem dX8_write_30 : AtI iX8_write 30 (.getfield 123) 3 33 := ⟨by decide +kernel, rfl⟩
theorem dX8_write_33 : AtJ iX8_write 33 (.ifCond .eq 9) 9 36 42 := ⟨by decide +kernel, rfl, by decide⟩
theorem dX8_write_36 : AtI iX8_write 36 (.aload_n 0) 1 37 := ⟨by decide +kernel, rfl⟩
theorem dX8_write_37 : AtI iX8_write 37 (.iconst 1) 1 38 := ⟨by decide +kernel, rfl⟩
theorem dX8_write_38 : AtI iX8_write 38 (.invokevirtual 127) 3 41 := ⟨by decide +kernel, rfl⟩
theorem dX8_write_41 : AtI iX8_write 41 .ireturn 1 42 := ⟨by decide +kernel, rfl⟩
theorem dX8_write_42 : AtI iX8_write 42 (.aload_n 0) 1 43 := ⟨by decide +kernel, rfl⟩
theorem dX8_write_43 : AtI iX8_write 43 (.getfield 66) 3 46 := ⟨by decide +kernel, rfl⟩
theorem dX8_write_46 : AtI iX8_write 46 (.iload_n 3) 1 47 := ⟨by decide +kernel, rfl⟩
theorem dX8_write_47 : AtI iX8_write 47 .aaload 1 48 := ⟨by decide +kernel, rfl⟩
theorem dX8_write_48 : AtI iX8_write 48 (.getfield 130) 3 51 := ⟨by decide +kernel, rfl⟩
theorem dX8_write_51 : AtI iX8_write 51 (.sipush 672) 3 54 := ⟨by decide +kernel, rfl⟩
theorem dX8_write_54 : AtI iX8_write 54 (.iload_n 2) 1 55 := ⟨by decide +kernel, rfl⟩
theorem dX8_write_55 : AtI iX8_write 55 .isub 1 56 := ⟨by decide +kernel, rfl⟩
theorem dX8_write_56 : AtI iX8_write 56 (.invokestatic 133) 3 59 := ⟨by decide +kernel, rfl⟩
theorem dX8_write_59 : AtI iX8_write 59 (.istore 4) 2 61 := ⟨by decide +kernel, rfl⟩
theorem dX8_write_61 : AtI iX8_write 61 (.iconst 0) 1 62 := ⟨by decide +kernel, rfl⟩
theorem dX8_write_62 : AtI iX8_write 62 (.istore 5) 2 64 := ⟨by decide +kernel, rfl⟩
theorem dX8_write_64 : AtI iX8_write 64 (.iload 5) 2 66 := ⟨by decide +kernel, rfl⟩
theorem dX8_write_66 : AtI iX8_write 66 (.iload 4) 2 68 := ⟨by decide +kernel, rfl⟩
theorem dX8_write_68 : AtJ iX8_write 68 (.if_icmp .ge 40) 40 71 108 := ⟨by decide +kernel, rfl, by decide⟩
theorem dX8_write_71 : AtI iX8_write 71 (.aload_n 0) 1 72 := ⟨by decide +kernel, rfl⟩
theorem dX8_write_72 : AtI iX8_write 72 (.getfield 66) 3 75 := ⟨by decide +kernel, rfl⟩
theorem dX8_write_75 : AtI iX8_write 75 (.iload_n 3) 1 76 := ⟨by decide +kernel, rfl⟩
theorem dX8_write_76 : AtI iX8_write 76 .aaload 1 77 := ⟨by decide +kernel, rfl⟩
theorem dX8_write_77 : AtI iX8_write 77 (.iload 5) 2 79 := ⟨by decide +kernel, rfl⟩
theorem dX8_write_79 : AtI iX8_write 79 (.aload_n 0) 1 80 := ⟨by decide +kernel, rfl⟩
theorem dX8_write_80 : AtI iX8_write 80 (.getfield 28) 3 83 := ⟨by decide +kernel, rfl⟩
theorem dX8_write_83 : AtI iX8_write 83 (.iload_n 2) 1 84 := ⟨by decide +kernel, rfl⟩
theorem dX8_write_84 : AtI iX8_write 84 (.iload 5) 2 86 := ⟨by decide +kernel, rfl⟩
theorem dX8_write_86 : AtI iX8_write 86 .iadd 1 87 := ⟨by decide +kernel, rfl⟩
theorem dX8_write_87 : AtI iX8_write 87 (.iload_n 1) 1 88 := ⟨by decide +kernel, rfl⟩
theorem dX8_write_88 : AtI iX8_write 88 (.invokevirtual 157) 3 91 := ⟨by decide +kernel, rfl⟩
theorem dX8_write_91 : AtJ iX8_write 91 (.ifCond .eq 7) 7 94 98 := ⟨by decide +kernel, rfl, by decide⟩
theorem dX8_write_94 : AtI iX8_write 94 (.iconst 1) 1 95 := ⟨by decide +kernel, rfl⟩
theorem dX8_write_95 : AtJ iX8_write 95 (.goto 4) 4 98 99 := ⟨by decide +kernel, rfl, by decide⟩
theorem dX8_write_98 : AtI iX8_write 98 (.iconst 0) 1 99 := ⟨by decide +kernel, rfl⟩
theorem dX8_write_99 : AtI iX8_write 99 (.invokevirtual 258) 3 102 := ⟨by decide +kernel, rfl⟩
theorem dX8_write_102 : AtI iX8_write 102 (.iinc 5 1) 3 105 := ⟨by decide +kernel, rfl⟩
theorem dX8_write_105 : AtJ iX8_write 105 (.goto (-41)) (-41) 108 64 := ⟨by decide +kernel, rfl, by decide⟩
theorem dX8_write_108 : AtI iX8_write 108 (.iload 4) 2 110 := ⟨by decide +kernel, rfl⟩
theorem dX8_write_110 : AtI iX8_write 110 .ireturn 1 111 := ⟨by decide +kernel, rfl⟩
theorem dX8_count_0 : AtI iX8_count 0 (.iload_n 1) 1 1 := ⟨by decide +kernel, rfl⟩
theorem dX8_count_1 : decode iX8_count.2.1 1 = .ok (.tableswitch 120 0 8 #[51, 59, 67, 75, 83, 91, 99, 107, 115], 51) := by decide +kernel
theorem dX8_count_52 : AtI iX8_count 52 (.aload_n 0) 1 53 := ⟨by decide +kernel, rfl⟩
theorem dX8_count_53 : AtI iX8_count 53 (.getfield 12) 3 56 := ⟨by decide +kernel, rfl⟩
theorem dX8_count_56 : AtI iX8_count 56 (.getfield 93) 3 59 := ⟨by decide +kernel, rfl⟩
theorem dX8_count_59 : AtI iX8_count 59 .ireturn 1 60 := ⟨by decide +kernel, rfl⟩
theorem dX8_count_60 : AtI iX8_count 60 (.aload_n 0) 1 61 := ⟨by decide +kernel, rfl⟩
theorem dX8_count_61 : AtI iX8_count 61 (.getfield 12) 3 64 := ⟨by decide +kernel, rfl⟩
theorem dX8_count_64 : AtI iX8_count 64 (.getfield 83) 3 67 := ⟨by decide +kernel, rfl⟩
theorem dX8_count_67 : AtI iX8_count 67 .ireturn 1 68 := ⟨by decide +kernel, rfl⟩
theorem dX8_count_68 : AtI iX8_count 68 (.aload_n 0) 1 69 := ⟨by decide +kernel, rfl⟩
theorem dX8_count_69 : AtI iX8_count 69 (.getfield 28) 3 72 := ⟨by decide +kernel, rfl⟩
theorem dX8_count_72 : AtI iX8_count 72 (.getfield 144) 3 75 := ⟨by decide +kernel, rfl⟩
theorem dX8_count_75 : AtI iX8_count 75 .ireturn 1 76 := ⟨by decide +kernel, rfl⟩
theorem dX8_count_76 : AtI iX8_count 76 (.aload_n 0) 1 77 := ⟨by decide +kernel, rfl⟩
theorem dX8_count_77 : AtI iX8_count 77 (.getfield 60) 3 80 := ⟨by decide +kernel, rfl⟩
theorem dX8_count_80 : AtI iX8_count 80 (.getfield 240) 3 83 := ⟨by decide +kernel, rfl⟩
theorem dX8_count_83 : AtI iX8_count 83 .ireturn 1 84 := ⟨by decide +kernel, rfl⟩
theorem dX8_count_84 : AtI iX8_count 84 (.aload_n 0) 1 85 := ⟨by decide +kernel, rfl⟩
theorem dX8_count_85 : AtI iX8_count 85 (.getfield 28) 3 88 := ⟨by decide +kernel, rfl⟩
theorem dX8_count_88 : AtI iX8_count 88 (.invokevirtual 273) 3 91 := ⟨by decide +kernel, rfl⟩
theorem dX8_count_91 : AtI iX8_count 91 .ireturn 1 92 := ⟨by decide +kernel, rfl⟩
theorem dX8_count_92 : AtI iX8_count 92 (.aload_n 0) 1 93 := ⟨by decide +kernel, rfl⟩
theorem dX8_count_93 : AtI iX8_count 93 (.getfield 12) 3 96 := ⟨by decide +kernel, rfl⟩
theorem dX8_count_96 : AtI iX8_count 96 (.invokevirtual 276) 3 99 := ⟨by decide +kernel, rfl⟩
theorem dX8_count_99 : AtI iX8_count 99 .ireturn 1 100 := ⟨by decide +kernel, rfl⟩
theorem dX8_count_100 : AtI iX8_count 100 (.aload_n 0) 1 101 := ⟨by decide +kernel, rfl⟩
theorem dX8_count_101 : AtI iX8_count 101 (.getfield 46) 3 104 := ⟨by decide +kernel, rfl⟩
theorem dX8_count_104 : AtI iX8_count 104 (.getfield 185) 3 107 := ⟨by decide +kernel, rfl⟩
theorem dX8_count_107 : AtI iX8_count 107 .ireturn 1 108 := ⟨by decide +kernel, rfl⟩
theorem dX8_count_108 : AtI iX8_count 108 (.aload_n 0) 1 109 := ⟨by decide +kernel, rfl⟩
theorem dX8_count_109 : AtI iX8_count 109 (.getfield 46) 3 112 := ⟨by decide +kernel, rfl⟩
theorem dX8_count_112 : AtI iX8_count 112 (.getfield 188) 3 115 := ⟨by decide +kernel, rfl⟩
theorem dX8_count_115 : AtI iX8_count 115 .ireturn 1 116 := ⟨by decide +kernel, rfl⟩
theorem dX8_count_116 : AtI iX8_count 116 (.aload_n 0) 1 117 := ⟨by decide +kernel, rfl⟩
theorem dX8_count_117 : AtI iX8_count 117 (.getfield 71) 3 120 := ⟨by decide +kernel, rfl⟩
theorem dX8_count_120 : AtI iX8_count 120 .ireturn 1 121 := ⟨by decide +kernel, rfl⟩
theorem dX8_count_121 : AtI iX8_count 121 (.bipush (-2)) 2 123 := ⟨by decide +kernel, rfl⟩
theorem dX8_count_123 : AtI iX8_count 123 .ireturn 1 124 := ⟨by decide +kernel, rfl⟩
theorem dX8_digest_0 : AtI iX8_digest 0 (.ldc2_w 279) 3 3 := ⟨by decide +kernel, rfl⟩
theorem dX8_digest_3 : AtI iX8_digest 3 (.lstore_n 1) 1 4 := ⟨by decide +kernel, rfl⟩
theorem dX8_digest_4 : AtI iX8_digest 4 (.iconst 0) 1 5 := ⟨by decide +kernel, rfl⟩
theorem dX8_digest_5 : AtI iX8_digest 5 (.istore_n 3) 1 6 := ⟨by decide +kernel, rfl⟩
theorem dX8_digest_6 : AtI iX8_digest 6 (.iload_n 3) 1 7 := ⟨by decide +kernel, rfl⟩
theorem dX8_digest_7 : AtI iX8_digest 7 (.bipush 7) 2 9 := ⟨by decide +kernel, rfl⟩
theorem dX8_digest_9 : AtJ iX8_digest 9 (.if_icmp .gt 22) 22 12 31 := ⟨by decide +kernel, rfl, by decide⟩
theorem dX8_digest_12 : AtI iX8_digest 12 (.ldc2_w 281) 3 15 := ⟨by decide +kernel, rfl⟩
theorem dX8_digest_15 : AtI iX8_digest 15 (.lload_n 1) 1 16 := ⟨by decide +kernel, rfl⟩
theorem dX8_digest_16 : AtI iX8_digest 16 .lmul 1 17 := ⟨by decide +kernel, rfl⟩
theorem dX8_digest_17 : AtI iX8_digest 17 (.aload_n 0) 1 18 := ⟨by decide +kernel, rfl⟩
theorem dX8_digest_18 : AtI iX8_digest 18 (.iload_n 3) 1 19 := ⟨by decide +kernel, rfl⟩
theorem dX8_digest_19 : AtI iX8_digest 19 (.invokevirtual 283) 3 22 := ⟨by decide +kernel, rfl⟩
theorem dX8_digest_22 : AtI iX8_digest 22 .i2l 1 23 := ⟨by decide +kernel, rfl⟩
theorem dX8_digest_23 : AtI iX8_digest 23 .ladd 1 24 := ⟨by decide +kernel, rfl⟩
theorem dX8_digest_24 : AtI iX8_digest 24 (.lstore_n 1) 1 25 := ⟨by decide +kernel, rfl⟩
theorem dX8_digest_25 : AtI iX8_digest 25 (.iinc 3 1) 3 28 := ⟨by decide +kernel, rfl⟩
theorem dX8_digest_28 : AtJ iX8_digest 28 (.goto (-22)) (-22) 31 6 := ⟨by decide +kernel, rfl, by decide⟩
theorem dX8_digest_31 : AtI iX8_digest 31 (.ldc2_w 281) 3 34 := ⟨by decide +kernel, rfl⟩
theorem dX8_digest_34 : AtI iX8_digest 34 (.lload_n 1) 1 35 := ⟨by decide +kernel, rfl⟩
theorem dX8_digest_35 : AtI iX8_digest 35 .lmul 1 36 := ⟨by decide +kernel, rfl⟩
theorem dX8_digest_36 : AtI iX8_digest 36 (.aload_n 0) 1 37 := ⟨by decide +kernel, rfl⟩
theorem dX8_digest_37 : AtI iX8_digest 37 (.invokevirtual 286) 3 40 := ⟨by decide +kernel, rfl⟩
theorem dX8_digest_40 : AtI iX8_digest 40 .i2l 1 41 := ⟨by decide +kernel, rfl⟩
theorem dX8_digest_41 : AtI iX8_digest 41 .ladd 1 42 := ⟨by decide +kernel, rfl⟩
theorem dX8_digest_42 : AtI iX8_digest 42 (.lstore_n 1) 1 43 := ⟨by decide +kernel, rfl⟩
theorem dX8_digest_43 : AtI iX8_digest 43 (.aload_n 0) 1 44 := ⟨by decide +kernel, rfl⟩
theorem dX8_digest_44 : AtI iX8_digest 44 (.lload_n 1) 1 45 := ⟨by decide +kernel, rfl⟩
theorem dX8_digest_45 : AtI iX8_digest 45 (.invokevirtual 289) 3 48 := ⟨by decide +kernel, rfl⟩
theorem dX8_digest_48 : AtI iX8_digest 48 (.lstore_n 1) 1 49 := ⟨by decide +kernel, rfl⟩
theorem dX8_digest_49 : AtI iX8_digest 49 (.aload_n 0) 1 50 := ⟨by decide +kernel, rfl⟩
theorem dX8_digest_50 : AtI iX8_digest 50 (.lload_n 1) 1 51 := ⟨by decide +kernel, rfl⟩
theorem dX8_digest_51 : AtI iX8_digest 51 (.invokevirtual 293) 3 54 := ⟨by decide +kernel, rfl⟩
theorem dX8_digest_54 : AtI iX8_digest 54 (.lstore_n 1) 1 55 := ⟨by decide +kernel, rfl⟩
theorem dX8_digest_55 : AtI iX8_digest 55 (.aload_n 0) 1 56 := ⟨by decide +kernel, rfl⟩
theorem dX8_digest_56 : AtI iX8_digest 56 (.lload_n 1) 1 57 := ⟨by decide +kernel, rfl⟩
theorem dX8_digest_57 : AtI iX8_digest 57 (.invokevirtual 296) 3 60 := ⟨by decide +kernel, rfl⟩
theorem dX8_digest_60 : AtI iX8_digest 60 (.lstore_n 1) 1 61 := ⟨by decide +kernel, rfl⟩
theorem dX8_digest_61 : AtI iX8_digest 61 (.aload_n 0) 1 62 := ⟨by decide +kernel, rfl⟩
theorem dX8_digest_62 : AtI iX8_digest 62 (.lload_n 1) 1 63 := ⟨by decide +kernel, rfl⟩
theorem dX8_digest_63 : AtI iX8_digest 63 (.invokevirtual 299) 3 66 := ⟨by decide +kernel, rfl⟩
theorem dX8_digest_66 : AtI iX8_digest 66 (.lstore_n 1) 1 67 := ⟨by decide +kernel, rfl⟩
theorem dX8_digest_67 : AtI iX8_digest 67 (.aload_n 0) 1 68 := ⟨by decide +kernel, rfl⟩
theorem dX8_digest_68 : AtI iX8_digest 68 (.lload_n 1) 1 69 := ⟨by decide +kernel, rfl⟩
theorem dX8_digest_69 : AtI iX8_digest 69 (.invokevirtual 302) 3 72 := ⟨by decide +kernel, rfl⟩
theorem dX8_digest_72 : AtI iX8_digest 72 .lreturn 1 73 := ⟨by decide +kernel, rfl⟩
theorem dX8_digestOfRoads_0 : AtI iX8_digestOfRoads 0 (.lload_n 1) 1 1 := ⟨by decide +kernel, rfl⟩
theorem dX8_digestOfRoads_1 : AtI iX8_digestOfRoads 1 (.lstore_n 3) 1 2 := ⟨by decide +kernel, rfl⟩
theorem dX8_digestOfRoads_2 : AtI iX8_digestOfRoads 2 (.iconst 0) 1 3 := ⟨by decide +kernel, rfl⟩
theorem dX8_digestOfRoads_3 : AtI iX8_digestOfRoads 3 (.istore 5) 2 5 := ⟨by decide +kernel, rfl⟩
theorem dX8_digestOfRoads_5 : AtI iX8_digestOfRoads 5 (.iload 5) 2 7 := ⟨by decide +kernel, rfl⟩
theorem dX8_digestOfRoads_7 : AtI iX8_digestOfRoads 7 (.aload_n 0) 1 8 := ⟨by decide +kernel, rfl⟩
theorem dX8_digestOfRoads_8 : AtI iX8_digestOfRoads 8 (.getfield 12) 3 11 := ⟨by decide +kernel, rfl⟩
theorem dX8_digestOfRoads_11 : AtI iX8_digestOfRoads 11 (.getfield 93) 3 14 := ⟨by decide +kernel, rfl⟩
theorem dX8_digestOfRoads_14 : AtJ iX8_digestOfRoads 14 (.if_icmp .ge 40) 40 17 54 := ⟨by decide +kernel, rfl, by decide⟩
theorem dX8_digestOfRoads_17 : AtI iX8_digestOfRoads 17 (.iconst 0) 1 18 := ⟨by decide +kernel, rfl⟩
theorem dX8_digestOfRoads_18 : AtI iX8_digestOfRoads 18 (.istore 6) 2 20 := ⟨by decide +kernel, rfl⟩
theorem dX8_digestOfRoads_20 : AtI iX8_digestOfRoads 20 (.iload 6) 2 22 := ⟨by decide +kernel, rfl⟩
theorem dX8_digestOfRoads_22 : AtI iX8_digestOfRoads 22 (.iconst 2) 1 23 := ⟨by decide +kernel, rfl⟩
theorem dX8_digestOfRoads_23 : AtJ iX8_digestOfRoads 23 (.if_icmp .gt 25) 25 26 48 := ⟨by decide +kernel, rfl, by decide⟩
theorem dX8_digestOfRoads_26 : AtI iX8_digestOfRoads 26 (.ldc2_w 281) 3 29 := ⟨by decide +kernel, rfl⟩
theorem dX8_digestOfRoads_29 : AtI iX8_digestOfRoads 29 (.lload_n 3) 1 30 := ⟨by decide +kernel, rfl⟩
theorem dX8_digestOfRoads_30 : AtI iX8_digestOfRoads 30 .lmul 1 31 := ⟨by decide +kernel, rfl⟩
theorem dX8_digestOfRoads_31 : AtI iX8_digestOfRoads 31 (.aload_n 0) 1 32 := ⟨by decide +kernel, rfl⟩
theorem dX8_digestOfRoads_32 : AtI iX8_digestOfRoads 32 (.iload 5) 2 34 := ⟨by decide +kernel, rfl⟩
theorem dX8_digestOfRoads_34 : AtI iX8_digestOfRoads 34 (.iload 6) 2 36 := ⟨by decide +kernel, rfl⟩
theorem dX8_digestOfRoads_36 : AtI iX8_digestOfRoads 36 (.invokevirtual 305) 3 39 := ⟨by decide +kernel, rfl⟩
theorem dX8_digestOfRoads_39 : AtI iX8_digestOfRoads 39 .i2l 1 40 := ⟨by decide +kernel, rfl⟩
theorem dX8_digestOfRoads_40 : AtI iX8_digestOfRoads 40 .ladd 1 41 := ⟨by decide +kernel, rfl⟩
theorem dX8_digestOfRoads_41 : AtI iX8_digestOfRoads 41 (.lstore_n 3) 1 42 := ⟨by decide +kernel, rfl⟩
theorem dX8_digestOfRoads_42 : AtI iX8_digestOfRoads 42 (.iinc 6 1) 3 45 := ⟨by decide +kernel, rfl⟩
theorem dX8_digestOfRoads_45 : AtJ iX8_digestOfRoads 45 (.goto (-25)) (-25) 48 20 := ⟨by decide +kernel, rfl, by decide⟩
theorem dX8_digestOfRoads_48 : AtI iX8_digestOfRoads 48 (.iinc 5 1) 3 51 := ⟨by decide +kernel, rfl⟩
theorem dX8_digestOfRoads_51 : AtJ iX8_digestOfRoads 51 (.goto (-46)) (-46) 54 5 := ⟨by decide +kernel, rfl, by decide⟩
theorem dX8_digestOfRoads_54 : AtI iX8_digestOfRoads 54 (.lload_n 3) 1 55 := ⟨by decide +kernel, rfl⟩
theorem dX8_digestOfRoads_55 : AtI iX8_digestOfRoads 55 .lreturn 1 56 := ⟨by decide +kernel, rfl⟩
theorem dX8_digestOfLands_0 : AtI iX8_digestOfLands 0 (.lload_n 1) 1 1 := ⟨by decide +kernel, rfl⟩
theorem dX8_digestOfLands_1 : AtI iX8_digestOfLands 1 (.lstore_n 3) 1 2 := ⟨by decide +kernel, rfl⟩
theorem dX8_digestOfLands_2 : AtI iX8_digestOfLands 2 (.iconst 0) 1 3 := ⟨by decide +kernel, rfl⟩
theorem dX8_digestOfLands_3 : AtI iX8_digestOfLands 3 (.istore 5) 2 5 := ⟨by decide +kernel, rfl⟩
theorem dX8_digestOfLands_5 : AtI iX8_digestOfLands 5 (.iload 5) 2 7 := ⟨by decide +kernel, rfl⟩
theorem dX8_digestOfLands_7 : AtI iX8_digestOfLands 7 (.bipush 8) 2 9 := ⟨by decide +kernel, rfl⟩
theorem dX8_digestOfLands_9 : AtJ iX8_digestOfLands 9 (.if_icmp .ge 159) 159 12 168 := ⟨by decide +kernel, rfl, by decide⟩
theorem dX8_digestOfLands_12 : AtI iX8_digestOfLands 12 (.ldc2_w 281) 3 15 := ⟨by decide +kernel, rfl⟩
theorem dX8_digestOfLands_15 : AtI iX8_digestOfLands 15 (.lload_n 3) 1 16 := ⟨by decide +kernel, rfl⟩
theorem dX8_digestOfLands_16 : AtI iX8_digestOfLands 16 .lmul 1 17 := ⟨by decide +kernel, rfl⟩
theorem dX8_digestOfLands_17 : AtI iX8_digestOfLands 17 (.aload_n 0) 1 18 := ⟨by decide +kernel, rfl⟩
theorem dX8_digestOfLands_18 : AtI iX8_digestOfLands 18 (.iconst 0) 1 19 := ⟨by decide +kernel, rfl⟩
theorem dX8_digestOfLands_19 : AtI iX8_digestOfLands 19 (.iload 5) 2 21 := ⟨by decide +kernel, rfl⟩
theorem dX8_digestOfLands_21 : AtI iX8_digestOfLands 21 (.invokevirtual 308) 3 24 := ⟨by decide +kernel, rfl⟩
theorem dX8_digestOfLands_24 : AtI iX8_digestOfLands 24 .i2l 1 25 := ⟨by decide +kernel, rfl⟩
theorem dX8_digestOfLands_25 : AtI iX8_digestOfLands 25 .ladd 1 26 := ⟨by decide +kernel, rfl⟩
theorem dX8_digestOfLands_26 : AtI iX8_digestOfLands 26 (.lstore_n 3) 1 27 := ⟨by decide +kernel, rfl⟩
theorem dX8_digestOfLands_27 : AtI iX8_digestOfLands 27 (.ldc2_w 281) 3 30 := ⟨by decide +kernel, rfl⟩
theorem dX8_digestOfLands_30 : AtI iX8_digestOfLands 30 (.lload_n 3) 1 31 := ⟨by decide +kernel, rfl⟩
theorem dX8_digestOfLands_31 : AtI iX8_digestOfLands 31 .lmul 1 32 := ⟨by decide +kernel, rfl⟩
theorem dX8_digestOfLands_32 : AtI iX8_digestOfLands 32 (.aload_n 0) 1 33 := ⟨by decide +kernel, rfl⟩
theorem dX8_digestOfLands_33 : AtI iX8_digestOfLands 33 (.iconst 2) 1 34 := ⟨by decide +kernel, rfl⟩
theorem dX8_digestOfLands_34 : AtI iX8_digestOfLands 34 (.iload 5) 2 36 := ⟨by decide +kernel, rfl⟩
theorem dX8_digestOfLands_36 : AtI iX8_digestOfLands 36 (.invokevirtual 308) 3 39 := ⟨by decide +kernel, rfl⟩
theorem dX8_digestOfLands_39 : AtI iX8_digestOfLands 39 .i2l 1 40 := ⟨by decide +kernel, rfl⟩
theorem dX8_digestOfLands_40 : AtI iX8_digestOfLands 40 .ladd 1 41 := ⟨by decide +kernel, rfl⟩
theorem dX8_digestOfLands_41 : AtI iX8_digestOfLands 41 (.lstore_n 3) 1 42 := ⟨by decide +kernel, rfl⟩
theorem dX8_digestOfLands_42 : AtI iX8_digestOfLands 42 (.ldc2_w 281) 3 45 := ⟨by decide +kernel, rfl⟩
theorem dX8_digestOfLands_45 : AtI iX8_digestOfLands 45 (.lload_n 3) 1 46 := ⟨by decide +kernel, rfl⟩
theorem dX8_digestOfLands_46 : AtI iX8_digestOfLands 46 .lmul 1 47 := ⟨by decide +kernel, rfl⟩
theorem dX8_digestOfLands_47 : AtI iX8_digestOfLands 47 (.aload_n 0) 1 48 := ⟨by decide +kernel, rfl⟩
theorem dX8_digestOfLands_48 : AtI iX8_digestOfLands 48 (.iload 5) 2 50 := ⟨by decide +kernel, rfl⟩
theorem dX8_digestOfLands_50 : AtI iX8_digestOfLands 50 (.invokevirtual 311) 3 53 := ⟨by decide +kernel, rfl⟩
theorem dX8_digestOfLands_53 : AtI iX8_digestOfLands 53 .i2l 1 54 := ⟨by decide +kernel, rfl⟩
theorem dX8_digestOfLands_54 : AtI iX8_digestOfLands 54 .ladd 1 55 := ⟨by decide +kernel, rfl⟩
theorem dX8_digestOfLands_55 : AtI iX8_digestOfLands 55 (.lstore_n 3) 1 56 := ⟨by decide +kernel, rfl⟩
theorem dX8_digestOfLands_56 : AtI iX8_digestOfLands 56 (.ldc2_w 281) 3 59 := ⟨by decide +kernel, rfl⟩
theorem dX8_digestOfLands_59 : AtI iX8_digestOfLands 59 (.lload_n 3) 1 60 := ⟨by decide +kernel, rfl⟩
theorem dX8_digestOfLands_60 : AtI iX8_digestOfLands 60 .lmul 1 61 := ⟨by decide +kernel, rfl⟩
theorem dX8_digestOfLands_61 : AtI iX8_digestOfLands 61 (.aload_n 0) 1 62 := ⟨by decide +kernel, rfl⟩
theorem dX8_digestOfLands_62 : AtI iX8_digestOfLands 62 (.bipush 50) 2 64 := ⟨by decide +kernel, rfl⟩
theorem dX8_digestOfLands_64 : AtI iX8_digestOfLands 64 (.iload 5) 2 66 := ⟨by decide +kernel, rfl⟩
theorem dX8_digestOfLands_66 : AtI iX8_digestOfLands 66 (.iconst 0) 1 67 := ⟨by decide +kernel, rfl⟩
theorem dX8_digestOfLands_67 : AtI iX8_digestOfLands 67 (.invokevirtual 314) 3 70 := ⟨by decide +kernel, rfl⟩
theorem dX8_digestOfLands_70 : AtI iX8_digestOfLands 70 .i2l 1 71 := ⟨by decide +kernel, rfl⟩
theorem dX8_digestOfLands_71 : AtI iX8_digestOfLands 71 .ladd 1 72 := ⟨by decide +kernel, rfl⟩
theorem dX8_digestOfLands_72 : AtI iX8_digestOfLands 72 (.lstore_n 3) 1 73 := ⟨by decide +kernel, rfl⟩
theorem dX8_digestOfLands_73 : AtI iX8_digestOfLands 73 (.ldc2_w 281) 3 76 := ⟨by decide +kernel, rfl⟩
theorem dX8_digestOfLands_76 : AtI iX8_digestOfLands 76 (.lload_n 3) 1 77 := ⟨by decide +kernel, rfl⟩
theorem dX8_digestOfLands_77 : AtI iX8_digestOfLands 77 .lmul 1 78 := ⟨by decide +kernel, rfl⟩
theorem dX8_digestOfLands_78 : AtI iX8_digestOfLands 78 (.aload_n 0) 1 79 := ⟨by decide +kernel, rfl⟩
theorem dX8_digestOfLands_79 : AtI iX8_digestOfLands 79 (.bipush 50) 2 81 := ⟨by decide +kernel, rfl⟩
theorem dX8_digestOfLands_81 : AtI iX8_digestOfLands 81 (.iload 5) 2 83 := ⟨by decide +kernel, rfl⟩
theorem dX8_digestOfLands_83 : AtI iX8_digestOfLands 83 (.iconst 1) 1 84 := ⟨by decide +kernel, rfl⟩
theorem dX8_digestOfLands_84 : AtI iX8_digestOfLands 84 (.invokevirtual 314) 3 87 := ⟨by decide +kernel, rfl⟩
theorem dX8_digestOfLands_87 : AtI iX8_digestOfLands 87 .i2l 1 88 := ⟨by decide +kernel, rfl⟩
theorem dX8_digestOfLands_88 : AtI iX8_digestOfLands 88 .ladd 1 89 := ⟨by decide +kernel, rfl⟩
theorem dX8_digestOfLands_89 : AtI iX8_digestOfLands 89 (.lstore_n 3) 1 90 := ⟨by decide +kernel, rfl⟩
theorem dX8_digestOfLands_90 : AtI iX8_digestOfLands 90 (.ldc2_w 281) 3 93 := ⟨by decide +kernel, rfl⟩
theorem dX8_digestOfLands_93 : AtI iX8_digestOfLands 93 (.lload_n 3) 1 94 := ⟨by decide +kernel, rfl⟩
theorem dX8_digestOfLands_94 : AtI iX8_digestOfLands 94 .lmul 1 95 := ⟨by decide +kernel, rfl⟩
theorem dX8_digestOfLands_95 : AtI iX8_digestOfLands 95 (.aload_n 0) 1 96 := ⟨by decide +kernel, rfl⟩
theorem dX8_digestOfLands_96 : AtI iX8_digestOfLands 96 (.iload 5) 2 98 := ⟨by decide +kernel, rfl⟩
theorem dX8_digestOfLands_98 : AtI iX8_digestOfLands 98 (.bipush 7) 2 100 := ⟨by decide +kernel, rfl⟩
theorem dX8_digestOfLands_100 : AtI iX8_digestOfLands 100 (.bipush 99) 2 102 := ⟨by decide +kernel, rfl⟩
theorem dX8_digestOfLands_102 : AtI iX8_digestOfLands 102 (.iconst 0) 1 103 := ⟨by decide +kernel, rfl⟩
theorem dX8_digestOfLands_103 : AtI iX8_digestOfLands 103 (.invokevirtual 317) 3 106 := ⟨by decide +kernel, rfl⟩
theorem dX8_digestOfLands_106 : AtI iX8_digestOfLands 106 .i2l 1 107 := ⟨by decide +kernel, rfl⟩
theorem dX8_digestOfLands_107 : AtI iX8_digestOfLands 107 .ladd 1 108 := ⟨by decide +kernel, rfl⟩
theorem dX8_digestOfLands_108 : AtI iX8_digestOfLands 108 (.lstore_n 3) 1 109 := ⟨by decide +kernel, rfl⟩
theorem dX8_digestOfLands_109 : AtI iX8_digestOfLands 109 (.ldc2_w 281) 3 112 := ⟨by decide +kernel, rfl⟩
theorem dX8_digestOfLands_112 : AtI iX8_digestOfLands 112 (.lload_n 3) 1 113 := ⟨by decide +kernel, rfl⟩
theorem dX8_digestOfLands_113 : AtI iX8_digestOfLands 113 .lmul 1 114 := ⟨by decide +kernel, rfl⟩
theorem dX8_digestOfLands_114 : AtI iX8_digestOfLands 114 (.aload_n 0) 1 115 := ⟨by decide +kernel, rfl⟩
theorem dX8_digestOfLands_115 : AtI iX8_digestOfLands 115 (.iload 5) 2 117 := ⟨by decide +kernel, rfl⟩
theorem dX8_digestOfLands_117 : AtI iX8_digestOfLands 117 (.bipush 7) 2 119 := ⟨by decide +kernel, rfl⟩
theorem dX8_digestOfLands_119 : AtI iX8_digestOfLands 119 (.bipush 99) 2 121 := ⟨by decide +kernel, rfl⟩
theorem dX8_digestOfLands_121 : AtI iX8_digestOfLands 121 (.iconst 1) 1 122 := ⟨by decide +kernel, rfl⟩
theorem dX8_digestOfLands_122 : AtI iX8_digestOfLands 122 (.invokevirtual 317) 3 125 := ⟨by decide +kernel, rfl⟩
theorem dX8_digestOfLands_125 : AtI iX8_digestOfLands 125 .i2l 1 126 := ⟨by decide +kernel, rfl⟩
theorem dX8_digestOfLands_126 : AtI iX8_digestOfLands 126 .ladd 1 127 := ⟨by decide +kernel, rfl⟩
theorem dX8_digestOfLands_127 : AtI iX8_digestOfLands 127 (.lstore_n 3) 1 128 := ⟨by decide +kernel, rfl⟩
theorem dX8_digestOfLands_128 : AtI iX8_digestOfLands 128 (.ldc2_w 281) 3 131 := ⟨by decide +kernel, rfl⟩
theorem dX8_digestOfLands_131 : AtI iX8_digestOfLands 131 (.lload_n 3) 1 132 := ⟨by decide +kernel, rfl⟩
theorem dX8_digestOfLands_132 : AtI iX8_digestOfLands 132 .lmul 1 133 := ⟨by decide +kernel, rfl⟩
theorem dX8_digestOfLands_133 : AtI iX8_digestOfLands 133 (.aload_n 0) 1 134 := ⟨by decide +kernel, rfl⟩
theorem dX8_digestOfLands_134 : AtI iX8_digestOfLands 134 (.iload 5) 2 136 := ⟨by decide +kernel, rfl⟩
theorem dX8_digestOfLands_136 : AtI iX8_digestOfLands 136 (.bipush 7) 2 138 := ⟨by decide +kernel, rfl⟩
theorem dX8_digestOfLands_138 : AtI iX8_digestOfLands 138 (.bipush 99) 2 140 := ⟨by decide +kernel, rfl⟩
theorem dX8_digestOfLands_140 : AtI iX8_digestOfLands 140 (.invokevirtual 320) 3 143 := ⟨by decide +kernel, rfl⟩
theorem dX8_digestOfLands_143 : AtI iX8_digestOfLands 143 .i2l 1 144 := ⟨by decide +kernel, rfl⟩
theorem dX8_digestOfLands_144 : AtI iX8_digestOfLands 144 .ladd 1 145 := ⟨by decide +kernel, rfl⟩
theorem dX8_digestOfLands_145 : AtI iX8_digestOfLands 145 (.lstore_n 3) 1 146 := ⟨by decide +kernel, rfl⟩
theorem dX8_digestOfLands_146 : AtI iX8_digestOfLands 146 (.ldc2_w 281) 3 149 := ⟨by decide +kernel, rfl⟩
theorem dX8_digestOfLands_149 : AtI iX8_digestOfLands 149 (.lload_n 3) 1 150 := ⟨by decide +kernel, rfl⟩
theorem dX8_digestOfLands_150 : AtI iX8_digestOfLands 150 .lmul 1 151 := ⟨by decide +kernel, rfl⟩
theorem dX8_digestOfLands_151 : AtI iX8_digestOfLands 151 (.aload_n 0) 1 152 := ⟨by decide +kernel, rfl⟩
theorem dX8_digestOfLands_152 : AtI iX8_digestOfLands 152 (.bipush 7) 2 154 := ⟨by decide +kernel, rfl⟩
theorem dX8_digestOfLands_154 : AtI iX8_digestOfLands 154 (.iload 5) 2 156 := ⟨by decide +kernel, rfl⟩
theorem dX8_digestOfLands_156 : AtI iX8_digestOfLands 156 (.invokevirtual 323) 3 159 := ⟨by decide +kernel, rfl⟩
theorem dX8_digestOfLands_159 : AtI iX8_digestOfLands 159 .i2l 1 160 := ⟨by decide +kernel, rfl⟩
theorem dX8_digestOfLands_160 : AtI iX8_digestOfLands 160 .ladd 1 161 := ⟨by decide +kernel, rfl⟩
theorem dX8_digestOfLands_161 : AtI iX8_digestOfLands 161 (.lstore_n 3) 1 162 := ⟨by decide +kernel, rfl⟩
theorem dX8_digestOfLands_162 : AtI iX8_digestOfLands 162 (.iinc 5 1) 3 165 := ⟨by decide +kernel, rfl⟩
theorem dX8_digestOfLands_165 : AtJ iX8_digestOfLands 165 (.goto (-160)) (-160) 168 5 := ⟨by decide +kernel, rfl, by decide⟩
theorem dX8_digestOfLands_168 : AtI iX8_digestOfLands 168 (.lload_n 3) 1 169 := ⟨by decide +kernel, rfl⟩
theorem dX8_digestOfLands_169 : AtI iX8_digestOfLands 169 .lreturn 1 170 := ⟨by decide +kernel, rfl⟩
theorem dX8_digestOfJourneys_0 : AtI iX8_digestOfJourneys 0 (.lload_n 1) 1 1 := ⟨by decide +kernel, rfl⟩
theorem dX8_digestOfJourneys_1 : AtI iX8_digestOfJourneys 1 (.lstore_n 3) 1 2 := ⟨by decide +kernel, rfl⟩
theorem dX8_digestOfJourneys_2 : AtI iX8_digestOfJourneys 2 (.iconst 1) 1 3 := ⟨by decide +kernel, rfl⟩
theorem dX8_digestOfJourneys_3 : AtI iX8_digestOfJourneys 3 (.istore 5) 2 5 := ⟨by decide +kernel, rfl⟩
theorem dX8_digestOfJourneys_5 : AtI iX8_digestOfJourneys 5 (.iload 5) 2 7 := ⟨by decide +kernel, rfl⟩
theorem dX8_digestOfJourneys_7 : AtI iX8_digestOfJourneys 7 (.bipush 8) 2 9 := ⟨by decide +kernel, rfl⟩
theorem dX8_digestOfJourneys_9 : AtJ iX8_digestOfJourneys 9 (.if_icmp .ge 112) 112 12 121 := ⟨by decide +kernel, rfl, by decide⟩
theorem dX8_digestOfJourneys_12 : AtI iX8_digestOfJourneys 12 (.ldc2_w 281) 3 15 := ⟨by decide +kernel, rfl⟩
theorem dX8_digestOfJourneys_15 : AtI iX8_digestOfJourneys 15 (.lload_n 3) 1 16 := ⟨by decide +kernel, rfl⟩
theorem dX8_digestOfJourneys_16 : AtI iX8_digestOfJourneys 16 .lmul 1 17 := ⟨by decide +kernel, rfl⟩
theorem dX8_digestOfJourneys_17 : AtI iX8_digestOfJourneys 17 (.aload_n 0) 1 18 := ⟨by decide +kernel, rfl⟩
theorem dX8_digestOfJourneys_18 : AtI iX8_digestOfJourneys 18 (.iconst 0) 1 19 := ⟨by decide +kernel, rfl⟩
theorem dX8_digestOfJourneys_19 : AtI iX8_digestOfJourneys 19 (.iload 5) 2 21 := ⟨by decide +kernel, rfl⟩
theorem dX8_digestOfJourneys_21 : AtI iX8_digestOfJourneys 21 (.iconst 0) 1 22 := ⟨by decide +kernel, rfl⟩
theorem dX8_digestOfJourneys_22 : AtI iX8_digestOfJourneys 22 (.invokevirtual 326) 3 25 := ⟨by decide +kernel, rfl⟩
theorem dX8_digestOfJourneys_25 : AtI iX8_digestOfJourneys 25 .i2l 1 26 := ⟨by decide +kernel, rfl⟩
theorem dX8_digestOfJourneys_26 : AtI iX8_digestOfJourneys 26 .ladd 1 27 := ⟨by decide +kernel, rfl⟩
theorem dX8_digestOfJourneys_27 : AtI iX8_digestOfJourneys 27 (.lstore_n 3) 1 28 := ⟨by decide +kernel, rfl⟩
theorem dX8_digestOfJourneys_28 : AtI iX8_digestOfJourneys 28 (.ldc2_w 281) 3 31 := ⟨by decide +kernel, rfl⟩
theorem dX8_digestOfJourneys_31 : AtI iX8_digestOfJourneys 31 (.lload_n 3) 1 32 := ⟨by decide +kernel, rfl⟩
theorem dX8_digestOfJourneys_32 : AtI iX8_digestOfJourneys 32 .lmul 1 33 := ⟨by decide +kernel, rfl⟩
theorem dX8_digestOfJourneys_33 : AtI iX8_digestOfJourneys 33 (.aload_n 0) 1 34 := ⟨by decide +kernel, rfl⟩
theorem dX8_digestOfJourneys_34 : AtI iX8_digestOfJourneys 34 (.iconst 0) 1 35 := ⟨by decide +kernel, rfl⟩
theorem dX8_digestOfJourneys_35 : AtI iX8_digestOfJourneys 35 (.iload 5) 2 37 := ⟨by decide +kernel, rfl⟩
theorem dX8_digestOfJourneys_37 : AtI iX8_digestOfJourneys 37 (.iconst 1) 1 38 := ⟨by decide +kernel, rfl⟩
theorem dX8_digestOfJourneys_38 : AtI iX8_digestOfJourneys 38 (.invokevirtual 326) 3 41 := ⟨by decide +kernel, rfl⟩
theorem dX8_digestOfJourneys_41 : AtI iX8_digestOfJourneys 41 .i2l 1 42 := ⟨by decide +kernel, rfl⟩
theorem dX8_digestOfJourneys_42 : AtI iX8_digestOfJourneys 42 .ladd 1 43 := ⟨by decide +kernel, rfl⟩
theorem dX8_digestOfJourneys_43 : AtI iX8_digestOfJourneys 43 (.lstore_n 3) 1 44 := ⟨by decide +kernel, rfl⟩
theorem dX8_digestOfJourneys_44 : AtI iX8_digestOfJourneys 44 (.ldc2_w 281) 3 47 := ⟨by decide +kernel, rfl⟩
theorem dX8_digestOfJourneys_47 : AtI iX8_digestOfJourneys 47 (.lload_n 3) 1 48 := ⟨by decide +kernel, rfl⟩
theorem dX8_digestOfJourneys_48 : AtI iX8_digestOfJourneys 48 .lmul 1 49 := ⟨by decide +kernel, rfl⟩
theorem dX8_digestOfJourneys_49 : AtI iX8_digestOfJourneys 49 (.aload_n 0) 1 50 := ⟨by decide +kernel, rfl⟩
theorem dX8_digestOfJourneys_50 : AtI iX8_digestOfJourneys 50 (.iconst 0) 1 51 := ⟨by decide +kernel, rfl⟩
theorem dX8_digestOfJourneys_51 : AtI iX8_digestOfJourneys 51 (.iload 5) 2 53 := ⟨by decide +kernel, rfl⟩
theorem dX8_digestOfJourneys_53 : AtI iX8_digestOfJourneys 53 (.iconst 2) 1 54 := ⟨by decide +kernel, rfl⟩
theorem dX8_digestOfJourneys_54 : AtI iX8_digestOfJourneys 54 (.iconst 0) 1 55 := ⟨by decide +kernel, rfl⟩
theorem dX8_digestOfJourneys_55 : AtI iX8_digestOfJourneys 55 (.invokevirtual 329) 3 58 := ⟨by decide +kernel, rfl⟩
theorem dX8_digestOfJourneys_58 : AtI iX8_digestOfJourneys 58 .i2l 1 59 := ⟨by decide +kernel, rfl⟩
theorem dX8_digestOfJourneys_59 : AtI iX8_digestOfJourneys 59 .ladd 1 60 := ⟨by decide +kernel, rfl⟩
theorem dX8_digestOfJourneys_60 : AtI iX8_digestOfJourneys 60 (.lstore_n 3) 1 61 := ⟨by decide +kernel, rfl⟩
theorem dX8_digestOfJourneys_61 : AtI iX8_digestOfJourneys 61 (.bipush (-4)) 2 63 := ⟨by decide +kernel, rfl⟩
theorem dX8_digestOfJourneys_63 : AtI iX8_digestOfJourneys 63 (.istore 6) 2 65 := ⟨by decide +kernel, rfl⟩
theorem dX8_digestOfJourneys_65 : AtI iX8_digestOfJourneys 65 (.iload 6) 2 67 := ⟨by decide +kernel, rfl⟩
theorem dX8_digestOfJourneys_67 : AtI iX8_digestOfJourneys 67 (.bipush (-2)) 2 69 := ⟨by decide +kernel, rfl⟩
theorem dX8_digestOfJourneys_69 : AtJ iX8_digestOfJourneys 69 (.if_icmp .gt 28) 28 72 97 := ⟨by decide +kernel, rfl, by decide⟩
theorem dX8_digestOfJourneys_72 : AtI iX8_digestOfJourneys 72 (.ldc2_w 281) 3 75 := ⟨by decide +kernel, rfl⟩
theorem dX8_digestOfJourneys_75 : AtI iX8_digestOfJourneys 75 (.lload_n 3) 1 76 := ⟨by decide +kernel, rfl⟩
theorem dX8_digestOfJourneys_76 : AtI iX8_digestOfJourneys 76 .lmul 1 77 := ⟨by decide +kernel, rfl⟩
theorem dX8_digestOfJourneys_77 : AtI iX8_digestOfJourneys 77 (.aload_n 0) 1 78 := ⟨by decide +kernel, rfl⟩
theorem dX8_digestOfJourneys_78 : AtI iX8_digestOfJourneys 78 (.iload 5) 2 80 := ⟨by decide +kernel, rfl⟩
theorem dX8_digestOfJourneys_80 : AtI iX8_digestOfJourneys 80 (.iconst 0) 1 81 := ⟨by decide +kernel, rfl⟩
theorem dX8_digestOfJourneys_81 : AtI iX8_digestOfJourneys 81 (.bipush 30) 2 83 := ⟨by decide +kernel, rfl⟩
theorem dX8_digestOfJourneys_83 : AtI iX8_digestOfJourneys 83 (.iload 6) 2 85 := ⟨by decide +kernel, rfl⟩
theorem dX8_digestOfJourneys_85 : AtI iX8_digestOfJourneys 85 (.invokevirtual 332) 3 88 := ⟨by decide +kernel, rfl⟩
theorem dX8_digestOfJourneys_88 : AtI iX8_digestOfJourneys 88 .i2l 1 89 := ⟨by decide +kernel, rfl⟩
theorem dX8_digestOfJourneys_89 : AtI iX8_digestOfJourneys 89 .ladd 1 90 := ⟨by decide +kernel, rfl⟩
theorem dX8_digestOfJourneys_90 : AtI iX8_digestOfJourneys 90 (.lstore_n 3) 1 91 := ⟨by decide +kernel, rfl⟩
theorem dX8_digestOfJourneys_91 : AtI iX8_digestOfJourneys 91 (.iinc 6 1) 3 94 := ⟨by decide +kernel, rfl⟩
theorem dX8_digestOfJourneys_94 : AtJ iX8_digestOfJourneys 94 (.goto (-29)) (-29) 97 65 := ⟨by decide +kernel, rfl, by decide⟩
theorem dX8_digestOfJourneys_97 : AtI iX8_digestOfJourneys 97 (.ldc2_w 281) 3 100 := ⟨by decide +kernel, rfl⟩
theorem dX8_digestOfJourneys_100 : AtI iX8_digestOfJourneys 100 (.lload_n 3) 1 101 := ⟨by decide +kernel, rfl⟩
theorem dX8_digestOfJourneys_101 : AtI iX8_digestOfJourneys 101 .lmul 1 102 := ⟨by decide +kernel, rfl⟩
theorem dX8_digestOfJourneys_102 : AtI iX8_digestOfJourneys 102 (.aload_n 0) 1 103 := ⟨by decide +kernel, rfl⟩
theorem dX8_digestOfJourneys_103 : AtI iX8_digestOfJourneys 103 (.iload 5) 2 105 := ⟨by decide +kernel, rfl⟩
theorem dX8_digestOfJourneys_105 : AtI iX8_digestOfJourneys 105 (.iconst 0) 1 106 := ⟨by decide +kernel, rfl⟩
theorem dX8_digestOfJourneys_106 : AtI iX8_digestOfJourneys 106 (.bipush 30) 2 108 := ⟨by decide +kernel, rfl⟩
theorem dX8_digestOfJourneys_108 : AtI iX8_digestOfJourneys 108 (.iconst 1) 1 109 := ⟨by decide +kernel, rfl⟩
theorem dX8_digestOfJourneys_109 : AtI iX8_digestOfJourneys 109 (.invokevirtual 332) 3 112 := ⟨by decide +kernel, rfl⟩
theorem dX8_digestOfJourneys_112 : AtI iX8_digestOfJourneys 112 .i2l 1 113 := ⟨by decide +kernel, rfl⟩
theorem dX8_digestOfJourneys_113 : AtI iX8_digestOfJourneys 113 .ladd 1 114 := ⟨by decide +kernel, rfl⟩
theorem dX8_digestOfJourneys_114 : AtI iX8_digestOfJourneys 114 (.lstore_n 3) 1 115 := ⟨by decide +kernel, rfl⟩
theorem dX8_digestOfJourneys_115 : AtI iX8_digestOfJourneys 115 (.iinc 5 1) 3 118 := ⟨by decide +kernel, rfl⟩
theorem dX8_digestOfJourneys_118 : AtJ iX8_digestOfJourneys 118 (.goto (-113)) (-113) 121 5 := ⟨by decide +kernel, rfl, by decide⟩
theorem dX8_digestOfJourneys_121 : AtI iX8_digestOfJourneys 121 (.lload_n 3) 1 122 := ⟨by decide +kernel, rfl⟩
theorem dX8_digestOfJourneys_122 : AtI iX8_digestOfJourneys 122 .lreturn 1 123 := ⟨by decide +kernel, rfl⟩
theorem dX8_digestOfKinds_0 : AtI iX8_digestOfKinds 0 (.lload_n 1) 1 1 := ⟨by decide +kernel, rfl⟩
theorem dX8_digestOfKinds_1 : AtI iX8_digestOfKinds 1 (.lstore_n 3) 1 2 := ⟨by decide +kernel, rfl⟩
theorem dX8_digestOfKinds_2 : AtI iX8_digestOfKinds 2 (.iconst 0) 1 3 := ⟨by decide +kernel, rfl⟩
theorem dX8_digestOfKinds_3 : AtI iX8_digestOfKinds 3 (.istore 5) 2 5 := ⟨by decide +kernel, rfl⟩
theorem dX8_digestOfKinds_5 : AtI iX8_digestOfKinds 5 (.iload 5) 2 7 := ⟨by decide +kernel, rfl⟩
theorem dX8_digestOfKinds_7 : AtI iX8_digestOfKinds 7 (.iconst 4) 1 8 := ⟨by decide +kernel, rfl⟩
theorem dX8_digestOfKinds_8 : AtJ iX8_digestOfKinds 8 (.if_icmp .ge 43) 43 11 51 := ⟨by decide +kernel, rfl, by decide⟩
theorem dX8_digestOfKinds_11 : AtI iX8_digestOfKinds 11 (.iconst 0) 1 12 := ⟨by decide +kernel, rfl⟩
theorem dX8_digestOfKinds_12 : AtI iX8_digestOfKinds 12 (.istore 6) 2 14 := ⟨by decide +kernel, rfl⟩
theorem dX8_digestOfKinds_14 : AtI iX8_digestOfKinds 14 (.iload 6) 2 16 := ⟨by decide +kernel, rfl⟩
theorem dX8_digestOfKinds_16 : AtI iX8_digestOfKinds 16 (.iconst 4) 1 17 := ⟨by decide +kernel, rfl⟩
theorem dX8_digestOfKinds_17 : AtJ iX8_digestOfKinds 17 (.if_icmp .ge 28) 28 20 45 := ⟨by decide +kernel, rfl, by decide⟩
theorem dX8_digestOfKinds_20 : AtI iX8_digestOfKinds 20 (.ldc2_w 281) 3 23 := ⟨by decide +kernel, rfl⟩
theorem dX8_digestOfKinds_23 : AtI iX8_digestOfKinds 23 (.lload_n 3) 1 24 := ⟨by decide +kernel, rfl⟩
theorem dX8_digestOfKinds_24 : AtI iX8_digestOfKinds 24 .lmul 1 25 := ⟨by decide +kernel, rfl⟩
theorem dX8_digestOfKinds_25 : AtI iX8_digestOfKinds 25 (.aload_n 0) 1 26 := ⟨by decide +kernel, rfl⟩
theorem dX8_digestOfKinds_26 : AtI iX8_digestOfKinds 26 (.bipush 30) 2 28 := ⟨by decide +kernel, rfl⟩
theorem dX8_digestOfKinds_28 : AtI iX8_digestOfKinds 28 (.iconst 0) 1 29 := ⟨by decide +kernel, rfl⟩
theorem dX8_digestOfKinds_29 : AtI iX8_digestOfKinds 29 (.iload 5) 2 31 := ⟨by decide +kernel, rfl⟩
theorem dX8_digestOfKinds_31 : AtI iX8_digestOfKinds 31 (.iload 6) 2 33 := ⟨by decide +kernel, rfl⟩
theorem dX8_digestOfKinds_33 : AtI iX8_digestOfKinds 33 (.invokevirtual 335) 3 36 := ⟨by decide +kernel, rfl⟩
theorem dX8_digestOfKinds_36 : AtI iX8_digestOfKinds 36 .i2l 1 37 := ⟨by decide +kernel, rfl⟩
theorem dX8_digestOfKinds_37 : AtI iX8_digestOfKinds 37 .ladd 1 38 := ⟨by decide +kernel, rfl⟩
theorem dX8_digestOfKinds_38 : AtI iX8_digestOfKinds 38 (.lstore_n 3) 1 39 := ⟨by decide +kernel, rfl⟩
theorem dX8_digestOfKinds_39 : AtI iX8_digestOfKinds 39 (.iinc 6 1) 3 42 := ⟨by decide +kernel, rfl⟩
theorem dX8_digestOfKinds_42 : AtJ iX8_digestOfKinds 42 (.goto (-28)) (-28) 45 14 := ⟨by decide +kernel, rfl, by decide⟩
theorem dX8_digestOfKinds_45 : AtI iX8_digestOfKinds 45 (.iinc 5 1) 3 48 := ⟨by decide +kernel, rfl⟩
theorem dX8_digestOfKinds_48 : AtJ iX8_digestOfKinds 48 (.goto (-43)) (-43) 51 5 := ⟨by decide +kernel, rfl, by decide⟩
theorem dX8_digestOfKinds_51 : AtI iX8_digestOfKinds 51 (.lload_n 3) 1 52 := ⟨by decide +kernel, rfl⟩
theorem dX8_digestOfKinds_52 : AtI iX8_digestOfKinds 52 .lreturn 1 53 := ⟨by decide +kernel, rfl⟩
theorem dX8_digestOfParishes_0 : AtI iX8_digestOfParishes 0 (.lload_n 1) 1 1 := ⟨by decide +kernel, rfl⟩
theorem dX8_digestOfParishes_1 : AtI iX8_digestOfParishes 1 (.lstore_n 3) 1 2 := ⟨by decide +kernel, rfl⟩
theorem dX8_digestOfParishes_2 : AtI iX8_digestOfParishes 2 (.iconst 1) 1 3 := ⟨by decide +kernel, rfl⟩
theorem dX8_digestOfParishes_3 : AtI iX8_digestOfParishes 3 (.istore 5) 2 5 := ⟨by decide +kernel, rfl⟩
theorem dX8_digestOfParishes_5 : AtI iX8_digestOfParishes 5 (.iload 5) 2 7 := ⟨by decide +kernel, rfl⟩
theorem dX8_digestOfParishes_7 : AtI iX8_digestOfParishes 7 (.iconst 4) 1 8 := ⟨by decide +kernel, rfl⟩
theorem dX8_digestOfParishes_8 : AtJ iX8_digestOfParishes 8 (.if_icmp .ge 24) 24 11 32 := ⟨by decide +kernel, rfl, by decide⟩
theorem dX8_digestOfParishes_11 : AtI iX8_digestOfParishes 11 (.ldc2_w 281) 3 14 := ⟨by decide +kernel, rfl⟩
theorem dX8_digestOfParishes_14 : AtI iX8_digestOfParishes 14 (.lload_n 3) 1 15 := ⟨by decide +kernel, rfl⟩
theorem dX8_digestOfParishes_15 : AtI iX8_digestOfParishes 15 .lmul 1 16 := ⟨by decide +kernel, rfl⟩
theorem dX8_digestOfParishes_16 : AtI iX8_digestOfParishes 16 (.aload_n 0) 1 17 := ⟨by decide +kernel, rfl⟩
theorem dX8_digestOfParishes_17 : AtI iX8_digestOfParishes 17 (.iconst 0) 1 18 := ⟨by decide +kernel, rfl⟩
theorem dX8_digestOfParishes_18 : AtI iX8_digestOfParishes 18 (.iload 5) 2 20 := ⟨by decide +kernel, rfl⟩
theorem dX8_digestOfParishes_20 : AtI iX8_digestOfParishes 20 (.invokevirtual 338) 3 23 := ⟨by decide +kernel, rfl⟩
theorem dX8_digestOfParishes_23 : AtI iX8_digestOfParishes 23 .i2l 1 24 := ⟨by decide +kernel, rfl⟩
theorem dX8_digestOfParishes_24 : AtI iX8_digestOfParishes 24 .ladd 1 25 := ⟨by decide +kernel, rfl⟩
theorem dX8_digestOfParishes_25 : AtI iX8_digestOfParishes 25 (.lstore_n 3) 1 26 := ⟨by decide +kernel, rfl⟩
theorem dX8_digestOfParishes_26 : AtI iX8_digestOfParishes 26 (.iinc 5 1) 3 29 := ⟨by decide +kernel, rfl⟩
theorem dX8_digestOfParishes_29 : AtJ iX8_digestOfParishes 29 (.goto (-24)) (-24) 32 5 := ⟨by decide +kernel, rfl, by decide⟩
theorem dX8_digestOfParishes_32 : AtI iX8_digestOfParishes 32 (.iconst 0) 1 33 := ⟨by decide +kernel, rfl⟩
theorem dX8_digestOfParishes_33 : AtI iX8_digestOfParishes 33 (.istore 5) 2 35 := ⟨by decide +kernel, rfl⟩
theorem dX8_digestOfParishes_35 : AtI iX8_digestOfParishes 35 (.iload 5) 2 37 := ⟨by decide +kernel, rfl⟩
theorem dX8_digestOfParishes_37 : AtI iX8_digestOfParishes 37 (.iconst 2) 1 38 := ⟨by decide +kernel, rfl⟩
theorem dX8_digestOfParishes_38 : AtJ iX8_digestOfParishes 38 (.if_icmp .gt 23) 23 41 61 := ⟨by decide +kernel, rfl, by decide⟩
theorem dX8_digestOfParishes_41 : AtI iX8_digestOfParishes 41 (.ldc2_w 281) 3 44 := ⟨by decide +kernel, rfl⟩
theorem dX8_digestOfParishes_44 : AtI iX8_digestOfParishes 44 (.lload_n 3) 1 45 := ⟨by decide +kernel, rfl⟩
theorem dX8_digestOfParishes_45 : AtI iX8_digestOfParishes 45 .lmul 1 46 := ⟨by decide +kernel, rfl⟩
theorem dX8_digestOfParishes_46 : AtI iX8_digestOfParishes 46 (.aload_n 0) 1 47 := ⟨by decide +kernel, rfl⟩
theorem dX8_digestOfParishes_47 : AtI iX8_digestOfParishes 47 (.iload 5) 2 49 := ⟨by decide +kernel, rfl⟩
theorem dX8_digestOfParishes_49 : AtI iX8_digestOfParishes 49 (.invokevirtual 341) 3 52 := ⟨by decide +kernel, rfl⟩
theorem dX8_digestOfParishes_52 : AtI iX8_digestOfParishes 52 .i2l 1 53 := ⟨by decide +kernel, rfl⟩
theorem dX8_digestOfParishes_53 : AtI iX8_digestOfParishes 53 .ladd 1 54 := ⟨by decide +kernel, rfl⟩
theorem dX8_digestOfParishes_54 : AtI iX8_digestOfParishes 54 (.lstore_n 3) 1 55 := ⟨by decide +kernel, rfl⟩
theorem dX8_digestOfParishes_55 : AtI iX8_digestOfParishes 55 (.iinc 5 1) 3 58 := ⟨by decide +kernel, rfl⟩
theorem dX8_digestOfParishes_58 : AtJ iX8_digestOfParishes 58 (.goto (-23)) (-23) 61 35 := ⟨by decide +kernel, rfl, by decide⟩
theorem dX8_digestOfParishes_61 : AtI iX8_digestOfParishes 61 (.iconst 0) 1 62 := ⟨by decide +kernel, rfl⟩
theorem dX8_digestOfParishes_62 : AtI iX8_digestOfParishes 62 (.istore 5) 2 64 := ⟨by decide +kernel, rfl⟩
theorem dX8_digestOfParishes_64 : AtI iX8_digestOfParishes 64 (.iload 5) 2 66 := ⟨by decide +kernel, rfl⟩
theorem dX8_digestOfParishes_66 : AtI iX8_digestOfParishes 66 (.iconst 2) 1 67 := ⟨by decide +kernel, rfl⟩
theorem dX8_digestOfParishes_67 : AtJ iX8_digestOfParishes 67 (.if_icmp .gt 23) 23 70 90 := ⟨by decide +kernel, rfl, by decide⟩
theorem dX8_digestOfParishes_70 : AtI iX8_digestOfParishes 70 (.ldc2_w 281) 3 73 := ⟨by decide +kernel, rfl⟩
theorem dX8_digestOfParishes_73 : AtI iX8_digestOfParishes 73 (.lload_n 3) 1 74 := ⟨by decide +kernel, rfl⟩
theorem dX8_digestOfParishes_74 : AtI iX8_digestOfParishes 74 .lmul 1 75 := ⟨by decide +kernel, rfl⟩
theorem dX8_digestOfParishes_75 : AtI iX8_digestOfParishes 75 (.aload_n 0) 1 76 := ⟨by decide +kernel, rfl⟩
theorem dX8_digestOfParishes_76 : AtI iX8_digestOfParishes 76 (.iload 5) 2 78 := ⟨by decide +kernel, rfl⟩
theorem dX8_digestOfParishes_78 : AtI iX8_digestOfParishes 78 (.invokevirtual 344) 3 81 := ⟨by decide +kernel, rfl⟩
theorem dX8_digestOfParishes_81 : AtI iX8_digestOfParishes 81 .i2l 1 82 := ⟨by decide +kernel, rfl⟩
theorem dX8_digestOfParishes_82 : AtI iX8_digestOfParishes 82 .ladd 1 83 := ⟨by decide +kernel, rfl⟩
theorem dX8_digestOfParishes_83 : AtI iX8_digestOfParishes 83 (.lstore_n 3) 1 84 := ⟨by decide +kernel, rfl⟩
theorem dX8_digestOfParishes_84 : AtI iX8_digestOfParishes 84 (.iinc 5 1) 3 87 := ⟨by decide +kernel, rfl⟩
theorem dX8_digestOfParishes_87 : AtJ iX8_digestOfParishes 87 (.goto (-23)) (-23) 90 64 := ⟨by decide +kernel, rfl, by decide⟩
theorem dX8_digestOfParishes_90 : AtI iX8_digestOfParishes 90 (.ldc2_w 281) 3 93 := ⟨by decide +kernel, rfl⟩
theorem dX8_digestOfParishes_93 : AtI iX8_digestOfParishes 93 (.lload_n 3) 1 94 := ⟨by decide +kernel, rfl⟩
theorem dX8_digestOfParishes_94 : AtI iX8_digestOfParishes 94 .lmul 1 95 := ⟨by decide +kernel, rfl⟩
theorem dX8_digestOfParishes_95 : AtI iX8_digestOfParishes 95 (.aload_n 0) 1 96 := ⟨by decide +kernel, rfl⟩
theorem dX8_digestOfParishes_96 : AtI iX8_digestOfParishes 96 (.invokevirtual 347) 3 99 := ⟨by decide +kernel, rfl⟩
theorem dX8_digestOfParishes_99 : AtI iX8_digestOfParishes 99 .i2l 1 100 := ⟨by decide +kernel, rfl⟩
theorem dX8_digestOfParishes_100 : AtI iX8_digestOfParishes 100 .ladd 1 101 := ⟨by decide +kernel, rfl⟩
theorem dX8_digestOfParishes_101 : AtI iX8_digestOfParishes 101 .lreturn 1 102 := ⟨by decide +kernel, rfl⟩
theorem dX8_found_0 : AtI iX8_found 0 (.aload_n 0) 1 1 := ⟨by decide +kernel, rfl⟩
theorem dX8_found_1 : AtI iX8_found 1 (.iload_n 1) 1 2 := ⟨by decide +kernel, rfl⟩
theorem dX8_found_2 : AtI iX8_found 2 (.putfield 71) 3 5 := ⟨by decide +kernel, rfl⟩
theorem dX8_found_5 : AtI iX8_found 5 (.bipush (-10)) 2 7 := ⟨by decide +kernel, rfl⟩
theorem dX8_found_7 : AtI iX8_found 7 (.iload_n 1) 1 8 := ⟨by decide +kernel, rfl⟩
theorem dX8_found_8 : AtI iX8_found 8 .isub 1 9 := ⟨by decide +kernel, rfl⟩
theorem dX8_found_9 : AtI iX8_found 9 .ireturn 1 10 := ⟨by decide +kernel, rfl⟩
theorem dX8_wrongItem_0 : AtI iX8_wrongItem 0 (.aload_n 0) 1 1 := ⟨by decide +kernel, rfl⟩
theorem dX8_wrongItem_1 : AtI iX8_wrongItem 1 (.getfield 66) 3 4 := ⟨by decide +kernel, rfl⟩
theorem dX8_wrongItem_4 : AtI iX8_wrongItem 4 (.iload_n 1) 1 5 := ⟨by decide +kernel, rfl⟩
theorem dX8_wrongItem_5 : AtI iX8_wrongItem 5 .aaload 1 6 := ⟨by decide +kernel, rfl⟩
theorem dX8_wrongItem_6 : AtI iX8_wrongItem 6 (.getfield 123) 3 9 := ⟨by decide +kernel, rfl⟩
theorem dX8_wrongItem_9 : AtJ iX8_wrongItem 9 (.ifCond .eq 5) 5 12 14 := ⟨by decide +kernel, rfl, by decide⟩
theorem dX8_wrongItem_12 : AtI iX8_wrongItem 12 (.iconst 1) 1 13 := ⟨by decide +kernel, rfl⟩
theorem dX8_wrongItem_13 : AtI iX8_wrongItem 13 .ireturn 1 14 := ⟨by decide +kernel, rfl⟩
theorem dX8_wrongItem_14 : AtI iX8_wrongItem 14 (.aload_n 0) 1 15 := ⟨by decide +kernel, rfl⟩
theorem dX8_wrongItem_15 : AtI iX8_wrongItem 15 (.getfield 66) 3 18 := ⟨by decide +kernel, rfl⟩
theorem dX8_wrongItem_18 : AtI iX8_wrongItem 18 (.iload_n 1) 1 19 := ⟨by decide +kernel, rfl⟩
theorem dX8_wrongItem_19 : AtI iX8_wrongItem 19 .aaload 1 20 := ⟨by decide +kernel, rfl⟩
theorem dX8_wrongItem_20 : AtI iX8_wrongItem 20 (.getfield 261) 3 23 := ⟨by decide +kernel, rfl⟩
theorem dX8_wrongItem_23 : AtI iX8_wrongItem 23 (.iload_n 2) 1 24 := ⟨by decide +kernel, rfl⟩
theorem dX8_wrongItem_24 : AtJ iX8_wrongItem 24 (.if_icmp .eq 5) 5 27 29 := ⟨by decide +kernel, rfl, by decide⟩
theorem dX8_wrongItem_27 : AtI iX8_wrongItem 27 (.iconst 3) 1 28 := ⟨by decide +kernel, rfl⟩
theorem dX8_wrongItem_28 : AtI iX8_wrongItem 28 .ireturn 1 29 := ⟨by decide +kernel, rfl⟩
theorem dX8_wrongItem_29 : AtI iX8_wrongItem 29 (.iload_n 3) 1 30 := ⟨by decide +kernel, rfl⟩
theorem dX8_wrongItem_30 : AtI iX8_wrongItem 30 (.aload_n 0) 1 31 := ⟨by decide +kernel, rfl⟩
theorem dX8_wrongItem_31 : AtI iX8_wrongItem 31 (.getfield 66) 3 34 := ⟨by decide +kernel, rfl⟩
theorem dX8_wrongItem_34 : AtI iX8_wrongItem 34 (.iload_n 1) 1 35 := ⟨by decide +kernel, rfl⟩
theorem dX8_wrongItem_35 : AtI iX8_wrongItem 35 .aaload 1 36 := ⟨by decide +kernel, rfl⟩
theorem dX8_wrongItem_36 : AtI iX8_wrongItem 36 (.getfield 130) 3 39 := ⟨by decide +kernel, rfl⟩
theorem dX8_wrongItem_39 : AtI iX8_wrongItem 39 (.iconst 1) 1 40 := ⟨by decide +kernel, rfl⟩
theorem dX8_wrongItem_40 : AtI iX8_wrongItem 40 .isub 1 41 := ⟨by decide +kernel, rfl⟩
theorem dX8_wrongItem_41 : AtI iX8_wrongItem 41 (.invokestatic 75) 3 44 := ⟨by decide +kernel, rfl⟩
theorem dX8_wrongItem_44 : AtJ iX8_wrongItem 44 (.ifCond .eq 7) 7 47 51 := ⟨by decide +kernel, rfl, by decide⟩
theorem dX8_wrongItem_47 : AtI iX8_wrongItem 47 (.iconst 0) 1 48 := ⟨by decide +kernel, rfl⟩
theorem dX8_wrongItem_48 : AtJ iX8_wrongItem 48 (.goto 4) 4 51 52 := ⟨by decide +kernel, rfl, by decide⟩
theorem dX8_wrongItem_51 : AtI iX8_wrongItem 51 (.iconst 2) 1 52 := ⟨by decide +kernel, rfl⟩
theorem dX8_wrongItem_52 : AtI iX8_wrongItem 52 .ireturn 1 53 := ⟨by decide +kernel, rfl⟩
theorem dX8_upTo_0 : AtI iX8_upTo 0 (.iload_n 0) 1 1 := ⟨by decide +kernel, rfl⟩
theorem dX8_upTo_1 : AtJ iX8_upTo 1 (.ifCond .lt 12) 12 4 13 := ⟨by decide +kernel, rfl, by decide⟩
theorem dX8_upTo_4 : AtI iX8_upTo 4 (.iload_n 0) 1 5 := ⟨by decide +kernel, rfl⟩
theorem dX8_upTo_5 : AtI iX8_upTo 5 (.iload_n 1) 1 6 := ⟨by decide +kernel, rfl⟩
theorem dX8_upTo_6 : AtJ iX8_upTo 6 (.if_icmp .gt 7) 7 9 13 := ⟨by decide +kernel, rfl, by decide⟩
theorem dX8_upTo_9 : AtI iX8_upTo 9 (.iconst 1) 1 10 := ⟨by decide +kernel, rfl⟩
theorem dX8_upTo_10 : AtJ iX8_upTo 10 (.goto 4) 4 13 14 := ⟨by decide +kernel, rfl, by decide⟩
theorem dX8_upTo_13 : AtI iX8_upTo 13 (.iconst 0) 1 14 := ⟨by decide +kernel, rfl⟩
theorem dX8_upTo_14 : AtI iX8_upTo 14 .ireturn 1 15 := ⟨by decide +kernel, rfl⟩
theorem dX8_isLand_0 : AtI iX8_isLand 0 (.iload_n 0) 1 1 := ⟨by decide +kernel, rfl⟩
theorem dX8_isLand_1 : AtI iX8_isLand 1 (.bipush 7) 2 3 := ⟨by decide +kernel, rfl⟩
theorem dX8_isLand_3 : AtI iX8_isLand 3 (.invokestatic 75) 3 6 := ⟨by decide +kernel, rfl⟩
theorem dX8_isLand_6 : AtI iX8_isLand 6 .ireturn 1 7 := ⟨by decide +kernel, rfl⟩
theorem dX8_areTwoLands_0 : AtI iX8_areTwoLands 0 (.iload_n 0) 1 1 := ⟨by decide +kernel, rfl⟩
theorem dX8_areTwoLands_1 : AtI iX8_areTwoLands 1 (.invokestatic 104) 3 4 := ⟨by decide +kernel, rfl⟩
theorem dX8_areTwoLands_4 : AtJ iX8_areTwoLands 4 (.ifCond .eq 19) 19 7 23 := ⟨by decide +kernel, rfl, by decide⟩
theorem dX8_areTwoLands_7 : AtI iX8_areTwoLands 7 (.iload_n 1) 1 8 := ⟨by decide +kernel, rfl⟩
theorem dX8_areTwoLands_8 : AtI iX8_areTwoLands 8 (.invokestatic 104) 3 11 := ⟨by decide +kernel, rfl⟩
theorem dX8_areTwoLands_11 : AtJ iX8_areTwoLands 11 (.ifCond .eq 12) 12 14 23 := ⟨by decide +kernel, rfl, by decide⟩
theorem dX8_areTwoLands_14 : AtI iX8_areTwoLands 14 (.iload_n 0) 1 15 := ⟨by decide +kernel, rfl⟩
theorem dX8_areTwoLands_15 : AtI iX8_areTwoLands 15 (.iload_n 1) 1 16 := ⟨by decide +kernel, rfl⟩
theorem dX8_areTwoLands_16 : AtJ iX8_areTwoLands 16 (.if_icmp .eq 7) 7 19 23 := ⟨by decide +kernel, rfl, by decide⟩
theorem dX8_areTwoLands_19 : AtI iX8_areTwoLands 19 (.iconst 1) 1 20 := ⟨by decide +kernel, rfl⟩
theorem dX8_areTwoLands_20 : AtJ iX8_areTwoLands 20 (.goto 4) 4 23 24 := ⟨by decide +kernel, rfl, by decide⟩
theorem dX8_areTwoLands_23 : AtI iX8_areTwoLands 23 (.iconst 0) 1 24 := ⟨by decide +kernel, rfl⟩
theorem dX8_areTwoLands_24 : AtI iX8_areTwoLands 24 .ireturn 1 25 := ⟨by decide +kernel, rfl⟩
theorem dX8_isParish_0 : AtI iX8_isParish 0 (.iload_n 0) 1 1 := ⟨by decide +kernel, rfl⟩
theorem dX8_isParish_1 : AtI iX8_isParish 1 (.iconst 3) 1 2 := ⟨by decide +kernel, rfl⟩
theorem dX8_isParish_2 : AtI iX8_isParish 2 (.invokestatic 75) 3 5 := ⟨by decide +kernel, rfl⟩
theorem dX8_isParish_5 : AtI iX8_isParish 5 .ireturn 1 6 := ⟨by decide +kernel, rfl⟩
theorem dX8_isKind_0 : AtI iX8_isKind 0 (.iload_n 0) 1 1 := ⟨by decide +kernel, rfl⟩
theorem dX8_isKind_1 : AtI iX8_isKind 1 (.iconst 3) 1 2 := ⟨by decide +kernel, rfl⟩
theorem dX8_isKind_2 : AtI iX8_isKind 2 (.invokestatic 75) 3 5 := ⟨by decide +kernel, rfl⟩
theorem dX8_isKind_5 : AtI iX8_isKind 5 .ireturn 1 6 := ⟨by decide +kernel, rfl⟩
theorem dX8_isHour_0 : AtI iX8_isHour 0 (.iload_n 0) 1 1 := ⟨by decide +kernel, rfl⟩
theorem dX8_isHour_1 : AtI iX8_isHour 1 (.sipush 671) 3 4 := ⟨by decide +kernel, rfl⟩
theorem dX8_isHour_4 : AtI iX8_isHour 4 (.invokestatic 75) 3 7 := ⟨by decide +kernel, rfl⟩
theorem dX8_isHour_7 : AtI iX8_isHour 7 .ireturn 1 8 := ⟨by decide +kernel, rfl⟩
theorem dX8_isSheet_0 : AtI iX8_isSheet 0 (.iload_n 0) 1 1 := ⟨by decide +kernel, rfl⟩
theorem dX8_isSheet_1 : AtI iX8_isSheet 1 (.iconst 3) 1 2 := ⟨by decide +kernel, rfl⟩
theorem dX8_isSheet_2 : AtI iX8_isSheet 2 (.invokestatic 75) 3 5 := ⟨by decide +kernel, rfl⟩
theorem dX8_isSheet_5 : AtI iX8_isSheet 5 .ireturn 1 6 := ⟨by decide +kernel, rfl⟩
theorem dX8_isForm_0 : AtI iX8_isForm 0 (.iload_n 0) 1 1 := ⟨by decide +kernel, rfl⟩
theorem dX8_isForm_1 : AtI iX8_isForm 1 (.iconst 2) 1 2 := ⟨by decide +kernel, rfl⟩
theorem dX8_isForm_2 : AtI iX8_isForm 2 (.invokestatic 75) 3 5 := ⟨by decide +kernel, rfl⟩
theorem dX8_isForm_5 : AtI iX8_isForm 5 .ireturn 1 6 := ⟨by decide +kernel, rfl⟩
theorem dX8_isSiege_0 : AtI iX8_isSiege 0 (.iload_n 0) 1 1 := ⟨by decide +kernel, rfl⟩
theorem dX8_isSiege_1 : AtI iX8_isSiege 1 (.invokestatic 104) 3 4 := ⟨by decide +kernel, rfl⟩
theorem dX8_isSiege_4 : AtJ iX8_isSiege 4 (.ifCond .eq 26) 26 7 30 := ⟨by decide +kernel, rfl, by decide⟩
theorem dX8_isSiege_7 : AtI iX8_isSiege 7 (.iload_n 1) 1 8 := ⟨by decide +kernel, rfl⟩
theorem dX8_isSiege_8 : AtI iX8_isSiege 8 (.invokestatic 154) 3 11 := ⟨by decide +kernel, rfl⟩
theorem dX8_isSiege_11 : AtJ iX8_isSiege 11 (.ifCond .eq 19) 19 14 30 := ⟨by decide +kernel, rfl, by decide⟩
theorem dX8_isSiege_14 : AtI iX8_isSiege 14 (.iload_n 2) 1 15 := ⟨by decide +kernel, rfl⟩
theorem dX8_isSiege_15 : AtI iX8_isSiege 15 (.iconst 1) 1 16 := ⟨by decide +kernel, rfl⟩
theorem dX8_isSiege_16 : AtJ iX8_isSiege 16 (.if_icmp .lt 14) 14 19 30 := ⟨by decide +kernel, rfl, by decide⟩
theorem dX8_isSiege_19 : AtI iX8_isSiege 19 (.iload_n 2) 1 20 := ⟨by decide +kernel, rfl⟩
theorem dX8_isSiege_20 : AtI iX8_isSiege 20 (.sipush 999) 3 23 := ⟨by decide +kernel, rfl⟩
theorem dX8_isSiege_23 : AtJ iX8_isSiege 23 (.if_icmp .gt 7) 7 26 30 := ⟨by decide +kernel, rfl, by decide⟩
theorem dX8_isSiege_26 : AtI iX8_isSiege 26 (.iconst 1) 1 27 := ⟨by decide +kernel, rfl⟩
theorem dX8_isSiege_27 : AtJ iX8_isSiege 27 (.goto 4) 4 30 31 := ⟨by decide +kernel, rfl, by decide⟩
theorem dX8_isSiege_30 : AtI iX8_isSiege 30 (.iconst 0) 1 31 := ⟨by decide +kernel, rfl⟩
theorem dX8_isSiege_31 : AtI iX8_isSiege 31 .ireturn 1 32 := ⟨by decide +kernel, rfl⟩
end
section
/-! decode rows -/
theorem dX9_init_0 : AtI iX9_init 0 (.aload_n 0) 1 1 := ⟨by decide +kernel, rfl⟩
theorem dX9_init_1 : AtI iX9_init 1 (.invokespecial 1) 3 4 := ⟨by decide +kernel, rfl⟩
theorem dX9_init_4 : AtI iX9_init 4 (.aload_n 0) 1 5 := ⟨by decide +kernel, rfl⟩
theorem dX9_init_5 : AtI iX9_init 5 (.iconst 4) 1 6 := ⟨by decide +kernel, rfl⟩
theorem dX9_init_6 : AtI iX9_init 6 (.newarray .int) 2 8 := ⟨by decide +kernel, rfl⟩
theorem dX9_init_8 : AtI iX9_init 8 (.putfield 7) 3 11 := ⟨by decide +kernel, rfl⟩
theorem dX9_init_11 : AtI iX9_init 11 (.aload_n 0) 1 12 := ⟨by decide +kernel, rfl⟩
theorem dX9_init_12 : AtI iX9_init 12 (.iconst 4) 1 13 := ⟨by decide +kernel, rfl⟩
theorem dX9_init_13 : AtI iX9_init 13 (.newarray .int) 2 15 := ⟨by decide +kernel, rfl⟩
theorem dX9_init_15 : AtI iX9_init 15 (.putfield 13) 3 18 := ⟨by decide +kernel, rfl⟩
theorem dX9_init_18 : AtI iX9_init 18 (.aload_n 0) 1 19 := ⟨by decide +kernel, rfl⟩
theorem dX9_init_19 : AtI iX9_init 19 (.sipush 240) 3 22 := ⟨by decide +kernel, rfl⟩
theorem dX9_init_22 : AtI iX9_init 22 (.newarray .int) 2 24 := ⟨by decide +kernel, rfl⟩
theorem dX9_init_24 : AtI iX9_init 24 (.putfield 16) 3 27 := ⟨by decide +kernel, rfl⟩
theorem dX9_init_27 : AtI iX9_init 27 (.aload_n 0) 1 28 := ⟨by decide +kernel, rfl⟩
theorem dX9_init_28 : AtI iX9_init 28 (.bipush 60) 2 30 := ⟨by decide +kernel, rfl⟩
theorem dX9_init_30 : AtI iX9_init 30 (.newarray .int) 2 32 := ⟨by decide +kernel, rfl⟩
theorem dX9_init_32 : AtI iX9_init 32 (.putfield 19) 3 35 := ⟨by decide +kernel, rfl⟩
theorem dX9_init_35 : AtI iX9_init 35 (.aload_n 0) 1 36 := ⟨by decide +kernel, rfl⟩
theorem dX9_init_36 : AtI iX9_init 36 (.bipush 47) 2 38 := ⟨by decide +kernel, rfl⟩
theorem dX9_init_38 : AtI iX9_init 38 (.newarray .int) 2 40 := ⟨by decide +kernel, rfl⟩
theorem dX9_init_40 : AtI iX9_init 40 (.putfield 22) 3 43 := ⟨by decide +kernel, rfl⟩
theorem dX9_init_43 : AtI iX9_init 43 (.aload_n 0) 1 44 := ⟨by decide +kernel, rfl⟩
theorem dX9_init_44 : AtI iX9_init 44 (.bipush 36) 2 46 := ⟨by decide +kernel, rfl⟩
theorem dX9_init_46 : AtI iX9_init 46 (.newarray .int) 2 48 := ⟨by decide +kernel, rfl⟩
theorem dX9_init_48 : AtI iX9_init 48 (.putfield 25) 3 51 := ⟨by decide +kernel, rfl⟩
theorem dX9_init_51 : AtI iX9_init 51 (.aload_n 0) 1 52 := ⟨by decide +kernel, rfl⟩
theorem dX9_init_52 : AtI iX9_init 52 (.bipush 24) 2 54 := ⟨by decide +kernel, rfl⟩
theorem dX9_init_54 : AtI iX9_init 54 (.newarray .int) 2 56 := ⟨by decide +kernel, rfl⟩
theorem dX9_init_56 : AtI iX9_init 56 (.putfield 28) 3 59 := ⟨by decide +kernel, rfl⟩
theorem dX9_init_59 : AtI iX9_init 59 (.aload_n 0) 1 60 := ⟨by decide +kernel, rfl⟩
theorem dX9_init_60 : AtI iX9_init 60 (.bipush 8) 2 62 := ⟨by decide +kernel, rfl⟩
theorem dX9_init_62 : AtI iX9_init 62 (.newarray .int) 2 64 := ⟨by decide +kernel, rfl⟩
theorem dX9_init_64 : AtI iX9_init 64 (.putfield 31) 3 67 := ⟨by decide +kernel, rfl⟩
theorem dX9_init_67 : AtI iX9_init 67 (.aload_n 0) 1 68 := ⟨by decide +kernel, rfl⟩
theorem dX9_init_68 : AtI iX9_init 68 (.bipush 8) 2 70 := ⟨by decide +kernel, rfl⟩
theorem dX9_init_70 : AtI iX9_init 70 (.newarray .int) 2 72 := ⟨by decide +kernel, rfl⟩
theorem dX9_init_72 : AtI iX9_init 72 (.putfield 34) 3 75 := ⟨by decide +kernel, rfl⟩
theorem dX9_init_75 : AtI iX9_init 75 (.aload_n 0) 1 76 := ⟨by decide +kernel, rfl⟩
theorem dX9_init_76 : AtI iX9_init 76 (.iconst 2) 1 77 := ⟨by decide +kernel, rfl⟩
theorem dX9_init_77 : AtI iX9_init 77 (.newarray .int) 2 79 := ⟨by decide +kernel, rfl⟩
theorem dX9_init_79 : AtI iX9_init 79 (.putfield 37) 3 82 := ⟨by decide +kernel, rfl⟩
theorem dX9_init_82 : AtI iX9_init 82 (.aload_n 0) 1 83 := ⟨by decide +kernel, rfl⟩
theorem dX9_init_83 : AtI iX9_init 83 (.bipush 8) 2 85 := ⟨by decide +kernel, rfl⟩
theorem dX9_init_85 : AtI iX9_init 85 (.newarray .int) 2 87 := ⟨by decide +kernel, rfl⟩
theorem dX9_init_87 : AtI iX9_init 87 (.putfield 40) 3 90 := ⟨by decide +kernel, rfl⟩
theorem dX9_init_90 : AtI iX9_init 90 (.aload_n 0) 1 91 := ⟨by decide +kernel, rfl⟩
theorem dX9_init_91 : AtI iX9_init 91 (.bipush 9) 2 93 := ⟨by decide +kernel, rfl⟩
theorem dX9_init_93 : AtI iX9_init 93 (.newarray .int) 2 95 := ⟨by decide +kernel, rfl⟩
theorem dX9_init_95 : AtI iX9_init 95 (.putfield 43) 3 98 := ⟨by decide +kernel, rfl⟩
theorem dX9_init_98 : AtI iX9_init 98 (.aload_n 0) 1 99 := ⟨by decide +kernel, rfl⟩
theorem dX9_init_99 : AtI iX9_init 99 (.bipush 9) 2 101 := ⟨by decide +kernel, rfl⟩
theorem dX9_init_101 : AtI iX9_init 101 (.newarray .int) 2 103 := ⟨by decide +kernel, rfl⟩
theorem dX9_init_103 : AtI iX9_init 103 (.putfield 46) 3 106 := ⟨by decide +kernel, rfl⟩
theorem dX9_init_106 : AtI iX9_init 106 (.aload_n 0) 1 107 := ⟨by decide +kernel, rfl⟩
theorem dX9_init_107 : AtI iX9_init 107 (.bipush 9) 2 109 := ⟨by decide +kernel, rfl⟩
theorem dX9_init_109 : AtI iX9_init 109 (.newarray .int) 2 111 := ⟨by decide +kernel, rfl⟩
theorem dX9_init_111 : AtI iX9_init 111 (.putfield 49) 3 114 := ⟨by decide +kernel, rfl⟩
theorem dX9_init_114 : AtI iX9_init 114 (.aload_n 0) 1 115 := ⟨by decide +kernel, rfl⟩
theorem dX9_init_115 : AtI iX9_init 115 (.bipush 9) 2 117 := ⟨by decide +kernel, rfl⟩
theorem dX9_init_117 : AtI iX9_init 117 (.newarray .int) 2 119 := ⟨by decide +kernel, rfl⟩
theorem dX9_init_119 : AtI iX9_init 119 (.putfield 52) 3 122 := ⟨by decide +kernel, rfl⟩
theorem dX9_init_122 : AtI iX9_init 122 (.aload_n 0) 1 123 := ⟨by decide +kernel, rfl⟩
theorem dX9_init_123 : AtI iX9_init 123 (.bipush 9) 2 125 := ⟨by decide +kernel, rfl⟩
theorem dX9_init_125 : AtI iX9_init 125 (.newarray .int) 2 127 := ⟨by decide +kernel, rfl⟩
theorem dX9_init_127 : AtI iX9_init 127 (.putfield 55) 3 130 := ⟨by decide +kernel, rfl⟩
theorem dX9_init_130 : AtI iX9_init 130 (.aload_n 0) 1 131 := ⟨by decide +kernel, rfl⟩
theorem dX9_init_131 : AtI iX9_init 131 (.bipush 18) 2 133 := ⟨by decide +kernel, rfl⟩
theorem dX9_init_133 : AtI iX9_init 133 (.newarray .int) 2 135 := ⟨by decide +kernel, rfl⟩
theorem dX9_init_135 : AtI iX9_init 135 (.putfield 58) 3 138 := ⟨by decide +kernel, rfl⟩
theorem dX9_init_138 : AtI iX9_init 138 (.iconst 0) 1 139 := ⟨by decide +kernel, rfl⟩
theorem dX9_init_139 : AtI iX9_init 139 (.istore_n 1) 1 140 := ⟨by decide +kernel, rfl⟩
theorem dX9_init_140 : AtI iX9_init 140 (.iload_n 1) 1 141 := ⟨by decide +kernel, rfl⟩
theorem dX9_init_141 : AtI iX9_init 141 (.iconst 4) 1 142 := ⟨by decide +kernel, rfl⟩
theorem dX9_init_142 : AtJ iX9_init 142 (.if_icmp .ge 16) 16 145 158 := ⟨by decide +kernel, rfl, by decide⟩
theorem dX9_init_145 : AtI iX9_init 145 (.aload_n 0) 1 146 := ⟨by decide +kernel, rfl⟩
theorem dX9_init_146 : AtI iX9_init 146 (.getfield 7) 3 149 := ⟨by decide +kernel, rfl⟩
theorem dX9_init_149 : AtI iX9_init 149 (.iload_n 1) 1 150 := ⟨by decide +kernel, rfl⟩
theorem dX9_init_150 : AtI iX9_init 150 (.iconst (-1)) 1 151 := ⟨by decide +kernel, rfl⟩
theorem dX9_init_151 : AtI iX9_init 151 .iastore 1 152 := ⟨by decide +kernel, rfl⟩
theorem dX9_init_152 : AtI iX9_init 152 (.iinc 1 1) 3 155 := ⟨by decide +kernel, rfl⟩
theorem dX9_init_155 : AtJ iX9_init 155 (.goto (-15)) (-15) 158 140 := ⟨by decide +kernel, rfl, by decide⟩
theorem dX9_init_158 : AtI iX9_init 158 (.iconst 0) 1 159 := ⟨by decide +kernel, rfl⟩
theorem dX9_init_159 : AtI iX9_init 159 (.istore_n 1) 1 160 := ⟨by decide +kernel, rfl⟩
theorem dX9_init_160 : AtI iX9_init 160 (.iload_n 1) 1 161 := ⟨by decide +kernel, rfl⟩
theorem dX9_init_161 : AtI iX9_init 161 (.bipush 8) 2 163 := ⟨by decide +kernel, rfl⟩
theorem dX9_init_163 : AtJ iX9_init 163 (.if_icmp .ge 39) 39 166 202 := ⟨by decide +kernel, rfl, by decide⟩
theorem dX9_init_166 : AtI iX9_init 166 (.aload_n 0) 1 167 := ⟨by decide +kernel, rfl⟩
theorem dX9_init_167 : AtI iX9_init 167 (.getfield 28) 3 170 := ⟨by decide +kernel, rfl⟩
theorem dX9_init_170 : AtI iX9_init 170 (.iconst 3) 1 171 := ⟨by decide +kernel, rfl⟩
theorem dX9_init_171 : AtI iX9_init 171 (.iload_n 1) 1 172 := ⟨by decide +kernel, rfl⟩
theorem dX9_init_172 : AtI iX9_init 172 .imul 1 173 := ⟨by decide +kernel, rfl⟩
theorem dX9_init_173 : AtI iX9_init 173 (.iconst 2) 1 174 := ⟨by decide +kernel, rfl⟩
theorem dX9_init_174 : AtI iX9_init 174 .iadd 1 175 := ⟨by decide +kernel, rfl⟩
theorem dX9_init_175 : AtI iX9_init 175 (.iconst 4) 1 176 := ⟨by decide +kernel, rfl⟩
theorem dX9_init_176 : AtI iX9_init 176 .iastore 1 177 := ⟨by decide +kernel, rfl⟩
theorem dX9_init_177 : AtI iX9_init 177 (.aload_n 0) 1 178 := ⟨by decide +kernel, rfl⟩
theorem dX9_init_178 : AtI iX9_init 178 (.getfield 31) 3 181 := ⟨by decide +kernel, rfl⟩
theorem dX9_init_181 : AtI iX9_init 181 (.iload_n 1) 1 182 := ⟨by decide +kernel, rfl⟩
theorem dX9_init_182 : AtI iX9_init 182 (.iload_n 1) 1 183 := ⟨by decide +kernel, rfl⟩
theorem dX9_init_183 : AtI iX9_init 183 (.iconst 2) 1 184 := ⟨by decide +kernel, rfl⟩
theorem dX9_init_184 : AtI iX9_init 184 .irem 1 185 := ⟨by decide +kernel, rfl⟩
theorem dX9_init_185 : AtJ iX9_init 185 (.ifCond .ne 8) 8 188 193 := ⟨by decide +kernel, rfl, by decide⟩
theorem dX9_init_188 : AtI iX9_init 188 (.bipush 6) 2 190 := ⟨by decide +kernel, rfl⟩
theorem dX9_init_190 : AtJ iX9_init 190 (.goto 5) 5 193 195 := ⟨by decide +kernel, rfl, by decide⟩
theorem dX9_init_193 : AtI iX9_init 193 (.bipush 18) 2 195 := ⟨by decide +kernel, rfl⟩
theorem dX9_init_195 : AtI iX9_init 195 .iastore 1 196 := ⟨by decide +kernel, rfl⟩
theorem dX9_init_196 : AtI iX9_init 196 (.iinc 1 1) 3 199 := ⟨by decide +kernel, rfl⟩
theorem dX9_init_199 : AtJ iX9_init 199 (.goto (-39)) (-39) 202 160 := ⟨by decide +kernel, rfl, by decide⟩
theorem dX9_init_202 : AtI iX9_init 202 (.aload_n 0) 1 203 := ⟨by decide +kernel, rfl⟩
theorem dX9_init_203 : AtI iX9_init 203 (.getfield 37) 3 206 := ⟨by decide +kernel, rfl⟩
theorem dX9_init_206 : AtI iX9_init 206 (.iconst 0) 1 207 := ⟨by decide +kernel, rfl⟩
theorem dX9_init_207 : AtI iX9_init 207 (.iconst 5) 1 208 := ⟨by decide +kernel, rfl⟩
theorem dX9_init_208 : AtI iX9_init 208 .iastore 1 209 := ⟨by decide +kernel, rfl⟩
theorem dX9_init_209 : AtI iX9_init 209 (.aload_n 0) 1 210 := ⟨by decide +kernel, rfl⟩
theorem dX9_init_210 : AtI iX9_init 210 (.getfield 37) 3 213 := ⟨by decide +kernel, rfl⟩
theorem dX9_init_213 : AtI iX9_init 213 (.iconst 1) 1 214 := ⟨by decide +kernel, rfl⟩
theorem dX9_init_214 : AtI iX9_init 214 (.iconst 2) 1 215 := ⟨by decide +kernel, rfl⟩
theorem dX9_init_215 : AtI iX9_init 215 .iastore 1 216 := ⟨by decide +kernel, rfl⟩
theorem dX9_init_216 : AtI iX9_init 216 (.aload_n 0) 1 217 := ⟨by decide +kernel, rfl⟩
theorem dX9_init_217 : AtI iX9_init 217 (.iconst (-1)) 1 218 := ⟨by decide +kernel, rfl⟩
theorem dX9_init_218 : AtI iX9_init 218 (.putfield 61) 3 221 := ⟨by decide +kernel, rfl⟩
theorem dX9_init_221 : AtI iX9_init 221 .return_ 1 222 := ⟨by decide +kernel, rfl⟩
theorem dX9_in_0 : AtI iX9_in 0 (.lload_n 0) 1 1 := ⟨by decide +kernel, rfl⟩
theorem dX9_in_1 : AtI iX9_in 1 (.lload_n 2) 1 2 := ⟨by decide +kernel, rfl⟩
theorem dX9_in_2 : AtI iX9_in 2 .lcmp 1 3 := ⟨by decide +kernel, rfl⟩
theorem dX9_in_3 : AtJ iX9_in 3 (.ifCond .lt 14) 14 6 17 := ⟨by decide +kernel, rfl, by decide⟩
theorem dX9_in_6 : AtI iX9_in 6 (.lload_n 0) 1 7 := ⟨by decide +kernel, rfl⟩
theorem dX9_in_7 : AtI iX9_in 7 (.lload 4) 2 9 := ⟨by decide +kernel, rfl⟩
theorem dX9_in_9 : AtI iX9_in 9 .lcmp 1 10 := ⟨by decide +kernel, rfl⟩
theorem dX9_in_10 : AtJ iX9_in 10 (.ifCond .gt 7) 7 13 17 := ⟨by decide +kernel, rfl, by decide⟩
theorem dX9_in_13 : AtI iX9_in 13 (.iconst 1) 1 14 := ⟨by decide +kernel, rfl⟩
theorem dX9_in_14 : AtJ iX9_in 14 (.goto 4) 4 17 18 := ⟨by decide +kernel, rfl, by decide⟩
theorem dX9_in_17 : AtI iX9_in 17 (.iconst 0) 1 18 := ⟨by decide +kernel, rfl⟩
theorem dX9_in_18 : AtI iX9_in 18 .ireturn 1 19 := ⟨by decide +kernel, rfl⟩
theorem dX9_isTwo_0 : AtI iX9_isTwo 0 (.iload_n 0) 1 1 := ⟨by decide +kernel, rfl⟩
theorem dX9_isTwo_1 : AtI iX9_isTwo 1 .i2l 1 2 := ⟨by decide +kernel, rfl⟩
theorem dX9_isTwo_2 : AtI iX9_isTwo 2 (.lconst 0) 1 3 := ⟨by decide +kernel, rfl⟩
theorem dX9_isTwo_3 : AtI iX9_isTwo 3 (.lconst 1) 1 4 := ⟨by decide +kernel, rfl⟩
theorem dX9_isTwo_4 : AtI iX9_isTwo 4 (.invokestatic 65) 3 7 := ⟨by decide +kernel, rfl⟩
theorem dX9_isTwo_7 : AtI iX9_isTwo 7 .ireturn 1 8 := ⟨by decide +kernel, rfl⟩
theorem dX9_isIn_0 : AtI iX9_isIn 0 (.iload_n 0) 1 1 := ⟨by decide +kernel, rfl⟩
theorem dX9_isIn_1 : AtI iX9_isIn 1 (.iload_n 1) 1 2 := ⟨by decide +kernel, rfl⟩
theorem dX9_isIn_2 : AtI iX9_isIn 2 .ishr 1 3 := ⟨by decide +kernel, rfl⟩
theorem dX9_isIn_3 : AtI iX9_isIn 3 (.iconst 1) 1 4 := ⟨by decide +kernel, rfl⟩
theorem dX9_isIn_4 : AtI iX9_isIn 4 .iand 1 5 := ⟨by decide +kernel, rfl⟩
theorem dX9_isIn_5 : AtI iX9_isIn 5 (.iconst 1) 1 6 := ⟨by decide +kernel, rfl⟩
theorem dX9_isIn_6 : AtJ iX9_isIn 6 (.if_icmp .ne 7) 7 9 13 := ⟨by decide +kernel, rfl, by decide⟩
theorem dX9_isIn_9 : AtI iX9_isIn 9 (.iconst 1) 1 10 := ⟨by decide +kernel, rfl⟩
theorem dX9_isIn_10 : AtJ iX9_isIn 10 (.goto 4) 4 13 14 := ⟨by decide +kernel, rfl, by decide⟩
theorem dX9_isIn_13 : AtI iX9_isIn 13 (.iconst 0) 1 14 := ⟨by decide +kernel, rfl⟩
theorem dX9_isIn_14 : AtI iX9_isIn 14 .ireturn 1 15 := ⟨by decide +kernel, rfl⟩
theorem dX9_lesser_0 : AtI iX9_lesser 0 (.iload_n 0) 1 1 := ⟨by decide +kernel, rfl⟩
theorem dX9_lesser_1 : AtI iX9_lesser 1 (.iload_n 1) 1 2 := ⟨by decide +kernel, rfl⟩
theorem dX9_lesser_2 : AtJ iX9_lesser 2 (.if_icmp .ge 7) 7 5 9 := ⟨by decide +kernel, rfl, by decide⟩
theorem dX9_lesser_5 : AtI iX9_lesser 5 (.iload_n 0) 1 6 := ⟨by decide +kernel, rfl⟩
theorem dX9_lesser_6 : AtJ iX9_lesser 6 (.goto 4) 4 9 10 := ⟨by decide +kernel, rfl, by decide⟩
theorem dX9_lesser_9 : AtI iX9_lesser 9 (.iload_n 1) 1 10 := ⟨by decide +kernel, rfl⟩
theorem dX9_lesser_10 : AtI iX9_lesser 10 .ireturn 1 11 := ⟨by decide +kernel, rfl⟩
theorem dX9_amount_0 : AtI iX9_amount 0 (.iload_n 0) 1 1 := ⟨by decide +kernel, rfl⟩
theorem dX9_amount_1 : AtJ iX9_amount 1 (.ifCond .ge 8) 8 4 9 := ⟨by decide +kernel, rfl, by decide⟩
theorem dX9_amount_4 : AtI iX9_amount 4 (.iload_n 0) 1 5 := ⟨by decide +kernel, rfl⟩
theorem dX9_amount_5 : AtI iX9_amount 5 .ineg 1 6 := ⟨by decide +kernel, rfl⟩
theorem dX9_amount_6 : AtJ iX9_amount 6 (.goto 4) 4 9 10 := ⟨by decide +kernel, rfl, by decide⟩
theorem dX9_amount_9 : AtI iX9_amount 9 (.iload_n 0) 1 10 := ⟨by decide +kernel, rfl⟩
theorem dX9_amount_10 : AtI iX9_amount 10 .ireturn 1 11 := ⟨by decide +kernel, rfl⟩
theorem dX9_common_0 : AtI iX9_common 0 (.iload_n 0) 1 1 := ⟨by decide +kernel, rfl⟩
theorem dX9_common_1 : AtI iX9_common 1 (.istore_n 2) 1 2 := ⟨by decide +kernel, rfl⟩
theorem dX9_common_2 : AtI iX9_common 2 (.iload_n 1) 1 3 := ⟨by decide +kernel, rfl⟩
theorem dX9_common_3 : AtI iX9_common 3 (.istore_n 3) 1 4 := ⟨by decide +kernel, rfl⟩
theorem dX9_common_4 : AtI iX9_common 4 (.iload_n 3) 1 5 := ⟨by decide +kernel, rfl⟩
theorem dX9_common_5 : AtJ iX9_common 5 (.ifCond .eq 16) 16 8 21 := ⟨by decide +kernel, rfl, by decide⟩
theorem dX9_common_8 : AtI iX9_common 8 (.iload_n 2) 1 9 := ⟨by decide +kernel, rfl⟩
theorem dX9_common_9 : AtI iX9_common 9 (.iload_n 3) 1 10 := ⟨by decide +kernel, rfl⟩
theorem dX9_common_10 : AtI iX9_common 10 .irem 1 11 := ⟨by decide +kernel, rfl⟩
theorem dX9_common_11 : AtI iX9_common 11 (.istore 4) 2 13 := ⟨by decide +kernel, rfl⟩
theorem dX9_common_13 : AtI iX9_common 13 (.iload_n 3) 1 14 := ⟨by decide +kernel, rfl⟩
theorem dX9_common_14 : AtI iX9_common 14 (.istore_n 2) 1 15 := ⟨by decide +kernel, rfl⟩
theorem dX9_common_15 : AtI iX9_common 15 (.iload 4) 2 17 := ⟨by decide +kernel, rfl⟩
theorem dX9_common_17 : AtI iX9_common 17 (.istore_n 3) 1 18 := ⟨by decide +kernel, rfl⟩
theorem dX9_common_18 : AtJ iX9_common 18 (.goto (-14)) (-14) 21 4 := ⟨by decide +kernel, rfl, by decide⟩
theorem dX9_common_21 : AtI iX9_common 21 (.iload_n 2) 1 22 := ⟨by decide +kernel, rfl⟩
theorem dX9_common_22 : AtI iX9_common 22 .ireturn 1 23 := ⟨by decide +kernel, rfl⟩
theorem dX9_finds_0 : AtI iX9_finds 0 (.aload_n 0) 1 1 := ⟨by decide +kernel, rfl⟩
theorem dX9_finds_1 : AtI iX9_finds 1 (.iload_n 1) 1 2 := ⟨by decide +kernel, rfl⟩
theorem dX9_finds_2 : AtI iX9_finds 2 (.putfield 69) 3 5 := ⟨by decide +kernel, rfl⟩
theorem dX9_finds_5 : AtI iX9_finds 5 (.bipush (-10)) 2 7 := ⟨by decide +kernel, rfl⟩
theorem dX9_finds_7 : AtI iX9_finds 7 (.iload_n 1) 1 8 := ⟨by decide +kernel, rfl⟩
theorem dX9_finds_8 : AtI iX9_finds 8 .isub 1 9 := ⟨by decide +kernel, rfl⟩
theorem dX9_finds_9 : AtI iX9_finds 9 .ireturn 1 10 := ⟨by decide +kernel, rfl⟩
theorem dX9_isSheet_0 : AtI iX9_isSheet 0 (.iload_n 0) 1 1 := ⟨by decide +kernel, rfl⟩
theorem dX9_isSheet_1 : AtI iX9_isSheet 1 .i2l 1 2 := ⟨by decide +kernel, rfl⟩
theorem dX9_isSheet_2 : AtI iX9_isSheet 2 (.lconst 0) 1 3 := ⟨by decide +kernel, rfl⟩
theorem dX9_isSheet_3 : AtI iX9_isSheet 3 (.ldc2_w 72) 3 6 := ⟨by decide +kernel, rfl⟩
theorem dX9_isSheet_6 : AtI iX9_isSheet 6 (.invokestatic 65) 3 9 := ⟨by decide +kernel, rfl⟩
theorem dX9_isSheet_9 : AtI iX9_isSheet 9 .ireturn 1 10 := ⟨by decide +kernel, rfl⟩
theorem dX9_sheet_0 : AtI iX9_sheet 0 (.iload_n 1) 1 1 := ⟨by decide +kernel, rfl⟩
theorem dX9_sheet_1 : AtI iX9_sheet 1 (.invokestatic 74) 3 4 := ⟨by decide +kernel, rfl⟩
theorem dX9_sheet_4 : AtJ iX9_sheet 4 (.ifCond .eq 21) 21 7 25 := ⟨by decide +kernel, rfl, by decide⟩
theorem dX9_sheet_7 : AtI iX9_sheet 7 (.iload_n 2) 1 8 := ⟨by decide +kernel, rfl⟩
theorem dX9_sheet_8 : AtI iX9_sheet 8 .i2l 1 9 := ⟨by decide +kernel, rfl⟩
theorem dX9_sheet_9 : AtI iX9_sheet 9 (.lconst 0) 1 10 := ⟨by decide +kernel, rfl⟩
theorem dX9_sheet_10 : AtI iX9_sheet 10 (.ldc2_w 78) 3 13 := ⟨by decide +kernel, rfl⟩
theorem dX9_sheet_13 : AtI iX9_sheet 13 (.invokestatic 65) 3 16 := ⟨by decide +kernel, rfl⟩
theorem dX9_sheet_16 : AtJ iX9_sheet 16 (.ifCond .eq 9) 9 19 25 := ⟨by decide +kernel, rfl, by decide⟩
theorem dX9_sheet_19 : AtI iX9_sheet 19 (.iload_n 3) 1 20 := ⟨by decide +kernel, rfl⟩
theorem dX9_sheet_20 : AtI iX9_sheet 20 (.bipush 60) 2 22 := ⟨by decide +kernel, rfl⟩
theorem dX9_sheet_22 : AtJ iX9_sheet 22 (.if_icmp .le 6) 6 25 28 := ⟨by decide +kernel, rfl, by decide⟩
theorem dX9_sheet_25 : AtI iX9_sheet 25 (.bipush (-2)) 2 27 := ⟨by decide +kernel, rfl⟩
theorem dX9_sheet_27 : AtI iX9_sheet 27 .ireturn 1 28 := ⟨by decide +kernel, rfl⟩
theorem dX9_sheet_28 : AtI iX9_sheet 28 (.iload_n 3) 1 29 := ⟨by decide +kernel, rfl⟩
theorem dX9_sheet_29 : AtJ iX9_sheet 29 (.ifCond .ge 9) 9 32 38 := ⟨by decide +kernel, rfl, by decide⟩
theorem dX9_sheet_32 : AtI iX9_sheet 32 (.aload_n 0) 1 33 := ⟨by decide +kernel, rfl⟩
theorem dX9_sheet_33 : AtI iX9_sheet 33 (.iconst 5) 1 34 := ⟨by decide +kernel, rfl⟩
theorem dX9_sheet_34 : AtI iX9_sheet 34 (.invokevirtual 80) 3 37 := ⟨by decide +kernel, rfl⟩
theorem dX9_sheet_37 : AtI iX9_sheet 37 .ireturn 1 38 := ⟨by decide +kernel, rfl⟩
theorem dX9_sheet_38 : AtI iX9_sheet 38 (.aload_n 0) 1 39 := ⟨by decide +kernel, rfl⟩
theorem dX9_sheet_39 : AtI iX9_sheet 39 (.getfield 7) 3 42 := ⟨by decide +kernel, rfl⟩
theorem dX9_sheet_42 : AtI iX9_sheet 42 (.iload_n 1) 1 43 := ⟨by decide +kernel, rfl⟩
theorem dX9_sheet_43 : AtI iX9_sheet 43 (.iload_n 2) 1 44 := ⟨by decide +kernel, rfl⟩
theorem dX9_sheet_44 : AtI iX9_sheet 44 .iastore 1 45 := ⟨by decide +kernel, rfl⟩
theorem dX9_sheet_45 : AtI iX9_sheet 45 (.aload_n 0) 1 46 := ⟨by decide +kernel, rfl⟩
theorem dX9_sheet_46 : AtI iX9_sheet 46 (.getfield 13) 3 49 := ⟨by decide +kernel, rfl⟩
theorem dX9_sheet_49 : AtI iX9_sheet 49 (.iload_n 1) 1 50 := ⟨by decide +kernel, rfl⟩
theorem dX9_sheet_50 : AtI iX9_sheet 50 (.iload_n 3) 1 51 := ⟨by decide +kernel, rfl⟩
theorem dX9_sheet_51 : AtI iX9_sheet 51 .iastore 1 52 := ⟨by decide +kernel, rfl⟩
theorem dX9_sheet_52 : AtI iX9_sheet 52 (.iconst 0) 1 53 := ⟨by decide +kernel, rfl⟩
theorem dX9_sheet_53 : AtI iX9_sheet 53 (.istore 4) 2 55 := ⟨by decide +kernel, rfl⟩
theorem dX9_sheet_55 : AtI iX9_sheet 55 (.iload 4) 2 57 := ⟨by decide +kernel, rfl⟩
theorem dX9_sheet_57 : AtI iX9_sheet 57 (.iload_n 3) 1 58 := ⟨by decide +kernel, rfl⟩
theorem dX9_sheet_58 : AtJ iX9_sheet 58 (.if_icmp .ge 22) 22 61 80 := ⟨by decide +kernel, rfl, by decide⟩
theorem dX9_sheet_61 : AtI iX9_sheet 61 (.aload_n 0) 1 62 := ⟨by decide +kernel, rfl⟩
theorem dX9_sheet_62 : AtI iX9_sheet 62 (.getfield 16) 3 65 := ⟨by decide +kernel, rfl⟩
theorem dX9_sheet_65 : AtI iX9_sheet 65 (.bipush 60) 2 67 := ⟨by decide +kernel, rfl⟩
theorem dX9_sheet_67 : AtI iX9_sheet 67 (.iload_n 1) 1 68 := ⟨by decide +kernel, rfl⟩
theorem dX9_sheet_68 : AtI iX9_sheet 68 .imul 1 69 := ⟨by decide +kernel, rfl⟩
theorem dX9_sheet_69 : AtI iX9_sheet 69 (.iload 4) 2 71 := ⟨by decide +kernel, rfl⟩
theorem dX9_sheet_71 : AtI iX9_sheet 71 .iadd 1 72 := ⟨by decide +kernel, rfl⟩
theorem dX9_sheet_72 : AtI iX9_sheet 72 (.iconst 0) 1 73 := ⟨by decide +kernel, rfl⟩
theorem dX9_sheet_73 : AtI iX9_sheet 73 .iastore 1 74 := ⟨by decide +kernel, rfl⟩
theorem dX9_sheet_74 : AtI iX9_sheet 74 (.iinc 4 1) 3 77 := ⟨by decide +kernel, rfl⟩
theorem dX9_sheet_77 : AtJ iX9_sheet 77 (.goto (-22)) (-22) 80 55 := ⟨by decide +kernel, rfl, by decide⟩
theorem dX9_sheet_80 : AtI iX9_sheet 80 (.iload_n 3) 1 81 := ⟨by decide +kernel, rfl⟩
theorem dX9_sheet_81 : AtI iX9_sheet 81 .ireturn 1 82 := ⟨by decide +kernel, rfl⟩
theorem dX9_lose_0 : AtI iX9_lose 0 (.iload_n 1) 1 1 := ⟨by decide +kernel, rfl⟩
theorem dX9_lose_1 : AtI iX9_lose 1 (.invokestatic 74) 3 4 := ⟨by decide +kernel, rfl⟩
theorem dX9_lose_4 : AtJ iX9_lose 4 (.ifCond .ne 6) 6 7 10 := ⟨by decide +kernel, rfl, by decide⟩
theorem dX9_lose_7 : AtI iX9_lose 7 (.bipush (-2)) 2 9 := ⟨by decide +kernel, rfl⟩
theorem dX9_lose_9 : AtI iX9_lose 9 .ireturn 1 10 := ⟨by decide +kernel, rfl⟩
theorem dX9_lose_10 : AtI iX9_lose 10 (.aload_n 0) 1 11 := ⟨by decide +kernel, rfl⟩
theorem dX9_lose_11 : AtI iX9_lose 11 (.getfield 7) 3 14 := ⟨by decide +kernel, rfl⟩
theorem dX9_lose_14 : AtI iX9_lose 14 (.iload_n 1) 1 15 := ⟨by decide +kernel, rfl⟩
theorem dX9_lose_15 : AtI iX9_lose 15 .iaload 1 16 := ⟨by decide +kernel, rfl⟩
theorem dX9_lose_16 : AtJ iX9_lose 16 (.ifCond .ge 9) 9 19 25 := ⟨by decide +kernel, rfl, by decide⟩
theorem dX9_lose_19 : AtI iX9_lose 19 (.aload_n 0) 1 20 := ⟨by decide +kernel, rfl⟩
theorem dX9_lose_20 : AtI iX9_lose 20 (.iconst 1) 1 21 := ⟨by decide +kernel, rfl⟩
theorem dX9_lose_21 : AtI iX9_lose 21 (.invokevirtual 80) 3 24 := ⟨by decide +kernel, rfl⟩
theorem dX9_lose_24 : AtI iX9_lose 24 .ireturn 1 25 := ⟨by decide +kernel, rfl⟩
theorem dX9_lose_25 : AtI iX9_lose 25 (.aload_n 0) 1 26 := ⟨by decide +kernel, rfl⟩
theorem dX9_lose_26 : AtI iX9_lose 26 (.getfield 7) 3 29 := ⟨by decide +kernel, rfl⟩
theorem dX9_lose_29 : AtI iX9_lose 29 (.iload_n 1) 1 30 := ⟨by decide +kernel, rfl⟩
theorem dX9_lose_30 : AtI iX9_lose 30 (.iconst (-1)) 1 31 := ⟨by decide +kernel, rfl⟩
theorem dX9_lose_31 : AtI iX9_lose 31 .iastore 1 32 := ⟨by decide +kernel, rfl⟩
theorem dX9_lose_32 : AtI iX9_lose 32 (.aload_n 0) 1 33 := ⟨by decide +kernel, rfl⟩
theorem dX9_lose_33 : AtI iX9_lose 33 (.getfield 13) 3 36 := ⟨by decide +kernel, rfl⟩
theorem dX9_lose_36 : AtI iX9_lose 36 (.iload_n 1) 1 37 := ⟨by decide +kernel, rfl⟩
theorem dX9_lose_37 : AtI iX9_lose 37 .iaload 1 38 := ⟨by decide +kernel, rfl⟩
theorem dX9_lose_38 : AtI iX9_lose 38 .ireturn 1 39 := ⟨by decide +kernel, rfl⟩
theorem dX9_lacks_0 : AtI iX9_lacks 0 (.aload_n 0) 1 1 := ⟨by decide +kernel, rfl⟩
theorem dX9_lacks_1 : AtI iX9_lacks 1 (.getfield 7) 3 4 := ⟨by decide +kernel, rfl⟩
theorem dX9_lacks_4 : AtI iX9_lacks 4 (.iload_n 1) 1 5 := ⟨by decide +kernel, rfl⟩
theorem dX9_lacks_5 : AtI iX9_lacks 5 .iaload 1 6 := ⟨by decide +kernel, rfl⟩
theorem dX9_lacks_6 : AtJ iX9_lacks 6 (.ifCond .ge 9) 9 9 15 := ⟨by decide +kernel, rfl, by decide⟩
theorem dX9_lacks_9 : AtI iX9_lacks 9 (.aload_n 0) 1 10 := ⟨by decide +kernel, rfl⟩
theorem dX9_lacks_10 : AtI iX9_lacks 10 (.iconst 1) 1 11 := ⟨by decide +kernel, rfl⟩
theorem dX9_lacks_11 : AtI iX9_lacks 11 (.invokevirtual 80) 3 14 := ⟨by decide +kernel, rfl⟩
theorem dX9_lacks_14 : AtI iX9_lacks 14 .ireturn 1 15 := ⟨by decide +kernel, rfl⟩
theorem dX9_lacks_15 : AtI iX9_lacks 15 (.aload_n 0) 1 16 := ⟨by decide +kernel, rfl⟩
theorem dX9_lacks_16 : AtI iX9_lacks 16 (.getfield 7) 3 19 := ⟨by decide +kernel, rfl⟩
theorem dX9_lacks_19 : AtI iX9_lacks 19 (.iload_n 1) 1 20 := ⟨by decide +kernel, rfl⟩
theorem dX9_lacks_20 : AtI iX9_lacks 20 .iaload 1 21 := ⟨by decide +kernel, rfl⟩
theorem dX9_lacks_21 : AtI iX9_lacks 21 (.iload_n 2) 1 22 := ⟨by decide +kernel, rfl⟩
theorem dX9_lacks_22 : AtJ iX9_lacks 22 (.if_icmp .eq 9) 9 25 31 := ⟨by decide +kernel, rfl, by decide⟩
theorem dX9_lacks_25 : AtI iX9_lacks 25 (.aload_n 0) 1 26 := ⟨by decide +kernel, rfl⟩
theorem dX9_lacks_26 : AtI iX9_lacks 26 (.iconst 3) 1 27 := ⟨by decide +kernel, rfl⟩
theorem dX9_lacks_27 : AtI iX9_lacks 27 (.invokevirtual 80) 3 30 := ⟨by decide +kernel, rfl⟩
theorem dX9_lacks_30 : AtI iX9_lacks 30 .ireturn 1 31 := ⟨by decide +kernel, rfl⟩
theorem dX9_lacks_31 : AtI iX9_lacks 31 (.iload_n 3) 1 32 := ⟨by decide +kernel, rfl⟩
theorem dX9_lacks_32 : AtI iX9_lacks 32 .i2l 1 33 := ⟨by decide +kernel, rfl⟩
theorem dX9_lacks_33 : AtI iX9_lacks 33 (.lconst 0) 1 34 := ⟨by decide +kernel, rfl⟩
theorem dX9_lacks_34 : AtI iX9_lacks 34 (.aload_n 0) 1 35 := ⟨by decide +kernel, rfl⟩
theorem dX9_lacks_35 : AtI iX9_lacks 35 (.getfield 13) 3 38 := ⟨by decide +kernel, rfl⟩
theorem dX9_lacks_38 : AtI iX9_lacks 38 (.iload_n 1) 1 39 := ⟨by decide +kernel, rfl⟩
theorem dX9_lacks_39 : AtI iX9_lacks 39 .iaload 1 40 := ⟨by decide +kernel, rfl⟩
theorem dX9_lacks_40 : AtI iX9_lacks 40 (.iconst 1) 1 41 := ⟨by decide +kernel, rfl⟩
theorem dX9_lacks_41 : AtI iX9_lacks 41 .isub 1 42 := ⟨by decide +kernel, rfl⟩
theorem dX9_lacks_42 : AtI iX9_lacks 42 .i2l 1 43 := ⟨by decide +kernel, rfl⟩
theorem dX9_lacks_43 : AtI iX9_lacks 43 (.invokestatic 65) 3 46 := ⟨by decide +kernel, rfl⟩
theorem dX9_lacks_46 : AtJ iX9_lacks 46 (.ifCond .eq 7) 7 49 53 := ⟨by decide +kernel, rfl, by decide⟩
theorem dX9_lacks_49 : AtI iX9_lacks 49 (.iconst 0) 1 50 := ⟨by decide +kernel, rfl⟩
theorem dX9_lacks_50 : AtJ iX9_lacks 50 (.goto 8) 8 53 58 := ⟨by decide +kernel, rfl, by decide⟩
theorem dX9_lacks_53 : AtI iX9_lacks 53 (.aload_n 0) 1 54 := ⟨by decide +kernel, rfl⟩
theorem dX9_lacks_54 : AtI iX9_lacks 54 (.iconst 2) 1 55 := ⟨by decide +kernel, rfl⟩
theorem dX9_lacks_55 : AtI iX9_lacks 55 (.invokevirtual 80) 3 58 := ⟨by decide +kernel, rfl⟩
theorem dX9_lacks_58 : AtI iX9_lacks 58 .ireturn 1 59 := ⟨by decide +kernel, rfl⟩
theorem dX9_cut_0 : AtI iX9_cut 0 (.iload_n 0) 1 1 := ⟨by decide +kernel, rfl⟩
theorem dX9_cut_1 : AtJ iX9_cut 1 (.ifCond .ne 8) 8 4 9 := ⟨by decide +kernel, rfl, by decide⟩
theorem dX9_cut_4 : AtI iX9_cut 4 (.iload_n 1) 1 5 := ⟨by decide +kernel, rfl⟩
theorem dX9_cut_5 : AtI iX9_cut 5 .i2b 1 6 := ⟨by decide +kernel, rfl⟩
theorem dX9_cut_6 : AtJ iX9_cut 6 (.goto 14) 14 9 20 := ⟨by decide +kernel, rfl, by decide⟩
theorem dX9_cut_9 : AtI iX9_cut 9 (.iload_n 0) 1 10 := ⟨by decide +kernel, rfl⟩
theorem dX9_cut_10 : AtI iX9_cut 10 (.iconst 1) 1 11 := ⟨by decide +kernel, rfl⟩
theorem dX9_cut_11 : AtJ iX9_cut 11 (.if_icmp .ne 8) 8 14 19 := ⟨by decide +kernel, rfl, by decide⟩
theorem dX9_cut_14 : AtI iX9_cut 14 (.iload_n 1) 1 15 := ⟨by decide +kernel, rfl⟩
theorem dX9_cut_15 : AtI iX9_cut 15 .i2s 1 16 := ⟨by decide +kernel, rfl⟩
theorem dX9_cut_16 : AtJ iX9_cut 16 (.goto 4) 4 19 20 := ⟨by decide +kernel, rfl, by decide⟩
theorem dX9_cut_19 : AtI iX9_cut 19 (.iload_n 1) 1 20 := ⟨by decide +kernel, rfl⟩
theorem dX9_cut_20 : AtI iX9_cut 20 .ireturn 1 21 := ⟨by decide +kernel, rfl⟩
theorem dX9_lay_0 : AtI iX9_lay 0 (.iload_n 1) 1 1 := ⟨by decide +kernel, rfl⟩
theorem dX9_lay_1 : AtI iX9_lay 1 (.invokestatic 74) 3 4 := ⟨by decide +kernel, rfl⟩
theorem dX9_lay_4 : AtJ iX9_lay 4 (.ifCond .eq 15) 15 7 19 := ⟨by decide +kernel, rfl, by decide⟩
theorem dX9_lay_7 : AtI iX9_lay 7 (.iload_n 2) 1 8 := ⟨by decide +kernel, rfl⟩
theorem dX9_lay_8 : AtI iX9_lay 8 .i2l 1 9 := ⟨by decide +kernel, rfl⟩
theorem dX9_lay_9 : AtI iX9_lay 9 (.lconst 0) 1 10 := ⟨by decide +kernel, rfl⟩
theorem dX9_lay_10 : AtI iX9_lay 10 (.ldc2_w 78) 3 13 := ⟨by decide +kernel, rfl⟩
theorem dX9_lay_13 : AtI iX9_lay 13 (.invokestatic 65) 3 16 := ⟨by decide +kernel, rfl⟩
theorem dX9_lay_16 : AtJ iX9_lay 16 (.ifCond .ne 6) 6 19 22 := ⟨by decide +kernel, rfl, by decide⟩
theorem dX9_lay_19 : AtI iX9_lay 19 (.bipush (-2)) 2 21 := ⟨by decide +kernel, rfl⟩
theorem dX9_lay_21 : AtI iX9_lay 21 .ireturn 1 22 := ⟨by decide +kernel, rfl⟩
theorem dX9_lay_22 : AtI iX9_lay 22 (.aload_n 0) 1 23 := ⟨by decide +kernel, rfl⟩
theorem dX9_lay_23 : AtI iX9_lay 23 (.iload_n 1) 1 24 := ⟨by decide +kernel, rfl⟩
theorem dX9_lay_24 : AtI iX9_lay 24 (.iload_n 2) 1 25 := ⟨by decide +kernel, rfl⟩
theorem dX9_lay_25 : AtI iX9_lay 25 (.iload_n 3) 1 26 := ⟨by decide +kernel, rfl⟩
theorem dX9_lay_26 : AtI iX9_lay 26 (.invokevirtual 84) 3 29 := ⟨by decide +kernel, rfl⟩
theorem dX9_lay_29 : AtI iX9_lay 29 (.istore 5) 2 31 := ⟨by decide +kernel, rfl⟩
theorem dX9_lay_31 : AtI iX9_lay 31 (.iload 5) 2 33 := ⟨by decide +kernel, rfl⟩
theorem dX9_lay_33 : AtJ iX9_lay 33 (.ifCond .eq 6) 6 36 39 := ⟨by decide +kernel, rfl, by decide⟩
theorem dX9_lay_36 : AtI iX9_lay 36 (.iload 5) 2 38 := ⟨by decide +kernel, rfl⟩
theorem dX9_lay_38 : AtI iX9_lay 38 .ireturn 1 39 := ⟨by decide +kernel, rfl⟩
theorem dX9_lay_39 : AtI iX9_lay 39 (.aload_n 0) 1 40 := ⟨by decide +kernel, rfl⟩
theorem dX9_lay_40 : AtI iX9_lay 40 (.getfield 16) 3 43 := ⟨by decide +kernel, rfl⟩
theorem dX9_lay_43 : AtI iX9_lay 43 (.bipush 60) 2 45 := ⟨by decide +kernel, rfl⟩
theorem dX9_lay_45 : AtI iX9_lay 45 (.iload_n 1) 1 46 := ⟨by decide +kernel, rfl⟩
theorem dX9_lay_46 : AtI iX9_lay 46 .imul 1 47 := ⟨by decide +kernel, rfl⟩
theorem dX9_lay_47 : AtI iX9_lay 47 (.iload_n 3) 1 48 := ⟨by decide +kernel, rfl⟩
theorem dX9_lay_48 : AtI iX9_lay 48 .iadd 1 49 := ⟨by decide +kernel, rfl⟩
theorem dX9_lay_49 : AtI iX9_lay 49 (.iload_n 2) 1 50 := ⟨by decide +kernel, rfl⟩
theorem dX9_lay_50 : AtI iX9_lay 50 (.iload 4) 2 52 := ⟨by decide +kernel, rfl⟩
theorem dX9_lay_52 : AtI iX9_lay 52 (.invokestatic 88) 3 55 := ⟨by decide +kernel, rfl⟩
theorem dX9_lay_55 : AtI iX9_lay 55 .iastore 1 56 := ⟨by decide +kernel, rfl⟩
theorem dX9_lay_56 : AtI iX9_lay 56 (.iconst 1) 1 57 := ⟨by decide +kernel, rfl⟩
theorem dX9_lay_57 : AtI iX9_lay 57 .ireturn 1 58 := ⟨by decide +kernel, rfl⟩
theorem dX9_get_0 : AtI iX9_get 0 (.iload_n 1) 1 1 := ⟨by decide +kernel, rfl⟩
theorem dX9_get_1 : AtI iX9_get 1 (.invokestatic 74) 3 4 := ⟨by decide +kernel, rfl⟩
theorem dX9_get_4 : AtJ iX9_get 4 (.ifCond .eq 25) 25 7 29 := ⟨by decide +kernel, rfl, by decide⟩
theorem dX9_get_7 : AtI iX9_get 7 (.iload_n 2) 1 8 := ⟨by decide +kernel, rfl⟩
theorem dX9_get_8 : AtI iX9_get 8 .i2l 1 9 := ⟨by decide +kernel, rfl⟩
theorem dX9_get_9 : AtI iX9_get 9 (.lconst 0) 1 10 := ⟨by decide +kernel, rfl⟩
theorem dX9_get_10 : AtI iX9_get 10 (.ldc2_w 78) 3 13 := ⟨by decide +kernel, rfl⟩
theorem dX9_get_13 : AtI iX9_get 13 (.invokestatic 65) 3 16 := ⟨by decide +kernel, rfl⟩
theorem dX9_get_16 : AtJ iX9_get 16 (.ifCond .eq 13) 13 19 29 := ⟨by decide +kernel, rfl, by decide⟩
theorem dX9_get_19 : AtI iX9_get 19 (.aload_n 0) 1 20 := ⟨by decide +kernel, rfl⟩
theorem dX9_get_20 : AtI iX9_get 20 (.iload_n 1) 1 21 := ⟨by decide +kernel, rfl⟩
theorem dX9_get_21 : AtI iX9_get 21 (.iload_n 2) 1 22 := ⟨by decide +kernel, rfl⟩
theorem dX9_get_22 : AtI iX9_get 22 (.iload_n 3) 1 23 := ⟨by decide +kernel, rfl⟩
theorem dX9_get_23 : AtI iX9_get 23 (.invokevirtual 84) 3 26 := ⟨by decide +kernel, rfl⟩
theorem dX9_get_26 : AtJ iX9_get 26 (.ifCond .eq 6) 6 29 32 := ⟨by decide +kernel, rfl, by decide⟩
theorem dX9_get_29 : AtI iX9_get 29 (.ldc 92) 2 31 := ⟨by decide +kernel, rfl⟩
theorem dX9_get_31 : AtI iX9_get 31 .ireturn 1 32 := ⟨by decide +kernel, rfl⟩
theorem dX9_get_32 : AtI iX9_get 32 (.aload_n 0) 1 33 := ⟨by decide +kernel, rfl⟩
theorem dX9_get_33 : AtI iX9_get 33 (.getfield 16) 3 36 := ⟨by decide +kernel, rfl⟩
theorem dX9_get_36 : AtI iX9_get 36 (.bipush 60) 2 38 := ⟨by decide +kernel, rfl⟩
theorem dX9_get_38 : AtI iX9_get 38 (.iload_n 1) 1 39 := ⟨by decide +kernel, rfl⟩
theorem dX9_get_39 : AtI iX9_get 39 .imul 1 40 := ⟨by decide +kernel, rfl⟩
theorem dX9_get_40 : AtI iX9_get 40 (.iload_n 3) 1 41 := ⟨by decide +kernel, rfl⟩
theorem dX9_get_41 : AtI iX9_get 41 .iadd 1 42 := ⟨by decide +kernel, rfl⟩
theorem dX9_get_42 : AtI iX9_get 42 .iaload 1 43 := ⟨by decide +kernel, rfl⟩
theorem dX9_get_43 : AtI iX9_get 43 .ireturn 1 44 := ⟨by decide +kernel, rfl⟩
theorem dX9_copy_0 : AtI iX9_copy 0 (.iload_n 1) 1 1 := ⟨by decide +kernel, rfl⟩
theorem dX9_copy_1 : AtI iX9_copy 1 (.invokestatic 74) 3 4 := ⟨by decide +kernel, rfl⟩
theorem dX9_copy_4 : AtJ iX9_copy 4 (.ifCond .eq 10) 10 7 14 := ⟨by decide +kernel, rfl, by decide⟩
theorem dX9_copy_7 : AtI iX9_copy 7 (.iload_n 3) 1 8 := ⟨by decide +kernel, rfl⟩
theorem dX9_copy_8 : AtI iX9_copy 8 (.invokestatic 74) 3 11 := ⟨by decide +kernel, rfl⟩
theorem dX9_copy_11 : AtJ iX9_copy 11 (.ifCond .ne 6) 6 14 17 := ⟨by decide +kernel, rfl, by decide⟩
theorem dX9_copy_14 : AtI iX9_copy 14 (.bipush (-2)) 2 16 := ⟨by decide +kernel, rfl⟩
theorem dX9_copy_16 : AtI iX9_copy 16 .ireturn 1 17 := ⟨by decide +kernel, rfl⟩
theorem dX9_copy_17 : AtI iX9_copy 17 (.aload_n 0) 1 18 := ⟨by decide +kernel, rfl⟩
theorem dX9_copy_18 : AtI iX9_copy 18 (.getfield 7) 3 21 := ⟨by decide +kernel, rfl⟩
theorem dX9_copy_21 : AtI iX9_copy 21 (.iload_n 1) 1 22 := ⟨by decide +kernel, rfl⟩
theorem dX9_copy_22 : AtI iX9_copy 22 .iaload 1 23 := ⟨by decide +kernel, rfl⟩
theorem dX9_copy_23 : AtJ iX9_copy 23 (.ifCond .lt 12) 12 26 35 := ⟨by decide +kernel, rfl, by decide⟩
theorem dX9_copy_26 : AtI iX9_copy 26 (.aload_n 0) 1 27 := ⟨by decide +kernel, rfl⟩
theorem dX9_copy_27 : AtI iX9_copy 27 (.getfield 7) 3 30 := ⟨by decide +kernel, rfl⟩
theorem dX9_copy_30 : AtI iX9_copy 30 (.iload_n 3) 1 31 := ⟨by decide +kernel, rfl⟩
theorem dX9_copy_31 : AtI iX9_copy 31 .iaload 1 32 := ⟨by decide +kernel, rfl⟩
theorem dX9_copy_32 : AtJ iX9_copy 32 (.ifCond .ge 9) 9 35 41 := ⟨by decide +kernel, rfl, by decide⟩
theorem dX9_copy_35 : AtI iX9_copy 35 (.aload_n 0) 1 36 := ⟨by decide +kernel, rfl⟩
theorem dX9_copy_36 : AtI iX9_copy 36 (.iconst 1) 1 37 := ⟨by decide +kernel, rfl⟩
theorem dX9_copy_37 : AtI iX9_copy 37 (.invokevirtual 80) 3 40 := ⟨by decide +kernel, rfl⟩
theorem dX9_copy_40 : AtI iX9_copy 40 .ireturn 1 41 := ⟨by decide +kernel, rfl⟩
theorem dX9_copy_41 : AtI iX9_copy 41 (.aload_n 0) 1 42 := ⟨by decide +kernel, rfl⟩
theorem dX9_copy_42 : AtI iX9_copy 42 (.getfield 7) 3 45 := ⟨by decide +kernel, rfl⟩
theorem dX9_copy_45 : AtI iX9_copy 45 (.iload_n 1) 1 46 := ⟨by decide +kernel, rfl⟩
theorem dX9_copy_46 : AtI iX9_copy 46 .iaload 1 47 := ⟨by decide +kernel, rfl⟩
theorem dX9_copy_47 : AtI iX9_copy 47 (.aload_n 0) 1 48 := ⟨by decide +kernel, rfl⟩
theorem dX9_copy_48 : AtI iX9_copy 48 (.getfield 7) 3 51 := ⟨by decide +kernel, rfl⟩
theorem dX9_copy_51 : AtI iX9_copy 51 (.iload_n 3) 1 52 := ⟨by decide +kernel, rfl⟩
theorem dX9_copy_52 : AtI iX9_copy 52 .iaload 1 53 := ⟨by decide +kernel, rfl⟩
theorem dX9_copy_53 : AtJ iX9_copy 53 (.if_icmp .eq 9) 9 56 62 := ⟨by decide +kernel, rfl, by decide⟩
theorem dX9_copy_56 : AtI iX9_copy 56 (.aload_n 0) 1 57 := ⟨by decide +kernel, rfl⟩
theorem dX9_copy_57 : AtI iX9_copy 57 (.iconst 4) 1 58 := ⟨by decide +kernel, rfl⟩
theorem dX9_copy_58 : AtI iX9_copy 58 (.invokevirtual 80) 3 61 := ⟨by decide +kernel, rfl⟩
theorem dX9_copy_61 : AtI iX9_copy 61 .ireturn 1 62 := ⟨by decide +kernel, rfl⟩
theorem dX9_copy_62 : AtI iX9_copy 62 (.iload_n 2) 1 63 := ⟨by decide +kernel, rfl⟩
theorem dX9_copy_63 : AtJ iX9_copy 63 (.ifCond .lt 48) 48 66 111 := ⟨by decide +kernel, rfl, by decide⟩
theorem dX9_copy_66 : AtI iX9_copy 66 (.iload 4) 2 68 := ⟨by decide +kernel, rfl⟩
theorem dX9_copy_68 : AtJ iX9_copy 68 (.ifCond .lt 43) 43 71 111 := ⟨by decide +kernel, rfl, by decide⟩
theorem dX9_copy_71 : AtI iX9_copy 71 (.iload 5) 2 73 := ⟨by decide +kernel, rfl⟩
theorem dX9_copy_73 : AtJ iX9_copy 73 (.ifCond .lt 38) 38 76 111 := ⟨by decide +kernel, rfl, by decide⟩
theorem dX9_copy_76 : AtI iX9_copy 76 (.iload_n 2) 1 77 := ⟨by decide +kernel, rfl⟩
theorem dX9_copy_77 : AtI iX9_copy 77 .i2l 1 78 := ⟨by decide +kernel, rfl⟩
theorem dX9_copy_78 : AtI iX9_copy 78 (.iload 5) 2 80 := ⟨by decide +kernel, rfl⟩
theorem dX9_copy_80 : AtI iX9_copy 80 .i2l 1 81 := ⟨by decide +kernel, rfl⟩
theorem dX9_copy_81 : AtI iX9_copy 81 .ladd 1 82 := ⟨by decide +kernel, rfl⟩
theorem dX9_copy_82 : AtI iX9_copy 82 (.aload_n 0) 1 83 := ⟨by decide +kernel, rfl⟩
theorem dX9_copy_83 : AtI iX9_copy 83 (.getfield 13) 3 86 := ⟨by decide +kernel, rfl⟩
theorem dX9_copy_86 : AtI iX9_copy 86 (.iload_n 1) 1 87 := ⟨by decide +kernel, rfl⟩
theorem dX9_copy_87 : AtI iX9_copy 87 .iaload 1 88 := ⟨by decide +kernel, rfl⟩
theorem dX9_copy_88 : AtI iX9_copy 88 .i2l 1 89 := ⟨by decide +kernel, rfl⟩
theorem dX9_copy_89 : AtI iX9_copy 89 .lcmp 1 90 := ⟨by decide +kernel, rfl⟩
theorem dX9_copy_90 : AtJ iX9_copy 90 (.ifCond .gt 21) 21 93 111 := ⟨by decide +kernel, rfl, by decide⟩
theorem dX9_copy_93 : AtI iX9_copy 93 (.iload 4) 2 95 := ⟨by decide +kernel, rfl⟩
theorem dX9_copy_95 : AtI iX9_copy 95 .i2l 1 96 := ⟨by decide +kernel, rfl⟩
theorem dX9_copy_96 : AtI iX9_copy 96 (.iload 5) 2 98 := ⟨by decide +kernel, rfl⟩
theorem dX9_copy_98 : AtI iX9_copy 98 .i2l 1 99 := ⟨by decide +kernel, rfl⟩
theorem dX9_copy_99 : AtI iX9_copy 99 .ladd 1 100 := ⟨by decide +kernel, rfl⟩
theorem dX9_copy_100 : AtI iX9_copy 100 (.aload_n 0) 1 101 := ⟨by decide +kernel, rfl⟩
theorem dX9_copy_101 : AtI iX9_copy 101 (.getfield 13) 3 104 := ⟨by decide +kernel, rfl⟩
theorem dX9_copy_104 : AtI iX9_copy 104 (.iload_n 3) 1 105 := ⟨by decide +kernel, rfl⟩
theorem dX9_copy_105 : AtI iX9_copy 105 .iaload 1 106 := ⟨by decide +kernel, rfl⟩
theorem dX9_copy_106 : AtI iX9_copy 106 .i2l 1 107 := ⟨by decide +kernel, rfl⟩
theorem dX9_copy_107 : AtI iX9_copy 107 .lcmp 1 108 := ⟨by decide +kernel, rfl⟩
theorem dX9_copy_108 : AtJ iX9_copy 108 (.ifCond .le 9) 9 111 117 := ⟨by decide +kernel, rfl, by decide⟩
theorem dX9_copy_111 : AtI iX9_copy 111 (.aload_n 0) 1 112 := ⟨by decide +kernel, rfl⟩
theorem dX9_copy_112 : AtI iX9_copy 112 (.iconst 2) 1 113 := ⟨by decide +kernel, rfl⟩
theorem dX9_copy_113 : AtI iX9_copy 113 (.invokevirtual 80) 3 116 := ⟨by decide +kernel, rfl⟩
theorem dX9_copy_116 : AtI iX9_copy 116 .ireturn 1 117 := ⟨by decide +kernel, rfl⟩
theorem dX9_copy_117 : AtI iX9_copy 117 (.iconst 0) 1 118 := ⟨by decide +kernel, rfl⟩
theorem dX9_copy_118 : AtI iX9_copy 118 (.istore 6) 2 120 := ⟨by decide +kernel, rfl⟩
theorem dX9_copy_120 : AtI iX9_copy 120 (.iload 6) 2 122 := ⟨by decide +kernel, rfl⟩
theorem dX9_copy_122 : AtI iX9_copy 122 (.iload 5) 2 124 := ⟨by decide +kernel, rfl⟩
theorem dX9_copy_124 : AtJ iX9_copy 124 (.if_icmp .ge 30) 30 127 154 := ⟨by decide +kernel, rfl, by decide⟩
theorem dX9_copy_127 : AtI iX9_copy 127 (.aload_n 0) 1 128 := ⟨by decide +kernel, rfl⟩
theorem dX9_copy_128 : AtI iX9_copy 128 (.getfield 19) 3 131 := ⟨by decide +kernel, rfl⟩
theorem dX9_copy_131 : AtI iX9_copy 131 (.iload 6) 2 133 := ⟨by decide +kernel, rfl⟩
theorem dX9_copy_133 : AtI iX9_copy 133 (.aload_n 0) 1 134 := ⟨by decide +kernel, rfl⟩
theorem dX9_copy_134 : AtI iX9_copy 134 (.getfield 16) 3 137 := ⟨by decide +kernel, rfl⟩
theorem dX9_copy_137 : AtI iX9_copy 137 (.bipush 60) 2 139 := ⟨by decide +kernel, rfl⟩
theorem dX9_copy_139 : AtI iX9_copy 139 (.iload_n 1) 1 140 := ⟨by decide +kernel, rfl⟩
theorem dX9_copy_140 : AtI iX9_copy 140 .imul 1 141 := ⟨by decide +kernel, rfl⟩
theorem dX9_copy_141 : AtI iX9_copy 141 (.iload_n 2) 1 142 := ⟨by decide +kernel, rfl⟩
theorem dX9_copy_142 : AtI iX9_copy 142 .iadd 1 143 := ⟨by decide +kernel, rfl⟩
theorem dX9_copy_143 : AtI iX9_copy 143 (.iload 6) 2 145 := ⟨by decide +kernel, rfl⟩
theorem dX9_copy_145 : AtI iX9_copy 145 .iadd 1 146 := ⟨by decide +kernel, rfl⟩
theorem dX9_copy_146 : AtI iX9_copy 146 .iaload 1 147 := ⟨by decide +kernel, rfl⟩
theorem dX9_copy_147 : AtI iX9_copy 147 .iastore 1 148 := ⟨by decide +kernel, rfl⟩
theorem dX9_copy_148 : AtI iX9_copy 148 (.iinc 6 1) 3 151 := ⟨by decide +kernel, rfl⟩
theorem dX9_copy_151 : AtJ iX9_copy 151 (.goto (-31)) (-31) 154 120 := ⟨by decide +kernel, rfl, by decide⟩
theorem dX9_copy_154 : AtI iX9_copy 154 (.iconst 0) 1 155 := ⟨by decide +kernel, rfl⟩
theorem dX9_copy_155 : AtI iX9_copy 155 (.istore 6) 2 157 := ⟨by decide +kernel, rfl⟩
theorem dX9_copy_157 : AtI iX9_copy 157 (.iload 6) 2 159 := ⟨by decide +kernel, rfl⟩
theorem dX9_copy_159 : AtI iX9_copy 159 (.iload 5) 2 161 := ⟨by decide +kernel, rfl⟩
theorem dX9_copy_161 : AtJ iX9_copy 161 (.if_icmp .ge 31) 31 164 192 := ⟨by decide +kernel, rfl, by decide⟩
theorem dX9_copy_164 : AtI iX9_copy 164 (.aload_n 0) 1 165 := ⟨by decide +kernel, rfl⟩
theorem dX9_copy_165 : AtI iX9_copy 165 (.getfield 16) 3 168 := ⟨by decide +kernel, rfl⟩
theorem dX9_copy_168 : AtI iX9_copy 168 (.bipush 60) 2 170 := ⟨by decide +kernel, rfl⟩
theorem dX9_copy_170 : AtI iX9_copy 170 (.iload_n 3) 1 171 := ⟨by decide +kernel, rfl⟩
theorem dX9_copy_171 : AtI iX9_copy 171 .imul 1 172 := ⟨by decide +kernel, rfl⟩
theorem dX9_copy_172 : AtI iX9_copy 172 (.iload 4) 2 174 := ⟨by decide +kernel, rfl⟩
theorem dX9_copy_174 : AtI iX9_copy 174 .iadd 1 175 := ⟨by decide +kernel, rfl⟩
theorem dX9_copy_175 : AtI iX9_copy 175 (.iload 6) 2 177 := ⟨by decide +kernel, rfl⟩
theorem dX9_copy_177 : AtI iX9_copy 177 .iadd 1 178 := ⟨by decide +kernel, rfl⟩
theorem dX9_copy_178 : AtI iX9_copy 178 (.aload_n 0) 1 179 := ⟨by decide +kernel, rfl⟩
theorem dX9_copy_179 : AtI iX9_copy 179 (.getfield 19) 3 182 := ⟨by decide +kernel, rfl⟩
theorem dX9_copy_182 : AtI iX9_copy 182 (.iload 6) 2 184 := ⟨by decide +kernel, rfl⟩
theorem dX9_copy_184 : AtI iX9_copy 184 .iaload 1 185 := ⟨by decide +kernel, rfl⟩
theorem dX9_copy_185 : AtI iX9_copy 185 .iastore 1 186 := ⟨by decide +kernel, rfl⟩
theorem dX9_copy_186 : AtI iX9_copy 186 (.iinc 6 1) 3 189 := ⟨by decide +kernel, rfl⟩
theorem dX9_copy_189 : AtJ iX9_copy 189 (.goto (-32)) (-32) 192 157 := ⟨by decide +kernel, rfl, by decide⟩
theorem dX9_copy_192 : AtI iX9_copy 192 (.iconst 1) 1 193 := ⟨by decide +kernel, rfl⟩
theorem dX9_copy_193 : AtI iX9_copy 193 .ireturn 1 194 := ⟨by decide +kernel, rfl⟩
theorem dX9_type_0 : AtI iX9_type 0 (.iload_n 1) 1 1 := ⟨by decide +kernel, rfl⟩
theorem dX9_type_1 : AtI iX9_type 1 .i2l 1 2 := ⟨by decide +kernel, rfl⟩
theorem dX9_type_2 : AtI iX9_type 2 (.lconst 0) 1 3 := ⟨by decide +kernel, rfl⟩
theorem dX9_type_3 : AtI iX9_type 3 (.ldc2_w 93) 3 6 := ⟨by decide +kernel, rfl⟩
theorem dX9_type_6 : AtI iX9_type 6 (.invokestatic 65) 3 9 := ⟨by decide +kernel, rfl⟩
theorem dX9_type_9 : AtJ iX9_type 9 (.ifCond .ne 6) 6 12 15 := ⟨by decide +kernel, rfl, by decide⟩
theorem dX9_type_12 : AtI iX9_type 12 (.bipush (-2)) 2 14 := ⟨by decide +kernel, rfl⟩
theorem dX9_type_14 : AtI iX9_type 14 .ireturn 1 15 := ⟨by decide +kernel, rfl⟩
theorem dX9_type_15 : AtI iX9_type 15 (.aload_n 0) 1 16 := ⟨by decide +kernel, rfl⟩
theorem dX9_type_16 : AtI iX9_type 16 (.getfield 95) 3 19 := ⟨by decide +kernel, rfl⟩
theorem dX9_type_19 : AtI iX9_type 19 (.bipush 47) 2 21 := ⟨by decide +kernel, rfl⟩
theorem dX9_type_21 : AtJ iX9_type 21 (.if_icmp .ne 6) 6 24 27 := ⟨by decide +kernel, rfl, by decide⟩
theorem dX9_type_24 : AtI iX9_type 24 (.bipush (-4)) 2 26 := ⟨by decide +kernel, rfl⟩
theorem dX9_type_26 : AtI iX9_type 26 .ireturn 1 27 := ⟨by decide +kernel, rfl⟩
theorem dX9_type_27 : AtI iX9_type 27 (.aload_n 0) 1 28 := ⟨by decide +kernel, rfl⟩
theorem dX9_type_28 : AtI iX9_type 28 (.getfield 22) 3 31 := ⟨by decide +kernel, rfl⟩
theorem dX9_type_31 : AtI iX9_type 31 (.aload_n 0) 1 32 := ⟨by decide +kernel, rfl⟩
theorem dX9_type_32 : AtI iX9_type 32 (.getfield 95) 3 35 := ⟨by decide +kernel, rfl⟩
theorem dX9_type_35 : AtI iX9_type 35 (.iload_n 1) 1 36 := ⟨by decide +kernel, rfl⟩
theorem dX9_type_36 : AtI iX9_type 36 .iastore 1 37 := ⟨by decide +kernel, rfl⟩
theorem dX9_type_37 : AtI iX9_type 37 (.aload_n 0) 1 38 := ⟨by decide +kernel, rfl⟩
theorem dX9_type_38 : AtI iX9_type 38 .dup 1 39 := ⟨by decide +kernel, rfl⟩
theorem dX9_type_39 : AtI iX9_type 39 (.getfield 95) 3 42 := ⟨by decide +kernel, rfl⟩
theorem dX9_type_42 : AtI iX9_type 42 (.iconst 1) 1 43 := ⟨by decide +kernel, rfl⟩
theorem dX9_type_43 : AtI iX9_type 43 .iadd 1 44 := ⟨by decide +kernel, rfl⟩
theorem dX9_type_44 : AtI iX9_type 44 (.putfield 95) 3 47 := ⟨by decide +kernel, rfl⟩
theorem dX9_type_47 : AtI iX9_type 47 (.aload_n 0) 1 48 := ⟨by decide +kernel, rfl⟩
theorem dX9_type_48 : AtI iX9_type 48 (.getfield 95) 3 51 := ⟨by decide +kernel, rfl⟩
theorem dX9_type_51 : AtI iX9_type 51 .ireturn 1 52 := ⟨by decide +kernel, rfl⟩
theorem dX9_wipe_0 : AtI iX9_wipe 0 (.aload_n 0) 1 1 := ⟨by decide +kernel, rfl⟩
theorem dX9_wipe_1 : AtI iX9_wipe 1 (.getfield 95) 3 4 := ⟨by decide +kernel, rfl⟩
theorem dX9_wipe_4 : AtI iX9_wipe 4 (.istore_n 1) 1 5 := ⟨by decide +kernel, rfl⟩
theorem dX9_wipe_5 : AtI iX9_wipe 5 (.aload_n 0) 1 6 := ⟨by decide +kernel, rfl⟩
theorem dX9_wipe_6 : AtI iX9_wipe 6 (.iconst 0) 1 7 := ⟨by decide +kernel, rfl⟩
theorem dX9_wipe_7 : AtI iX9_wipe 7 (.putfield 95) 3 10 := ⟨by decide +kernel, rfl⟩
theorem dX9_wipe_10 : AtI iX9_wipe 10 (.iload_n 1) 1 11 := ⟨by decide +kernel, rfl⟩
theorem dX9_wipe_11 : AtI iX9_wipe 11 .ireturn 1 12 := ⟨by decide +kernel, rfl⟩
theorem dX9_undo_0 : AtI iX9_undo 0 (.aload_n 0) 1 1 := ⟨by decide +kernel, rfl⟩
theorem dX9_undo_1 : AtI iX9_undo 1 (.getfield 95) 3 4 := ⟨by decide +kernel, rfl⟩
theorem dX9_undo_4 : AtJ iX9_undo 4 (.ifCond .ne 6) 6 7 10 := ⟨by decide +kernel, rfl, by decide⟩
theorem dX9_undo_7 : AtI iX9_undo 7 (.bipush (-3)) 2 9 := ⟨by decide +kernel, rfl⟩
theorem dX9_undo_9 : AtI iX9_undo 9 .ireturn 1 10 := ⟨by decide +kernel, rfl⟩
theorem dX9_undo_10 : AtI iX9_undo 10 (.aload_n 0) 1 11 := ⟨by decide +kernel, rfl⟩
theorem dX9_undo_11 : AtI iX9_undo 11 .dup 1 12 := ⟨by decide +kernel, rfl⟩
theorem dX9_undo_12 : AtI iX9_undo 12 (.getfield 95) 3 15 := ⟨by decide +kernel, rfl⟩
theorem dX9_undo_15 : AtI iX9_undo 15 (.iconst 1) 1 16 := ⟨by decide +kernel, rfl⟩
theorem dX9_undo_16 : AtI iX9_undo 16 .isub 1 17 := ⟨by decide +kernel, rfl⟩
theorem dX9_undo_17 : AtI iX9_undo 17 (.putfield 95) 3 20 := ⟨by decide +kernel, rfl⟩
theorem dX9_undo_20 : AtI iX9_undo 20 (.aload_n 0) 1 21 := ⟨by decide +kernel, rfl⟩
theorem dX9_undo_21 : AtI iX9_undo 21 (.getfield 95) 3 24 := ⟨by decide +kernel, rfl⟩
theorem dX9_undo_24 : AtI iX9_undo 24 .ireturn 1 25 := ⟨by decide +kernel, rfl⟩
theorem dX9_tellsOf_0 : AtI iX9_tellsOf 0 (.iload_n 1) 1 1 := ⟨by decide +kernel, rfl⟩
theorem dX9_tellsOf_1 : AtI iX9_tellsOf 1 (.iconst 2) 1 2 := ⟨by decide +kernel, rfl⟩
theorem dX9_tellsOf_2 : AtJ iX9_tellsOf 2 (.if_icmp .ne 26) 26 5 28 := ⟨by decide +kernel, rfl, by decide⟩
theorem dX9_tellsOf_5 : AtI iX9_tellsOf 5 (.iload_n 2) 1 6 := ⟨by decide +kernel, rfl⟩
theorem dX9_tellsOf_6 : AtI iX9_tellsOf 6 .i2l 1 7 := ⟨by decide +kernel, rfl⟩
theorem dX9_tellsOf_7 : AtI iX9_tellsOf 7 (.ldc2_w 98) 3 10 := ⟨by decide +kernel, rfl⟩
theorem dX9_tellsOf_10 : AtI iX9_tellsOf 10 (.ldc2_w 100) 3 13 := ⟨by decide +kernel, rfl⟩
theorem dX9_tellsOf_13 : AtI iX9_tellsOf 13 (.invokestatic 65) 3 16 := ⟨by decide +kernel, rfl⟩
theorem dX9_tellsOf_16 : AtJ iX9_tellsOf 16 (.ifCond .eq 10) 10 19 26 := ⟨by decide +kernel, rfl, by decide⟩
theorem dX9_tellsOf_19 : AtI iX9_tellsOf 19 (.iload_n 2) 1 20 := ⟨by decide +kernel, rfl⟩
theorem dX9_tellsOf_20 : AtI iX9_tellsOf 20 (.bipush 48) 2 22 := ⟨by decide +kernel, rfl⟩
theorem dX9_tellsOf_22 : AtI iX9_tellsOf 22 .isub 1 23 := ⟨by decide +kernel, rfl⟩
theorem dX9_tellsOf_23 : AtJ iX9_tellsOf 23 (.goto 4) 4 26 27 := ⟨by decide +kernel, rfl, by decide⟩
theorem dX9_tellsOf_26 : AtI iX9_tellsOf 26 (.iconst (-1)) 1 27 := ⟨by decide +kernel, rfl⟩
theorem dX9_tellsOf_27 : AtI iX9_tellsOf 27 .ireturn 1 28 := ⟨by decide +kernel, rfl⟩
theorem dX9_tellsOf_28 : AtI iX9_tellsOf 28 (.iload_n 2) 1 29 := ⟨by decide +kernel, rfl⟩
theorem dX9_tellsOf_29 : AtI iX9_tellsOf 29 .i2l 1 30 := ⟨by decide +kernel, rfl⟩
theorem dX9_tellsOf_30 : AtI iX9_tellsOf 30 (.ldc2_w 102) 3 33 := ⟨by decide +kernel, rfl⟩
theorem dX9_tellsOf_33 : AtI iX9_tellsOf 33 (.ldc2_w 104) 3 36 := ⟨by decide +kernel, rfl⟩
theorem dX9_tellsOf_36 : AtI iX9_tellsOf 36 (.invokestatic 65) 3 39 := ⟨by decide +kernel, rfl⟩
theorem dX9_tellsOf_39 : AtJ iX9_tellsOf 39 (.ifCond .eq 32) 32 42 71 := ⟨by decide +kernel, rfl, by decide⟩
theorem dX9_tellsOf_42 : AtI iX9_tellsOf 42 (.iload_n 1) 1 43 := ⟨by decide +kernel, rfl⟩
theorem dX9_tellsOf_43 : AtJ iX9_tellsOf 43 (.ifCond .eq 21) 21 46 64 := ⟨by decide +kernel, rfl, by decide⟩
theorem dX9_tellsOf_46 : AtI iX9_tellsOf 46 (.iload_n 2) 1 47 := ⟨by decide +kernel, rfl⟩
theorem dX9_tellsOf_47 : AtI iX9_tellsOf 47 (.bipush 97) 2 49 := ⟨by decide +kernel, rfl⟩
theorem dX9_tellsOf_49 : AtI iX9_tellsOf 49 .isub 1 50 := ⟨by decide +kernel, rfl⟩
theorem dX9_tellsOf_50 : AtI iX9_tellsOf 50 (.aload_n 0) 1 51 := ⟨by decide +kernel, rfl⟩
theorem dX9_tellsOf_51 : AtI iX9_tellsOf 51 (.getfield 25) 3 54 := ⟨by decide +kernel, rfl⟩
theorem dX9_tellsOf_54 : AtI iX9_tellsOf 54 (.iconst 3) 1 55 := ⟨by decide +kernel, rfl⟩
theorem dX9_tellsOf_55 : AtI iX9_tellsOf 55 (.aload_n 0) 1 56 := ⟨by decide +kernel, rfl⟩
theorem dX9_tellsOf_56 : AtI iX9_tellsOf 56 (.getfield 106) 3 59 := ⟨by decide +kernel, rfl⟩
theorem dX9_tellsOf_59 : AtI iX9_tellsOf 59 .imul 1 60 := ⟨by decide +kernel, rfl⟩
theorem dX9_tellsOf_60 : AtI iX9_tellsOf 60 .iaload 1 61 := ⟨by decide +kernel, rfl⟩
theorem dX9_tellsOf_61 : AtJ iX9_tellsOf 61 (.if_icmp .eq 10) 10 64 71 := ⟨by decide +kernel, rfl, by decide⟩
theorem dX9_tellsOf_64 : AtI iX9_tellsOf 64 (.iload_n 2) 1 65 := ⟨by decide +kernel, rfl⟩
theorem dX9_tellsOf_65 : AtI iX9_tellsOf 65 (.bipush 97) 2 67 := ⟨by decide +kernel, rfl⟩
theorem dX9_tellsOf_67 : AtI iX9_tellsOf 67 .isub 1 68 := ⟨by decide +kernel, rfl⟩
theorem dX9_tellsOf_68 : AtJ iX9_tellsOf 68 (.goto 4) 4 71 72 := ⟨by decide +kernel, rfl, by decide⟩
theorem dX9_tellsOf_71 : AtI iX9_tellsOf 71 (.iconst (-1)) 1 72 := ⟨by decide +kernel, rfl⟩
theorem dX9_tellsOf_72 : AtI iX9_tellsOf 72 .ireturn 1 73 := ⟨by decide +kernel, rfl⟩
theorem dX9_readsRoad_0 : AtI iX9_readsRoad 0 (.aload_n 0) 1 1 := ⟨by decide +kernel, rfl⟩
theorem dX9_readsRoad_1 : AtI iX9_readsRoad 1 (.getfield 106) 3 4 := ⟨by decide +kernel, rfl⟩
theorem dX9_readsRoad_4 : AtI iX9_readsRoad 4 (.bipush 12) 2 6 := ⟨by decide +kernel, rfl⟩
theorem dX9_readsRoad_6 : AtJ iX9_readsRoad 6 (.if_icmp .ne 5) 5 9 11 := ⟨by decide +kernel, rfl, by decide⟩
theorem dX9_readsRoad_9 : AtI iX9_readsRoad 9 (.iconst 0) 1 10 := ⟨by decide +kernel, rfl⟩
theorem dX9_readsRoad_10 : AtI iX9_readsRoad 10 .ireturn 1 11 := ⟨by decide +kernel, rfl⟩
theorem dX9_readsRoad_11 : AtI iX9_readsRoad 11 (.iconst 0) 1 12 := ⟨by decide +kernel, rfl⟩
theorem dX9_readsRoad_12 : AtI iX9_readsRoad 12 (.istore_n 1) 1 13 := ⟨by decide +kernel, rfl⟩
theorem dX9_readsRoad_13 : AtI iX9_readsRoad 13 (.iload_n 1) 1 14 := ⟨by decide +kernel, rfl⟩
theorem dX9_readsRoad_14 : AtI iX9_readsRoad 14 (.iconst 3) 1 15 := ⟨by decide +kernel, rfl⟩
theorem dX9_readsRoad_15 : AtJ iX9_readsRoad 15 (.if_icmp .ge 70) 70 18 85 := ⟨by decide +kernel, rfl, by decide⟩
theorem dX9_readsRoad_18 : AtI iX9_readsRoad 18 (.aload_n 0) 1 19 := ⟨by decide +kernel, rfl⟩
theorem dX9_readsRoad_19 : AtI iX9_readsRoad 19 (.getfield 109) 3 22 := ⟨by decide +kernel, rfl⟩
theorem dX9_readsRoad_22 : AtI iX9_readsRoad 22 (.aload_n 0) 1 23 := ⟨by decide +kernel, rfl⟩
theorem dX9_readsRoad_23 : AtI iX9_readsRoad 23 (.getfield 95) 3 26 := ⟨by decide +kernel, rfl⟩
theorem dX9_readsRoad_26 : AtJ iX9_readsRoad 26 (.if_icmp .ge 20) 20 29 46 := ⟨by decide +kernel, rfl, by decide⟩
theorem dX9_readsRoad_29 : AtI iX9_readsRoad 29 (.aload_n 0) 1 30 := ⟨by decide +kernel, rfl⟩
theorem dX9_readsRoad_30 : AtI iX9_readsRoad 30 (.iload_n 1) 1 31 := ⟨by decide +kernel, rfl⟩
theorem dX9_readsRoad_31 : AtI iX9_readsRoad 31 (.aload_n 0) 1 32 := ⟨by decide +kernel, rfl⟩
theorem dX9_readsRoad_32 : AtI iX9_readsRoad 32 (.getfield 22) 3 35 := ⟨by decide +kernel, rfl⟩
theorem dX9_readsRoad_35 : AtI iX9_readsRoad 35 (.aload_n 0) 1 36 := ⟨by decide +kernel, rfl⟩
theorem dX9_readsRoad_36 : AtI iX9_readsRoad 36 (.getfield 109) 3 39 := ⟨by decide +kernel, rfl⟩
theorem dX9_readsRoad_39 : AtI iX9_readsRoad 39 .iaload 1 40 := ⟨by decide +kernel, rfl⟩
theorem dX9_readsRoad_40 : AtI iX9_readsRoad 40 (.invokevirtual 112) 3 43 := ⟨by decide +kernel, rfl⟩
theorem dX9_readsRoad_43 : AtJ iX9_readsRoad 43 (.goto 4) 4 46 47 := ⟨by decide +kernel, rfl, by decide⟩
theorem dX9_readsRoad_46 : AtI iX9_readsRoad 46 (.iconst (-1)) 1 47 := ⟨by decide +kernel, rfl⟩
theorem dX9_readsRoad_47 : AtI iX9_readsRoad 47 (.istore_n 2) 1 48 := ⟨by decide +kernel, rfl⟩
theorem dX9_readsRoad_48 : AtI iX9_readsRoad 48 (.iload_n 2) 1 49 := ⟨by decide +kernel, rfl⟩
theorem dX9_readsRoad_49 : AtI iX9_readsRoad 49 (.iconst (-1)) 1 50 := ⟨by decide +kernel, rfl⟩
theorem dX9_readsRoad_50 : AtJ iX9_readsRoad 50 (.if_icmp .ne 5) 5 53 55 := ⟨by decide +kernel, rfl, by decide⟩
theorem dX9_readsRoad_53 : AtI iX9_readsRoad 53 (.iconst 0) 1 54 := ⟨by decide +kernel, rfl⟩
theorem dX9_readsRoad_54 : AtI iX9_readsRoad 54 .ireturn 1 55 := ⟨by decide +kernel, rfl⟩
theorem dX9_readsRoad_55 : AtI iX9_readsRoad 55 (.aload_n 0) 1 56 := ⟨by decide +kernel, rfl⟩
theorem dX9_readsRoad_56 : AtI iX9_readsRoad 56 (.getfield 25) 3 59 := ⟨by decide +kernel, rfl⟩
theorem dX9_readsRoad_59 : AtI iX9_readsRoad 59 (.iconst 3) 1 60 := ⟨by decide +kernel, rfl⟩
theorem dX9_readsRoad_60 : AtI iX9_readsRoad 60 (.aload_n 0) 1 61 := ⟨by decide +kernel, rfl⟩
theorem dX9_readsRoad_61 : AtI iX9_readsRoad 61 (.getfield 106) 3 64 := ⟨by decide +kernel, rfl⟩
theorem dX9_readsRoad_64 : AtI iX9_readsRoad 64 .imul 1 65 := ⟨by decide +kernel, rfl⟩
theorem dX9_readsRoad_65 : AtI iX9_readsRoad 65 (.iload_n 1) 1 66 := ⟨by decide +kernel, rfl⟩
theorem dX9_readsRoad_66 : AtI iX9_readsRoad 66 .iadd 1 67 := ⟨by decide +kernel, rfl⟩
theorem dX9_readsRoad_67 : AtI iX9_readsRoad 67 (.iload_n 2) 1 68 := ⟨by decide +kernel, rfl⟩
theorem dX9_readsRoad_68 : AtI iX9_readsRoad 68 .iastore 1 69 := ⟨by decide +kernel, rfl⟩
theorem dX9_readsRoad_69 : AtI iX9_readsRoad 69 (.aload_n 0) 1 70 := ⟨by decide +kernel, rfl⟩
theorem dX9_readsRoad_70 : AtI iX9_readsRoad 70 .dup 1 71 := ⟨by decide +kernel, rfl⟩
theorem dX9_readsRoad_71 : AtI iX9_readsRoad 71 (.getfield 109) 3 74 := ⟨by decide +kernel, rfl⟩
theorem dX9_readsRoad_74 : AtI iX9_readsRoad 74 (.iconst 1) 1 75 := ⟨by decide +kernel, rfl⟩
theorem dX9_readsRoad_75 : AtI iX9_readsRoad 75 .iadd 1 76 := ⟨by decide +kernel, rfl⟩
theorem dX9_readsRoad_76 : AtI iX9_readsRoad 76 (.putfield 109) 3 79 := ⟨by decide +kernel, rfl⟩
theorem dX9_readsRoad_79 : AtI iX9_readsRoad 79 (.iinc 1 1) 3 82 := ⟨by decide +kernel, rfl⟩
theorem dX9_readsRoad_82 : AtJ iX9_readsRoad 82 (.goto (-69)) (-69) 85 13 := ⟨by decide +kernel, rfl, by decide⟩
theorem dX9_readsRoad_85 : AtI iX9_readsRoad 85 (.aload_n 0) 1 86 := ⟨by decide +kernel, rfl⟩
theorem dX9_readsRoad_86 : AtI iX9_readsRoad 86 .dup 1 87 := ⟨by decide +kernel, rfl⟩
theorem dX9_readsRoad_87 : AtI iX9_readsRoad 87 (.getfield 106) 3 90 := ⟨by decide +kernel, rfl⟩
theorem dX9_readsRoad_90 : AtI iX9_readsRoad 90 (.iconst 1) 1 91 := ⟨by decide +kernel, rfl⟩
theorem dX9_readsRoad_91 : AtI iX9_readsRoad 91 .iadd 1 92 := ⟨by decide +kernel, rfl⟩
theorem dX9_readsRoad_92 : AtI iX9_readsRoad 92 (.putfield 106) 3 95 := ⟨by decide +kernel, rfl⟩
theorem dX9_readsRoad_95 : AtI iX9_readsRoad 95 (.iconst 1) 1 96 := ⟨by decide +kernel, rfl⟩
theorem dX9_readsRoad_96 : AtI iX9_readsRoad 96 .ireturn 1 97 := ⟨by decide +kernel, rfl⟩
theorem dX9_reads_0 : AtI iX9_reads 0 (.aload_n 0) 1 1 := ⟨by decide +kernel, rfl⟩
theorem dX9_reads_1 : AtI iX9_reads 1 (.iconst 0) 1 2 := ⟨by decide +kernel, rfl⟩
theorem dX9_reads_2 : AtI iX9_reads 2 (.putfield 109) 3 5 := ⟨by decide +kernel, rfl⟩
theorem dX9_reads_5 : AtI iX9_reads 5 (.aload_n 0) 1 6 := ⟨by decide +kernel, rfl⟩
theorem dX9_reads_6 : AtI iX9_reads 6 (.iconst 0) 1 7 := ⟨by decide +kernel, rfl⟩
theorem dX9_reads_7 : AtI iX9_reads 7 (.putfield 106) 3 10 := ⟨by decide +kernel, rfl⟩
theorem dX9_reads_10 : AtI iX9_reads 10 (.aload_n 0) 1 11 := ⟨by decide +kernel, rfl⟩
theorem dX9_reads_11 : AtI iX9_reads 11 (.getfield 95) 3 14 := ⟨by decide +kernel, rfl⟩
theorem dX9_reads_14 : AtJ iX9_reads 14 (.ifCond .le 7) 7 17 21 := ⟨by decide +kernel, rfl, by decide⟩
theorem dX9_reads_17 : AtI iX9_reads 17 (.iconst 1) 1 18 := ⟨by decide +kernel, rfl⟩
theorem dX9_reads_18 : AtJ iX9_reads 18 (.goto 4) 4 21 22 := ⟨by decide +kernel, rfl, by decide⟩
theorem dX9_reads_21 : AtI iX9_reads 21 (.iconst 0) 1 22 := ⟨by decide +kernel, rfl⟩
theorem dX9_reads_22 : AtI iX9_reads 22 (.istore_n 1) 1 23 := ⟨by decide +kernel, rfl⟩
theorem dX9_reads_23 : AtI iX9_reads 23 (.iload_n 1) 1 24 := ⟨by decide +kernel, rfl⟩
theorem dX9_reads_24 : AtJ iX9_reads 24 (.ifCond .eq 82) 82 27 106 := ⟨by decide +kernel, rfl, by decide⟩
theorem dX9_reads_27 : AtI iX9_reads 27 (.aload_n 0) 1 28 := ⟨by decide +kernel, rfl⟩
theorem dX9_reads_28 : AtI iX9_reads 28 (.invokevirtual 115) 3 31 := ⟨by decide +kernel, rfl⟩
theorem dX9_reads_31 : AtI iX9_reads 31 (.istore_n 2) 1 32 := ⟨by decide +kernel, rfl⟩
theorem dX9_reads_32 : AtI iX9_reads 32 (.iload_n 2) 1 33 := ⟨by decide +kernel, rfl⟩
theorem dX9_reads_33 : AtJ iX9_reads 33 (.ifCond .eq 18) 18 36 51 := ⟨by decide +kernel, rfl, by decide⟩
theorem dX9_reads_36 : AtI iX9_reads 36 (.aload_n 0) 1 37 := ⟨by decide +kernel, rfl⟩
theorem dX9_reads_37 : AtI iX9_reads 37 (.getfield 109) 3 40 := ⟨by decide +kernel, rfl⟩
theorem dX9_reads_40 : AtI iX9_reads 40 (.aload_n 0) 1 41 := ⟨by decide +kernel, rfl⟩
theorem dX9_reads_41 : AtI iX9_reads 41 (.getfield 95) 3 44 := ⟨by decide +kernel, rfl⟩
theorem dX9_reads_44 : AtJ iX9_reads 44 (.if_icmp .ge 7) 7 47 51 := ⟨by decide +kernel, rfl, by decide⟩
theorem dX9_reads_47 : AtI iX9_reads 47 (.iconst 1) 1 48 := ⟨by decide +kernel, rfl⟩
theorem dX9_reads_48 : AtJ iX9_reads 48 (.goto 4) 4 51 52 := ⟨by decide +kernel, rfl, by decide⟩
theorem dX9_reads_51 : AtI iX9_reads 51 (.iconst 0) 1 52 := ⟨by decide +kernel, rfl⟩
theorem dX9_reads_52 : AtI iX9_reads 52 (.istore_n 1) 1 53 := ⟨by decide +kernel, rfl⟩
theorem dX9_reads_53 : AtI iX9_reads 53 (.iload_n 2) 1 54 := ⟨by decide +kernel, rfl⟩
theorem dX9_reads_54 : AtJ iX9_reads 54 (.ifCond .eq 21) 21 57 75 := ⟨by decide +kernel, rfl, by decide⟩
theorem dX9_reads_57 : AtI iX9_reads 57 (.iload_n 1) 1 58 := ⟨by decide +kernel, rfl⟩
theorem dX9_reads_58 : AtJ iX9_reads 58 (.ifCond .eq 27) 27 61 85 := ⟨by decide +kernel, rfl, by decide⟩
theorem dX9_reads_61 : AtI iX9_reads 61 (.aload_n 0) 1 62 := ⟨by decide +kernel, rfl⟩
theorem dX9_reads_62 : AtI iX9_reads 62 (.getfield 22) 3 65 := ⟨by decide +kernel, rfl⟩
theorem dX9_reads_65 : AtI iX9_reads 65 (.aload_n 0) 1 66 := ⟨by decide +kernel, rfl⟩
theorem dX9_reads_66 : AtI iX9_reads 66 (.getfield 109) 3 69 := ⟨by decide +kernel, rfl⟩
theorem dX9_reads_69 : AtI iX9_reads 69 .iaload 1 70 := ⟨by decide +kernel, rfl⟩
theorem dX9_reads_70 : AtI iX9_reads 70 (.bipush 59) 2 72 := ⟨by decide +kernel, rfl⟩
theorem dX9_reads_72 : AtJ iX9_reads 72 (.if_icmp .eq 13) 13 75 85 := ⟨by decide +kernel, rfl, by decide⟩
theorem dX9_reads_75 : AtI iX9_reads 75 (.aload_n 0) 1 76 := ⟨by decide +kernel, rfl⟩
theorem dX9_reads_76 : AtI iX9_reads 76 (.iconst 0) 1 77 := ⟨by decide +kernel, rfl⟩
theorem dX9_reads_77 : AtI iX9_reads 77 (.putfield 106) 3 80 := ⟨by decide +kernel, rfl⟩
theorem dX9_reads_80 : AtI iX9_reads 80 (.aload_n 0) 1 81 := ⟨by decide +kernel, rfl⟩
theorem dX9_reads_81 : AtI iX9_reads 81 (.getfield 109) 3 84 := ⟨by decide +kernel, rfl⟩
theorem dX9_reads_84 : AtI iX9_reads 84 .ireturn 1 85 := ⟨by decide +kernel, rfl⟩
theorem dX9_reads_85 : AtI iX9_reads 85 (.aload_n 0) 1 86 := ⟨by decide +kernel, rfl⟩
theorem dX9_reads_86 : AtI iX9_reads 86 .dup 1 87 := ⟨by decide +kernel, rfl⟩
theorem dX9_reads_87 : AtI iX9_reads 87 (.getfield 109) 3 90 := ⟨by decide +kernel, rfl⟩
theorem dX9_reads_90 : AtI iX9_reads 90 (.iload_n 1) 1 91 := ⟨by decide +kernel, rfl⟩
theorem dX9_reads_91 : AtJ iX9_reads 91 (.ifCond .eq 7) 7 94 98 := ⟨by decide +kernel, rfl, by decide⟩
theorem dX9_reads_94 : AtI iX9_reads 94 (.iconst 1) 1 95 := ⟨by decide +kernel, rfl⟩
theorem dX9_reads_95 : AtJ iX9_reads 95 (.goto 4) 4 98 99 := ⟨by decide +kernel, rfl, by decide⟩
theorem dX9_reads_98 : AtI iX9_reads 98 (.iconst 0) 1 99 := ⟨by decide +kernel, rfl⟩
theorem dX9_reads_99 : AtI iX9_reads 99 .iadd 1 100 := ⟨by decide +kernel, rfl⟩
theorem dX9_reads_100 : AtI iX9_reads 100 (.putfield 109) 3 103 := ⟨by decide +kernel, rfl⟩
theorem dX9_reads_103 : AtJ iX9_reads 103 (.goto (-80)) (-80) 106 23 := ⟨by decide +kernel, rfl, by decide⟩
theorem dX9_reads_106 : AtI iX9_reads 106 (.iconst (-1)) 1 107 := ⟨by decide +kernel, rfl⟩
theorem dX9_reads_107 : AtI iX9_reads 107 .ireturn 1 108 := ⟨by decide +kernel, rfl⟩
theorem dX9_fault_0 : AtI iX9_fault 0 (.aload_n 0) 1 1 := ⟨by decide +kernel, rfl⟩
theorem dX9_fault_1 : AtI iX9_fault 1 (.invokevirtual 119) 3 4 := ⟨by decide +kernel, rfl⟩
theorem dX9_fault_4 : AtI iX9_fault 4 .ireturn 1 5 := ⟨by decide +kernel, rfl⟩
theorem dX9_road_0 : AtI iX9_road 0 (.aload_n 0) 1 1 := ⟨by decide +kernel, rfl⟩
theorem dX9_road_1 : AtI iX9_road 1 (.invokevirtual 119) 3 4 := ⟨by decide +kernel, rfl⟩
theorem dX9_road_4 : AtI iX9_road 4 .pop 1 5 := ⟨by decide +kernel, rfl⟩
theorem dX9_road_5 : AtI iX9_road 5 (.iload_n 1) 1 6 := ⟨by decide +kernel, rfl⟩
theorem dX9_road_6 : AtI iX9_road 6 .i2l 1 7 := ⟨by decide +kernel, rfl⟩
theorem dX9_road_7 : AtI iX9_road 7 (.lconst 0) 1 8 := ⟨by decide +kernel, rfl⟩
theorem dX9_road_8 : AtI iX9_road 8 (.aload_n 0) 1 9 := ⟨by decide +kernel, rfl⟩
theorem dX9_road_9 : AtI iX9_road 9 (.getfield 106) 3 12 := ⟨by decide +kernel, rfl⟩
theorem dX9_road_12 : AtI iX9_road 12 (.iconst 1) 1 13 := ⟨by decide +kernel, rfl⟩
theorem dX9_road_13 : AtI iX9_road 13 .isub 1 14 := ⟨by decide +kernel, rfl⟩
theorem dX9_road_14 : AtI iX9_road 14 .i2l 1 15 := ⟨by decide +kernel, rfl⟩
theorem dX9_road_15 : AtI iX9_road 15 (.invokestatic 65) 3 18 := ⟨by decide +kernel, rfl⟩
theorem dX9_road_18 : AtJ iX9_road 18 (.ifCond .eq 28) 28 21 46 := ⟨by decide +kernel, rfl, by decide⟩
theorem dX9_road_21 : AtI iX9_road 21 (.iload_n 2) 1 22 := ⟨by decide +kernel, rfl⟩
theorem dX9_road_22 : AtI iX9_road 22 .i2l 1 23 := ⟨by decide +kernel, rfl⟩
theorem dX9_road_23 : AtI iX9_road 23 (.lconst 0) 1 24 := ⟨by decide +kernel, rfl⟩
theorem dX9_road_24 : AtI iX9_road 24 (.ldc2_w 78) 3 27 := ⟨by decide +kernel, rfl⟩
theorem dX9_road_27 : AtI iX9_road 27 (.invokestatic 65) 3 30 := ⟨by decide +kernel, rfl⟩
theorem dX9_road_30 : AtJ iX9_road 30 (.ifCond .eq 16) 16 33 46 := ⟨by decide +kernel, rfl, by decide⟩
theorem dX9_road_33 : AtI iX9_road 33 (.aload_n 0) 1 34 := ⟨by decide +kernel, rfl⟩
theorem dX9_road_34 : AtI iX9_road 34 (.getfield 25) 3 37 := ⟨by decide +kernel, rfl⟩
theorem dX9_road_37 : AtI iX9_road 37 (.iconst 3) 1 38 := ⟨by decide +kernel, rfl⟩
theorem dX9_road_38 : AtI iX9_road 38 (.iload_n 1) 1 39 := ⟨by decide +kernel, rfl⟩
theorem dX9_road_39 : AtI iX9_road 39 .imul 1 40 := ⟨by decide +kernel, rfl⟩
theorem dX9_road_40 : AtI iX9_road 40 (.iload_n 2) 1 41 := ⟨by decide +kernel, rfl⟩
theorem dX9_road_41 : AtI iX9_road 41 .iadd 1 42 := ⟨by decide +kernel, rfl⟩
theorem dX9_road_42 : AtI iX9_road 42 .iaload 1 43 := ⟨by decide +kernel, rfl⟩
theorem dX9_road_43 : AtJ iX9_road 43 (.goto 5) 5 46 48 := ⟨by decide +kernel, rfl, by decide⟩
theorem dX9_road_46 : AtI iX9_road 46 (.bipush (-2)) 2 48 := ⟨by decide +kernel, rfl⟩
theorem dX9_road_48 : AtI iX9_road 48 .ireturn 1 49 := ⟨by decide +kernel, rfl⟩
theorem dX9_isLand_0 : AtI iX9_isLand 0 (.iload_n 0) 1 1 := ⟨by decide +kernel, rfl⟩
theorem dX9_isLand_1 : AtI iX9_isLand 1 .i2l 1 2 := ⟨by decide +kernel, rfl⟩
theorem dX9_isLand_2 : AtI iX9_isLand 2 (.lconst 0) 1 3 := ⟨by decide +kernel, rfl⟩
theorem dX9_isLand_3 : AtI iX9_isLand 3 (.ldc2_w 123) 3 6 := ⟨by decide +kernel, rfl⟩
theorem dX9_isLand_6 : AtI iX9_isLand 6 (.invokestatic 65) 3 9 := ⟨by decide +kernel, rfl⟩
theorem dX9_isLand_9 : AtI iX9_isLand 9 .ireturn 1 10 := ⟨by decide +kernel, rfl⟩
theorem dX9_isParish_0 : AtI iX9_isParish 0 (.iload_n 0) 1 1 := ⟨by decide +kernel, rfl⟩
theorem dX9_isParish_1 : AtI iX9_isParish 1 .i2l 1 2 := ⟨by decide +kernel, rfl⟩
theorem dX9_isParish_2 : AtI iX9_isParish 2 (.lconst 0) 1 3 := ⟨by decide +kernel, rfl⟩
theorem dX9_isParish_3 : AtI iX9_isParish 3 (.ldc2_w 72) 3 6 := ⟨by decide +kernel, rfl⟩
theorem dX9_isParish_6 : AtI iX9_isParish 6 (.invokestatic 65) 3 9 := ⟨by decide +kernel, rfl⟩
theorem dX9_isParish_9 : AtI iX9_isParish 9 .ireturn 1 10 := ⟨by decide +kernel, rfl⟩
theorem dX9_isHour_0 : AtI iX9_isHour 0 (.iload_n 0) 1 1 := ⟨by decide +kernel, rfl⟩
theorem dX9_isHour_1 : AtI iX9_isHour 1 .i2l 1 2 := ⟨by decide +kernel, rfl⟩
theorem dX9_isHour_2 : AtI iX9_isHour 2 (.lconst 0) 1 3 := ⟨by decide +kernel, rfl⟩
theorem dX9_isHour_3 : AtI iX9_isHour 3 (.ldc2_w 125) 3 6 := ⟨by decide +kernel, rfl⟩
theorem dX9_isHour_6 : AtI iX9_isHour 6 (.invokestatic 65) 3 9 := ⟨by decide +kernel, rfl⟩
theorem dX9_isHour_9 : AtI iX9_isHour 9 .ireturn 1 10 := ⟨by decide +kernel, rfl⟩
theorem dX9_land_0 : AtI iX9_land 0 (.iload_n 1) 1 1 := ⟨by decide +kernel, rfl⟩
theorem dX9_land_1 : AtI iX9_land 1 (.invokestatic 127) 3 4 := ⟨by decide +kernel, rfl⟩
theorem dX9_land_4 : AtJ iX9_land 4 (.ifCond .eq 46) 46 7 50 := ⟨by decide +kernel, rfl, by decide⟩
theorem dX9_land_7 : AtI iX9_land 7 (.iload_n 2) 1 8 := ⟨by decide +kernel, rfl⟩
theorem dX9_land_8 : AtI iX9_land 8 .i2l 1 9 := ⟨by decide +kernel, rfl⟩
theorem dX9_land_9 : AtI iX9_land 9 (.lconst 0) 1 10 := ⟨by decide +kernel, rfl⟩
theorem dX9_land_10 : AtI iX9_land 10 (.ldc2_w 78) 3 13 := ⟨by decide +kernel, rfl⟩
theorem dX9_land_13 : AtI iX9_land 13 (.invokestatic 65) 3 16 := ⟨by decide +kernel, rfl⟩
theorem dX9_land_16 : AtJ iX9_land 16 (.ifCond .eq 34) 34 19 50 := ⟨by decide +kernel, rfl, by decide⟩
theorem dX9_land_19 : AtI iX9_land 19 (.iload_n 3) 1 20 := ⟨by decide +kernel, rfl⟩
theorem dX9_land_20 : AtI iX9_land 20 .i2l 1 21 := ⟨by decide +kernel, rfl⟩
theorem dX9_land_21 : AtI iX9_land 21 (.lconst 0) 1 22 := ⟨by decide +kernel, rfl⟩
theorem dX9_land_22 : AtI iX9_land 22 (.iload_n 2) 1 23 := ⟨by decide +kernel, rfl⟩
theorem dX9_land_23 : AtJ iX9_land 23 (.ifCond .ne 9) 9 26 32 := ⟨by decide +kernel, rfl, by decide⟩
theorem dX9_land_26 : AtI iX9_land 26 (.ldc2_w 72) 3 29 := ⟨by decide +kernel, rfl⟩
theorem dX9_land_29 : AtJ iX9_land 29 (.goto 15) 15 32 44 := ⟨by decide +kernel, rfl, by decide⟩
theorem dX9_land_32 : AtI iX9_land 32 (.iload_n 2) 1 33 := ⟨by decide +kernel, rfl⟩
theorem dX9_land_33 : AtI iX9_land 33 (.iconst 1) 1 34 := ⟨by decide +kernel, rfl⟩
theorem dX9_land_34 : AtJ iX9_land 34 (.if_icmp .ne 7) 7 37 41 := ⟨by decide +kernel, rfl, by decide⟩
theorem dX9_land_37 : AtI iX9_land 37 (.lconst 1) 1 38 := ⟨by decide +kernel, rfl⟩
theorem dX9_land_38 : AtJ iX9_land 38 (.goto 6) 6 41 44 := ⟨by decide +kernel, rfl, by decide⟩
theorem dX9_land_41 : AtI iX9_land 41 (.ldc2_w 130) 3 44 := ⟨by decide +kernel, rfl⟩
theorem dX9_land_44 : AtI iX9_land 44 (.invokestatic 65) 3 47 := ⟨by decide +kernel, rfl⟩
theorem dX9_land_47 : AtJ iX9_land 47 (.ifCond .ne 6) 6 50 53 := ⟨by decide +kernel, rfl, by decide⟩
theorem dX9_land_50 : AtI iX9_land 50 (.bipush (-2)) 2 52 := ⟨by decide +kernel, rfl⟩
theorem dX9_land_52 : AtI iX9_land 52 .ireturn 1 53 := ⟨by decide +kernel, rfl⟩
theorem dX9_land_53 : AtI iX9_land 53 (.aload_n 0) 1 54 := ⟨by decide +kernel, rfl⟩
theorem dX9_land_54 : AtI iX9_land 54 (.getfield 28) 3 57 := ⟨by decide +kernel, rfl⟩
theorem dX9_land_57 : AtI iX9_land 57 (.iconst 3) 1 58 := ⟨by decide +kernel, rfl⟩
theorem dX9_land_58 : AtI iX9_land 58 (.iload_n 1) 1 59 := ⟨by decide +kernel, rfl⟩
theorem dX9_land_59 : AtI iX9_land 59 .imul 1 60 := ⟨by decide +kernel, rfl⟩
theorem dX9_land_60 : AtI iX9_land 60 (.iload_n 2) 1 61 := ⟨by decide +kernel, rfl⟩
theorem dX9_land_61 : AtI iX9_land 61 .iadd 1 62 := ⟨by decide +kernel, rfl⟩
theorem dX9_land_62 : AtI iX9_land 62 .iaload 1 63 := ⟨by decide +kernel, rfl⟩
theorem dX9_land_63 : AtI iX9_land 63 (.istore 4) 2 65 := ⟨by decide +kernel, rfl⟩
theorem dX9_land_65 : AtI iX9_land 65 (.aload_n 0) 1 66 := ⟨by decide +kernel, rfl⟩
theorem dX9_land_66 : AtI iX9_land 66 (.getfield 28) 3 69 := ⟨by decide +kernel, rfl⟩
theorem dX9_land_69 : AtI iX9_land 69 (.iconst 3) 1 70 := ⟨by decide +kernel, rfl⟩
theorem dX9_land_70 : AtI iX9_land 70 (.iload_n 1) 1 71 := ⟨by decide +kernel, rfl⟩
theorem dX9_land_71 : AtI iX9_land 71 .imul 1 72 := ⟨by decide +kernel, rfl⟩
theorem dX9_land_72 : AtI iX9_land 72 (.iload_n 2) 1 73 := ⟨by decide +kernel, rfl⟩
theorem dX9_land_73 : AtI iX9_land 73 .iadd 1 74 := ⟨by decide +kernel, rfl⟩
theorem dX9_land_74 : AtI iX9_land 74 (.iload_n 3) 1 75 := ⟨by decide +kernel, rfl⟩
theorem dX9_land_75 : AtI iX9_land 75 .iastore 1 76 := ⟨by decide +kernel, rfl⟩
theorem dX9_land_76 : AtI iX9_land 76 (.iload 4) 2 78 := ⟨by decide +kernel, rfl⟩
theorem dX9_land_78 : AtI iX9_land 78 .ireturn 1 79 := ⟨by decide +kernel, rfl⟩
theorem dX9_bell_0 : AtI iX9_bell 0 (.iload_n 1) 1 1 := ⟨by decide +kernel, rfl⟩
theorem dX9_bell_1 : AtI iX9_bell 1 (.invokestatic 132) 3 4 := ⟨by decide +kernel, rfl⟩
theorem dX9_bell_4 : AtJ iX9_bell 4 (.ifCond .eq 22) 22 7 26 := ⟨by decide +kernel, rfl, by decide⟩
theorem dX9_bell_7 : AtI iX9_bell 7 (.iload_n 2) 1 8 := ⟨by decide +kernel, rfl⟩
theorem dX9_bell_8 : AtI iX9_bell 8 (.invokestatic 135) 3 11 := ⟨by decide +kernel, rfl⟩
theorem dX9_bell_11 : AtJ iX9_bell 11 (.ifCond .eq 15) 15 14 26 := ⟨by decide +kernel, rfl, by decide⟩
theorem dX9_bell_14 : AtI iX9_bell 14 (.iload_n 3) 1 15 := ⟨by decide +kernel, rfl⟩
theorem dX9_bell_15 : AtI iX9_bell 15 .i2l 1 16 := ⟨by decide +kernel, rfl⟩
theorem dX9_bell_16 : AtI iX9_bell 16 (.lconst 0) 1 17 := ⟨by decide +kernel, rfl⟩
theorem dX9_bell_17 : AtI iX9_bell 17 (.ldc2_w 138) 3 20 := ⟨by decide +kernel, rfl⟩
theorem dX9_bell_20 : AtI iX9_bell 20 (.invokestatic 65) 3 23 := ⟨by decide +kernel, rfl⟩
theorem dX9_bell_23 : AtJ iX9_bell 23 (.ifCond .ne 6) 6 26 29 := ⟨by decide +kernel, rfl, by decide⟩
theorem dX9_bell_26 : AtI iX9_bell 26 (.bipush (-2)) 2 28 := ⟨by decide +kernel, rfl⟩
theorem dX9_bell_28 : AtI iX9_bell 28 .ireturn 1 29 := ⟨by decide +kernel, rfl⟩
theorem dX9_bell_29 : AtI iX9_bell 29 (.aload_n 0) 1 30 := ⟨by decide +kernel, rfl⟩
theorem dX9_bell_30 : AtI iX9_bell 30 (.getfield 31) 3 33 := ⟨by decide +kernel, rfl⟩
theorem dX9_bell_33 : AtI iX9_bell 33 (.iconst 2) 1 34 := ⟨by decide +kernel, rfl⟩
theorem dX9_bell_34 : AtI iX9_bell 34 (.iload_n 1) 1 35 := ⟨by decide +kernel, rfl⟩
theorem dX9_bell_35 : AtI iX9_bell 35 .imul 1 36 := ⟨by decide +kernel, rfl⟩
theorem dX9_bell_36 : AtI iX9_bell 36 (.iload_n 2) 1 37 := ⟨by decide +kernel, rfl⟩
theorem dX9_bell_37 : AtI iX9_bell 37 .iadd 1 38 := ⟨by decide +kernel, rfl⟩
theorem dX9_bell_38 : AtI iX9_bell 38 .iaload 1 39 := ⟨by decide +kernel, rfl⟩
theorem dX9_bell_39 : AtI iX9_bell 39 (.istore 4) 2 41 := ⟨by decide +kernel, rfl⟩
theorem dX9_bell_41 : AtI iX9_bell 41 (.aload_n 0) 1 42 := ⟨by decide +kernel, rfl⟩
theorem dX9_bell_42 : AtI iX9_bell 42 (.getfield 31) 3 45 := ⟨by decide +kernel, rfl⟩
theorem dX9_bell_45 : AtI iX9_bell 45 (.iconst 2) 1 46 := ⟨by decide +kernel, rfl⟩
theorem dX9_bell_46 : AtI iX9_bell 46 (.iload_n 1) 1 47 := ⟨by decide +kernel, rfl⟩
theorem dX9_bell_47 : AtI iX9_bell 47 .imul 1 48 := ⟨by decide +kernel, rfl⟩
theorem dX9_bell_48 : AtI iX9_bell 48 (.iload_n 2) 1 49 := ⟨by decide +kernel, rfl⟩
theorem dX9_bell_49 : AtI iX9_bell 49 .iadd 1 50 := ⟨by decide +kernel, rfl⟩
theorem dX9_bell_50 : AtI iX9_bell 50 (.iload_n 3) 1 51 := ⟨by decide +kernel, rfl⟩
theorem dX9_bell_51 : AtI iX9_bell 51 .iastore 1 52 := ⟨by decide +kernel, rfl⟩
theorem dX9_bell_52 : AtI iX9_bell 52 (.iload 4) 2 54 := ⟨by decide +kernel, rfl⟩
theorem dX9_bell_54 : AtI iX9_bell 54 .ireturn 1 55 := ⟨by decide +kernel, rfl⟩
theorem dX9_read_0 : AtI iX9_read 0 (.iload_n 1) 1 1 := ⟨by decide +kernel, rfl⟩
theorem dX9_read_1 : AtI iX9_read 1 (.invokestatic 74) 3 4 := ⟨by decide +kernel, rfl⟩
theorem dX9_read_4 : AtJ iX9_read 4 (.ifCond .ne 6) 6 7 10 := ⟨by decide +kernel, rfl, by decide⟩
theorem dX9_read_7 : AtI iX9_read 7 (.bipush (-2)) 2 9 := ⟨by decide +kernel, rfl⟩
theorem dX9_read_9 : AtI iX9_read 9 .ireturn 1 10 := ⟨by decide +kernel, rfl⟩
theorem dX9_read_10 : AtI iX9_read 10 (.aload_n 0) 1 11 := ⟨by decide +kernel, rfl⟩
theorem dX9_read_11 : AtI iX9_read 11 (.getfield 7) 3 14 := ⟨by decide +kernel, rfl⟩
theorem dX9_read_14 : AtI iX9_read 14 (.iload_n 1) 1 15 := ⟨by decide +kernel, rfl⟩
theorem dX9_read_15 : AtI iX9_read 15 .iaload 1 16 := ⟨by decide +kernel, rfl⟩
theorem dX9_read_16 : AtJ iX9_read 16 (.ifCond .ge 9) 9 19 25 := ⟨by decide +kernel, rfl, by decide⟩
theorem dX9_read_19 : AtI iX9_read 19 (.aload_n 0) 1 20 := ⟨by decide +kernel, rfl⟩
theorem dX9_read_20 : AtI iX9_read 20 (.iconst 1) 1 21 := ⟨by decide +kernel, rfl⟩
theorem dX9_read_21 : AtI iX9_read 21 (.invokevirtual 80) 3 24 := ⟨by decide +kernel, rfl⟩
theorem dX9_read_24 : AtI iX9_read 24 .ireturn 1 25 := ⟨by decide +kernel, rfl⟩
theorem dX9_read_25 : AtI iX9_read 25 (.iconst 0) 1 26 := ⟨by decide +kernel, rfl⟩
theorem dX9_read_26 : AtI iX9_read 26 (.istore_n 2) 1 27 := ⟨by decide +kernel, rfl⟩
theorem dX9_read_27 : AtI iX9_read 27 (.iload_n 2) 1 28 := ⟨by decide +kernel, rfl⟩
theorem dX9_read_28 : AtI iX9_read 28 (.aload_n 0) 1 29 := ⟨by decide +kernel, rfl⟩
theorem dX9_read_29 : AtI iX9_read 29 (.getfield 13) 3 32 := ⟨by decide +kernel, rfl⟩
theorem dX9_read_32 : AtI iX9_read 32 (.iload_n 1) 1 33 := ⟨by decide +kernel, rfl⟩
theorem dX9_read_33 : AtI iX9_read 33 .iaload 1 34 := ⟨by decide +kernel, rfl⟩
theorem dX9_read_34 : AtI iX9_read 34 (.bipush 8) 2 36 := ⟨by decide +kernel, rfl⟩
theorem dX9_read_36 : AtI iX9_read 36 (.invokestatic 140) 3 39 := ⟨by decide +kernel, rfl⟩
theorem dX9_read_39 : AtJ iX9_read 39 (.if_icmp .ge 33) 33 42 72 := ⟨by decide +kernel, rfl, by decide⟩
theorem dX9_read_42 : AtI iX9_read 42 (.aload_n 0) 1 43 := ⟨by decide +kernel, rfl⟩
theorem dX9_read_43 : AtI iX9_read 43 (.iload_n 2) 1 44 := ⟨by decide +kernel, rfl⟩
theorem dX9_read_44 : AtI iX9_read 44 (.iconst 2) 1 45 := ⟨by decide +kernel, rfl⟩
theorem dX9_read_45 : AtI iX9_read 45 .idiv 1 46 := ⟨by decide +kernel, rfl⟩
theorem dX9_read_46 : AtI iX9_read 46 (.iload_n 2) 1 47 := ⟨by decide +kernel, rfl⟩
theorem dX9_read_47 : AtI iX9_read 47 (.iconst 2) 1 48 := ⟨by decide +kernel, rfl⟩
theorem dX9_read_48 : AtI iX9_read 48 .irem 1 49 := ⟨by decide +kernel, rfl⟩
theorem dX9_read_49 : AtI iX9_read 49 (.aload_n 0) 1 50 := ⟨by decide +kernel, rfl⟩
theorem dX9_read_50 : AtI iX9_read 50 (.getfield 16) 3 53 := ⟨by decide +kernel, rfl⟩
theorem dX9_read_53 : AtI iX9_read 53 (.bipush 60) 2 55 := ⟨by decide +kernel, rfl⟩
theorem dX9_read_55 : AtI iX9_read 55 (.iload_n 1) 1 56 := ⟨by decide +kernel, rfl⟩
theorem dX9_read_56 : AtI iX9_read 56 .imul 1 57 := ⟨by decide +kernel, rfl⟩
theorem dX9_read_57 : AtI iX9_read 57 (.iload_n 2) 1 58 := ⟨by decide +kernel, rfl⟩
theorem dX9_read_58 : AtI iX9_read 58 .iadd 1 59 := ⟨by decide +kernel, rfl⟩
theorem dX9_read_59 : AtI iX9_read 59 .iaload 1 60 := ⟨by decide +kernel, rfl⟩
theorem dX9_read_60 : AtI iX9_read 60 (.invokevirtual 143) 3 63 := ⟨by decide +kernel, rfl⟩
theorem dX9_read_63 : AtJ iX9_read 63 (.ifCond .lt 9) 9 66 72 := ⟨by decide +kernel, rfl, by decide⟩
theorem dX9_read_66 : AtI iX9_read 66 (.iinc 2 1) 3 69 := ⟨by decide +kernel, rfl⟩
theorem dX9_read_69 : AtJ iX9_read 69 (.goto (-42)) (-42) 72 27 := ⟨by decide +kernel, rfl, by decide⟩
theorem dX9_read_72 : AtI iX9_read 72 (.iload_n 2) 1 73 := ⟨by decide +kernel, rfl⟩
theorem dX9_read_73 : AtI iX9_read 73 .ireturn 1 74 := ⟨by decide +kernel, rfl⟩
theorem dX9_feast_0 : AtI iX9_feast 0 (.iload_n 1) 1 1 := ⟨by decide +kernel, rfl⟩
theorem dX9_feast_1 : AtI iX9_feast 1 .i2l 1 2 := ⟨by decide +kernel, rfl⟩
theorem dX9_feast_2 : AtI iX9_feast 2 (.lconst 0) 1 3 := ⟨by decide +kernel, rfl⟩
theorem dX9_feast_3 : AtI iX9_feast 3 (.ldc2_w 146) 3 6 := ⟨by decide +kernel, rfl⟩
theorem dX9_feast_6 : AtI iX9_feast 6 (.invokestatic 65) 3 9 := ⟨by decide +kernel, rfl⟩
theorem dX9_feast_9 : AtJ iX9_feast 9 (.ifCond .ne 6) 6 12 15 := ⟨by decide +kernel, rfl, by decide⟩
theorem dX9_feast_12 : AtI iX9_feast 12 (.bipush (-2)) 2 14 := ⟨by decide +kernel, rfl⟩
theorem dX9_feast_14 : AtI iX9_feast 14 .ireturn 1 15 := ⟨by decide +kernel, rfl⟩
theorem dX9_feast_15 : AtI iX9_feast 15 (.aload_n 0) 1 16 := ⟨by decide +kernel, rfl⟩
theorem dX9_feast_16 : AtI iX9_feast 16 (.getfield 148) 3 19 := ⟨by decide +kernel, rfl⟩
theorem dX9_feast_19 : AtI iX9_feast 19 (.bipush 8) 2 21 := ⟨by decide +kernel, rfl⟩
theorem dX9_feast_21 : AtJ iX9_feast 21 (.if_icmp .ne 6) 6 24 27 := ⟨by decide +kernel, rfl, by decide⟩
theorem dX9_feast_24 : AtI iX9_feast 24 (.bipush (-4)) 2 26 := ⟨by decide +kernel, rfl⟩
theorem dX9_feast_26 : AtI iX9_feast 26 .ireturn 1 27 := ⟨by decide +kernel, rfl⟩
theorem dX9_feast_27 : AtI iX9_feast 27 (.aload_n 0) 1 28 := ⟨by decide +kernel, rfl⟩
theorem dX9_feast_28 : AtI iX9_feast 28 (.getfield 34) 3 31 := ⟨by decide +kernel, rfl⟩
theorem dX9_feast_31 : AtI iX9_feast 31 (.aload_n 0) 1 32 := ⟨by decide +kernel, rfl⟩
theorem dX9_feast_32 : AtI iX9_feast 32 (.getfield 148) 3 35 := ⟨by decide +kernel, rfl⟩
theorem dX9_feast_35 : AtI iX9_feast 35 (.iload_n 1) 1 36 := ⟨by decide +kernel, rfl⟩
theorem dX9_feast_36 : AtI iX9_feast 36 .iastore 1 37 := ⟨by decide +kernel, rfl⟩
theorem dX9_feast_37 : AtI iX9_feast 37 (.aload_n 0) 1 38 := ⟨by decide +kernel, rfl⟩
theorem dX9_feast_38 : AtI iX9_feast 38 .dup 1 39 := ⟨by decide +kernel, rfl⟩
theorem dX9_feast_39 : AtI iX9_feast 39 (.getfield 148) 3 42 := ⟨by decide +kernel, rfl⟩
theorem dX9_feast_42 : AtI iX9_feast 42 (.iconst 1) 1 43 := ⟨by decide +kernel, rfl⟩
theorem dX9_feast_43 : AtI iX9_feast 43 .iadd 1 44 := ⟨by decide +kernel, rfl⟩
theorem dX9_feast_44 : AtI iX9_feast 44 (.putfield 148) 3 47 := ⟨by decide +kernel, rfl⟩
theorem dX9_feast_47 : AtI iX9_feast 47 (.aload_n 0) 1 48 := ⟨by decide +kernel, rfl⟩
theorem dX9_feast_48 : AtI iX9_feast 48 (.getfield 148) 3 51 := ⟨by decide +kernel, rfl⟩
theorem dX9_feast_51 : AtI iX9_feast 51 .ireturn 1 52 := ⟨by decide +kernel, rfl⟩
theorem dX9_back_0 : AtI iX9_back 0 (.aload_n 0) 1 1 := ⟨by decide +kernel, rfl⟩
theorem dX9_back_1 : AtI iX9_back 1 (.getfield 148) 3 4 := ⟨by decide +kernel, rfl⟩
theorem dX9_back_4 : AtJ iX9_back 4 (.ifCond .ne 6) 6 7 10 := ⟨by decide +kernel, rfl, by decide⟩
theorem dX9_back_7 : AtI iX9_back 7 (.bipush (-3)) 2 9 := ⟨by decide +kernel, rfl⟩
theorem dX9_back_9 : AtI iX9_back 9 .ireturn 1 10 := ⟨by decide +kernel, rfl⟩
theorem dX9_back_10 : AtI iX9_back 10 (.aload_n 0) 1 11 := ⟨by decide +kernel, rfl⟩
theorem dX9_back_11 : AtI iX9_back 11 .dup 1 12 := ⟨by decide +kernel, rfl⟩
theorem dX9_back_12 : AtI iX9_back 12 (.getfield 148) 3 15 := ⟨by decide +kernel, rfl⟩
theorem dX9_back_15 : AtI iX9_back 15 (.iconst 1) 1 16 := ⟨by decide +kernel, rfl⟩
theorem dX9_back_16 : AtI iX9_back 16 .isub 1 17 := ⟨by decide +kernel, rfl⟩
theorem dX9_back_17 : AtI iX9_back 17 (.putfield 148) 3 20 := ⟨by decide +kernel, rfl⟩
theorem dX9_back_20 : AtI iX9_back 20 (.aload_n 0) 1 21 := ⟨by decide +kernel, rfl⟩
theorem dX9_back_21 : AtI iX9_back 21 (.getfield 148) 3 24 := ⟨by decide +kernel, rfl⟩
theorem dX9_back_24 : AtI iX9_back 24 .ireturn 1 25 := ⟨by decide +kernel, rfl⟩
theorem dX9_lent_0 : AtI iX9_lent 0 (.iload_n 1) 1 1 := ⟨by decide +kernel, rfl⟩
theorem dX9_lent_1 : AtI iX9_lent 1 .i2l 1 2 := ⟨by decide +kernel, rfl⟩
theorem dX9_lent_2 : AtI iX9_lent 2 (.lconst 0) 1 3 := ⟨by decide +kernel, rfl⟩
theorem dX9_lent_3 : AtI iX9_lent 3 (.ldc2_w 151) 3 6 := ⟨by decide +kernel, rfl⟩
theorem dX9_lent_6 : AtI iX9_lent 6 (.invokestatic 65) 3 9 := ⟨by decide +kernel, rfl⟩
theorem dX9_lent_9 : AtJ iX9_lent 9 (.ifCond .ne 6) 6 12 15 := ⟨by decide +kernel, rfl, by decide⟩
theorem dX9_lent_12 : AtI iX9_lent 12 (.bipush (-2)) 2 14 := ⟨by decide +kernel, rfl⟩
theorem dX9_lent_14 : AtI iX9_lent 14 .ireturn 1 15 := ⟨by decide +kernel, rfl⟩
theorem dX9_lent_15 : AtI iX9_lent 15 (.aload_n 0) 1 16 := ⟨by decide +kernel, rfl⟩
theorem dX9_lent_16 : AtI iX9_lent 16 (.getfield 153) 3 19 := ⟨by decide +kernel, rfl⟩
theorem dX9_lent_19 : AtI iX9_lent 19 (.istore_n 2) 1 20 := ⟨by decide +kernel, rfl⟩
theorem dX9_lent_20 : AtI iX9_lent 20 (.aload_n 0) 1 21 := ⟨by decide +kernel, rfl⟩
theorem dX9_lent_21 : AtI iX9_lent 21 (.iload_n 1) 1 22 := ⟨by decide +kernel, rfl⟩
theorem dX9_lent_22 : AtI iX9_lent 22 (.putfield 153) 3 25 := ⟨by decide +kernel, rfl⟩
theorem dX9_lent_25 : AtI iX9_lent 25 (.iload_n 2) 1 26 := ⟨by decide +kernel, rfl⟩
theorem dX9_lent_26 : AtI iX9_lent 26 .ireturn 1 27 := ⟨by decide +kernel, rfl⟩
theorem dX9_isWarBy_0 : AtI iX9_isWarBy 0 (.iload_n 2) 1 1 := ⟨by decide +kernel, rfl⟩
theorem dX9_isWarBy_1 : AtI iX9_isWarBy 1 .i2l 1 2 := ⟨by decide +kernel, rfl⟩
theorem dX9_isWarBy_2 : AtI iX9_isWarBy 2 (.aload_n 0) 1 3 := ⟨by decide +kernel, rfl⟩
theorem dX9_isWarBy_3 : AtI iX9_isWarBy 3 (.getfield 31) 3 6 := ⟨by decide +kernel, rfl⟩
theorem dX9_isWarBy_6 : AtI iX9_isWarBy 6 (.iconst 2) 1 7 := ⟨by decide +kernel, rfl⟩
theorem dX9_isWarBy_7 : AtI iX9_isWarBy 7 (.iload_n 1) 1 8 := ⟨by decide +kernel, rfl⟩
theorem dX9_isWarBy_8 : AtI iX9_isWarBy 8 .imul 1 9 := ⟨by decide +kernel, rfl⟩
theorem dX9_isWarBy_9 : AtI iX9_isWarBy 9 .iaload 1 10 := ⟨by decide +kernel, rfl⟩
theorem dX9_isWarBy_10 : AtI iX9_isWarBy 10 .i2l 1 11 := ⟨by decide +kernel, rfl⟩
theorem dX9_isWarBy_11 : AtI iX9_isWarBy 11 (.bipush 47) 2 13 := ⟨by decide +kernel, rfl⟩
theorem dX9_isWarBy_13 : AtI iX9_isWarBy 13 (.aload_n 0) 1 14 := ⟨by decide +kernel, rfl⟩
theorem dX9_isWarBy_14 : AtI iX9_isWarBy 14 (.getfield 31) 3 17 := ⟨by decide +kernel, rfl⟩
theorem dX9_isWarBy_17 : AtI iX9_isWarBy 17 (.iconst 2) 1 18 := ⟨by decide +kernel, rfl⟩
theorem dX9_isWarBy_18 : AtI iX9_isWarBy 18 (.iload_n 1) 1 19 := ⟨by decide +kernel, rfl⟩
theorem dX9_isWarBy_19 : AtI iX9_isWarBy 19 .imul 1 20 := ⟨by decide +kernel, rfl⟩
theorem dX9_isWarBy_20 : AtI iX9_isWarBy 20 (.iconst 1) 1 21 := ⟨by decide +kernel, rfl⟩
theorem dX9_isWarBy_21 : AtI iX9_isWarBy 21 .iadd 1 22 := ⟨by decide +kernel, rfl⟩
theorem dX9_isWarBy_22 : AtI iX9_isWarBy 22 .iaload 1 23 := ⟨by decide +kernel, rfl⟩
theorem dX9_isWarBy_23 : AtI iX9_isWarBy 23 .iadd 1 24 := ⟨by decide +kernel, rfl⟩
theorem dX9_isWarBy_24 : AtI iX9_isWarBy 24 .i2l 1 25 := ⟨by decide +kernel, rfl⟩
theorem dX9_isWarBy_25 : AtI iX9_isWarBy 25 (.invokestatic 65) 3 28 := ⟨by decide +kernel, rfl⟩
theorem dX9_isWarBy_28 : AtI iX9_isWarBy 28 .ireturn 1 29 := ⟨by decide +kernel, rfl⟩
theorem dX9_isFeast_0 : AtI iX9_isFeast 0 (.iconst 0) 1 1 := ⟨by decide +kernel, rfl⟩
theorem dX9_isFeast_1 : AtI iX9_isFeast 1 (.istore_n 2) 1 2 := ⟨by decide +kernel, rfl⟩
theorem dX9_isFeast_2 : AtI iX9_isFeast 2 (.iconst 0) 1 3 := ⟨by decide +kernel, rfl⟩
theorem dX9_isFeast_3 : AtI iX9_isFeast 3 (.istore_n 3) 1 4 := ⟨by decide +kernel, rfl⟩
theorem dX9_isFeast_4 : AtI iX9_isFeast 4 (.iload_n 3) 1 5 := ⟨by decide +kernel, rfl⟩
theorem dX9_isFeast_5 : AtI iX9_isFeast 5 (.aload_n 0) 1 6 := ⟨by decide +kernel, rfl⟩
theorem dX9_isFeast_6 : AtI iX9_isFeast 6 (.getfield 148) 3 9 := ⟨by decide +kernel, rfl⟩
theorem dX9_isFeast_9 : AtJ iX9_isFeast 9 (.if_icmp .ge 29) 29 12 38 := ⟨by decide +kernel, rfl, by decide⟩
theorem dX9_isFeast_12 : AtI iX9_isFeast 12 (.iload_n 2) 1 13 := ⟨by decide +kernel, rfl⟩
theorem dX9_isFeast_13 : AtJ iX9_isFeast 13 (.ifCond .ne 13) 13 16 26 := ⟨by decide +kernel, rfl, by decide⟩
theorem dX9_isFeast_16 : AtI iX9_isFeast 16 (.aload_n 0) 1 17 := ⟨by decide +kernel, rfl⟩
theorem dX9_isFeast_17 : AtI iX9_isFeast 17 (.getfield 34) 3 20 := ⟨by decide +kernel, rfl⟩
theorem dX9_isFeast_20 : AtI iX9_isFeast 20 (.iload_n 3) 1 21 := ⟨by decide +kernel, rfl⟩
theorem dX9_isFeast_21 : AtI iX9_isFeast 21 .iaload 1 22 := ⟨by decide +kernel, rfl⟩
theorem dX9_isFeast_22 : AtI iX9_isFeast 22 (.iload_n 1) 1 23 := ⟨by decide +kernel, rfl⟩
theorem dX9_isFeast_23 : AtJ iX9_isFeast 23 (.if_icmp .ne 7) 7 26 30 := ⟨by decide +kernel, rfl, by decide⟩
theorem dX9_isFeast_26 : AtI iX9_isFeast 26 (.iconst 1) 1 27 := ⟨by decide +kernel, rfl⟩
theorem dX9_isFeast_27 : AtJ iX9_isFeast 27 (.goto 4) 4 30 31 := ⟨by decide +kernel, rfl, by decide⟩
theorem dX9_isFeast_30 : AtI iX9_isFeast 30 (.iconst 0) 1 31 := ⟨by decide +kernel, rfl⟩
theorem dX9_isFeast_31 : AtI iX9_isFeast 31 (.istore_n 2) 1 32 := ⟨by decide +kernel, rfl⟩
theorem dX9_isFeast_32 : AtI iX9_isFeast 32 (.iinc 3 1) 3 35 := ⟨by decide +kernel, rfl⟩
theorem dX9_isFeast_35 : AtJ iX9_isFeast 35 (.goto (-31)) (-31) 38 4 := ⟨by decide +kernel, rfl, by decide⟩
theorem dX9_isFeast_38 : AtI iX9_isFeast 38 (.iload_n 2) 1 39 := ⟨by decide +kernel, rfl⟩
theorem dX9_isFeast_39 : AtI iX9_isFeast 39 .ireturn 1 40 := ⟨by decide +kernel, rfl⟩
theorem dX9_isWar_0 : AtI iX9_isWar 0 (.iload_n 1) 1 1 := ⟨by decide +kernel, rfl⟩
theorem dX9_isWar_1 : AtI iX9_isWar 1 (.sipush 671) 3 4 := ⟨by decide +kernel, rfl⟩
theorem dX9_isWar_4 : AtJ iX9_isWar 4 (.if_icmp .gt 35) 35 7 39 := ⟨by decide +kernel, rfl, by decide⟩
theorem dX9_isWar_7 : AtI iX9_isWar 7 (.aload_n 0) 1 8 := ⟨by decide +kernel, rfl⟩
theorem dX9_isWar_8 : AtI iX9_isWar 8 (.getfield 153) 3 11 := ⟨by decide +kernel, rfl⟩
theorem dX9_isWar_11 : AtI iX9_isWar 11 (.iload_n 1) 1 12 := ⟨by decide +kernel, rfl⟩
theorem dX9_isWar_12 : AtI iX9_isWar 12 (.sipush 168) 3 15 := ⟨by decide +kernel, rfl⟩
theorem dX9_isWar_15 : AtI iX9_isWar 15 .idiv 1 16 := ⟨by decide +kernel, rfl⟩
theorem dX9_isWar_16 : AtI iX9_isWar 16 (.invokestatic 156) 3 19 := ⟨by decide +kernel, rfl⟩
theorem dX9_isWar_19 : AtJ iX9_isWar 19 (.ifCond .ne 20) 20 22 39 := ⟨by decide +kernel, rfl, by decide⟩
theorem dX9_isWar_22 : AtI iX9_isWar 22 (.aload_n 0) 1 23 := ⟨by decide +kernel, rfl⟩
theorem dX9_isWar_23 : AtI iX9_isWar 23 (.getfield 28) 3 26 := ⟨by decide +kernel, rfl⟩
theorem dX9_isWar_26 : AtI iX9_isWar 26 (.iconst 3) 1 27 := ⟨by decide +kernel, rfl⟩
theorem dX9_isWar_27 : AtI iX9_isWar 27 (.iload_n 2) 1 28 := ⟨by decide +kernel, rfl⟩
theorem dX9_isWar_28 : AtI iX9_isWar 28 .imul 1 29 := ⟨by decide +kernel, rfl⟩
theorem dX9_isWar_29 : AtI iX9_isWar 29 (.iconst 1) 1 30 := ⟨by decide +kernel, rfl⟩
theorem dX9_isWar_30 : AtI iX9_isWar 30 .iadd 1 31 := ⟨by decide +kernel, rfl⟩
theorem dX9_isWar_31 : AtI iX9_isWar 31 .iaload 1 32 := ⟨by decide +kernel, rfl⟩
theorem dX9_isWar_32 : AtJ iX9_isWar 32 (.ifCond .ne 7) 7 35 39 := ⟨by decide +kernel, rfl, by decide⟩
theorem dX9_isWar_35 : AtI iX9_isWar 35 (.iconst 1) 1 36 := ⟨by decide +kernel, rfl⟩
theorem dX9_isWar_36 : AtJ iX9_isWar 36 (.goto 4) 4 39 40 := ⟨by decide +kernel, rfl, by decide⟩
theorem dX9_isWar_39 : AtI iX9_isWar 39 (.iconst 0) 1 40 := ⟨by decide +kernel, rfl⟩
theorem dX9_isWar_40 : AtI iX9_isWar 40 (.istore_n 3) 1 41 := ⟨by decide +kernel, rfl⟩
theorem dX9_isWar_41 : AtI iX9_isWar 41 (.iload_n 3) 1 42 := ⟨by decide +kernel, rfl⟩
theorem dX9_isWar_42 : AtJ iX9_isWar 42 (.ifCond .eq 38) 38 45 80 := ⟨by decide +kernel, rfl, by decide⟩
theorem dX9_isWar_45 : AtI iX9_isWar 45 (.aload_n 0) 1 46 := ⟨by decide +kernel, rfl⟩
theorem dX9_isWar_46 : AtI iX9_isWar 46 (.aload_n 0) 1 47 := ⟨by decide +kernel, rfl⟩
theorem dX9_isWar_47 : AtI iX9_isWar 47 (.getfield 28) 3 50 := ⟨by decide +kernel, rfl⟩
theorem dX9_isWar_50 : AtI iX9_isWar 50 (.iconst 3) 1 51 := ⟨by decide +kernel, rfl⟩
theorem dX9_isWar_51 : AtI iX9_isWar 51 (.iload_n 2) 1 52 := ⟨by decide +kernel, rfl⟩
theorem dX9_isWar_52 : AtI iX9_isWar 52 .imul 1 53 := ⟨by decide +kernel, rfl⟩
theorem dX9_isWar_53 : AtI iX9_isWar 53 .iaload 1 54 := ⟨by decide +kernel, rfl⟩
theorem dX9_isWar_54 : AtI iX9_isWar 54 (.iload_n 1) 1 55 := ⟨by decide +kernel, rfl⟩
theorem dX9_isWar_55 : AtI iX9_isWar 55 (.sipush 168) 3 58 := ⟨by decide +kernel, rfl⟩
theorem dX9_isWar_58 : AtI iX9_isWar 58 .irem 1 59 := ⟨by decide +kernel, rfl⟩
theorem dX9_isWar_59 : AtI iX9_isWar 59 (.invokevirtual 160) 3 62 := ⟨by decide +kernel, rfl⟩
theorem dX9_isWar_62 : AtJ iX9_isWar 62 (.ifCond .eq 18) 18 65 80 := ⟨by decide +kernel, rfl, by decide⟩
theorem dX9_isWar_65 : AtI iX9_isWar 65 (.aload_n 0) 1 66 := ⟨by decide +kernel, rfl⟩
theorem dX9_isWar_66 : AtI iX9_isWar 66 (.iload_n 1) 1 67 := ⟨by decide +kernel, rfl⟩
theorem dX9_isWar_67 : AtI iX9_isWar 67 (.bipush 24) 2 69 := ⟨by decide +kernel, rfl⟩
theorem dX9_isWar_69 : AtI iX9_isWar 69 .idiv 1 70 := ⟨by decide +kernel, rfl⟩
theorem dX9_isWar_70 : AtI iX9_isWar 70 (.invokevirtual 163) 3 73 := ⟨by decide +kernel, rfl⟩
theorem dX9_isWar_73 : AtJ iX9_isWar 73 (.ifCond .ne 7) 7 76 80 := ⟨by decide +kernel, rfl, by decide⟩
theorem dX9_isWar_76 : AtI iX9_isWar 76 (.iconst 1) 1 77 := ⟨by decide +kernel, rfl⟩
theorem dX9_isWar_77 : AtJ iX9_isWar 77 (.goto 4) 4 80 81 := ⟨by decide +kernel, rfl, by decide⟩
theorem dX9_isWar_80 : AtI iX9_isWar 80 (.iconst 0) 1 81 := ⟨by decide +kernel, rfl⟩
theorem dX9_isWar_81 : AtI iX9_isWar 81 .ireturn 1 82 := ⟨by decide +kernel, rfl⟩
theorem dX9_war_0 : AtI iX9_war 0 (.iload_n 1) 1 1 := ⟨by decide +kernel, rfl⟩
theorem dX9_war_1 : AtI iX9_war 1 (.invokestatic 166) 3 4 := ⟨by decide +kernel, rfl⟩
theorem dX9_war_4 : AtJ iX9_war 4 (.ifCond .eq 10) 10 7 14 := ⟨by decide +kernel, rfl, by decide⟩
theorem dX9_war_7 : AtI iX9_war 7 (.iload_n 2) 1 8 := ⟨by decide +kernel, rfl⟩
theorem dX9_war_8 : AtI iX9_war 8 (.invokestatic 127) 3 11 := ⟨by decide +kernel, rfl⟩
theorem dX9_war_11 : AtJ iX9_war 11 (.ifCond .ne 8) 8 14 19 := ⟨by decide +kernel, rfl, by decide⟩
theorem dX9_war_14 : AtI iX9_war 14 (.bipush (-2)) 2 16 := ⟨by decide +kernel, rfl⟩
theorem dX9_war_16 : AtJ iX9_war 16 (.goto 17) 17 19 33 := ⟨by decide +kernel, rfl, by decide⟩
theorem dX9_war_19 : AtI iX9_war 19 (.aload_n 0) 1 20 := ⟨by decide +kernel, rfl⟩
theorem dX9_war_20 : AtI iX9_war 20 (.iload_n 1) 1 21 := ⟨by decide +kernel, rfl⟩
theorem dX9_war_21 : AtI iX9_war 21 (.iload_n 2) 1 22 := ⟨by decide +kernel, rfl⟩
theorem dX9_war_22 : AtI iX9_war 22 (.invokevirtual 169) 3 25 := ⟨by decide +kernel, rfl⟩
theorem dX9_war_25 : AtJ iX9_war 25 (.ifCond .eq 7) 7 28 32 := ⟨by decide +kernel, rfl, by decide⟩
theorem dX9_war_28 : AtI iX9_war 28 (.iconst 1) 1 29 := ⟨by decide +kernel, rfl⟩
theorem dX9_war_29 : AtJ iX9_war 29 (.goto 4) 4 32 33 := ⟨by decide +kernel, rfl, by decide⟩
theorem dX9_war_32 : AtI iX9_war 32 (.iconst 0) 1 33 := ⟨by decide +kernel, rfl⟩
theorem dX9_war_33 : AtI iX9_war 33 .ireturn 1 34 := ⟨by decide +kernel, rfl⟩
theorem dX9_strikesNow_0 : AtI iX9_strikesNow 0 (.iload_n 3) 1 1 := ⟨by decide +kernel, rfl⟩
theorem dX9_strikesNow_1 : AtJ iX9_strikesNow 1 (.ifCond .eq 19) 19 4 20 := ⟨by decide +kernel, rfl, by decide⟩
theorem dX9_strikesNow_4 : AtI iX9_strikesNow 4 (.iload_n 3) 1 5 := ⟨by decide +kernel, rfl⟩
theorem dX9_strikesNow_5 : AtI iX9_strikesNow 5 (.iconst 2) 1 6 := ⟨by decide +kernel, rfl⟩
theorem dX9_strikesNow_6 : AtJ iX9_strikesNow 6 (.if_icmp .ne 18) 18 9 24 := ⟨by decide +kernel, rfl, by decide⟩
theorem dX9_strikesNow_9 : AtI iX9_strikesNow 9 (.iload_n 1) 1 10 := ⟨by decide +kernel, rfl⟩
theorem dX9_strikesNow_10 : AtI iX9_strikesNow 10 (.bipush 24) 2 12 := ⟨by decide +kernel, rfl⟩
theorem dX9_strikesNow_12 : AtI iX9_strikesNow 12 .idiv 1 13 := ⟨by decide +kernel, rfl⟩
theorem dX9_strikesNow_13 : AtI iX9_strikesNow 13 (.bipush 7) 2 15 := ⟨by decide +kernel, rfl⟩
theorem dX9_strikesNow_15 : AtI iX9_strikesNow 15 .irem 1 16 := ⟨by decide +kernel, rfl⟩
theorem dX9_strikesNow_16 : AtI iX9_strikesNow 16 (.iconst 1) 1 17 := ⟨by decide +kernel, rfl⟩
theorem dX9_strikesNow_17 : AtJ iX9_strikesNow 17 (.if_icmp .ne 7) 7 20 24 := ⟨by decide +kernel, rfl, by decide⟩
theorem dX9_strikesNow_20 : AtI iX9_strikesNow 20 (.iconst 1) 1 21 := ⟨by decide +kernel, rfl⟩
theorem dX9_strikesNow_21 : AtJ iX9_strikesNow 21 (.goto 4) 4 24 25 := ⟨by decide +kernel, rfl, by decide⟩
theorem dX9_strikesNow_24 : AtI iX9_strikesNow 24 (.iconst 0) 1 25 := ⟨by decide +kernel, rfl⟩
theorem dX9_strikesNow_25 : AtI iX9_strikesNow 25 (.istore 5) 2 27 := ⟨by decide +kernel, rfl⟩
theorem dX9_strikesNow_27 : AtI iX9_strikesNow 27 (.iload 5) 2 29 := ⟨by decide +kernel, rfl⟩
theorem dX9_strikesNow_29 : AtJ iX9_strikesNow 29 (.ifCond .eq 22) 22 32 51 := ⟨by decide +kernel, rfl, by decide⟩
theorem dX9_strikesNow_32 : AtI iX9_strikesNow 32 (.iload 4) 2 34 := ⟨by decide +kernel, rfl⟩
theorem dX9_strikesNow_34 : AtI iX9_strikesNow 34 (.iconst 3) 1 35 := ⟨by decide +kernel, rfl⟩
theorem dX9_strikesNow_35 : AtJ iX9_strikesNow 35 (.if_icmp .eq 16) 16 38 51 := ⟨by decide +kernel, rfl, by decide⟩
theorem dX9_strikesNow_38 : AtI iX9_strikesNow 38 (.aload_n 0) 1 39 := ⟨by decide +kernel, rfl⟩
theorem dX9_strikesNow_39 : AtI iX9_strikesNow 39 (.iload_n 1) 1 40 := ⟨by decide +kernel, rfl⟩
theorem dX9_strikesNow_40 : AtI iX9_strikesNow 40 (.iload_n 2) 1 41 := ⟨by decide +kernel, rfl⟩
theorem dX9_strikesNow_41 : AtI iX9_strikesNow 41 (.invokevirtual 169) 3 44 := ⟨by decide +kernel, rfl⟩
theorem dX9_strikesNow_44 : AtJ iX9_strikesNow 44 (.ifCond .eq 7) 7 47 51 := ⟨by decide +kernel, rfl, by decide⟩
theorem dX9_strikesNow_47 : AtI iX9_strikesNow 47 (.iconst 1) 1 48 := ⟨by decide +kernel, rfl⟩
theorem dX9_strikesNow_48 : AtJ iX9_strikesNow 48 (.goto 4) 4 51 52 := ⟨by decide +kernel, rfl, by decide⟩
theorem dX9_strikesNow_51 : AtI iX9_strikesNow 51 (.iconst 0) 1 52 := ⟨by decide +kernel, rfl⟩
theorem dX9_strikesNow_52 : AtI iX9_strikesNow 52 .ireturn 1 53 := ⟨by decide +kernel, rfl⟩
theorem dX9_strikes_0 : AtI iX9_strikes 0 (.iload_n 1) 1 1 := ⟨by decide +kernel, rfl⟩
theorem dX9_strikes_1 : AtI iX9_strikes 1 (.invokestatic 166) 3 4 := ⟨by decide +kernel, rfl⟩
theorem dX9_strikes_4 : AtJ iX9_strikes 4 (.ifCond .eq 39) 39 7 43 := ⟨by decide +kernel, rfl, by decide⟩
theorem dX9_strikes_7 : AtI iX9_strikes 7 (.iload_n 2) 1 8 := ⟨by decide +kernel, rfl⟩
theorem dX9_strikes_8 : AtI iX9_strikes 8 (.invokestatic 127) 3 11 := ⟨by decide +kernel, rfl⟩
theorem dX9_strikes_11 : AtJ iX9_strikes 11 (.ifCond .eq 32) 32 14 43 := ⟨by decide +kernel, rfl, by decide⟩
theorem dX9_strikes_14 : AtI iX9_strikes 14 (.iload_n 3) 1 15 := ⟨by decide +kernel, rfl⟩
theorem dX9_strikes_15 : AtI iX9_strikes 15 .i2l 1 16 := ⟨by decide +kernel, rfl⟩
theorem dX9_strikes_16 : AtI iX9_strikes 16 (.lconst 0) 1 17 := ⟨by decide +kernel, rfl⟩
theorem dX9_strikes_17 : AtI iX9_strikes 17 (.ldc2_w 72) 3 20 := ⟨by decide +kernel, rfl⟩
theorem dX9_strikes_20 : AtI iX9_strikes 20 (.invokestatic 65) 3 23 := ⟨by decide +kernel, rfl⟩
theorem dX9_strikes_23 : AtJ iX9_strikes 23 (.ifCond .eq 20) 20 26 43 := ⟨by decide +kernel, rfl, by decide⟩
theorem dX9_strikes_26 : AtI iX9_strikes 26 (.iload 4) 2 28 := ⟨by decide +kernel, rfl⟩
theorem dX9_strikes_28 : AtI iX9_strikes 28 .i2l 1 29 := ⟨by decide +kernel, rfl⟩
theorem dX9_strikes_29 : AtI iX9_strikes 29 (.lconst 0) 1 30 := ⟨by decide +kernel, rfl⟩
theorem dX9_strikes_30 : AtI iX9_strikes 30 (.ldc2_w 72) 3 33 := ⟨by decide +kernel, rfl⟩
theorem dX9_strikes_33 : AtI iX9_strikes 33 (.invokestatic 65) 3 36 := ⟨by decide +kernel, rfl⟩
theorem dX9_strikes_36 : AtJ iX9_strikes 36 (.ifCond .eq 7) 7 39 43 := ⟨by decide +kernel, rfl, by decide⟩
theorem dX9_strikes_39 : AtI iX9_strikes 39 (.iconst 1) 1 40 := ⟨by decide +kernel, rfl⟩
theorem dX9_strikes_40 : AtJ iX9_strikes 40 (.goto 4) 4 43 44 := ⟨by decide +kernel, rfl, by decide⟩
theorem dX9_strikes_43 : AtI iX9_strikes 43 (.iconst 0) 1 44 := ⟨by decide +kernel, rfl⟩
theorem dX9_strikes_44 : AtI iX9_strikes 44 (.istore 5) 2 46 := ⟨by decide +kernel, rfl⟩
theorem dX9_strikes_46 : AtI iX9_strikes 46 (.iload 5) 2 48 := ⟨by decide +kernel, rfl⟩
theorem dX9_strikes_48 : AtJ iX9_strikes 48 (.ifCond .ne 8) 8 51 56 := ⟨by decide +kernel, rfl, by decide⟩
theorem dX9_strikes_51 : AtI iX9_strikes 51 (.bipush (-2)) 2 53 := ⟨by decide +kernel, rfl⟩
theorem dX9_strikes_53 : AtJ iX9_strikes 53 (.goto 20) 20 56 73 := ⟨by decide +kernel, rfl, by decide⟩
theorem dX9_strikes_56 : AtI iX9_strikes 56 (.aload_n 0) 1 57 := ⟨by decide +kernel, rfl⟩
theorem dX9_strikes_57 : AtI iX9_strikes 57 (.iload_n 1) 1 58 := ⟨by decide +kernel, rfl⟩
theorem dX9_strikes_58 : AtI iX9_strikes 58 (.iload_n 2) 1 59 := ⟨by decide +kernel, rfl⟩
theorem dX9_strikes_59 : AtI iX9_strikes 59 (.iload_n 3) 1 60 := ⟨by decide +kernel, rfl⟩
theorem dX9_strikes_60 : AtI iX9_strikes 60 (.iload 4) 2 62 := ⟨by decide +kernel, rfl⟩
theorem dX9_strikes_62 : AtI iX9_strikes 62 (.invokevirtual 172) 3 65 := ⟨by decide +kernel, rfl⟩
theorem dX9_strikes_65 : AtJ iX9_strikes 65 (.ifCond .eq 7) 7 68 72 := ⟨by decide +kernel, rfl, by decide⟩
theorem dX9_strikes_68 : AtI iX9_strikes 68 (.iconst 1) 1 69 := ⟨by decide +kernel, rfl⟩
theorem dX9_strikes_69 : AtJ iX9_strikes 69 (.goto 4) 4 72 73 := ⟨by decide +kernel, rfl, by decide⟩
theorem dX9_strikes_72 : AtI iX9_strikes 72 (.iconst 0) 1 73 := ⟨by decide +kernel, rfl⟩
theorem dX9_strikes_73 : AtI iX9_strikes 73 .ireturn 1 74 := ⟨by decide +kernel, rfl⟩
theorem dX9_nextOf_0 : AtI iX9_nextOf 0 (.iload_n 1) 1 1 := ⟨by decide +kernel, rfl⟩
theorem dX9_nextOf_1 : AtI iX9_nextOf 1 (.istore 4) 2 3 := ⟨by decide +kernel, rfl⟩
theorem dX9_nextOf_3 : AtI iX9_nextOf 3 (.iload 4) 2 5 := ⟨by decide +kernel, rfl⟩
theorem dX9_nextOf_5 : AtI iX9_nextOf 5 (.sipush 672) 3 8 := ⟨by decide +kernel, rfl⟩
theorem dX9_nextOf_8 : AtJ iX9_nextOf 8 (.if_icmp .ge 32) 32 11 40 := ⟨by decide +kernel, rfl, by decide⟩
theorem dX9_nextOf_11 : AtI iX9_nextOf 11 (.aload_n 0) 1 12 := ⟨by decide +kernel, rfl⟩
theorem dX9_nextOf_12 : AtI iX9_nextOf 12 (.iload 4) 2 14 := ⟨by decide +kernel, rfl⟩
theorem dX9_nextOf_14 : AtI iX9_nextOf 14 (.iload_n 2) 1 15 := ⟨by decide +kernel, rfl⟩
theorem dX9_nextOf_15 : AtI iX9_nextOf 15 (.invokevirtual 169) 3 18 := ⟨by decide +kernel, rfl⟩
theorem dX9_nextOf_18 : AtI iX9_nextOf 18 (.iload_n 3) 1 19 := ⟨by decide +kernel, rfl⟩
theorem dX9_nextOf_19 : AtI iX9_nextOf 19 (.iconst 1) 1 20 := ⟨by decide +kernel, rfl⟩
theorem dX9_nextOf_20 : AtJ iX9_nextOf 20 (.if_icmp .ne 7) 7 23 27 := ⟨by decide +kernel, rfl, by decide⟩
theorem dX9_nextOf_23 : AtI iX9_nextOf 23 (.iconst 1) 1 24 := ⟨by decide +kernel, rfl⟩
theorem dX9_nextOf_24 : AtJ iX9_nextOf 24 (.goto 4) 4 27 28 := ⟨by decide +kernel, rfl, by decide⟩
theorem dX9_nextOf_27 : AtI iX9_nextOf 27 (.iconst 0) 1 28 := ⟨by decide +kernel, rfl⟩
theorem dX9_nextOf_28 : AtJ iX9_nextOf 28 (.if_icmp .ne 6) 6 31 34 := ⟨by decide +kernel, rfl, by decide⟩
theorem dX9_nextOf_31 : AtI iX9_nextOf 31 (.iload 4) 2 33 := ⟨by decide +kernel, rfl⟩
theorem dX9_nextOf_33 : AtI iX9_nextOf 33 .ireturn 1 34 := ⟨by decide +kernel, rfl⟩
theorem dX9_nextOf_34 : AtI iX9_nextOf 34 (.iinc 4 1) 3 37 := ⟨by decide +kernel, rfl⟩
theorem dX9_nextOf_37 : AtJ iX9_nextOf 37 (.goto (-34)) (-34) 40 3 := ⟨by decide +kernel, rfl, by decide⟩
theorem dX9_nextOf_40 : AtI iX9_nextOf 40 (.iconst (-1)) 1 41 := ⟨by decide +kernel, rfl⟩
theorem dX9_nextOf_41 : AtI iX9_nextOf 41 .ireturn 1 42 := ⟨by decide +kernel, rfl⟩
theorem dX9_next_0 : AtI iX9_next 0 (.iload_n 1) 1 1 := ⟨by decide +kernel, rfl⟩
theorem dX9_next_1 : AtI iX9_next 1 (.invokestatic 166) 3 4 := ⟨by decide +kernel, rfl⟩
theorem dX9_next_4 : AtJ iX9_next 4 (.ifCond .eq 27) 27 7 31 := ⟨by decide +kernel, rfl, by decide⟩
theorem dX9_next_7 : AtI iX9_next 7 (.iload_n 2) 1 8 := ⟨by decide +kernel, rfl⟩
theorem dX9_next_8 : AtI iX9_next 8 (.invokestatic 127) 3 11 := ⟨by decide +kernel, rfl⟩
theorem dX9_next_11 : AtJ iX9_next 11 (.ifCond .eq 20) 20 14 31 := ⟨by decide +kernel, rfl, by decide⟩
theorem dX9_next_14 : AtI iX9_next 14 (.iload_n 3) 1 15 := ⟨by decide +kernel, rfl⟩
theorem dX9_next_15 : AtI iX9_next 15 (.invokestatic 135) 3 18 := ⟨by decide +kernel, rfl⟩
theorem dX9_next_18 : AtJ iX9_next 18 (.ifCond .eq 13) 13 21 31 := ⟨by decide +kernel, rfl, by decide⟩
theorem dX9_next_21 : AtI iX9_next 21 (.aload_n 0) 1 22 := ⟨by decide +kernel, rfl⟩
theorem dX9_next_22 : AtI iX9_next 22 (.iload_n 1) 1 23 := ⟨by decide +kernel, rfl⟩
theorem dX9_next_23 : AtI iX9_next 23 (.iload_n 2) 1 24 := ⟨by decide +kernel, rfl⟩
theorem dX9_next_24 : AtI iX9_next 24 (.iload_n 3) 1 25 := ⟨by decide +kernel, rfl⟩
theorem dX9_next_25 : AtI iX9_next 25 (.invokevirtual 176) 3 28 := ⟨by decide +kernel, rfl⟩
theorem dX9_next_28 : AtJ iX9_next 28 (.goto 5) 5 31 33 := ⟨by decide +kernel, rfl, by decide⟩
theorem dX9_next_31 : AtI iX9_next 31 (.bipush (-2)) 2 33 := ⟨by decide +kernel, rfl⟩
theorem dX9_next_33 : AtI iX9_next 33 .ireturn 1 34 := ⟨by decide +kernel, rfl⟩
theorem dX9_leftIn_0 : AtI iX9_leftIn 0 (.iconst 0) 1 1 := ⟨by decide +kernel, rfl⟩
theorem dX9_leftIn_1 : AtI iX9_leftIn 1 (.istore_n 3) 1 2 := ⟨by decide +kernel, rfl⟩
theorem dX9_leftIn_2 : AtI iX9_leftIn 2 (.sipush 168) 3 5 := ⟨by decide +kernel, rfl⟩
theorem dX9_leftIn_5 : AtI iX9_leftIn 5 (.iload_n 1) 1 6 := ⟨by decide +kernel, rfl⟩
theorem dX9_leftIn_6 : AtI iX9_leftIn 6 .imul 1 7 := ⟨by decide +kernel, rfl⟩
theorem dX9_leftIn_7 : AtI iX9_leftIn 7 (.istore 4) 2 9 := ⟨by decide +kernel, rfl⟩
theorem dX9_leftIn_9 : AtI iX9_leftIn 9 (.iload 4) 2 11 := ⟨by decide +kernel, rfl⟩
theorem dX9_leftIn_11 : AtI iX9_leftIn 11 (.sipush 168) 3 14 := ⟨by decide +kernel, rfl⟩
theorem dX9_leftIn_14 : AtI iX9_leftIn 14 (.iload_n 1) 1 15 := ⟨by decide +kernel, rfl⟩
theorem dX9_leftIn_15 : AtI iX9_leftIn 15 .imul 1 16 := ⟨by decide +kernel, rfl⟩
theorem dX9_leftIn_16 : AtI iX9_leftIn 16 (.sipush 168) 3 19 := ⟨by decide +kernel, rfl⟩
theorem dX9_leftIn_19 : AtI iX9_leftIn 19 .iadd 1 20 := ⟨by decide +kernel, rfl⟩
theorem dX9_leftIn_20 : AtJ iX9_leftIn 20 (.if_icmp .ge 27) 27 23 47 := ⟨by decide +kernel, rfl, by decide⟩
theorem dX9_leftIn_23 : AtI iX9_leftIn 23 (.iload_n 3) 1 24 := ⟨by decide +kernel, rfl⟩
theorem dX9_leftIn_24 : AtI iX9_leftIn 24 (.aload_n 0) 1 25 := ⟨by decide +kernel, rfl⟩
theorem dX9_leftIn_25 : AtI iX9_leftIn 25 (.iload 4) 2 27 := ⟨by decide +kernel, rfl⟩
theorem dX9_leftIn_27 : AtI iX9_leftIn 27 (.iload_n 2) 1 28 := ⟨by decide +kernel, rfl⟩
theorem dX9_leftIn_28 : AtI iX9_leftIn 28 (.invokevirtual 169) 3 31 := ⟨by decide +kernel, rfl⟩
theorem dX9_leftIn_31 : AtJ iX9_leftIn 31 (.ifCond .eq 7) 7 34 38 := ⟨by decide +kernel, rfl, by decide⟩
theorem dX9_leftIn_34 : AtI iX9_leftIn 34 (.iconst 1) 1 35 := ⟨by decide +kernel, rfl⟩
theorem dX9_leftIn_35 : AtJ iX9_leftIn 35 (.goto 4) 4 38 39 := ⟨by decide +kernel, rfl, by decide⟩
theorem dX9_leftIn_38 : AtI iX9_leftIn 38 (.iconst 0) 1 39 := ⟨by decide +kernel, rfl⟩
theorem dX9_leftIn_39 : AtI iX9_leftIn 39 .iadd 1 40 := ⟨by decide +kernel, rfl⟩
theorem dX9_leftIn_40 : AtI iX9_leftIn 40 (.istore_n 3) 1 41 := ⟨by decide +kernel, rfl⟩
theorem dX9_leftIn_41 : AtI iX9_leftIn 41 (.iinc 4 1) 3 44 := ⟨by decide +kernel, rfl⟩
theorem dX9_leftIn_44 : AtJ iX9_leftIn 44 (.goto (-35)) (-35) 47 9 := ⟨by decide +kernel, rfl, by decide⟩
theorem dX9_leftIn_47 : AtI iX9_leftIn 47 (.iload_n 3) 1 48 := ⟨by decide +kernel, rfl⟩
theorem dX9_leftIn_48 : AtI iX9_leftIn 48 .ireturn 1 49 := ⟨by decide +kernel, rfl⟩
theorem dX9_left_0 : AtI iX9_left 0 (.iload_n 1) 1 1 := ⟨by decide +kernel, rfl⟩
theorem dX9_left_1 : AtI iX9_left 1 .i2l 1 2 := ⟨by decide +kernel, rfl⟩
theorem dX9_left_2 : AtI iX9_left 2 (.lconst 0) 1 3 := ⟨by decide +kernel, rfl⟩
theorem dX9_left_3 : AtI iX9_left 3 (.ldc2_w 72) 3 6 := ⟨by decide +kernel, rfl⟩
theorem dX9_left_6 : AtI iX9_left 6 (.invokestatic 65) 3 9 := ⟨by decide +kernel, rfl⟩
theorem dX9_left_9 : AtJ iX9_left 9 (.ifCond .eq 19) 19 12 28 := ⟨by decide +kernel, rfl, by decide⟩
theorem dX9_left_12 : AtI iX9_left 12 (.iload_n 2) 1 13 := ⟨by decide +kernel, rfl⟩
theorem dX9_left_13 : AtI iX9_left 13 (.invokestatic 127) 3 16 := ⟨by decide +kernel, rfl⟩
theorem dX9_left_16 : AtJ iX9_left 16 (.ifCond .eq 12) 12 19 28 := ⟨by decide +kernel, rfl, by decide⟩
theorem dX9_left_19 : AtI iX9_left 19 (.aload_n 0) 1 20 := ⟨by decide +kernel, rfl⟩
theorem dX9_left_20 : AtI iX9_left 20 (.iload_n 1) 1 21 := ⟨by decide +kernel, rfl⟩
theorem dX9_left_21 : AtI iX9_left 21 (.iload_n 2) 1 22 := ⟨by decide +kernel, rfl⟩
theorem dX9_left_22 : AtI iX9_left 22 (.invokevirtual 179) 3 25 := ⟨by decide +kernel, rfl⟩
theorem dX9_left_25 : AtJ iX9_left 25 (.goto 5) 5 28 30 := ⟨by decide +kernel, rfl, by decide⟩
theorem dX9_left_28 : AtI iX9_left 28 (.bipush (-2)) 2 30 := ⟨by decide +kernel, rfl⟩
theorem dX9_left_30 : AtI iX9_left 30 .ireturn 1 31 := ⟨by decide +kernel, rfl⟩
theorem dX9_bestOf_0 : AtI iX9_bestOf 0 (.iconst 0) 1 1 := ⟨by decide +kernel, rfl⟩
theorem dX9_bestOf_1 : AtI iX9_bestOf 1 (.istore_n 2) 1 2 := ⟨by decide +kernel, rfl⟩
theorem dX9_bestOf_2 : AtI iX9_bestOf 2 (.iconst 1) 1 3 := ⟨by decide +kernel, rfl⟩
theorem dX9_bestOf_3 : AtI iX9_bestOf 3 (.istore_n 3) 1 4 := ⟨by decide +kernel, rfl⟩
theorem dX9_bestOf_4 : AtI iX9_bestOf 4 (.iload_n 3) 1 5 := ⟨by decide +kernel, rfl⟩
theorem dX9_bestOf_5 : AtI iX9_bestOf 5 (.iconst 4) 1 6 := ⟨by decide +kernel, rfl⟩
theorem dX9_bestOf_6 : AtJ iX9_bestOf 6 (.if_icmp .ge 30) 30 9 36 := ⟨by decide +kernel, rfl, by decide⟩
theorem dX9_bestOf_9 : AtI iX9_bestOf 9 (.aload_n 0) 1 10 := ⟨by decide +kernel, rfl⟩
theorem dX9_bestOf_10 : AtI iX9_bestOf 10 (.iload_n 3) 1 11 := ⟨by decide +kernel, rfl⟩
theorem dX9_bestOf_11 : AtI iX9_bestOf 11 (.iload_n 1) 1 12 := ⟨by decide +kernel, rfl⟩
theorem dX9_bestOf_12 : AtI iX9_bestOf 12 (.invokevirtual 179) 3 15 := ⟨by decide +kernel, rfl⟩
theorem dX9_bestOf_15 : AtI iX9_bestOf 15 (.aload_n 0) 1 16 := ⟨by decide +kernel, rfl⟩
theorem dX9_bestOf_16 : AtI iX9_bestOf 16 (.iload_n 2) 1 17 := ⟨by decide +kernel, rfl⟩
theorem dX9_bestOf_17 : AtI iX9_bestOf 17 (.iload_n 1) 1 18 := ⟨by decide +kernel, rfl⟩
theorem dX9_bestOf_18 : AtI iX9_bestOf 18 (.invokevirtual 179) 3 21 := ⟨by decide +kernel, rfl⟩
theorem dX9_bestOf_21 : AtJ iX9_bestOf 21 (.if_icmp .le 7) 7 24 28 := ⟨by decide +kernel, rfl, by decide⟩
theorem dX9_bestOf_24 : AtI iX9_bestOf 24 (.iload_n 3) 1 25 := ⟨by decide +kernel, rfl⟩
theorem dX9_bestOf_25 : AtJ iX9_bestOf 25 (.goto 4) 4 28 29 := ⟨by decide +kernel, rfl, by decide⟩
theorem dX9_bestOf_28 : AtI iX9_bestOf 28 (.iload_n 2) 1 29 := ⟨by decide +kernel, rfl⟩
theorem dX9_bestOf_29 : AtI iX9_bestOf 29 (.istore_n 2) 1 30 := ⟨by decide +kernel, rfl⟩
theorem dX9_bestOf_30 : AtI iX9_bestOf 30 (.iinc 3 1) 3 33 := ⟨by decide +kernel, rfl⟩
theorem dX9_bestOf_33 : AtJ iX9_bestOf 33 (.goto (-29)) (-29) 36 4 := ⟨by decide +kernel, rfl, by decide⟩
theorem dX9_bestOf_36 : AtI iX9_bestOf 36 (.iload_n 2) 1 37 := ⟨by decide +kernel, rfl⟩
theorem dX9_bestOf_37 : AtI iX9_bestOf 37 .ireturn 1 38 := ⟨by decide +kernel, rfl⟩
theorem dX9_best_0 : AtI iX9_best 0 (.iload_n 1) 1 1 := ⟨by decide +kernel, rfl⟩
theorem dX9_best_1 : AtI iX9_best 1 (.invokestatic 127) 3 4 := ⟨by decide +kernel, rfl⟩
theorem dX9_best_4 : AtJ iX9_best 4 (.ifCond .eq 11) 11 7 15 := ⟨by decide +kernel, rfl, by decide⟩
theorem dX9_best_7 : AtI iX9_best 7 (.aload_n 0) 1 8 := ⟨by decide +kernel, rfl⟩
theorem dX9_best_8 : AtI iX9_best 8 (.iload_n 1) 1 9 := ⟨by decide +kernel, rfl⟩
theorem dX9_best_9 : AtI iX9_best 9 (.invokevirtual 182) 3 12 := ⟨by decide +kernel, rfl⟩
theorem dX9_best_12 : AtJ iX9_best 12 (.goto 5) 5 15 17 := ⟨by decide +kernel, rfl, by decide⟩
theorem dX9_best_15 : AtI iX9_best 15 (.bipush (-2)) 2 17 := ⟨by decide +kernel, rfl⟩
theorem dX9_best_17 : AtI iX9_best 17 .ireturn 1 18 := ⟨by decide +kernel, rfl⟩
theorem dX9_unlikeOf_0 : AtI iX9_unlikeOf 0 (.iconst 0) 1 1 := ⟨by decide +kernel, rfl⟩
theorem dX9_unlikeOf_1 : AtI iX9_unlikeOf 1 (.istore_n 3) 1 2 := ⟨by decide +kernel, rfl⟩
theorem dX9_unlikeOf_2 : AtI iX9_unlikeOf 2 (.iconst 0) 1 3 := ⟨by decide +kernel, rfl⟩
theorem dX9_unlikeOf_3 : AtI iX9_unlikeOf 3 (.istore 4) 2 5 := ⟨by decide +kernel, rfl⟩
theorem dX9_unlikeOf_5 : AtI iX9_unlikeOf 5 (.iload 4) 2 7 := ⟨by decide +kernel, rfl⟩
theorem dX9_unlikeOf_7 : AtI iX9_unlikeOf 7 (.sipush 168) 3 10 := ⟨by decide +kernel, rfl⟩
theorem dX9_unlikeOf_10 : AtJ iX9_unlikeOf 10 (.if_icmp .ge 34) 34 13 44 := ⟨by decide +kernel, rfl, by decide⟩
theorem dX9_unlikeOf_13 : AtI iX9_unlikeOf 13 (.iload_n 3) 1 14 := ⟨by decide +kernel, rfl⟩
theorem dX9_unlikeOf_14 : AtI iX9_unlikeOf 14 (.aload_n 0) 1 15 := ⟨by decide +kernel, rfl⟩
theorem dX9_unlikeOf_15 : AtI iX9_unlikeOf 15 (.iload_n 1) 1 16 := ⟨by decide +kernel, rfl⟩
theorem dX9_unlikeOf_16 : AtI iX9_unlikeOf 16 (.iload 4) 2 18 := ⟨by decide +kernel, rfl⟩
theorem dX9_unlikeOf_18 : AtI iX9_unlikeOf 18 (.invokevirtual 160) 3 21 := ⟨by decide +kernel, rfl⟩
theorem dX9_unlikeOf_21 : AtI iX9_unlikeOf 21 (.aload_n 0) 1 22 := ⟨by decide +kernel, rfl⟩
theorem dX9_unlikeOf_22 : AtI iX9_unlikeOf 22 (.iload_n 2) 1 23 := ⟨by decide +kernel, rfl⟩
theorem dX9_unlikeOf_23 : AtI iX9_unlikeOf 23 (.iload 4) 2 25 := ⟨by decide +kernel, rfl⟩
theorem dX9_unlikeOf_25 : AtI iX9_unlikeOf 25 (.invokevirtual 160) 3 28 := ⟨by decide +kernel, rfl⟩
theorem dX9_unlikeOf_28 : AtJ iX9_unlikeOf 28 (.if_icmp .ne 7) 7 31 35 := ⟨by decide +kernel, rfl, by decide⟩
theorem dX9_unlikeOf_31 : AtI iX9_unlikeOf 31 (.iconst 0) 1 32 := ⟨by decide +kernel, rfl⟩
theorem dX9_unlikeOf_32 : AtJ iX9_unlikeOf 32 (.goto 4) 4 35 36 := ⟨by decide +kernel, rfl, by decide⟩
theorem dX9_unlikeOf_35 : AtI iX9_unlikeOf 35 (.iconst 1) 1 36 := ⟨by decide +kernel, rfl⟩
theorem dX9_unlikeOf_36 : AtI iX9_unlikeOf 36 .iadd 1 37 := ⟨by decide +kernel, rfl⟩
theorem dX9_unlikeOf_37 : AtI iX9_unlikeOf 37 (.istore_n 3) 1 38 := ⟨by decide +kernel, rfl⟩
theorem dX9_unlikeOf_38 : AtI iX9_unlikeOf 38 (.iinc 4 1) 3 41 := ⟨by decide +kernel, rfl⟩
theorem dX9_unlikeOf_41 : AtJ iX9_unlikeOf 41 (.goto (-36)) (-36) 44 5 := ⟨by decide +kernel, rfl, by decide⟩
theorem dX9_unlikeOf_44 : AtI iX9_unlikeOf 44 (.iload_n 3) 1 45 := ⟨by decide +kernel, rfl⟩
theorem dX9_unlikeOf_45 : AtI iX9_unlikeOf 45 .ireturn 1 46 := ⟨by decide +kernel, rfl⟩
theorem dX9_unlike_0 : AtI iX9_unlike 0 (.iload_n 1) 1 1 := ⟨by decide +kernel, rfl⟩
theorem dX9_unlike_1 : AtI iX9_unlike 1 (.invokestatic 132) 3 4 := ⟨by decide +kernel, rfl⟩
theorem dX9_unlike_4 : AtJ iX9_unlike 4 (.ifCond .eq 19) 19 7 23 := ⟨by decide +kernel, rfl, by decide⟩
theorem dX9_unlike_7 : AtI iX9_unlike 7 (.iload_n 2) 1 8 := ⟨by decide +kernel, rfl⟩
theorem dX9_unlike_8 : AtI iX9_unlike 8 (.invokestatic 132) 3 11 := ⟨by decide +kernel, rfl⟩
theorem dX9_unlike_11 : AtJ iX9_unlike 11 (.ifCond .eq 12) 12 14 23 := ⟨by decide +kernel, rfl, by decide⟩
theorem dX9_unlike_14 : AtI iX9_unlike 14 (.aload_n 0) 1 15 := ⟨by decide +kernel, rfl⟩
theorem dX9_unlike_15 : AtI iX9_unlike 15 (.iload_n 1) 1 16 := ⟨by decide +kernel, rfl⟩
theorem dX9_unlike_16 : AtI iX9_unlike 16 (.iload_n 2) 1 17 := ⟨by decide +kernel, rfl⟩
theorem dX9_unlike_17 : AtI iX9_unlike 17 (.invokevirtual 185) 3 20 := ⟨by decide +kernel, rfl⟩
theorem dX9_unlike_20 : AtJ iX9_unlike 20 (.goto 5) 5 23 25 := ⟨by decide +kernel, rfl, by decide⟩
theorem dX9_unlike_23 : AtI iX9_unlike 23 (.bipush (-2)) 2 25 := ⟨by decide +kernel, rfl⟩
theorem dX9_unlike_25 : AtI iX9_unlike 25 .ireturn 1 26 := ⟨by decide +kernel, rfl⟩
theorem dX9_hoursOf_0 : AtI iX9_hoursOf 0 (.sipush 9999) 3 3 := ⟨by decide +kernel, rfl⟩
theorem dX9_hoursOf_3 : AtI iX9_hoursOf 3 (.istore_n 3) 1 4 := ⟨by decide +kernel, rfl⟩
theorem dX9_hoursOf_4 : AtI iX9_hoursOf 4 (.iconst 0) 1 5 := ⟨by decide +kernel, rfl⟩
theorem dX9_hoursOf_5 : AtI iX9_hoursOf 5 (.istore 4) 2 7 := ⟨by decide +kernel, rfl⟩
theorem dX9_hoursOf_7 : AtI iX9_hoursOf 7 (.iload 4) 2 9 := ⟨by decide +kernel, rfl⟩
theorem dX9_hoursOf_9 : AtI iX9_hoursOf 9 (.aload_n 0) 1 10 := ⟨by decide +kernel, rfl⟩
theorem dX9_hoursOf_10 : AtI iX9_hoursOf 10 (.getfield 106) 3 13 := ⟨by decide +kernel, rfl⟩
theorem dX9_hoursOf_13 : AtJ iX9_hoursOf 13 (.if_icmp .ge 97) 97 16 110 := ⟨by decide +kernel, rfl, by decide⟩
theorem dX9_hoursOf_16 : AtI iX9_hoursOf 16 (.aload_n 0) 1 17 := ⟨by decide +kernel, rfl⟩
theorem dX9_hoursOf_17 : AtI iX9_hoursOf 17 (.getfield 25) 3 20 := ⟨by decide +kernel, rfl⟩
theorem dX9_hoursOf_20 : AtI iX9_hoursOf 20 (.iconst 3) 1 21 := ⟨by decide +kernel, rfl⟩
theorem dX9_hoursOf_21 : AtI iX9_hoursOf 21 (.iload 4) 2 23 := ⟨by decide +kernel, rfl⟩
theorem dX9_hoursOf_23 : AtI iX9_hoursOf 23 .imul 1 24 := ⟨by decide +kernel, rfl⟩
theorem dX9_hoursOf_24 : AtI iX9_hoursOf 24 .iaload 1 25 := ⟨by decide +kernel, rfl⟩
theorem dX9_hoursOf_25 : AtI iX9_hoursOf 25 (.iload_n 1) 1 26 := ⟨by decide +kernel, rfl⟩
theorem dX9_hoursOf_26 : AtJ iX9_hoursOf 26 (.if_icmp .ne 18) 18 29 44 := ⟨by decide +kernel, rfl, by decide⟩
theorem dX9_hoursOf_29 : AtI iX9_hoursOf 29 (.aload_n 0) 1 30 := ⟨by decide +kernel, rfl⟩
theorem dX9_hoursOf_30 : AtI iX9_hoursOf 30 (.getfield 25) 3 33 := ⟨by decide +kernel, rfl⟩
theorem dX9_hoursOf_33 : AtI iX9_hoursOf 33 (.iconst 3) 1 34 := ⟨by decide +kernel, rfl⟩
theorem dX9_hoursOf_34 : AtI iX9_hoursOf 34 (.iload 4) 2 36 := ⟨by decide +kernel, rfl⟩
theorem dX9_hoursOf_36 : AtI iX9_hoursOf 36 .imul 1 37 := ⟨by decide +kernel, rfl⟩
theorem dX9_hoursOf_37 : AtI iX9_hoursOf 37 (.iconst 1) 1 38 := ⟨by decide +kernel, rfl⟩
theorem dX9_hoursOf_38 : AtI iX9_hoursOf 38 .iadd 1 39 := ⟨by decide +kernel, rfl⟩
theorem dX9_hoursOf_39 : AtI iX9_hoursOf 39 .iaload 1 40 := ⟨by decide +kernel, rfl⟩
theorem dX9_hoursOf_40 : AtI iX9_hoursOf 40 (.iload_n 2) 1 41 := ⟨by decide +kernel, rfl⟩
theorem dX9_hoursOf_41 : AtJ iX9_hoursOf 41 (.if_icmp .eq 31) 31 44 72 := ⟨by decide +kernel, rfl, by decide⟩
theorem dX9_hoursOf_44 : AtI iX9_hoursOf 44 (.aload_n 0) 1 45 := ⟨by decide +kernel, rfl⟩
theorem dX9_hoursOf_45 : AtI iX9_hoursOf 45 (.getfield 25) 3 48 := ⟨by decide +kernel, rfl⟩
theorem dX9_hoursOf_48 : AtI iX9_hoursOf 48 (.iconst 3) 1 49 := ⟨by decide +kernel, rfl⟩
theorem dX9_hoursOf_49 : AtI iX9_hoursOf 49 (.iload 4) 2 51 := ⟨by decide +kernel, rfl⟩
theorem dX9_hoursOf_51 : AtI iX9_hoursOf 51 .imul 1 52 := ⟨by decide +kernel, rfl⟩
theorem dX9_hoursOf_52 : AtI iX9_hoursOf 52 .iaload 1 53 := ⟨by decide +kernel, rfl⟩
theorem dX9_hoursOf_53 : AtI iX9_hoursOf 53 (.iload_n 2) 1 54 := ⟨by decide +kernel, rfl⟩
theorem dX9_hoursOf_54 : AtJ iX9_hoursOf 54 (.if_icmp .ne 22) 22 57 76 := ⟨by decide +kernel, rfl, by decide⟩
theorem dX9_hoursOf_57 : AtI iX9_hoursOf 57 (.aload_n 0) 1 58 := ⟨by decide +kernel, rfl⟩
theorem dX9_hoursOf_58 : AtI iX9_hoursOf 58 (.getfield 25) 3 61 := ⟨by decide +kernel, rfl⟩
theorem dX9_hoursOf_61 : AtI iX9_hoursOf 61 (.iconst 3) 1 62 := ⟨by decide +kernel, rfl⟩
theorem dX9_hoursOf_62 : AtI iX9_hoursOf 62 (.iload 4) 2 64 := ⟨by decide +kernel, rfl⟩
theorem dX9_hoursOf_64 : AtI iX9_hoursOf 64 .imul 1 65 := ⟨by decide +kernel, rfl⟩
theorem dX9_hoursOf_65 : AtI iX9_hoursOf 65 (.iconst 1) 1 66 := ⟨by decide +kernel, rfl⟩
theorem dX9_hoursOf_66 : AtI iX9_hoursOf 66 .iadd 1 67 := ⟨by decide +kernel, rfl⟩
theorem dX9_hoursOf_67 : AtI iX9_hoursOf 67 .iaload 1 68 := ⟨by decide +kernel, rfl⟩
theorem dX9_hoursOf_68 : AtI iX9_hoursOf 68 (.iload_n 1) 1 69 := ⟨by decide +kernel, rfl⟩
theorem dX9_hoursOf_69 : AtJ iX9_hoursOf 69 (.if_icmp .ne 7) 7 72 76 := ⟨by decide +kernel, rfl, by decide⟩
theorem dX9_hoursOf_72 : AtI iX9_hoursOf 72 (.iconst 1) 1 73 := ⟨by decide +kernel, rfl⟩
theorem dX9_hoursOf_73 : AtJ iX9_hoursOf 73 (.goto 4) 4 76 77 := ⟨by decide +kernel, rfl, by decide⟩
theorem dX9_hoursOf_76 : AtI iX9_hoursOf 76 (.iconst 0) 1 77 := ⟨by decide +kernel, rfl⟩
theorem dX9_hoursOf_77 : AtI iX9_hoursOf 77 (.istore 5) 2 79 := ⟨by decide +kernel, rfl⟩
theorem dX9_hoursOf_79 : AtI iX9_hoursOf 79 (.iload 5) 2 81 := ⟨by decide +kernel, rfl⟩
theorem dX9_hoursOf_81 : AtJ iX9_hoursOf 81 (.ifCond .eq 21) 21 84 102 := ⟨by decide +kernel, rfl, by decide⟩
theorem dX9_hoursOf_84 : AtI iX9_hoursOf 84 (.aload_n 0) 1 85 := ⟨by decide +kernel, rfl⟩
theorem dX9_hoursOf_85 : AtI iX9_hoursOf 85 (.getfield 25) 3 88 := ⟨by decide +kernel, rfl⟩
theorem dX9_hoursOf_88 : AtI iX9_hoursOf 88 (.iconst 3) 1 89 := ⟨by decide +kernel, rfl⟩
theorem dX9_hoursOf_89 : AtI iX9_hoursOf 89 (.iload 4) 2 91 := ⟨by decide +kernel, rfl⟩
theorem dX9_hoursOf_91 : AtI iX9_hoursOf 91 .imul 1 92 := ⟨by decide +kernel, rfl⟩
theorem dX9_hoursOf_92 : AtI iX9_hoursOf 92 (.iconst 2) 1 93 := ⟨by decide +kernel, rfl⟩
theorem dX9_hoursOf_93 : AtI iX9_hoursOf 93 .iadd 1 94 := ⟨by decide +kernel, rfl⟩
theorem dX9_hoursOf_94 : AtI iX9_hoursOf 94 .iaload 1 95 := ⟨by decide +kernel, rfl⟩
theorem dX9_hoursOf_95 : AtI iX9_hoursOf 95 (.iload_n 3) 1 96 := ⟨by decide +kernel, rfl⟩
theorem dX9_hoursOf_96 : AtI iX9_hoursOf 96 (.invokestatic 140) 3 99 := ⟨by decide +kernel, rfl⟩
theorem dX9_hoursOf_99 : AtJ iX9_hoursOf 99 (.goto 4) 4 102 103 := ⟨by decide +kernel, rfl, by decide⟩
theorem dX9_hoursOf_102 : AtI iX9_hoursOf 102 (.iload_n 3) 1 103 := ⟨by decide +kernel, rfl⟩
theorem dX9_hoursOf_103 : AtI iX9_hoursOf 103 (.istore_n 3) 1 104 := ⟨by decide +kernel, rfl⟩
theorem dX9_hoursOf_104 : AtI iX9_hoursOf 104 (.iinc 4 1) 3 107 := ⟨by decide +kernel, rfl⟩
theorem dX9_hoursOf_107 : AtJ iX9_hoursOf 107 (.goto (-100)) (-100) 110 7 := ⟨by decide +kernel, rfl, by decide⟩
theorem dX9_hoursOf_110 : AtI iX9_hoursOf 110 (.iload_n 3) 1 111 := ⟨by decide +kernel, rfl⟩
theorem dX9_hoursOf_111 : AtI iX9_hoursOf 111 .ireturn 1 112 := ⟨by decide +kernel, rfl⟩
theorem dX9_findFar_0 : AtI iX9_findFar 0 (.iconst 0) 1 1 := ⟨by decide +kernel, rfl⟩
theorem dX9_findFar_1 : AtI iX9_findFar 1 (.istore_n 2) 1 2 := ⟨by decide +kernel, rfl⟩
theorem dX9_findFar_2 : AtI iX9_findFar 2 (.iload_n 2) 1 3 := ⟨by decide +kernel, rfl⟩
theorem dX9_findFar_3 : AtI iX9_findFar 3 (.bipush 8) 2 5 := ⟨by decide +kernel, rfl⟩
theorem dX9_findFar_5 : AtJ iX9_findFar 5 (.if_icmp .ge 27) 27 8 32 := ⟨by decide +kernel, rfl, by decide⟩
theorem dX9_findFar_8 : AtI iX9_findFar 8 (.aload_n 0) 1 9 := ⟨by decide +kernel, rfl⟩
theorem dX9_findFar_9 : AtI iX9_findFar 9 (.getfield 40) 3 12 := ⟨by decide +kernel, rfl⟩
theorem dX9_findFar_12 : AtI iX9_findFar 12 (.iload_n 2) 1 13 := ⟨by decide +kernel, rfl⟩
theorem dX9_findFar_13 : AtI iX9_findFar 13 (.iload_n 2) 1 14 := ⟨by decide +kernel, rfl⟩
theorem dX9_findFar_14 : AtI iX9_findFar 14 (.iload_n 1) 1 15 := ⟨by decide +kernel, rfl⟩
theorem dX9_findFar_15 : AtJ iX9_findFar 15 (.if_icmp .ne 7) 7 18 22 := ⟨by decide +kernel, rfl, by decide⟩
theorem dX9_findFar_18 : AtI iX9_findFar 18 (.iconst 0) 1 19 := ⟨by decide +kernel, rfl⟩
theorem dX9_findFar_19 : AtJ iX9_findFar 19 (.goto 6) 6 22 25 := ⟨by decide +kernel, rfl, by decide⟩
theorem dX9_findFar_22 : AtI iX9_findFar 22 (.sipush 9999) 3 25 := ⟨by decide +kernel, rfl⟩
theorem dX9_findFar_25 : AtI iX9_findFar 25 .iastore 1 26 := ⟨by decide +kernel, rfl⟩
theorem dX9_findFar_26 : AtI iX9_findFar 26 (.iinc 2 1) 3 29 := ⟨by decide +kernel, rfl⟩
theorem dX9_findFar_29 : AtJ iX9_findFar 29 (.goto (-27)) (-27) 32 2 := ⟨by decide +kernel, rfl, by decide⟩
theorem dX9_findFar_32 : AtI iX9_findFar 32 (.iconst 0) 1 33 := ⟨by decide +kernel, rfl⟩
theorem dX9_findFar_33 : AtI iX9_findFar 33 (.istore_n 2) 1 34 := ⟨by decide +kernel, rfl⟩
theorem dX9_findFar_34 : AtI iX9_findFar 34 (.iload_n 2) 1 35 := ⟨by decide +kernel, rfl⟩
theorem dX9_findFar_35 : AtI iX9_findFar 35 (.bipush 8) 2 37 := ⟨by decide +kernel, rfl⟩
theorem dX9_findFar_37 : AtJ iX9_findFar 37 (.if_icmp .ge 117) 117 40 154 := ⟨by decide +kernel, rfl, by decide⟩
theorem dX9_findFar_40 : AtI iX9_findFar 40 (.iconst 0) 1 41 := ⟨by decide +kernel, rfl⟩
theorem dX9_findFar_41 : AtI iX9_findFar 41 (.istore_n 3) 1 42 := ⟨by decide +kernel, rfl⟩
theorem dX9_findFar_42 : AtI iX9_findFar 42 (.iload_n 3) 1 43 := ⟨by decide +kernel, rfl⟩
theorem dX9_findFar_43 : AtI iX9_findFar 43 (.aload_n 0) 1 44 := ⟨by decide +kernel, rfl⟩
theorem dX9_findFar_44 : AtI iX9_findFar 44 (.getfield 106) 3 47 := ⟨by decide +kernel, rfl⟩
theorem dX9_findFar_47 : AtJ iX9_findFar 47 (.if_icmp .ge 101) 101 50 148 := ⟨by decide +kernel, rfl, by decide⟩
theorem dX9_findFar_50 : AtI iX9_findFar 50 (.aload_n 0) 1 51 := ⟨by decide +kernel, rfl⟩
theorem dX9_findFar_51 : AtI iX9_findFar 51 (.getfield 25) 3 54 := ⟨by decide +kernel, rfl⟩
theorem dX9_findFar_54 : AtI iX9_findFar 54 (.iconst 3) 1 55 := ⟨by decide +kernel, rfl⟩
theorem dX9_findFar_55 : AtI iX9_findFar 55 (.iload_n 3) 1 56 := ⟨by decide +kernel, rfl⟩
theorem dX9_findFar_56 : AtI iX9_findFar 56 .imul 1 57 := ⟨by decide +kernel, rfl⟩
theorem dX9_findFar_57 : AtI iX9_findFar 57 .iaload 1 58 := ⟨by decide +kernel, rfl⟩
theorem dX9_findFar_58 : AtI iX9_findFar 58 (.istore 4) 2 60 := ⟨by decide +kernel, rfl⟩
theorem dX9_findFar_60 : AtI iX9_findFar 60 (.aload_n 0) 1 61 := ⟨by decide +kernel, rfl⟩
theorem dX9_findFar_61 : AtI iX9_findFar 61 (.getfield 25) 3 64 := ⟨by decide +kernel, rfl⟩
theorem dX9_findFar_64 : AtI iX9_findFar 64 (.iconst 3) 1 65 := ⟨by decide +kernel, rfl⟩
theorem dX9_findFar_65 : AtI iX9_findFar 65 (.iload_n 3) 1 66 := ⟨by decide +kernel, rfl⟩
theorem dX9_findFar_66 : AtI iX9_findFar 66 .imul 1 67 := ⟨by decide +kernel, rfl⟩
theorem dX9_findFar_67 : AtI iX9_findFar 67 (.iconst 1) 1 68 := ⟨by decide +kernel, rfl⟩
theorem dX9_findFar_68 : AtI iX9_findFar 68 .iadd 1 69 := ⟨by decide +kernel, rfl⟩
theorem dX9_findFar_69 : AtI iX9_findFar 69 .iaload 1 70 := ⟨by decide +kernel, rfl⟩
theorem dX9_findFar_70 : AtI iX9_findFar 70 (.istore 5) 2 72 := ⟨by decide +kernel, rfl⟩
theorem dX9_findFar_72 : AtI iX9_findFar 72 (.aload_n 0) 1 73 := ⟨by decide +kernel, rfl⟩
theorem dX9_findFar_73 : AtI iX9_findFar 73 (.getfield 40) 3 76 := ⟨by decide +kernel, rfl⟩
theorem dX9_findFar_76 : AtI iX9_findFar 76 (.iload 4) 2 78 := ⟨by decide +kernel, rfl⟩
theorem dX9_findFar_78 : AtI iX9_findFar 78 (.aload_n 0) 1 79 := ⟨by decide +kernel, rfl⟩
theorem dX9_findFar_79 : AtI iX9_findFar 79 (.getfield 40) 3 82 := ⟨by decide +kernel, rfl⟩
theorem dX9_findFar_82 : AtI iX9_findFar 82 (.iload 5) 2 84 := ⟨by decide +kernel, rfl⟩
theorem dX9_findFar_84 : AtI iX9_findFar 84 .iaload 1 85 := ⟨by decide +kernel, rfl⟩
theorem dX9_findFar_85 : AtI iX9_findFar 85 (.aload_n 0) 1 86 := ⟨by decide +kernel, rfl⟩
theorem dX9_findFar_86 : AtI iX9_findFar 86 (.getfield 25) 3 89 := ⟨by decide +kernel, rfl⟩
theorem dX9_findFar_89 : AtI iX9_findFar 89 (.iconst 3) 1 90 := ⟨by decide +kernel, rfl⟩
theorem dX9_findFar_90 : AtI iX9_findFar 90 (.iload_n 3) 1 91 := ⟨by decide +kernel, rfl⟩
theorem dX9_findFar_91 : AtI iX9_findFar 91 .imul 1 92 := ⟨by decide +kernel, rfl⟩
theorem dX9_findFar_92 : AtI iX9_findFar 92 (.iconst 2) 1 93 := ⟨by decide +kernel, rfl⟩
theorem dX9_findFar_93 : AtI iX9_findFar 93 .iadd 1 94 := ⟨by decide +kernel, rfl⟩
theorem dX9_findFar_94 : AtI iX9_findFar 94 .iaload 1 95 := ⟨by decide +kernel, rfl⟩
theorem dX9_findFar_95 : AtI iX9_findFar 95 .iadd 1 96 := ⟨by decide +kernel, rfl⟩
theorem dX9_findFar_96 : AtI iX9_findFar 96 (.aload_n 0) 1 97 := ⟨by decide +kernel, rfl⟩
theorem dX9_findFar_97 : AtI iX9_findFar 97 (.getfield 40) 3 100 := ⟨by decide +kernel, rfl⟩
theorem dX9_findFar_100 : AtI iX9_findFar 100 (.iload 4) 2 102 := ⟨by decide +kernel, rfl⟩
theorem dX9_findFar_102 : AtI iX9_findFar 102 .iaload 1 103 := ⟨by decide +kernel, rfl⟩
theorem dX9_findFar_103 : AtI iX9_findFar 103 (.invokestatic 140) 3 106 := ⟨by decide +kernel, rfl⟩
theorem dX9_findFar_106 : AtI iX9_findFar 106 .iastore 1 107 := ⟨by decide +kernel, rfl⟩
theorem dX9_findFar_107 : AtI iX9_findFar 107 (.aload_n 0) 1 108 := ⟨by decide +kernel, rfl⟩
theorem dX9_findFar_108 : AtI iX9_findFar 108 (.getfield 40) 3 111 := ⟨by decide +kernel, rfl⟩
theorem dX9_findFar_111 : AtI iX9_findFar 111 (.iload 5) 2 113 := ⟨by decide +kernel, rfl⟩
theorem dX9_findFar_113 : AtI iX9_findFar 113 (.aload_n 0) 1 114 := ⟨by decide +kernel, rfl⟩
theorem dX9_findFar_114 : AtI iX9_findFar 114 (.getfield 40) 3 117 := ⟨by decide +kernel, rfl⟩
theorem dX9_findFar_117 : AtI iX9_findFar 117 (.iload 4) 2 119 := ⟨by decide +kernel, rfl⟩
theorem dX9_findFar_119 : AtI iX9_findFar 119 .iaload 1 120 := ⟨by decide +kernel, rfl⟩
theorem dX9_findFar_120 : AtI iX9_findFar 120 (.aload_n 0) 1 121 := ⟨by decide +kernel, rfl⟩
theorem dX9_findFar_121 : AtI iX9_findFar 121 (.getfield 25) 3 124 := ⟨by decide +kernel, rfl⟩
theorem dX9_findFar_124 : AtI iX9_findFar 124 (.iconst 3) 1 125 := ⟨by decide +kernel, rfl⟩
theorem dX9_findFar_125 : AtI iX9_findFar 125 (.iload_n 3) 1 126 := ⟨by decide +kernel, rfl⟩
theorem dX9_findFar_126 : AtI iX9_findFar 126 .imul 1 127 := ⟨by decide +kernel, rfl⟩
theorem dX9_findFar_127 : AtI iX9_findFar 127 (.iconst 2) 1 128 := ⟨by decide +kernel, rfl⟩
theorem dX9_findFar_128 : AtI iX9_findFar 128 .iadd 1 129 := ⟨by decide +kernel, rfl⟩
theorem dX9_findFar_129 : AtI iX9_findFar 129 .iaload 1 130 := ⟨by decide +kernel, rfl⟩
theorem dX9_findFar_130 : AtI iX9_findFar 130 .iadd 1 131 := ⟨by decide +kernel, rfl⟩
theorem dX9_findFar_131 : AtI iX9_findFar 131 (.aload_n 0) 1 132 := ⟨by decide +kernel, rfl⟩
theorem dX9_findFar_132 : AtI iX9_findFar 132 (.getfield 40) 3 135 := ⟨by decide +kernel, rfl⟩
theorem dX9_findFar_135 : AtI iX9_findFar 135 (.iload 5) 2 137 := ⟨by decide +kernel, rfl⟩
theorem dX9_findFar_137 : AtI iX9_findFar 137 .iaload 1 138 := ⟨by decide +kernel, rfl⟩
theorem dX9_findFar_138 : AtI iX9_findFar 138 (.invokestatic 140) 3 141 := ⟨by decide +kernel, rfl⟩
theorem dX9_findFar_141 : AtI iX9_findFar 141 .iastore 1 142 := ⟨by decide +kernel, rfl⟩
theorem dX9_findFar_142 : AtI iX9_findFar 142 (.iinc 3 1) 3 145 := ⟨by decide +kernel, rfl⟩
theorem dX9_findFar_145 : AtJ iX9_findFar 145 (.goto (-103)) (-103) 148 42 := ⟨by decide +kernel, rfl, by decide⟩
theorem dX9_findFar_148 : AtI iX9_findFar 148 (.iinc 2 1) 3 151 := ⟨by decide +kernel, rfl⟩
theorem dX9_findFar_151 : AtJ iX9_findFar 151 (.goto (-117)) (-117) 154 34 := ⟨by decide +kernel, rfl, by decide⟩
theorem dX9_findFar_154 : AtI iX9_findFar 154 .return_ 1 155 := ⟨by decide +kernel, rfl⟩
theorem dX9_nextLand_0 : AtI iX9_nextLand 0 (.iconst (-1)) 1 1 := ⟨by decide +kernel, rfl⟩
theorem dX9_nextLand_1 : AtI iX9_nextLand 1 (.istore_n 2) 1 2 := ⟨by decide +kernel, rfl⟩
theorem dX9_nextLand_2 : AtI iX9_nextLand 2 (.bipush 7) 2 4 := ⟨by decide +kernel, rfl⟩
theorem dX9_nextLand_4 : AtI iX9_nextLand 4 (.istore_n 3) 1 5 := ⟨by decide +kernel, rfl⟩
theorem dX9_nextLand_5 : AtI iX9_nextLand 5 (.iload_n 3) 1 6 := ⟨by decide +kernel, rfl⟩
theorem dX9_nextLand_6 : AtJ iX9_nextLand 6 (.ifCond .lt 60) 60 9 66 := ⟨by decide +kernel, rfl, by decide⟩
theorem dX9_nextLand_9 : AtI iX9_nextLand 9 (.iload_n 3) 1 10 := ⟨by decide +kernel, rfl⟩
theorem dX9_nextLand_10 : AtI iX9_nextLand 10 (.iload_n 1) 1 11 := ⟨by decide +kernel, rfl⟩
theorem dX9_nextLand_11 : AtJ iX9_nextLand 11 (.if_icmp .ne 9) 9 14 20 := ⟨by decide +kernel, rfl, by decide⟩
theorem dX9_nextLand_14 : AtI iX9_nextLand 14 (.sipush 9999) 3 17 := ⟨by decide +kernel, rfl⟩
theorem dX9_nextLand_17 : AtJ iX9_nextLand 17 (.goto 9) 9 20 26 := ⟨by decide +kernel, rfl, by decide⟩
theorem dX9_nextLand_20 : AtI iX9_nextLand 20 (.aload_n 0) 1 21 := ⟨by decide +kernel, rfl⟩
theorem dX9_nextLand_21 : AtI iX9_nextLand 21 (.iload_n 1) 1 22 := ⟨by decide +kernel, rfl⟩
theorem dX9_nextLand_22 : AtI iX9_nextLand 22 (.iload_n 3) 1 23 := ⟨by decide +kernel, rfl⟩
theorem dX9_nextLand_23 : AtI iX9_nextLand 23 (.invokevirtual 188) 3 26 := ⟨by decide +kernel, rfl⟩
theorem dX9_nextLand_26 : AtI iX9_nextLand 26 (.istore 4) 2 28 := ⟨by decide +kernel, rfl⟩
theorem dX9_nextLand_28 : AtI iX9_nextLand 28 (.iload 4) 2 30 := ⟨by decide +kernel, rfl⟩
theorem dX9_nextLand_30 : AtI iX9_nextLand 30 (.sipush 9999) 3 33 := ⟨by decide +kernel, rfl⟩
theorem dX9_nextLand_33 : AtJ iX9_nextLand 33 (.if_icmp .ge 25) 25 36 58 := ⟨by decide +kernel, rfl, by decide⟩
theorem dX9_nextLand_36 : AtI iX9_nextLand 36 (.aload_n 0) 1 37 := ⟨by decide +kernel, rfl⟩
theorem dX9_nextLand_37 : AtI iX9_nextLand 37 (.getfield 40) 3 40 := ⟨by decide +kernel, rfl⟩
theorem dX9_nextLand_40 : AtI iX9_nextLand 40 (.iload_n 1) 1 41 := ⟨by decide +kernel, rfl⟩
theorem dX9_nextLand_41 : AtI iX9_nextLand 41 .iaload 1 42 := ⟨by decide +kernel, rfl⟩
theorem dX9_nextLand_42 : AtI iX9_nextLand 42 (.aload_n 0) 1 43 := ⟨by decide +kernel, rfl⟩
theorem dX9_nextLand_43 : AtI iX9_nextLand 43 (.getfield 40) 3 46 := ⟨by decide +kernel, rfl⟩
theorem dX9_nextLand_46 : AtI iX9_nextLand 46 (.iload_n 3) 1 47 := ⟨by decide +kernel, rfl⟩
theorem dX9_nextLand_47 : AtI iX9_nextLand 47 .iaload 1 48 := ⟨by decide +kernel, rfl⟩
theorem dX9_nextLand_48 : AtI iX9_nextLand 48 (.iload 4) 2 50 := ⟨by decide +kernel, rfl⟩
theorem dX9_nextLand_50 : AtI iX9_nextLand 50 .iadd 1 51 := ⟨by decide +kernel, rfl⟩
theorem dX9_nextLand_51 : AtJ iX9_nextLand 51 (.if_icmp .ne 7) 7 54 58 := ⟨by decide +kernel, rfl, by decide⟩
theorem dX9_nextLand_54 : AtI iX9_nextLand 54 (.iload_n 3) 1 55 := ⟨by decide +kernel, rfl⟩
theorem dX9_nextLand_55 : AtJ iX9_nextLand 55 (.goto 4) 4 58 59 := ⟨by decide +kernel, rfl, by decide⟩
theorem dX9_nextLand_58 : AtI iX9_nextLand 58 (.iload_n 2) 1 59 := ⟨by decide +kernel, rfl⟩
theorem dX9_nextLand_59 : AtI iX9_nextLand 59 (.istore_n 2) 1 60 := ⟨by decide +kernel, rfl⟩
theorem dX9_nextLand_60 : AtI iX9_nextLand 60 (.iinc 3 (-1)) 3 63 := ⟨by decide +kernel, rfl⟩
theorem dX9_nextLand_63 : AtJ iX9_nextLand 63 (.goto (-58)) (-58) 66 5 := ⟨by decide +kernel, rfl, by decide⟩
theorem dX9_nextLand_66 : AtI iX9_nextLand 66 (.iload_n 2) 1 67 := ⟨by decide +kernel, rfl⟩
theorem dX9_nextLand_67 : AtI iX9_nextLand 67 .ireturn 1 68 := ⟨by decide +kernel, rfl⟩
theorem dX9_wayOf_0 : AtI iX9_wayOf 0 (.aload_n 0) 1 1 := ⟨by decide +kernel, rfl⟩
theorem dX9_wayOf_1 : AtI iX9_wayOf 1 (.iload_n 2) 1 2 := ⟨by decide +kernel, rfl⟩
theorem dX9_wayOf_2 : AtI iX9_wayOf 2 (.invokevirtual 191) 3 5 := ⟨by decide +kernel, rfl⟩
theorem dX9_wayOf_5 : AtI iX9_wayOf 5 (.aload_n 0) 1 6 := ⟨by decide +kernel, rfl⟩
theorem dX9_wayOf_6 : AtI iX9_wayOf 6 (.getfield 40) 3 9 := ⟨by decide +kernel, rfl⟩
theorem dX9_wayOf_9 : AtI iX9_wayOf 9 (.iload_n 1) 1 10 := ⟨by decide +kernel, rfl⟩
theorem dX9_wayOf_10 : AtI iX9_wayOf 10 .iaload 1 11 := ⟨by decide +kernel, rfl⟩
theorem dX9_wayOf_11 : AtI iX9_wayOf 11 (.sipush 9999) 3 14 := ⟨by decide +kernel, rfl⟩
theorem dX9_wayOf_14 : AtJ iX9_wayOf 14 (.if_icmp .lt 7) 7 17 21 := ⟨by decide +kernel, rfl, by decide⟩
theorem dX9_wayOf_17 : AtI iX9_wayOf 17 (.iconst (-1)) 1 18 := ⟨by decide +kernel, rfl⟩
theorem dX9_wayOf_18 : AtJ iX9_wayOf 18 (.goto 21) 21 21 39 := ⟨by decide +kernel, rfl, by decide⟩
theorem dX9_wayOf_21 : AtI iX9_wayOf 21 (.iload_n 3) 1 22 := ⟨by decide +kernel, rfl⟩
theorem dX9_wayOf_22 : AtJ iX9_wayOf 22 (.ifCond .ne 12) 12 25 34 := ⟨by decide +kernel, rfl, by decide⟩
theorem dX9_wayOf_25 : AtI iX9_wayOf 25 (.aload_n 0) 1 26 := ⟨by decide +kernel, rfl⟩
theorem dX9_wayOf_26 : AtI iX9_wayOf 26 (.getfield 40) 3 29 := ⟨by decide +kernel, rfl⟩
theorem dX9_wayOf_29 : AtI iX9_wayOf 29 (.iload_n 1) 1 30 := ⟨by decide +kernel, rfl⟩
theorem dX9_wayOf_30 : AtI iX9_wayOf 30 .iaload 1 31 := ⟨by decide +kernel, rfl⟩
theorem dX9_wayOf_31 : AtJ iX9_wayOf 31 (.goto 8) 8 34 39 := ⟨by decide +kernel, rfl, by decide⟩
theorem dX9_wayOf_34 : AtI iX9_wayOf 34 (.aload_n 0) 1 35 := ⟨by decide +kernel, rfl⟩
theorem dX9_wayOf_35 : AtI iX9_wayOf 35 (.iload_n 1) 1 36 := ⟨by decide +kernel, rfl⟩
theorem dX9_wayOf_36 : AtI iX9_wayOf 36 (.invokevirtual 195) 3 39 := ⟨by decide +kernel, rfl⟩
theorem dX9_wayOf_39 : AtI iX9_wayOf 39 .ireturn 1 40 := ⟨by decide +kernel, rfl⟩
theorem dX9_areTwo_0 : AtI iX9_areTwo 0 (.iload_n 0) 1 1 := ⟨by decide +kernel, rfl⟩
theorem dX9_areTwo_1 : AtI iX9_areTwo 1 (.invokestatic 127) 3 4 := ⟨by decide +kernel, rfl⟩
theorem dX9_areTwo_4 : AtJ iX9_areTwo 4 (.ifCond .eq 19) 19 7 23 := ⟨by decide +kernel, rfl, by decide⟩
theorem dX9_areTwo_7 : AtI iX9_areTwo 7 (.iload_n 1) 1 8 := ⟨by decide +kernel, rfl⟩
theorem dX9_areTwo_8 : AtI iX9_areTwo 8 (.invokestatic 127) 3 11 := ⟨by decide +kernel, rfl⟩
theorem dX9_areTwo_11 : AtJ iX9_areTwo 11 (.ifCond .eq 12) 12 14 23 := ⟨by decide +kernel, rfl, by decide⟩
theorem dX9_areTwo_14 : AtI iX9_areTwo 14 (.iload_n 0) 1 15 := ⟨by decide +kernel, rfl⟩
theorem dX9_areTwo_15 : AtI iX9_areTwo 15 (.iload_n 1) 1 16 := ⟨by decide +kernel, rfl⟩
theorem dX9_areTwo_16 : AtJ iX9_areTwo 16 (.if_icmp .eq 7) 7 19 23 := ⟨by decide +kernel, rfl, by decide⟩
theorem dX9_areTwo_19 : AtI iX9_areTwo 19 (.iconst 1) 1 20 := ⟨by decide +kernel, rfl⟩
theorem dX9_areTwo_20 : AtJ iX9_areTwo 20 (.goto 4) 4 23 24 := ⟨by decide +kernel, rfl, by decide⟩
theorem dX9_areTwo_23 : AtI iX9_areTwo 23 (.iconst 0) 1 24 := ⟨by decide +kernel, rfl⟩
theorem dX9_areTwo_24 : AtI iX9_areTwo 24 .ireturn 1 25 := ⟨by decide +kernel, rfl⟩
theorem dX9_way_0 : AtI iX9_way 0 (.aload_n 0) 1 1 := ⟨by decide +kernel, rfl⟩
theorem dX9_way_1 : AtI iX9_way 1 (.invokevirtual 119) 3 4 := ⟨by decide +kernel, rfl⟩
theorem dX9_way_4 : AtI iX9_way 4 .pop 1 5 := ⟨by decide +kernel, rfl⟩
theorem dX9_way_5 : AtI iX9_way 5 (.iload_n 1) 1 6 := ⟨by decide +kernel, rfl⟩
theorem dX9_way_6 : AtI iX9_way 6 (.iload_n 2) 1 7 := ⟨by decide +kernel, rfl⟩
theorem dX9_way_7 : AtI iX9_way 7 (.invokestatic 198) 3 10 := ⟨by decide +kernel, rfl⟩
theorem dX9_way_10 : AtJ iX9_way 10 (.ifCond .eq 20) 20 13 30 := ⟨by decide +kernel, rfl, by decide⟩
theorem dX9_way_13 : AtI iX9_way 13 (.iload_n 3) 1 14 := ⟨by decide +kernel, rfl⟩
theorem dX9_way_14 : AtI iX9_way 14 (.invokestatic 135) 3 17 := ⟨by decide +kernel, rfl⟩
theorem dX9_way_17 : AtJ iX9_way 17 (.ifCond .eq 13) 13 20 30 := ⟨by decide +kernel, rfl, by decide⟩
theorem dX9_way_20 : AtI iX9_way 20 (.aload_n 0) 1 21 := ⟨by decide +kernel, rfl⟩
theorem dX9_way_21 : AtI iX9_way 21 (.iload_n 1) 1 22 := ⟨by decide +kernel, rfl⟩
theorem dX9_way_22 : AtI iX9_way 22 (.iload_n 2) 1 23 := ⟨by decide +kernel, rfl⟩
theorem dX9_way_23 : AtI iX9_way 23 (.iload_n 3) 1 24 := ⟨by decide +kernel, rfl⟩
theorem dX9_way_24 : AtI iX9_way 24 (.invokevirtual 201) 3 27 := ⟨by decide +kernel, rfl⟩
theorem dX9_way_27 : AtJ iX9_way 27 (.goto 5) 5 30 32 := ⟨by decide +kernel, rfl, by decide⟩
theorem dX9_way_30 : AtI iX9_way 30 (.bipush (-2)) 2 32 := ⟨by decide +kernel, rfl⟩
theorem dX9_way_32 : AtI iX9_way 32 .ireturn 1 33 := ⟨by decide +kernel, rfl⟩
theorem dX9_goes_0 : AtI iX9_goes 0 (.aload_n 0) 1 1 := ⟨by decide +kernel, rfl⟩
theorem dX9_goes_1 : AtI iX9_goes 1 (.iload_n 2) 1 2 := ⟨by decide +kernel, rfl⟩
theorem dX9_goes_2 : AtI iX9_goes 2 (.invokevirtual 191) 3 5 := ⟨by decide +kernel, rfl⟩
theorem dX9_goes_5 : AtI iX9_goes 5 (.iload_n 1) 1 6 := ⟨by decide +kernel, rfl⟩
theorem dX9_goes_6 : AtI iX9_goes 6 (.istore 5) 2 8 := ⟨by decide +kernel, rfl⟩
theorem dX9_goes_8 : AtI iX9_goes 8 (.iload_n 3) 1 9 := ⟨by decide +kernel, rfl⟩
theorem dX9_goes_9 : AtI iX9_goes 9 (.istore 6) 2 11 := ⟨by decide +kernel, rfl⟩
theorem dX9_goes_11 : AtI iX9_goes 11 (.aload_n 0) 1 12 := ⟨by decide +kernel, rfl⟩
theorem dX9_goes_12 : AtI iX9_goes 12 (.getfield 40) 3 15 := ⟨by decide +kernel, rfl⟩
theorem dX9_goes_15 : AtI iX9_goes 15 (.iload_n 1) 1 16 := ⟨by decide +kernel, rfl⟩
theorem dX9_goes_16 : AtI iX9_goes 16 .iaload 1 17 := ⟨by decide +kernel, rfl⟩
theorem dX9_goes_17 : AtI iX9_goes 17 (.sipush 9999) 3 20 := ⟨by decide +kernel, rfl⟩
theorem dX9_goes_20 : AtJ iX9_goes 20 (.if_icmp .ge 7) 7 23 27 := ⟨by decide +kernel, rfl, by decide⟩
theorem dX9_goes_23 : AtI iX9_goes 23 (.iconst 1) 1 24 := ⟨by decide +kernel, rfl⟩
theorem dX9_goes_24 : AtJ iX9_goes 24 (.goto 4) 4 27 28 := ⟨by decide +kernel, rfl, by decide⟩
theorem dX9_goes_27 : AtI iX9_goes 27 (.iconst 0) 1 28 := ⟨by decide +kernel, rfl⟩
theorem dX9_goes_28 : AtI iX9_goes 28 (.istore 7) 2 30 := ⟨by decide +kernel, rfl⟩
theorem dX9_goes_30 : AtI iX9_goes 30 (.iload 7) 2 32 := ⟨by decide +kernel, rfl⟩
theorem dX9_goes_32 : AtJ iX9_goes 32 (.ifCond .eq 74) 74 35 106 := ⟨by decide +kernel, rfl, by decide⟩
theorem dX9_goes_35 : AtI iX9_goes 35 (.iload 5) 2 37 := ⟨by decide +kernel, rfl⟩
theorem dX9_goes_37 : AtI iX9_goes 37 (.iload_n 2) 1 38 := ⟨by decide +kernel, rfl⟩
theorem dX9_goes_38 : AtJ iX9_goes 38 (.if_icmp .eq 68) 68 41 106 := ⟨by decide +kernel, rfl, by decide⟩
theorem dX9_goes_41 : AtI iX9_goes 41 (.aload_n 0) 1 42 := ⟨by decide +kernel, rfl⟩
theorem dX9_goes_42 : AtI iX9_goes 42 (.iload 5) 2 44 := ⟨by decide +kernel, rfl⟩
theorem dX9_goes_44 : AtI iX9_goes 44 (.invokevirtual 195) 3 47 := ⟨by decide +kernel, rfl⟩
theorem dX9_goes_47 : AtI iX9_goes 47 (.istore 8) 2 49 := ⟨by decide +kernel, rfl⟩
theorem dX9_goes_49 : AtI iX9_goes 49 (.iload 6) 2 51 := ⟨by decide +kernel, rfl⟩
theorem dX9_goes_51 : AtI iX9_goes 51 (.aload_n 0) 1 52 := ⟨by decide +kernel, rfl⟩
theorem dX9_goes_52 : AtI iX9_goes 52 (.iload 5) 2 54 := ⟨by decide +kernel, rfl⟩
theorem dX9_goes_54 : AtI iX9_goes 54 (.iload 8) 2 56 := ⟨by decide +kernel, rfl⟩
theorem dX9_goes_56 : AtI iX9_goes 56 (.invokevirtual 188) 3 59 := ⟨by decide +kernel, rfl⟩
theorem dX9_goes_59 : AtI iX9_goes 59 .iadd 1 60 := ⟨by decide +kernel, rfl⟩
theorem dX9_goes_60 : AtI iX9_goes 60 (.istore 6) 2 62 := ⟨by decide +kernel, rfl⟩
theorem dX9_goes_62 : AtI iX9_goes 62 (.iload 8) 2 64 := ⟨by decide +kernel, rfl⟩
theorem dX9_goes_64 : AtI iX9_goes 64 (.istore 5) 2 66 := ⟨by decide +kernel, rfl⟩
theorem dX9_goes_66 : AtI iX9_goes 66 (.iload 6) 2 68 := ⟨by decide +kernel, rfl⟩
theorem dX9_goes_68 : AtI iX9_goes 68 (.sipush 671) 3 71 := ⟨by decide +kernel, rfl⟩
theorem dX9_goes_71 : AtJ iX9_goes 71 (.if_icmp .gt 29) 29 74 100 := ⟨by decide +kernel, rfl, by decide⟩
theorem dX9_goes_74 : AtI iX9_goes 74 (.aload_n 0) 1 75 := ⟨by decide +kernel, rfl⟩
theorem dX9_goes_75 : AtI iX9_goes 75 (.iload 6) 2 77 := ⟨by decide +kernel, rfl⟩
theorem dX9_goes_77 : AtI iX9_goes 77 (.iload 5) 2 79 := ⟨by decide +kernel, rfl⟩
theorem dX9_goes_79 : AtI iX9_goes 79 (.invokevirtual 169) 3 82 := ⟨by decide +kernel, rfl⟩
theorem dX9_goes_82 : AtJ iX9_goes 82 (.ifCond .ne 14) 14 85 96 := ⟨by decide +kernel, rfl, by decide⟩
theorem dX9_goes_85 : AtI iX9_goes 85 (.iload 4) 2 87 := ⟨by decide +kernel, rfl⟩
theorem dX9_goes_87 : AtJ iX9_goes 87 (.ifCond .eq 13) 13 90 100 := ⟨by decide +kernel, rfl, by decide⟩
theorem dX9_goes_90 : AtI iX9_goes 90 (.iload 5) 2 92 := ⟨by decide +kernel, rfl⟩
theorem dX9_goes_92 : AtI iX9_goes 92 (.iload_n 2) 1 93 := ⟨by decide +kernel, rfl⟩
theorem dX9_goes_93 : AtJ iX9_goes 93 (.if_icmp .ne 7) 7 96 100 := ⟨by decide +kernel, rfl, by decide⟩
theorem dX9_goes_96 : AtI iX9_goes 96 (.iconst 1) 1 97 := ⟨by decide +kernel, rfl⟩
theorem dX9_goes_97 : AtJ iX9_goes 97 (.goto 4) 4 100 101 := ⟨by decide +kernel, rfl, by decide⟩
theorem dX9_goes_100 : AtI iX9_goes 100 (.iconst 0) 1 101 := ⟨by decide +kernel, rfl⟩
theorem dX9_goes_101 : AtI iX9_goes 101 (.istore 7) 2 103 := ⟨by decide +kernel, rfl⟩
theorem dX9_goes_103 : AtJ iX9_goes 103 (.goto (-73)) (-73) 106 30 := ⟨by decide +kernel, rfl, by decide⟩
theorem dX9_goes_106 : AtI iX9_goes 106 (.iload 7) 2 108 := ⟨by decide +kernel, rfl⟩
theorem dX9_goes_108 : AtJ iX9_goes 108 (.ifCond .eq 8) 8 111 116 := ⟨by decide +kernel, rfl, by decide⟩
theorem dX9_goes_111 : AtI iX9_goes 111 (.iload 6) 2 113 := ⟨by decide +kernel, rfl⟩
theorem dX9_goes_113 : AtJ iX9_goes 113 (.goto 4) 4 116 117 := ⟨by decide +kernel, rfl, by decide⟩
theorem dX9_goes_116 : AtI iX9_goes 116 (.iconst (-1)) 1 117 := ⟨by decide +kernel, rfl⟩
theorem dX9_goes_117 : AtI iX9_goes 117 .ireturn 1 118 := ⟨by decide +kernel, rfl⟩
end
section
/-! decode rows -/
theorem dX9_isRaid_0 : AtI iX9_isRaid 0 (.aload_n 0) 1 1 := ⟨by decide +kernel, rfl⟩
theorem dX9_isRaid_1 : AtI iX9_isRaid 1 (.iload_n 1) 1 2 := ⟨by decide +kernel, rfl⟩
theorem dX9_isRaid_2 : AtI iX9_isRaid 2 (.iload_n 2) 1 3 := ⟨by decide +kernel, rfl⟩
theorem dX9_isRaid_3 : AtI iX9_isRaid 3 (.iload 4) 2 5 := ⟨by decide +kernel, rfl⟩
theorem dX9_isRaid_5 : AtI iX9_isRaid 5 (.iconst 0) 1 6 := ⟨by decide +kernel, rfl⟩
theorem dX9_isRaid_6 : AtI iX9_isRaid 6 (.invokevirtual 204) 3 9 := ⟨by decide +kernel, rfl⟩
theorem dX9_isRaid_9 : AtI iX9_isRaid 9 (.istore 5) 2 11 := ⟨by decide +kernel, rfl⟩
theorem dX9_isRaid_11 : AtI iX9_isRaid 11 (.iload 5) 2 13 := ⟨by decide +kernel, rfl⟩
theorem dX9_isRaid_13 : AtI iX9_isRaid 13 (.iconst (-1)) 1 14 := ⟨by decide +kernel, rfl⟩
theorem dX9_isRaid_14 : AtJ iX9_isRaid 14 (.if_icmp .eq 7) 7 17 21 := ⟨by decide +kernel, rfl, by decide⟩
theorem dX9_isRaid_17 : AtI iX9_isRaid 17 (.iconst 1) 1 18 := ⟨by decide +kernel, rfl⟩
theorem dX9_isRaid_18 : AtJ iX9_isRaid 18 (.goto 4) 4 21 22 := ⟨by decide +kernel, rfl, by decide⟩
theorem dX9_isRaid_21 : AtI iX9_isRaid 21 (.iconst 0) 1 22 := ⟨by decide +kernel, rfl⟩
theorem dX9_isRaid_22 : AtI iX9_isRaid 22 (.istore 6) 2 24 := ⟨by decide +kernel, rfl⟩
theorem dX9_isRaid_24 : AtI iX9_isRaid 24 (.iconst 0) 1 25 := ⟨by decide +kernel, rfl⟩
theorem dX9_isRaid_25 : AtI iX9_isRaid 25 (.istore 7) 2 27 := ⟨by decide +kernel, rfl⟩
theorem dX9_isRaid_27 : AtI iX9_isRaid 27 (.iload 7) 2 29 := ⟨by decide +kernel, rfl⟩
theorem dX9_isRaid_29 : AtI iX9_isRaid 29 (.iload_n 3) 1 30 := ⟨by decide +kernel, rfl⟩
theorem dX9_isRaid_30 : AtJ iX9_isRaid 30 (.if_icmp .ge 26) 26 33 56 := ⟨by decide +kernel, rfl, by decide⟩
theorem dX9_isRaid_33 : AtI iX9_isRaid 33 (.iload 6) 2 35 := ⟨by decide +kernel, rfl⟩
theorem dX9_isRaid_35 : AtJ iX9_isRaid 35 (.ifCond .eq 21) 21 38 56 := ⟨by decide +kernel, rfl, by decide⟩
theorem dX9_isRaid_38 : AtI iX9_isRaid 38 (.aload_n 0) 1 39 := ⟨by decide +kernel, rfl⟩
theorem dX9_isRaid_39 : AtI iX9_isRaid 39 (.iload 5) 2 41 := ⟨by decide +kernel, rfl⟩
theorem dX9_isRaid_41 : AtI iX9_isRaid 41 (.iload 7) 2 43 := ⟨by decide +kernel, rfl⟩
theorem dX9_isRaid_43 : AtI iX9_isRaid 43 .iadd 1 44 := ⟨by decide +kernel, rfl⟩
theorem dX9_isRaid_44 : AtI iX9_isRaid 44 (.iload_n 2) 1 45 := ⟨by decide +kernel, rfl⟩
theorem dX9_isRaid_45 : AtI iX9_isRaid 45 (.invokevirtual 169) 3 48 := ⟨by decide +kernel, rfl⟩
theorem dX9_isRaid_48 : AtI iX9_isRaid 48 (.istore 6) 2 50 := ⟨by decide +kernel, rfl⟩
theorem dX9_isRaid_50 : AtI iX9_isRaid 50 (.iinc 7 1) 3 53 := ⟨by decide +kernel, rfl⟩
theorem dX9_isRaid_53 : AtJ iX9_isRaid 53 (.goto (-26)) (-26) 56 27 := ⟨by decide +kernel, rfl, by decide⟩
theorem dX9_isRaid_56 : AtI iX9_isRaid 56 (.iload 6) 2 58 := ⟨by decide +kernel, rfl⟩
theorem dX9_isRaid_58 : AtJ iX9_isRaid 58 (.ifCond .eq 22) 22 61 80 := ⟨by decide +kernel, rfl, by decide⟩
theorem dX9_isRaid_61 : AtI iX9_isRaid 61 (.aload_n 0) 1 62 := ⟨by decide +kernel, rfl⟩
theorem dX9_isRaid_62 : AtI iX9_isRaid 62 (.iload_n 2) 1 63 := ⟨by decide +kernel, rfl⟩
theorem dX9_isRaid_63 : AtI iX9_isRaid 63 (.iload_n 1) 1 64 := ⟨by decide +kernel, rfl⟩
theorem dX9_isRaid_64 : AtI iX9_isRaid 64 (.iload 5) 2 66 := ⟨by decide +kernel, rfl⟩
theorem dX9_isRaid_66 : AtI iX9_isRaid 66 (.iload_n 3) 1 67 := ⟨by decide +kernel, rfl⟩
theorem dX9_isRaid_67 : AtI iX9_isRaid 67 .iadd 1 68 := ⟨by decide +kernel, rfl⟩
theorem dX9_isRaid_68 : AtI iX9_isRaid 68 (.iconst 1) 1 69 := ⟨by decide +kernel, rfl⟩
theorem dX9_isRaid_69 : AtI iX9_isRaid 69 (.invokevirtual 204) 3 72 := ⟨by decide +kernel, rfl⟩
theorem dX9_isRaid_72 : AtI iX9_isRaid 72 (.iconst (-1)) 1 73 := ⟨by decide +kernel, rfl⟩
theorem dX9_isRaid_73 : AtJ iX9_isRaid 73 (.if_icmp .eq 7) 7 76 80 := ⟨by decide +kernel, rfl, by decide⟩
theorem dX9_isRaid_76 : AtI iX9_isRaid 76 (.iconst 1) 1 77 := ⟨by decide +kernel, rfl⟩
theorem dX9_isRaid_77 : AtJ iX9_isRaid 77 (.goto 4) 4 80 81 := ⟨by decide +kernel, rfl, by decide⟩
theorem dX9_isRaid_80 : AtI iX9_isRaid 80 (.iconst 0) 1 81 := ⟨by decide +kernel, rfl⟩
theorem dX9_isRaid_81 : AtI iX9_isRaid 81 .ireturn 1 82 := ⟨by decide +kernel, rfl⟩
theorem dX9_raidOf_0 : AtI iX9_raidOf 0 (.iload 4) 2 2 := ⟨by decide +kernel, rfl⟩
theorem dX9_raidOf_2 : AtI iX9_raidOf 2 (.istore 5) 2 4 := ⟨by decide +kernel, rfl⟩
theorem dX9_raidOf_4 : AtI iX9_raidOf 4 (.iload 5) 2 6 := ⟨by decide +kernel, rfl⟩
theorem dX9_raidOf_6 : AtI iX9_raidOf 6 (.sipush 672) 3 9 := ⟨by decide +kernel, rfl⟩
theorem dX9_raidOf_9 : AtJ iX9_raidOf 9 (.if_icmp .ge 24) 24 12 33 := ⟨by decide +kernel, rfl, by decide⟩
theorem dX9_raidOf_12 : AtI iX9_raidOf 12 (.aload_n 0) 1 13 := ⟨by decide +kernel, rfl⟩
theorem dX9_raidOf_13 : AtI iX9_raidOf 13 (.iload_n 1) 1 14 := ⟨by decide +kernel, rfl⟩
theorem dX9_raidOf_14 : AtI iX9_raidOf 14 (.iload_n 2) 1 15 := ⟨by decide +kernel, rfl⟩
theorem dX9_raidOf_15 : AtI iX9_raidOf 15 (.iload_n 3) 1 16 := ⟨by decide +kernel, rfl⟩
theorem dX9_raidOf_16 : AtI iX9_raidOf 16 (.iload 5) 2 18 := ⟨by decide +kernel, rfl⟩
theorem dX9_raidOf_18 : AtI iX9_raidOf 18 (.invokevirtual 208) 3 21 := ⟨by decide +kernel, rfl⟩
theorem dX9_raidOf_21 : AtJ iX9_raidOf 21 (.ifCond .eq 6) 6 24 27 := ⟨by decide +kernel, rfl, by decide⟩
theorem dX9_raidOf_24 : AtI iX9_raidOf 24 (.iload 5) 2 26 := ⟨by decide +kernel, rfl⟩
theorem dX9_raidOf_26 : AtI iX9_raidOf 26 .ireturn 1 27 := ⟨by decide +kernel, rfl⟩
theorem dX9_raidOf_27 : AtI iX9_raidOf 27 (.iinc 5 1) 3 30 := ⟨by decide +kernel, rfl⟩
theorem dX9_raidOf_30 : AtJ iX9_raidOf 30 (.goto (-26)) (-26) 33 4 := ⟨by decide +kernel, rfl, by decide⟩
theorem dX9_raidOf_33 : AtI iX9_raidOf 33 (.iconst (-1)) 1 34 := ⟨by decide +kernel, rfl⟩
theorem dX9_raidOf_34 : AtI iX9_raidOf 34 .ireturn 1 35 := ⟨by decide +kernel, rfl⟩
theorem dX9_raid_0 : AtI iX9_raid 0 (.aload_n 0) 1 1 := ⟨by decide +kernel, rfl⟩
theorem dX9_raid_1 : AtI iX9_raid 1 (.invokevirtual 119) 3 4 := ⟨by decide +kernel, rfl⟩
theorem dX9_raid_4 : AtI iX9_raid 4 .pop 1 5 := ⟨by decide +kernel, rfl⟩
theorem dX9_raid_5 : AtI iX9_raid 5 (.iload_n 1) 1 6 := ⟨by decide +kernel, rfl⟩
theorem dX9_raid_6 : AtI iX9_raid 6 (.iload_n 2) 1 7 := ⟨by decide +kernel, rfl⟩
theorem dX9_raid_7 : AtI iX9_raid 7 (.invokestatic 198) 3 10 := ⟨by decide +kernel, rfl⟩
theorem dX9_raid_10 : AtJ iX9_raid 10 (.ifCond .eq 35) 35 13 45 := ⟨by decide +kernel, rfl, by decide⟩
theorem dX9_raid_13 : AtI iX9_raid 13 (.iload_n 3) 1 14 := ⟨by decide +kernel, rfl⟩
theorem dX9_raid_14 : AtI iX9_raid 14 .i2l 1 15 := ⟨by decide +kernel, rfl⟩
theorem dX9_raid_15 : AtI iX9_raid 15 (.lconst 1) 1 16 := ⟨by decide +kernel, rfl⟩
theorem dX9_raid_16 : AtI iX9_raid 16 (.ldc2_w 211) 3 19 := ⟨by decide +kernel, rfl⟩
theorem dX9_raid_19 : AtI iX9_raid 19 (.invokestatic 65) 3 22 := ⟨by decide +kernel, rfl⟩
theorem dX9_raid_22 : AtJ iX9_raid 22 (.ifCond .eq 23) 23 25 45 := ⟨by decide +kernel, rfl, by decide⟩
theorem dX9_raid_25 : AtI iX9_raid 25 (.iload 4) 2 27 := ⟨by decide +kernel, rfl⟩
theorem dX9_raid_27 : AtI iX9_raid 27 (.invokestatic 166) 3 30 := ⟨by decide +kernel, rfl⟩
theorem dX9_raid_30 : AtJ iX9_raid 30 (.ifCond .eq 15) 15 33 45 := ⟨by decide +kernel, rfl, by decide⟩
theorem dX9_raid_33 : AtI iX9_raid 33 (.aload_n 0) 1 34 := ⟨by decide +kernel, rfl⟩
theorem dX9_raid_34 : AtI iX9_raid 34 (.iload_n 1) 1 35 := ⟨by decide +kernel, rfl⟩
theorem dX9_raid_35 : AtI iX9_raid 35 (.iload_n 2) 1 36 := ⟨by decide +kernel, rfl⟩
theorem dX9_raid_36 : AtI iX9_raid 36 (.iload_n 3) 1 37 := ⟨by decide +kernel, rfl⟩
theorem dX9_raid_37 : AtI iX9_raid 37 (.iload 4) 2 39 := ⟨by decide +kernel, rfl⟩
theorem dX9_raid_39 : AtI iX9_raid 39 (.invokevirtual 213) 3 42 := ⟨by decide +kernel, rfl⟩
theorem dX9_raid_42 : AtJ iX9_raid 42 (.goto 5) 5 45 47 := ⟨by decide +kernel, rfl, by decide⟩
theorem dX9_raid_45 : AtI iX9_raid 45 (.bipush (-2)) 2 47 := ⟨by decide +kernel, rfl⟩
theorem dX9_raid_47 : AtI iX9_raid 47 .ireturn 1 48 := ⟨by decide +kernel, rfl⟩
theorem dX9_set_0 : AtI iX9_set 0 (.iload_n 1) 1 1 := ⟨by decide +kernel, rfl⟩
theorem dX9_set_1 : AtI iX9_set 1 (.invokestatic 135) 3 4 := ⟨by decide +kernel, rfl⟩
theorem dX9_set_4 : AtJ iX9_set 4 (.ifCond .eq 15) 15 7 19 := ⟨by decide +kernel, rfl, by decide⟩
theorem dX9_set_7 : AtI iX9_set 7 (.iload_n 2) 1 8 := ⟨by decide +kernel, rfl⟩
theorem dX9_set_8 : AtI iX9_set 8 .i2l 1 9 := ⟨by decide +kernel, rfl⟩
theorem dX9_set_9 : AtI iX9_set 9 (.lconst 0) 1 10 := ⟨by decide +kernel, rfl⟩
theorem dX9_set_10 : AtI iX9_set 10 (.ldc2_w 217) 3 13 := ⟨by decide +kernel, rfl⟩
theorem dX9_set_13 : AtI iX9_set 13 (.invokestatic 65) 3 16 := ⟨by decide +kernel, rfl⟩
theorem dX9_set_16 : AtJ iX9_set 16 (.ifCond .ne 6) 6 19 22 := ⟨by decide +kernel, rfl, by decide⟩
theorem dX9_set_19 : AtI iX9_set 19 (.bipush (-2)) 2 21 := ⟨by decide +kernel, rfl⟩
theorem dX9_set_21 : AtI iX9_set 21 .ireturn 1 22 := ⟨by decide +kernel, rfl⟩
theorem dX9_set_22 : AtI iX9_set 22 (.aload_n 0) 1 23 := ⟨by decide +kernel, rfl⟩
theorem dX9_set_23 : AtI iX9_set 23 (.getfield 37) 3 26 := ⟨by decide +kernel, rfl⟩
theorem dX9_set_26 : AtI iX9_set 26 (.iload_n 1) 1 27 := ⟨by decide +kernel, rfl⟩
theorem dX9_set_27 : AtI iX9_set 27 .iaload 1 28 := ⟨by decide +kernel, rfl⟩
theorem dX9_set_28 : AtI iX9_set 28 (.istore_n 3) 1 29 := ⟨by decide +kernel, rfl⟩
theorem dX9_set_29 : AtI iX9_set 29 (.aload_n 0) 1 30 := ⟨by decide +kernel, rfl⟩
theorem dX9_set_30 : AtI iX9_set 30 (.getfield 37) 3 33 := ⟨by decide +kernel, rfl⟩
theorem dX9_set_33 : AtI iX9_set 33 (.iload_n 1) 1 34 := ⟨by decide +kernel, rfl⟩
theorem dX9_set_34 : AtI iX9_set 34 (.iload_n 2) 1 35 := ⟨by decide +kernel, rfl⟩
theorem dX9_set_35 : AtI iX9_set 35 .iastore 1 36 := ⟨by decide +kernel, rfl⟩
theorem dX9_set_36 : AtI iX9_set 36 (.iload_n 3) 1 37 := ⟨by decide +kernel, rfl⟩
theorem dX9_set_37 : AtI iX9_set 37 .ireturn 1 38 := ⟨by decide +kernel, rfl⟩
theorem dX9_falls_0 : AtI iX9_falls 0 (.aload_n 0) 1 1 := ⟨by decide +kernel, rfl⟩
theorem dX9_falls_1 : AtI iX9_falls 1 (.iload_n 3) 1 2 := ⟨by decide +kernel, rfl⟩
theorem dX9_falls_2 : AtI iX9_falls 2 (.putfield 219) 3 5 := ⟨by decide +kernel, rfl⟩
theorem dX9_falls_5 : AtI iX9_falls 5 (.iload_n 2) 1 6 := ⟨by decide +kernel, rfl⟩
theorem dX9_falls_6 : AtI iX9_falls 6 (.istore 5) 2 8 := ⟨by decide +kernel, rfl⟩
theorem dX9_falls_8 : AtI iX9_falls 8 (.iload 5) 2 10 := ⟨by decide +kernel, rfl⟩
theorem dX9_falls_10 : AtI iX9_falls 10 (.sipush 672) 3 13 := ⟨by decide +kernel, rfl⟩
theorem dX9_falls_13 : AtJ iX9_falls 13 (.if_icmp .ge 63) 63 16 76 := ⟨by decide +kernel, rfl, by decide⟩
theorem dX9_falls_16 : AtI iX9_falls 16 (.aload_n 0) 1 17 := ⟨by decide +kernel, rfl⟩
theorem dX9_falls_17 : AtI iX9_falls 17 (.aload_n 0) 1 18 := ⟨by decide +kernel, rfl⟩
theorem dX9_falls_18 : AtI iX9_falls 18 (.iload 5) 2 20 := ⟨by decide +kernel, rfl⟩
theorem dX9_falls_20 : AtI iX9_falls 20 (.iload_n 1) 1 21 := ⟨by decide +kernel, rfl⟩
theorem dX9_falls_21 : AtI iX9_falls 21 (.invokevirtual 169) 3 24 := ⟨by decide +kernel, rfl⟩
theorem dX9_falls_24 : AtJ iX9_falls 24 (.ifCond .eq 17) 17 27 41 := ⟨by decide +kernel, rfl, by decide⟩
theorem dX9_falls_27 : AtI iX9_falls 27 (.aload_n 0) 1 28 := ⟨by decide +kernel, rfl⟩
theorem dX9_falls_28 : AtI iX9_falls 28 (.getfield 219) 3 31 := ⟨by decide +kernel, rfl⟩
theorem dX9_falls_31 : AtI iX9_falls 31 (.aload_n 0) 1 32 := ⟨by decide +kernel, rfl⟩
theorem dX9_falls_32 : AtI iX9_falls 32 (.getfield 37) 3 35 := ⟨by decide +kernel, rfl⟩
theorem dX9_falls_35 : AtI iX9_falls 35 (.iconst 0) 1 36 := ⟨by decide +kernel, rfl⟩
theorem dX9_falls_36 : AtI iX9_falls 36 .iaload 1 37 := ⟨by decide +kernel, rfl⟩
theorem dX9_falls_37 : AtI iX9_falls 37 .isub 1 38 := ⟨by decide +kernel, rfl⟩
theorem dX9_falls_38 : AtJ iX9_falls 38 (.goto 14) 14 41 52 := ⟨by decide +kernel, rfl, by decide⟩
theorem dX9_falls_41 : AtI iX9_falls 41 (.aload_n 0) 1 42 := ⟨by decide +kernel, rfl⟩
theorem dX9_falls_42 : AtI iX9_falls 42 (.getfield 219) 3 45 := ⟨by decide +kernel, rfl⟩
theorem dX9_falls_45 : AtI iX9_falls 45 (.iload 4) 2 47 := ⟨by decide +kernel, rfl⟩
theorem dX9_falls_47 : AtI iX9_falls 47 .iadd 1 48 := ⟨by decide +kernel, rfl⟩
theorem dX9_falls_48 : AtI iX9_falls 48 (.iload_n 3) 1 49 := ⟨by decide +kernel, rfl⟩
theorem dX9_falls_49 : AtI iX9_falls 49 (.invokestatic 140) 3 52 := ⟨by decide +kernel, rfl⟩
theorem dX9_falls_52 : AtI iX9_falls 52 (.putfield 219) 3 55 := ⟨by decide +kernel, rfl⟩
theorem dX9_falls_55 : AtI iX9_falls 55 (.aload_n 0) 1 56 := ⟨by decide +kernel, rfl⟩
theorem dX9_falls_56 : AtI iX9_falls 56 (.getfield 219) 3 59 := ⟨by decide +kernel, rfl⟩
theorem dX9_falls_59 : AtJ iX9_falls 59 (.ifCond .gt 11) 11 62 70 := ⟨by decide +kernel, rfl, by decide⟩
theorem dX9_falls_62 : AtI iX9_falls 62 (.aload_n 0) 1 63 := ⟨by decide +kernel, rfl⟩
theorem dX9_falls_63 : AtI iX9_falls 63 (.iconst 0) 1 64 := ⟨by decide +kernel, rfl⟩
theorem dX9_falls_64 : AtI iX9_falls 64 (.putfield 219) 3 67 := ⟨by decide +kernel, rfl⟩
theorem dX9_falls_67 : AtI iX9_falls 67 (.iload 5) 2 69 := ⟨by decide +kernel, rfl⟩
theorem dX9_falls_69 : AtI iX9_falls 69 .ireturn 1 70 := ⟨by decide +kernel, rfl⟩
theorem dX9_falls_70 : AtI iX9_falls 70 (.iinc 5 1) 3 73 := ⟨by decide +kernel, rfl⟩
theorem dX9_falls_73 : AtJ iX9_falls 73 (.goto (-65)) (-65) 76 8 := ⟨by decide +kernel, rfl, by decide⟩
theorem dX9_falls_76 : AtI iX9_falls 76 (.iconst (-1)) 1 77 := ⟨by decide +kernel, rfl⟩
theorem dX9_falls_77 : AtI iX9_falls 77 .ireturn 1 78 := ⟨by decide +kernel, rfl⟩
theorem dX9_siegeOf_0 : AtI iX9_siegeOf 0 (.aload_n 0) 1 1 := ⟨by decide +kernel, rfl⟩
theorem dX9_siegeOf_1 : AtI iX9_siegeOf 1 (.iload_n 1) 1 2 := ⟨by decide +kernel, rfl⟩
theorem dX9_siegeOf_2 : AtI iX9_siegeOf 2 (.iload_n 2) 1 3 := ⟨by decide +kernel, rfl⟩
theorem dX9_siegeOf_3 : AtI iX9_siegeOf 3 (.iload_n 3) 1 4 := ⟨by decide +kernel, rfl⟩
theorem dX9_siegeOf_4 : AtI iX9_siegeOf 4 (.aload_n 0) 1 5 := ⟨by decide +kernel, rfl⟩
theorem dX9_siegeOf_5 : AtI iX9_siegeOf 5 (.getfield 37) 3 8 := ⟨by decide +kernel, rfl⟩
theorem dX9_siegeOf_8 : AtI iX9_siegeOf 8 (.iconst 1) 1 9 := ⟨by decide +kernel, rfl⟩
theorem dX9_siegeOf_9 : AtI iX9_siegeOf 9 .iaload 1 10 := ⟨by decide +kernel, rfl⟩
theorem dX9_siegeOf_10 : AtI iX9_siegeOf 10 (.invokevirtual 222) 3 13 := ⟨by decide +kernel, rfl⟩
theorem dX9_siegeOf_13 : AtI iX9_siegeOf 13 (.istore 5) 2 15 := ⟨by decide +kernel, rfl⟩
theorem dX9_siegeOf_15 : AtI iX9_siegeOf 15 (.iload 4) 2 17 := ⟨by decide +kernel, rfl⟩
theorem dX9_siegeOf_17 : AtJ iX9_siegeOf 17 (.ifCond .ne 8) 8 20 25 := ⟨by decide +kernel, rfl, by decide⟩
theorem dX9_siegeOf_20 : AtI iX9_siegeOf 20 (.iload 5) 2 22 := ⟨by decide +kernel, rfl⟩
theorem dX9_siegeOf_22 : AtJ iX9_siegeOf 22 (.goto 7) 7 25 29 := ⟨by decide +kernel, rfl, by decide⟩
theorem dX9_siegeOf_25 : AtI iX9_siegeOf 25 (.aload_n 0) 1 26 := ⟨by decide +kernel, rfl⟩
theorem dX9_siegeOf_26 : AtI iX9_siegeOf 26 (.getfield 219) 3 29 := ⟨by decide +kernel, rfl⟩
theorem dX9_siegeOf_29 : AtI iX9_siegeOf 29 .ireturn 1 30 := ⟨by decide +kernel, rfl⟩
theorem dX9_siege_0 : AtI iX9_siege 0 (.iload_n 1) 1 1 := ⟨by decide +kernel, rfl⟩
theorem dX9_siege_1 : AtI iX9_siege 1 (.invokestatic 127) 3 4 := ⟨by decide +kernel, rfl⟩
theorem dX9_siege_4 : AtJ iX9_siege 4 (.ifCond .eq 42) 42 7 46 := ⟨by decide +kernel, rfl, by decide⟩
theorem dX9_siege_7 : AtI iX9_siege 7 (.iload_n 2) 1 8 := ⟨by decide +kernel, rfl⟩
theorem dX9_siege_8 : AtI iX9_siege 8 (.invokestatic 166) 3 11 := ⟨by decide +kernel, rfl⟩
theorem dX9_siege_11 : AtJ iX9_siege 11 (.ifCond .eq 35) 35 14 46 := ⟨by decide +kernel, rfl, by decide⟩
theorem dX9_siege_14 : AtI iX9_siege 14 (.iload_n 3) 1 15 := ⟨by decide +kernel, rfl⟩
theorem dX9_siege_15 : AtI iX9_siege 15 .i2l 1 16 := ⟨by decide +kernel, rfl⟩
theorem dX9_siege_16 : AtI iX9_siege 16 (.lconst 1) 1 17 := ⟨by decide +kernel, rfl⟩
theorem dX9_siege_17 : AtI iX9_siege 17 (.ldc2_w 225) 3 20 := ⟨by decide +kernel, rfl⟩
theorem dX9_siege_20 : AtI iX9_siege 20 (.invokestatic 65) 3 23 := ⟨by decide +kernel, rfl⟩
theorem dX9_siege_23 : AtJ iX9_siege 23 (.ifCond .eq 23) 23 26 46 := ⟨by decide +kernel, rfl, by decide⟩
theorem dX9_siege_26 : AtI iX9_siege 26 (.iload 4) 2 28 := ⟨by decide +kernel, rfl⟩
theorem dX9_siege_28 : AtI iX9_siege 28 (.invokestatic 135) 3 31 := ⟨by decide +kernel, rfl⟩
theorem dX9_siege_31 : AtJ iX9_siege 31 (.ifCond .eq 15) 15 34 46 := ⟨by decide +kernel, rfl, by decide⟩
theorem dX9_siege_34 : AtI iX9_siege 34 (.aload_n 0) 1 35 := ⟨by decide +kernel, rfl⟩
theorem dX9_siege_35 : AtI iX9_siege 35 (.iload_n 1) 1 36 := ⟨by decide +kernel, rfl⟩
theorem dX9_siege_36 : AtI iX9_siege 36 (.iload_n 2) 1 37 := ⟨by decide +kernel, rfl⟩
theorem dX9_siege_37 : AtI iX9_siege 37 (.iload_n 3) 1 38 := ⟨by decide +kernel, rfl⟩
theorem dX9_siege_38 : AtI iX9_siege 38 (.iload 4) 2 40 := ⟨by decide +kernel, rfl⟩
theorem dX9_siege_40 : AtI iX9_siege 40 (.invokevirtual 227) 3 43 := ⟨by decide +kernel, rfl⟩
theorem dX9_siege_43 : AtJ iX9_siege 43 (.goto 5) 5 46 48 := ⟨by decide +kernel, rfl, by decide⟩
theorem dX9_siege_46 : AtI iX9_siege 46 (.bipush (-2)) 2 48 := ⟨by decide +kernel, rfl⟩
theorem dX9_siege_48 : AtI iX9_siege 48 .ireturn 1 49 := ⟨by decide +kernel, rfl⟩
theorem dX9_holdsBy_0 : AtI iX9_holdsBy 0 (.iconst 0) 1 1 := ⟨by decide +kernel, rfl⟩
theorem dX9_holdsBy_1 : AtI iX9_holdsBy 1 (.istore 4) 2 3 := ⟨by decide +kernel, rfl⟩
theorem dX9_holdsBy_3 : AtI iX9_holdsBy 3 (.iload 4) 2 5 := ⟨by decide +kernel, rfl⟩
theorem dX9_holdsBy_5 : AtI iX9_holdsBy 5 (.bipush 100) 2 7 := ⟨by decide +kernel, rfl⟩
theorem dX9_holdsBy_7 : AtJ iX9_holdsBy 7 (.if_icmp .ge 25) 25 10 32 := ⟨by decide +kernel, rfl, by decide⟩
theorem dX9_holdsBy_10 : AtI iX9_holdsBy 10 (.aload_n 0) 1 11 := ⟨by decide +kernel, rfl⟩
theorem dX9_holdsBy_11 : AtI iX9_holdsBy 11 (.iload_n 1) 1 12 := ⟨by decide +kernel, rfl⟩
theorem dX9_holdsBy_12 : AtI iX9_holdsBy 12 (.iload_n 2) 1 13 := ⟨by decide +kernel, rfl⟩
theorem dX9_holdsBy_13 : AtI iX9_holdsBy 13 (.iload_n 3) 1 14 := ⟨by decide +kernel, rfl⟩
theorem dX9_holdsBy_14 : AtI iX9_holdsBy 14 (.iload 4) 2 16 := ⟨by decide +kernel, rfl⟩
theorem dX9_holdsBy_16 : AtI iX9_holdsBy 16 (.invokevirtual 222) 3 19 := ⟨by decide +kernel, rfl⟩
theorem dX9_holdsBy_19 : AtI iX9_holdsBy 19 (.iconst (-1)) 1 20 := ⟨by decide +kernel, rfl⟩
theorem dX9_holdsBy_20 : AtJ iX9_holdsBy 20 (.if_icmp .ne 6) 6 23 26 := ⟨by decide +kernel, rfl, by decide⟩
theorem dX9_holdsBy_23 : AtI iX9_holdsBy 23 (.iload 4) 2 25 := ⟨by decide +kernel, rfl⟩
theorem dX9_holdsBy_25 : AtI iX9_holdsBy 25 .ireturn 1 26 := ⟨by decide +kernel, rfl⟩
theorem dX9_holdsBy_26 : AtI iX9_holdsBy 26 (.iinc 4 1) 3 29 := ⟨by decide +kernel, rfl⟩
theorem dX9_holdsBy_29 : AtJ iX9_holdsBy 29 (.goto (-26)) (-26) 32 3 := ⟨by decide +kernel, rfl, by decide⟩
theorem dX9_holdsBy_32 : AtI iX9_holdsBy 32 (.iconst (-1)) 1 33 := ⟨by decide +kernel, rfl⟩
theorem dX9_holdsBy_33 : AtI iX9_holdsBy 33 .ireturn 1 34 := ⟨by decide +kernel, rfl⟩
theorem dX9_holds_0 : AtI iX9_holds 0 (.iload_n 1) 1 1 := ⟨by decide +kernel, rfl⟩
theorem dX9_holds_1 : AtI iX9_holds 1 (.invokestatic 127) 3 4 := ⟨by decide +kernel, rfl⟩
theorem dX9_holds_4 : AtJ iX9_holds 4 (.ifCond .eq 32) 32 7 36 := ⟨by decide +kernel, rfl, by decide⟩
theorem dX9_holds_7 : AtI iX9_holds 7 (.iload_n 2) 1 8 := ⟨by decide +kernel, rfl⟩
theorem dX9_holds_8 : AtI iX9_holds 8 (.invokestatic 166) 3 11 := ⟨by decide +kernel, rfl⟩
theorem dX9_holds_11 : AtJ iX9_holds 11 (.ifCond .eq 25) 25 14 36 := ⟨by decide +kernel, rfl, by decide⟩
theorem dX9_holds_14 : AtI iX9_holds 14 (.iload_n 3) 1 15 := ⟨by decide +kernel, rfl⟩
theorem dX9_holds_15 : AtI iX9_holds 15 .i2l 1 16 := ⟨by decide +kernel, rfl⟩
theorem dX9_holds_16 : AtI iX9_holds 16 (.lconst 1) 1 17 := ⟨by decide +kernel, rfl⟩
theorem dX9_holds_17 : AtI iX9_holds 17 (.ldc2_w 225) 3 20 := ⟨by decide +kernel, rfl⟩
theorem dX9_holds_20 : AtI iX9_holds 20 (.invokestatic 65) 3 23 := ⟨by decide +kernel, rfl⟩
theorem dX9_holds_23 : AtJ iX9_holds 23 (.ifCond .eq 13) 13 26 36 := ⟨by decide +kernel, rfl, by decide⟩
theorem dX9_holds_26 : AtI iX9_holds 26 (.aload_n 0) 1 27 := ⟨by decide +kernel, rfl⟩
theorem dX9_holds_27 : AtI iX9_holds 27 (.iload_n 1) 1 28 := ⟨by decide +kernel, rfl⟩
theorem dX9_holds_28 : AtI iX9_holds 28 (.iload_n 2) 1 29 := ⟨by decide +kernel, rfl⟩
theorem dX9_holds_29 : AtI iX9_holds 29 (.iload_n 3) 1 30 := ⟨by decide +kernel, rfl⟩
theorem dX9_holds_30 : AtI iX9_holds 30 (.invokevirtual 230) 3 33 := ⟨by decide +kernel, rfl⟩
theorem dX9_holds_33 : AtJ iX9_holds 33 (.goto 5) 5 36 38 := ⟨by decide +kernel, rfl, by decide⟩
theorem dX9_holds_36 : AtI iX9_holds 36 (.bipush (-2)) 2 38 := ⟨by decide +kernel, rfl⟩
theorem dX9_holds_38 : AtI iX9_holds 38 .ireturn 1 39 := ⟨by decide +kernel, rfl⟩
theorem dX9_otherEnd_0 : AtI iX9_otherEnd 0 (.aload_n 0) 1 1 := ⟨by decide +kernel, rfl⟩
theorem dX9_otherEnd_1 : AtI iX9_otherEnd 1 (.getfield 25) 3 4 := ⟨by decide +kernel, rfl⟩
theorem dX9_otherEnd_4 : AtI iX9_otherEnd 4 (.iconst 3) 1 5 := ⟨by decide +kernel, rfl⟩
theorem dX9_otherEnd_5 : AtI iX9_otherEnd 5 (.iload_n 1) 1 6 := ⟨by decide +kernel, rfl⟩
theorem dX9_otherEnd_6 : AtI iX9_otherEnd 6 .imul 1 7 := ⟨by decide +kernel, rfl⟩
theorem dX9_otherEnd_7 : AtI iX9_otherEnd 7 .iaload 1 8 := ⟨by decide +kernel, rfl⟩
theorem dX9_otherEnd_8 : AtI iX9_otherEnd 8 (.iload_n 2) 1 9 := ⟨by decide +kernel, rfl⟩
theorem dX9_otherEnd_9 : AtJ iX9_otherEnd 9 (.if_icmp .ne 16) 16 12 25 := ⟨by decide +kernel, rfl, by decide⟩
theorem dX9_otherEnd_12 : AtI iX9_otherEnd 12 (.aload_n 0) 1 13 := ⟨by decide +kernel, rfl⟩
theorem dX9_otherEnd_13 : AtI iX9_otherEnd 13 (.getfield 25) 3 16 := ⟨by decide +kernel, rfl⟩
theorem dX9_otherEnd_16 : AtI iX9_otherEnd 16 (.iconst 3) 1 17 := ⟨by decide +kernel, rfl⟩
theorem dX9_otherEnd_17 : AtI iX9_otherEnd 17 (.iload_n 1) 1 18 := ⟨by decide +kernel, rfl⟩
theorem dX9_otherEnd_18 : AtI iX9_otherEnd 18 .imul 1 19 := ⟨by decide +kernel, rfl⟩
theorem dX9_otherEnd_19 : AtI iX9_otherEnd 19 (.iconst 1) 1 20 := ⟨by decide +kernel, rfl⟩
theorem dX9_otherEnd_20 : AtI iX9_otherEnd 20 .iadd 1 21 := ⟨by decide +kernel, rfl⟩
theorem dX9_otherEnd_21 : AtI iX9_otherEnd 21 .iaload 1 22 := ⟨by decide +kernel, rfl⟩
theorem dX9_otherEnd_22 : AtJ iX9_otherEnd 22 (.goto 29) 29 25 51 := ⟨by decide +kernel, rfl, by decide⟩
theorem dX9_otherEnd_25 : AtI iX9_otherEnd 25 (.aload_n 0) 1 26 := ⟨by decide +kernel, rfl⟩
theorem dX9_otherEnd_26 : AtI iX9_otherEnd 26 (.getfield 25) 3 29 := ⟨by decide +kernel, rfl⟩
theorem dX9_otherEnd_29 : AtI iX9_otherEnd 29 (.iconst 3) 1 30 := ⟨by decide +kernel, rfl⟩
theorem dX9_otherEnd_30 : AtI iX9_otherEnd 30 (.iload_n 1) 1 31 := ⟨by decide +kernel, rfl⟩
theorem dX9_otherEnd_31 : AtI iX9_otherEnd 31 .imul 1 32 := ⟨by decide +kernel, rfl⟩
theorem dX9_otherEnd_32 : AtI iX9_otherEnd 32 (.iconst 1) 1 33 := ⟨by decide +kernel, rfl⟩
theorem dX9_otherEnd_33 : AtI iX9_otherEnd 33 .iadd 1 34 := ⟨by decide +kernel, rfl⟩
theorem dX9_otherEnd_34 : AtI iX9_otherEnd 34 .iaload 1 35 := ⟨by decide +kernel, rfl⟩
theorem dX9_otherEnd_35 : AtI iX9_otherEnd 35 (.iload_n 2) 1 36 := ⟨by decide +kernel, rfl⟩
theorem dX9_otherEnd_36 : AtJ iX9_otherEnd 36 (.if_icmp .ne 14) 14 39 50 := ⟨by decide +kernel, rfl, by decide⟩
theorem dX9_otherEnd_39 : AtI iX9_otherEnd 39 (.aload_n 0) 1 40 := ⟨by decide +kernel, rfl⟩
theorem dX9_otherEnd_40 : AtI iX9_otherEnd 40 (.getfield 25) 3 43 := ⟨by decide +kernel, rfl⟩
theorem dX9_otherEnd_43 : AtI iX9_otherEnd 43 (.iconst 3) 1 44 := ⟨by decide +kernel, rfl⟩
theorem dX9_otherEnd_44 : AtI iX9_otherEnd 44 (.iload_n 1) 1 45 := ⟨by decide +kernel, rfl⟩
theorem dX9_otherEnd_45 : AtI iX9_otherEnd 45 .imul 1 46 := ⟨by decide +kernel, rfl⟩
theorem dX9_otherEnd_46 : AtI iX9_otherEnd 46 .iaload 1 47 := ⟨by decide +kernel, rfl⟩
theorem dX9_otherEnd_47 : AtJ iX9_otherEnd 47 (.goto 4) 4 50 51 := ⟨by decide +kernel, rfl, by decide⟩
theorem dX9_otherEnd_50 : AtI iX9_otherEnd 50 (.iconst (-1)) 1 51 := ⟨by decide +kernel, rfl⟩
theorem dX9_otherEnd_51 : AtI iX9_otherEnd 51 .ireturn 1 52 := ⟨by decide +kernel, rfl⟩
theorem dX9_wasAt_0 : AtI iX9_wasAt 0 (.iconst 0) 1 1 := ⟨by decide +kernel, rfl⟩
theorem dX9_wasAt_1 : AtI iX9_wasAt 1 (.istore_n 3) 1 2 := ⟨by decide +kernel, rfl⟩
theorem dX9_wasAt_2 : AtI iX9_wasAt 2 (.iconst 0) 1 3 := ⟨by decide +kernel, rfl⟩
theorem dX9_wasAt_3 : AtI iX9_wasAt 3 (.istore 4) 2 5 := ⟨by decide +kernel, rfl⟩
theorem dX9_wasAt_5 : AtI iX9_wasAt 5 (.iload 4) 2 7 := ⟨by decide +kernel, rfl⟩
theorem dX9_wasAt_7 : AtI iX9_wasAt 7 (.iload_n 1) 1 8 := ⟨by decide +kernel, rfl⟩
theorem dX9_wasAt_8 : AtJ iX9_wasAt 8 (.if_icmp .gt 30) 30 11 38 := ⟨by decide +kernel, rfl, by decide⟩
theorem dX9_wasAt_11 : AtI iX9_wasAt 11 (.iload_n 3) 1 12 := ⟨by decide +kernel, rfl⟩
theorem dX9_wasAt_12 : AtJ iX9_wasAt 12 (.ifCond .ne 14) 14 15 26 := ⟨by decide +kernel, rfl, by decide⟩
theorem dX9_wasAt_15 : AtI iX9_wasAt 15 (.aload_n 0) 1 16 := ⟨by decide +kernel, rfl⟩
theorem dX9_wasAt_16 : AtI iX9_wasAt 16 (.getfield 46) 3 19 := ⟨by decide +kernel, rfl⟩
theorem dX9_wasAt_19 : AtI iX9_wasAt 19 (.iload 4) 2 21 := ⟨by decide +kernel, rfl⟩
theorem dX9_wasAt_21 : AtI iX9_wasAt 21 .iaload 1 22 := ⟨by decide +kernel, rfl⟩
theorem dX9_wasAt_22 : AtI iX9_wasAt 22 (.iload_n 2) 1 23 := ⟨by decide +kernel, rfl⟩
theorem dX9_wasAt_23 : AtJ iX9_wasAt 23 (.if_icmp .ne 7) 7 26 30 := ⟨by decide +kernel, rfl, by decide⟩
theorem dX9_wasAt_26 : AtI iX9_wasAt 26 (.iconst 1) 1 27 := ⟨by decide +kernel, rfl⟩
theorem dX9_wasAt_27 : AtJ iX9_wasAt 27 (.goto 4) 4 30 31 := ⟨by decide +kernel, rfl, by decide⟩
theorem dX9_wasAt_30 : AtI iX9_wasAt 30 (.iconst 0) 1 31 := ⟨by decide +kernel, rfl⟩
theorem dX9_wasAt_31 : AtI iX9_wasAt 31 (.istore_n 3) 1 32 := ⟨by decide +kernel, rfl⟩
theorem dX9_wasAt_32 : AtI iX9_wasAt 32 (.iinc 4 1) 3 35 := ⟨by decide +kernel, rfl⟩
theorem dX9_wasAt_35 : AtJ iX9_wasAt 35 (.goto (-30)) (-30) 38 5 := ⟨by decide +kernel, rfl, by decide⟩
theorem dX9_wasAt_38 : AtI iX9_wasAt 38 (.iload_n 3) 1 39 := ⟨by decide +kernel, rfl⟩
theorem dX9_wasAt_39 : AtI iX9_wasAt 39 .ireturn 1 40 := ⟨by decide +kernel, rfl⟩
theorem dX9_isLess_0 : AtI iX9_isLess 0 (.iconst 0) 1 1 := ⟨by decide +kernel, rfl⟩
theorem dX9_isLess_1 : AtI iX9_isLess 1 (.istore_n 2) 1 2 := ⟨by decide +kernel, rfl⟩
theorem dX9_isLess_2 : AtI iX9_isLess 2 (.iload_n 2) 1 3 := ⟨by decide +kernel, rfl⟩
theorem dX9_isLess_3 : AtI iX9_isLess 3 (.iload_n 1) 1 4 := ⟨by decide +kernel, rfl⟩
theorem dX9_isLess_4 : AtJ iX9_isLess 4 (.if_icmp .gt 53) 53 7 57 := ⟨by decide +kernel, rfl, by decide⟩
theorem dX9_isLess_7 : AtI iX9_isLess 7 (.iload_n 2) 1 8 := ⟨by decide +kernel, rfl⟩
theorem dX9_isLess_8 : AtI iX9_isLess 8 (.aload_n 0) 1 9 := ⟨by decide +kernel, rfl⟩
theorem dX9_isLess_9 : AtI iX9_isLess 9 (.getfield 233) 3 12 := ⟨by decide +kernel, rfl⟩
theorem dX9_isLess_12 : AtJ iX9_isLess 12 (.if_icmp .gt 45) 45 15 57 := ⟨by decide +kernel, rfl, by decide⟩
theorem dX9_isLess_15 : AtI iX9_isLess 15 (.aload_n 0) 1 16 := ⟨by decide +kernel, rfl⟩
theorem dX9_isLess_16 : AtI iX9_isLess 16 (.getfield 46) 3 19 := ⟨by decide +kernel, rfl⟩
theorem dX9_isLess_19 : AtI iX9_isLess 19 (.iload_n 2) 1 20 := ⟨by decide +kernel, rfl⟩
theorem dX9_isLess_20 : AtI iX9_isLess 20 .iaload 1 21 := ⟨by decide +kernel, rfl⟩
theorem dX9_isLess_21 : AtI iX9_isLess 21 (.aload_n 0) 1 22 := ⟨by decide +kernel, rfl⟩
theorem dX9_isLess_22 : AtI iX9_isLess 22 (.getfield 55) 3 25 := ⟨by decide +kernel, rfl⟩
theorem dX9_isLess_25 : AtI iX9_isLess 25 (.iload_n 2) 1 26 := ⟨by decide +kernel, rfl⟩
theorem dX9_isLess_26 : AtI iX9_isLess 26 .iaload 1 27 := ⟨by decide +kernel, rfl⟩
theorem dX9_isLess_27 : AtJ iX9_isLess 27 (.if_icmp .eq 24) 24 30 51 := ⟨by decide +kernel, rfl, by decide⟩
theorem dX9_isLess_30 : AtI iX9_isLess 30 (.aload_n 0) 1 31 := ⟨by decide +kernel, rfl⟩
theorem dX9_isLess_31 : AtI iX9_isLess 31 (.getfield 46) 3 34 := ⟨by decide +kernel, rfl⟩
theorem dX9_isLess_34 : AtI iX9_isLess 34 (.iload_n 2) 1 35 := ⟨by decide +kernel, rfl⟩
theorem dX9_isLess_35 : AtI iX9_isLess 35 .iaload 1 36 := ⟨by decide +kernel, rfl⟩
theorem dX9_isLess_36 : AtI iX9_isLess 36 (.aload_n 0) 1 37 := ⟨by decide +kernel, rfl⟩
theorem dX9_isLess_37 : AtI iX9_isLess 37 (.getfield 55) 3 40 := ⟨by decide +kernel, rfl⟩
theorem dX9_isLess_40 : AtI iX9_isLess 40 (.iload_n 2) 1 41 := ⟨by decide +kernel, rfl⟩
theorem dX9_isLess_41 : AtI iX9_isLess 41 .iaload 1 42 := ⟨by decide +kernel, rfl⟩
theorem dX9_isLess_42 : AtJ iX9_isLess 42 (.if_icmp .ge 7) 7 45 49 := ⟨by decide +kernel, rfl, by decide⟩
theorem dX9_isLess_45 : AtI iX9_isLess 45 (.iconst 1) 1 46 := ⟨by decide +kernel, rfl⟩
theorem dX9_isLess_46 : AtJ iX9_isLess 46 (.goto 4) 4 49 50 := ⟨by decide +kernel, rfl, by decide⟩
theorem dX9_isLess_49 : AtI iX9_isLess 49 (.iconst 0) 1 50 := ⟨by decide +kernel, rfl⟩
theorem dX9_isLess_50 : AtI iX9_isLess 50 .ireturn 1 51 := ⟨by decide +kernel, rfl⟩
theorem dX9_isLess_51 : AtI iX9_isLess 51 (.iinc 2 1) 3 54 := ⟨by decide +kernel, rfl⟩
theorem dX9_isLess_54 : AtJ iX9_isLess 54 (.goto (-52)) (-52) 57 2 := ⟨by decide +kernel, rfl, by decide⟩
theorem dX9_isLess_57 : AtI iX9_isLess 57 (.iconst 0) 1 58 := ⟨by decide +kernel, rfl⟩
theorem dX9_isLess_58 : AtI iX9_isLess 58 .ireturn 1 59 := ⟨by decide +kernel, rfl⟩
theorem dX9_comes_0 : AtI iX9_comes 0 (.aload_n 0) 1 1 := ⟨by decide +kernel, rfl⟩
theorem dX9_comes_1 : AtI iX9_comes 1 (.getfield 233) 3 4 := ⟨by decide +kernel, rfl⟩
theorem dX9_comes_4 : AtJ iX9_comes 4 (.ifCond .eq 42) 42 7 46 := ⟨by decide +kernel, rfl, by decide⟩
theorem dX9_comes_7 : AtI iX9_comes 7 (.aload_n 0) 1 8 := ⟨by decide +kernel, rfl⟩
theorem dX9_comes_8 : AtI iX9_comes 8 (.getfield 52) 3 11 := ⟨by decide +kernel, rfl⟩
theorem dX9_comes_11 : AtI iX9_comes 11 (.iload_n 1) 1 12 := ⟨by decide +kernel, rfl⟩
theorem dX9_comes_12 : AtI iX9_comes 12 .iaload 1 13 := ⟨by decide +kernel, rfl⟩
theorem dX9_comes_13 : AtI iX9_comes 13 (.aload_n 0) 1 14 := ⟨by decide +kernel, rfl⟩
theorem dX9_comes_14 : AtI iX9_comes 14 (.getfield 236) 3 17 := ⟨by decide +kernel, rfl⟩
theorem dX9_comes_17 : AtJ iX9_comes 17 (.if_icmp .gt 29) 29 20 46 := ⟨by decide +kernel, rfl, by decide⟩
theorem dX9_comes_20 : AtI iX9_comes 20 (.aload_n 0) 1 21 := ⟨by decide +kernel, rfl⟩
theorem dX9_comes_21 : AtI iX9_comes 21 (.getfield 52) 3 24 := ⟨by decide +kernel, rfl⟩
theorem dX9_comes_24 : AtI iX9_comes 24 (.iload_n 1) 1 25 := ⟨by decide +kernel, rfl⟩
theorem dX9_comes_25 : AtI iX9_comes 25 .iaload 1 26 := ⟨by decide +kernel, rfl⟩
theorem dX9_comes_26 : AtI iX9_comes 26 (.aload_n 0) 1 27 := ⟨by decide +kernel, rfl⟩
theorem dX9_comes_27 : AtI iX9_comes 27 (.getfield 236) 3 30 := ⟨by decide +kernel, rfl⟩
theorem dX9_comes_30 : AtJ iX9_comes 30 (.if_icmp .ne 20) 20 33 50 := ⟨by decide +kernel, rfl, by decide⟩
theorem dX9_comes_33 : AtI iX9_comes 33 (.aload_n 0) 1 34 := ⟨by decide +kernel, rfl⟩
theorem dX9_comes_34 : AtI iX9_comes 34 (.getfield 49) 3 37 := ⟨by decide +kernel, rfl⟩
theorem dX9_comes_37 : AtI iX9_comes 37 (.iload_n 1) 1 38 := ⟨by decide +kernel, rfl⟩
theorem dX9_comes_38 : AtI iX9_comes 38 .iaload 1 39 := ⟨by decide +kernel, rfl⟩
theorem dX9_comes_39 : AtI iX9_comes 39 (.aload_n 0) 1 40 := ⟨by decide +kernel, rfl⟩
theorem dX9_comes_40 : AtI iX9_comes 40 (.getfield 239) 3 43 := ⟨by decide +kernel, rfl⟩
theorem dX9_comes_43 : AtJ iX9_comes 43 (.if_icmp .ge 7) 7 46 50 := ⟨by decide +kernel, rfl, by decide⟩
theorem dX9_comes_46 : AtI iX9_comes 46 (.iconst 1) 1 47 := ⟨by decide +kernel, rfl⟩
theorem dX9_comes_47 : AtJ iX9_comes 47 (.goto 4) 4 50 51 := ⟨by decide +kernel, rfl, by decide⟩
theorem dX9_comes_50 : AtI iX9_comes 50 (.iconst 0) 1 51 := ⟨by decide +kernel, rfl⟩
theorem dX9_comes_51 : AtI iX9_comes 51 (.istore_n 2) 1 52 := ⟨by decide +kernel, rfl⟩
theorem dX9_comes_52 : AtI iX9_comes 52 (.iload_n 2) 1 53 := ⟨by decide +kernel, rfl⟩
theorem dX9_comes_53 : AtJ iX9_comes 53 (.ifCond .ne 37) 37 56 90 := ⟨by decide +kernel, rfl, by decide⟩
theorem dX9_comes_56 : AtI iX9_comes 56 (.aload_n 0) 1 57 := ⟨by decide +kernel, rfl⟩
theorem dX9_comes_57 : AtI iX9_comes 57 (.getfield 52) 3 60 := ⟨by decide +kernel, rfl⟩
theorem dX9_comes_60 : AtI iX9_comes 60 (.iload_n 1) 1 61 := ⟨by decide +kernel, rfl⟩
theorem dX9_comes_61 : AtI iX9_comes 61 .iaload 1 62 := ⟨by decide +kernel, rfl⟩
theorem dX9_comes_62 : AtI iX9_comes 62 (.aload_n 0) 1 63 := ⟨by decide +kernel, rfl⟩
theorem dX9_comes_63 : AtI iX9_comes 63 (.getfield 236) 3 66 := ⟨by decide +kernel, rfl⟩
theorem dX9_comes_66 : AtJ iX9_comes 66 (.if_icmp .ne 74) 74 69 140 := ⟨by decide +kernel, rfl, by decide⟩
theorem dX9_comes_69 : AtI iX9_comes 69 (.aload_n 0) 1 70 := ⟨by decide +kernel, rfl⟩
theorem dX9_comes_70 : AtI iX9_comes 70 (.getfield 49) 3 73 := ⟨by decide +kernel, rfl⟩
theorem dX9_comes_73 : AtI iX9_comes 73 (.iload_n 1) 1 74 := ⟨by decide +kernel, rfl⟩
theorem dX9_comes_74 : AtI iX9_comes 74 .iaload 1 75 := ⟨by decide +kernel, rfl⟩
theorem dX9_comes_75 : AtI iX9_comes 75 (.aload_n 0) 1 76 := ⟨by decide +kernel, rfl⟩
theorem dX9_comes_76 : AtI iX9_comes 76 (.getfield 239) 3 79 := ⟨by decide +kernel, rfl⟩
theorem dX9_comes_79 : AtJ iX9_comes 79 (.if_icmp .ne 61) 61 82 140 := ⟨by decide +kernel, rfl, by decide⟩
theorem dX9_comes_82 : AtI iX9_comes 82 (.aload_n 0) 1 83 := ⟨by decide +kernel, rfl⟩
theorem dX9_comes_83 : AtI iX9_comes 83 (.iload_n 1) 1 84 := ⟨by decide +kernel, rfl⟩
theorem dX9_comes_84 : AtI iX9_comes 84 (.invokevirtual 242) 3 87 := ⟨by decide +kernel, rfl⟩
theorem dX9_comes_87 : AtJ iX9_comes 87 (.ifCond .eq 53) 53 90 140 := ⟨by decide +kernel, rfl, by decide⟩
theorem dX9_comes_90 : AtI iX9_comes 90 (.aload_n 0) 1 91 := ⟨by decide +kernel, rfl⟩
theorem dX9_comes_91 : AtI iX9_comes 91 (.iload_n 1) 1 92 := ⟨by decide +kernel, rfl⟩
theorem dX9_comes_92 : AtI iX9_comes 92 (.putfield 233) 3 95 := ⟨by decide +kernel, rfl⟩
theorem dX9_comes_95 : AtI iX9_comes 95 (.aload_n 0) 1 96 := ⟨by decide +kernel, rfl⟩
theorem dX9_comes_96 : AtI iX9_comes 96 (.aload_n 0) 1 97 := ⟨by decide +kernel, rfl⟩
theorem dX9_comes_97 : AtI iX9_comes 97 (.getfield 52) 3 100 := ⟨by decide +kernel, rfl⟩
theorem dX9_comes_100 : AtI iX9_comes 100 (.iload_n 1) 1 101 := ⟨by decide +kernel, rfl⟩
theorem dX9_comes_101 : AtI iX9_comes 101 .iaload 1 102 := ⟨by decide +kernel, rfl⟩
theorem dX9_comes_102 : AtI iX9_comes 102 (.putfield 236) 3 105 := ⟨by decide +kernel, rfl⟩
theorem dX9_comes_105 : AtI iX9_comes 105 (.aload_n 0) 1 106 := ⟨by decide +kernel, rfl⟩
theorem dX9_comes_106 : AtI iX9_comes 106 (.aload_n 0) 1 107 := ⟨by decide +kernel, rfl⟩
theorem dX9_comes_107 : AtI iX9_comes 107 (.getfield 49) 3 110 := ⟨by decide +kernel, rfl⟩
theorem dX9_comes_110 : AtI iX9_comes 110 (.iload_n 1) 1 111 := ⟨by decide +kernel, rfl⟩
theorem dX9_comes_111 : AtI iX9_comes 111 .iaload 1 112 := ⟨by decide +kernel, rfl⟩
theorem dX9_comes_112 : AtI iX9_comes 112 (.putfield 239) 3 115 := ⟨by decide +kernel, rfl⟩
theorem dX9_comes_115 : AtI iX9_comes 115 (.iconst 0) 1 116 := ⟨by decide +kernel, rfl⟩
theorem dX9_comes_116 : AtI iX9_comes 116 (.istore_n 3) 1 117 := ⟨by decide +kernel, rfl⟩
theorem dX9_comes_117 : AtI iX9_comes 117 (.iload_n 3) 1 118 := ⟨by decide +kernel, rfl⟩
theorem dX9_comes_118 : AtI iX9_comes 118 (.iload_n 1) 1 119 := ⟨by decide +kernel, rfl⟩
theorem dX9_comes_119 : AtJ iX9_comes 119 (.if_icmp .gt 21) 21 122 140 := ⟨by decide +kernel, rfl, by decide⟩
theorem dX9_comes_122 : AtI iX9_comes 122 (.aload_n 0) 1 123 := ⟨by decide +kernel, rfl⟩
theorem dX9_comes_123 : AtI iX9_comes 123 (.getfield 55) 3 126 := ⟨by decide +kernel, rfl⟩
theorem dX9_comes_126 : AtI iX9_comes 126 (.iload_n 3) 1 127 := ⟨by decide +kernel, rfl⟩
theorem dX9_comes_127 : AtI iX9_comes 127 (.aload_n 0) 1 128 := ⟨by decide +kernel, rfl⟩
theorem dX9_comes_128 : AtI iX9_comes 128 (.getfield 46) 3 131 := ⟨by decide +kernel, rfl⟩
theorem dX9_comes_131 : AtI iX9_comes 131 (.iload_n 3) 1 132 := ⟨by decide +kernel, rfl⟩
theorem dX9_comes_132 : AtI iX9_comes 132 .iaload 1 133 := ⟨by decide +kernel, rfl⟩
theorem dX9_comes_133 : AtI iX9_comes 133 .iastore 1 134 := ⟨by decide +kernel, rfl⟩
theorem dX9_comes_134 : AtI iX9_comes 134 (.iinc 3 1) 3 137 := ⟨by decide +kernel, rfl⟩
theorem dX9_comes_137 : AtJ iX9_comes 137 (.goto (-20)) (-20) 140 117 := ⟨by decide +kernel, rfl, by decide⟩
theorem dX9_comes_140 : AtI iX9_comes 140 .return_ 1 141 := ⟨by decide +kernel, rfl⟩
theorem dX9_findHome_0 : AtI iX9_findHome 0 (.aload_n 0) 1 1 := ⟨by decide +kernel, rfl⟩
theorem dX9_findHome_1 : AtI iX9_findHome 1 (.iconst 0) 1 2 := ⟨by decide +kernel, rfl⟩
theorem dX9_findHome_2 : AtI iX9_findHome 2 (.putfield 233) 3 5 := ⟨by decide +kernel, rfl⟩
theorem dX9_findHome_5 : AtI iX9_findHome 5 (.aload_n 0) 1 6 := ⟨by decide +kernel, rfl⟩
theorem dX9_findHome_6 : AtI iX9_findHome 6 (.getfield 46) 3 9 := ⟨by decide +kernel, rfl⟩
theorem dX9_findHome_9 : AtI iX9_findHome 9 (.iconst 0) 1 10 := ⟨by decide +kernel, rfl⟩
theorem dX9_findHome_10 : AtI iX9_findHome 10 (.iload_n 1) 1 11 := ⟨by decide +kernel, rfl⟩
theorem dX9_findHome_11 : AtI iX9_findHome 11 .iastore 1 12 := ⟨by decide +kernel, rfl⟩
theorem dX9_findHome_12 : AtI iX9_findHome 12 (.aload_n 0) 1 13 := ⟨by decide +kernel, rfl⟩
theorem dX9_findHome_13 : AtI iX9_findHome 13 (.getfield 49) 3 16 := ⟨by decide +kernel, rfl⟩
theorem dX9_findHome_16 : AtI iX9_findHome 16 (.iconst 0) 1 17 := ⟨by decide +kernel, rfl⟩
theorem dX9_findHome_17 : AtI iX9_findHome 17 (.iconst 0) 1 18 := ⟨by decide +kernel, rfl⟩
theorem dX9_findHome_18 : AtI iX9_findHome 18 .iastore 1 19 := ⟨by decide +kernel, rfl⟩
theorem dX9_findHome_19 : AtI iX9_findHome 19 (.aload_n 0) 1 20 := ⟨by decide +kernel, rfl⟩
theorem dX9_findHome_20 : AtI iX9_findHome 20 (.getfield 52) 3 23 := ⟨by decide +kernel, rfl⟩
theorem dX9_findHome_23 : AtI iX9_findHome 23 (.iconst 0) 1 24 := ⟨by decide +kernel, rfl⟩
theorem dX9_findHome_24 : AtI iX9_findHome 24 (.ldc 245) 2 26 := ⟨by decide +kernel, rfl⟩
theorem dX9_findHome_26 : AtI iX9_findHome 26 .iastore 1 27 := ⟨by decide +kernel, rfl⟩
theorem dX9_findHome_27 : AtI iX9_findHome 27 (.aload_n 0) 1 28 := ⟨by decide +kernel, rfl⟩
theorem dX9_findHome_28 : AtI iX9_findHome 28 (.getfield 43) 3 31 := ⟨by decide +kernel, rfl⟩
theorem dX9_findHome_31 : AtI iX9_findHome 31 (.iconst 0) 1 32 := ⟨by decide +kernel, rfl⟩
theorem dX9_findHome_32 : AtI iX9_findHome 32 (.iconst 0) 1 33 := ⟨by decide +kernel, rfl⟩
theorem dX9_findHome_33 : AtI iX9_findHome 33 .iastore 1 34 := ⟨by decide +kernel, rfl⟩
theorem dX9_findHome_34 : AtI iX9_findHome 34 (.iconst 0) 1 35 := ⟨by decide +kernel, rfl⟩
theorem dX9_findHome_35 : AtI iX9_findHome 35 (.istore 4) 2 37 := ⟨by decide +kernel, rfl⟩
theorem dX9_findHome_37 : AtI iX9_findHome 37 (.iload 4) 2 39 := ⟨by decide +kernel, rfl⟩
theorem dX9_findHome_39 : AtJ iX9_findHome 39 (.ifCond .lt 231) 231 42 270 := ⟨by decide +kernel, rfl, by decide⟩
theorem dX9_findHome_42 : AtI iX9_findHome 42 (.aload_n 0) 1 43 := ⟨by decide +kernel, rfl⟩
theorem dX9_findHome_43 : AtI iX9_findHome 43 (.getfield 43) 3 46 := ⟨by decide +kernel, rfl⟩
theorem dX9_findHome_46 : AtI iX9_findHome 46 (.iload 4) 2 48 := ⟨by decide +kernel, rfl⟩
theorem dX9_findHome_48 : AtI iX9_findHome 48 .iaload 1 49 := ⟨by decide +kernel, rfl⟩
theorem dX9_findHome_49 : AtI iX9_findHome 49 (.istore 5) 2 51 := ⟨by decide +kernel, rfl⟩
theorem dX9_findHome_51 : AtI iX9_findHome 51 (.aload_n 0) 1 52 := ⟨by decide +kernel, rfl⟩
theorem dX9_findHome_52 : AtI iX9_findHome 52 (.getfield 43) 3 55 := ⟨by decide +kernel, rfl⟩
theorem dX9_findHome_55 : AtI iX9_findHome 55 (.iload 4) 2 57 := ⟨by decide +kernel, rfl⟩
theorem dX9_findHome_57 : AtI iX9_findHome 57 .dup2 1 58 := ⟨by decide +kernel, rfl⟩
theorem dX9_findHome_58 : AtI iX9_findHome 58 .iaload 1 59 := ⟨by decide +kernel, rfl⟩
theorem dX9_findHome_59 : AtI iX9_findHome 59 (.iconst 1) 1 60 := ⟨by decide +kernel, rfl⟩
theorem dX9_findHome_60 : AtI iX9_findHome 60 .iadd 1 61 := ⟨by decide +kernel, rfl⟩
theorem dX9_findHome_61 : AtI iX9_findHome 61 .iastore 1 62 := ⟨by decide +kernel, rfl⟩
theorem dX9_findHome_62 : AtI iX9_findHome 62 (.iload 5) 2 64 := ⟨by decide +kernel, rfl⟩
theorem dX9_findHome_64 : AtI iX9_findHome 64 (.aload_n 0) 1 65 := ⟨by decide +kernel, rfl⟩
theorem dX9_findHome_65 : AtI iX9_findHome 65 (.getfield 106) 3 68 := ⟨by decide +kernel, rfl⟩
theorem dX9_findHome_68 : AtJ iX9_findHome 68 (.if_icmp .ge 19) 19 71 87 := ⟨by decide +kernel, rfl, by decide⟩
theorem dX9_findHome_71 : AtI iX9_findHome 71 (.aload_n 0) 1 72 := ⟨by decide +kernel, rfl⟩
theorem dX9_findHome_72 : AtI iX9_findHome 72 (.iload 5) 2 74 := ⟨by decide +kernel, rfl⟩
theorem dX9_findHome_74 : AtI iX9_findHome 74 (.aload_n 0) 1 75 := ⟨by decide +kernel, rfl⟩
theorem dX9_findHome_75 : AtI iX9_findHome 75 (.getfield 46) 3 78 := ⟨by decide +kernel, rfl⟩
theorem dX9_findHome_78 : AtI iX9_findHome 78 (.iload 4) 2 80 := ⟨by decide +kernel, rfl⟩
theorem dX9_findHome_80 : AtI iX9_findHome 80 .iaload 1 81 := ⟨by decide +kernel, rfl⟩
theorem dX9_findHome_81 : AtI iX9_findHome 81 (.invokevirtual 246) 3 84 := ⟨by decide +kernel, rfl⟩
theorem dX9_findHome_84 : AtJ iX9_findHome 84 (.goto 4) 4 87 88 := ⟨by decide +kernel, rfl, by decide⟩
theorem dX9_findHome_87 : AtI iX9_findHome 87 (.iconst (-1)) 1 88 := ⟨by decide +kernel, rfl⟩
theorem dX9_findHome_88 : AtI iX9_findHome 88 (.istore 6) 2 90 := ⟨by decide +kernel, rfl⟩
theorem dX9_findHome_90 : AtI iX9_findHome 90 (.iload 5) 2 92 := ⟨by decide +kernel, rfl⟩
theorem dX9_findHome_92 : AtI iX9_findHome 92 (.aload_n 0) 1 93 := ⟨by decide +kernel, rfl⟩
theorem dX9_findHome_93 : AtI iX9_findHome 93 (.getfield 106) 3 96 := ⟨by decide +kernel, rfl⟩
theorem dX9_findHome_96 : AtJ iX9_findHome 96 (.if_icmp .lt 9) 9 99 105 := ⟨by decide +kernel, rfl, by decide⟩
theorem dX9_findHome_99 : AtI iX9_findHome 99 (.iinc 4 (-1)) 3 102 := ⟨by decide +kernel, rfl⟩
theorem dX9_findHome_102 : AtJ iX9_findHome 102 (.goto 165) 165 105 267 := ⟨by decide +kernel, rfl, by decide⟩
theorem dX9_findHome_105 : AtI iX9_findHome 105 (.iload 6) 2 107 := ⟨by decide +kernel, rfl⟩
theorem dX9_findHome_107 : AtI iX9_findHome 107 (.iconst (-1)) 1 108 := ⟨by decide +kernel, rfl⟩
theorem dX9_findHome_108 : AtJ iX9_findHome 108 (.if_icmp .eq 159) 159 111 267 := ⟨by decide +kernel, rfl, by decide⟩
theorem dX9_findHome_111 : AtI iX9_findHome 111 (.aload_n 0) 1 112 := ⟨by decide +kernel, rfl⟩
theorem dX9_findHome_112 : AtI iX9_findHome 112 (.iload 4) 2 114 := ⟨by decide +kernel, rfl⟩
theorem dX9_findHome_114 : AtI iX9_findHome 114 (.iload 6) 2 116 := ⟨by decide +kernel, rfl⟩
theorem dX9_findHome_116 : AtI iX9_findHome 116 (.invokevirtual 249) 3 119 := ⟨by decide +kernel, rfl⟩
theorem dX9_findHome_119 : AtJ iX9_findHome 119 (.ifCond .ne 148) 148 122 267 := ⟨by decide +kernel, rfl, by decide⟩
theorem dX9_findHome_122 : AtI iX9_findHome 122 (.iinc 4 1) 3 125 := ⟨by decide +kernel, rfl⟩
theorem dX9_findHome_125 : AtI iX9_findHome 125 (.aload_n 0) 1 126 := ⟨by decide +kernel, rfl⟩
theorem dX9_findHome_126 : AtI iX9_findHome 126 (.getfield 46) 3 129 := ⟨by decide +kernel, rfl⟩
theorem dX9_findHome_129 : AtI iX9_findHome 129 (.iload 4) 2 131 := ⟨by decide +kernel, rfl⟩
theorem dX9_findHome_131 : AtI iX9_findHome 131 (.iload 6) 2 133 := ⟨by decide +kernel, rfl⟩
theorem dX9_findHome_133 : AtI iX9_findHome 133 .iastore 1 134 := ⟨by decide +kernel, rfl⟩
theorem dX9_findHome_134 : AtI iX9_findHome 134 (.aload_n 0) 1 135 := ⟨by decide +kernel, rfl⟩
theorem dX9_findHome_135 : AtI iX9_findHome 135 (.getfield 49) 3 138 := ⟨by decide +kernel, rfl⟩
theorem dX9_findHome_138 : AtI iX9_findHome 138 (.iload 4) 2 140 := ⟨by decide +kernel, rfl⟩
theorem dX9_findHome_140 : AtI iX9_findHome 140 (.aload_n 0) 1 141 := ⟨by decide +kernel, rfl⟩
theorem dX9_findHome_141 : AtI iX9_findHome 141 (.getfield 49) 3 144 := ⟨by decide +kernel, rfl⟩
theorem dX9_findHome_144 : AtI iX9_findHome 144 (.iload 4) 2 146 := ⟨by decide +kernel, rfl⟩
theorem dX9_findHome_146 : AtI iX9_findHome 146 (.iconst 1) 1 147 := ⟨by decide +kernel, rfl⟩
theorem dX9_findHome_147 : AtI iX9_findHome 147 .isub 1 148 := ⟨by decide +kernel, rfl⟩
theorem dX9_findHome_148 : AtI iX9_findHome 148 .iaload 1 149 := ⟨by decide +kernel, rfl⟩
theorem dX9_findHome_149 : AtI iX9_findHome 149 (.aload_n 0) 1 150 := ⟨by decide +kernel, rfl⟩
theorem dX9_findHome_150 : AtI iX9_findHome 150 (.getfield 25) 3 153 := ⟨by decide +kernel, rfl⟩
theorem dX9_findHome_153 : AtI iX9_findHome 153 (.iconst 3) 1 154 := ⟨by decide +kernel, rfl⟩
theorem dX9_findHome_154 : AtI iX9_findHome 154 (.iload 5) 2 156 := ⟨by decide +kernel, rfl⟩
theorem dX9_findHome_156 : AtI iX9_findHome 156 .imul 1 157 := ⟨by decide +kernel, rfl⟩
theorem dX9_findHome_157 : AtI iX9_findHome 157 (.iconst 2) 1 158 := ⟨by decide +kernel, rfl⟩
theorem dX9_findHome_158 : AtI iX9_findHome 158 .iadd 1 159 := ⟨by decide +kernel, rfl⟩
theorem dX9_findHome_159 : AtI iX9_findHome 159 .iaload 1 160 := ⟨by decide +kernel, rfl⟩
theorem dX9_findHome_160 : AtI iX9_findHome 160 .iadd 1 161 := ⟨by decide +kernel, rfl⟩
theorem dX9_findHome_161 : AtI iX9_findHome 161 .iastore 1 162 := ⟨by decide +kernel, rfl⟩
theorem dX9_findHome_162 : AtI iX9_findHome 162 (.iload 6) 2 164 := ⟨by decide +kernel, rfl⟩
theorem dX9_findHome_164 : AtI iX9_findHome 164 (.iload_n 2) 1 165 := ⟨by decide +kernel, rfl⟩
theorem dX9_findHome_165 : AtJ iX9_findHome 165 (.if_icmp .eq 25) 25 168 190 := ⟨by decide +kernel, rfl, by decide⟩
theorem dX9_findHome_168 : AtI iX9_findHome 168 (.aload_n 0) 1 169 := ⟨by decide +kernel, rfl⟩
theorem dX9_findHome_169 : AtI iX9_findHome 169 (.iload_n 3) 1 170 := ⟨by decide +kernel, rfl⟩
theorem dX9_findHome_170 : AtI iX9_findHome 170 (.aload_n 0) 1 171 := ⟨by decide +kernel, rfl⟩
theorem dX9_findHome_171 : AtI iX9_findHome 171 (.getfield 49) 3 174 := ⟨by decide +kernel, rfl⟩
theorem dX9_findHome_174 : AtI iX9_findHome 174 (.iload 4) 2 176 := ⟨by decide +kernel, rfl⟩
theorem dX9_findHome_176 : AtI iX9_findHome 176 .iaload 1 177 := ⟨by decide +kernel, rfl⟩
theorem dX9_findHome_177 : AtI iX9_findHome 177 .iadd 1 178 := ⟨by decide +kernel, rfl⟩
theorem dX9_findHome_178 : AtI iX9_findHome 178 (.iload 6) 2 180 := ⟨by decide +kernel, rfl⟩
theorem dX9_findHome_180 : AtI iX9_findHome 180 (.invokevirtual 169) 3 183 := ⟨by decide +kernel, rfl⟩
theorem dX9_findHome_183 : AtJ iX9_findHome 183 (.ifCond .eq 7) 7 186 190 := ⟨by decide +kernel, rfl, by decide⟩
theorem dX9_findHome_186 : AtI iX9_findHome 186 (.iconst 1) 1 187 := ⟨by decide +kernel, rfl⟩
theorem dX9_findHome_187 : AtJ iX9_findHome 187 (.goto 4) 4 190 191 := ⟨by decide +kernel, rfl, by decide⟩
theorem dX9_findHome_190 : AtI iX9_findHome 190 (.iconst 0) 1 191 := ⟨by decide +kernel, rfl⟩
theorem dX9_findHome_191 : AtI iX9_findHome 191 (.istore 7) 2 193 := ⟨by decide +kernel, rfl⟩
theorem dX9_findHome_193 : AtI iX9_findHome 193 (.aload_n 0) 1 194 := ⟨by decide +kernel, rfl⟩
theorem dX9_findHome_194 : AtI iX9_findHome 194 (.getfield 52) 3 197 := ⟨by decide +kernel, rfl⟩
theorem dX9_findHome_197 : AtI iX9_findHome 197 (.iload 4) 2 199 := ⟨by decide +kernel, rfl⟩
theorem dX9_findHome_199 : AtI iX9_findHome 199 (.iload 7) 2 201 := ⟨by decide +kernel, rfl⟩
theorem dX9_findHome_201 : AtJ iX9_findHome 201 (.ifCond .eq 33) 33 204 234 := ⟨by decide +kernel, rfl, by decide⟩
theorem dX9_findHome_204 : AtI iX9_findHome 204 (.aload_n 0) 1 205 := ⟨by decide +kernel, rfl⟩
theorem dX9_findHome_205 : AtI iX9_findHome 205 (.getfield 52) 3 208 := ⟨by decide +kernel, rfl⟩
theorem dX9_findHome_208 : AtI iX9_findHome 208 (.iload 4) 2 210 := ⟨by decide +kernel, rfl⟩
theorem dX9_findHome_210 : AtI iX9_findHome 210 (.iconst 1) 1 211 := ⟨by decide +kernel, rfl⟩
theorem dX9_findHome_211 : AtI iX9_findHome 211 .isub 1 212 := ⟨by decide +kernel, rfl⟩
theorem dX9_findHome_212 : AtI iX9_findHome 212 .iaload 1 213 := ⟨by decide +kernel, rfl⟩
theorem dX9_findHome_213 : AtI iX9_findHome 213 (.bipush 16) 2 215 := ⟨by decide +kernel, rfl⟩
theorem dX9_findHome_215 : AtI iX9_findHome 215 .idiv 1 216 := ⟨by decide +kernel, rfl⟩
theorem dX9_findHome_216 : AtI iX9_findHome 216 (.bipush 16) 2 218 := ⟨by decide +kernel, rfl⟩
theorem dX9_findHome_218 : AtI iX9_findHome 218 (.aload_n 0) 1 219 := ⟨by decide +kernel, rfl⟩
theorem dX9_findHome_219 : AtI iX9_findHome 219 (.getfield 28) 3 222 := ⟨by decide +kernel, rfl⟩
theorem dX9_findHome_222 : AtI iX9_findHome 222 (.iconst 3) 1 223 := ⟨by decide +kernel, rfl⟩
theorem dX9_findHome_223 : AtI iX9_findHome 223 (.iload 6) 2 225 := ⟨by decide +kernel, rfl⟩
theorem dX9_findHome_225 : AtI iX9_findHome 225 .imul 1 226 := ⟨by decide +kernel, rfl⟩
theorem dX9_findHome_226 : AtI iX9_findHome 226 (.iconst 2) 1 227 := ⟨by decide +kernel, rfl⟩
theorem dX9_findHome_227 : AtI iX9_findHome 227 .iadd 1 228 := ⟨by decide +kernel, rfl⟩
theorem dX9_findHome_228 : AtI iX9_findHome 228 .iaload 1 229 := ⟨by decide +kernel, rfl⟩
theorem dX9_findHome_229 : AtI iX9_findHome 229 .isub 1 230 := ⟨by decide +kernel, rfl⟩
theorem dX9_findHome_230 : AtI iX9_findHome 230 .imul 1 231 := ⟨by decide +kernel, rfl⟩
theorem dX9_findHome_231 : AtJ iX9_findHome 231 (.goto 12) 12 234 243 := ⟨by decide +kernel, rfl, by decide⟩
theorem dX9_findHome_234 : AtI iX9_findHome 234 (.aload_n 0) 1 235 := ⟨by decide +kernel, rfl⟩
theorem dX9_findHome_235 : AtI iX9_findHome 235 (.getfield 52) 3 238 := ⟨by decide +kernel, rfl⟩
theorem dX9_findHome_238 : AtI iX9_findHome 238 (.iload 4) 2 240 := ⟨by decide +kernel, rfl⟩
theorem dX9_findHome_240 : AtI iX9_findHome 240 (.iconst 1) 1 241 := ⟨by decide +kernel, rfl⟩
theorem dX9_findHome_241 : AtI iX9_findHome 241 .isub 1 242 := ⟨by decide +kernel, rfl⟩
theorem dX9_findHome_242 : AtI iX9_findHome 242 .iaload 1 243 := ⟨by decide +kernel, rfl⟩
theorem dX9_findHome_243 : AtI iX9_findHome 243 .iastore 1 244 := ⟨by decide +kernel, rfl⟩
theorem dX9_findHome_244 : AtI iX9_findHome 244 (.aload_n 0) 1 245 := ⟨by decide +kernel, rfl⟩
theorem dX9_findHome_245 : AtI iX9_findHome 245 (.getfield 43) 3 248 := ⟨by decide +kernel, rfl⟩
theorem dX9_findHome_248 : AtI iX9_findHome 248 (.iload 4) 2 250 := ⟨by decide +kernel, rfl⟩
theorem dX9_findHome_250 : AtI iX9_findHome 250 (.iconst 0) 1 251 := ⟨by decide +kernel, rfl⟩
theorem dX9_findHome_251 : AtI iX9_findHome 251 .iastore 1 252 := ⟨by decide +kernel, rfl⟩
theorem dX9_findHome_252 : AtI iX9_findHome 252 (.iload 6) 2 254 := ⟨by decide +kernel, rfl⟩
theorem dX9_findHome_254 : AtI iX9_findHome 254 (.iload_n 2) 1 255 := ⟨by decide +kernel, rfl⟩
theorem dX9_findHome_255 : AtJ iX9_findHome 255 (.if_icmp .ne 12) 12 258 267 := ⟨by decide +kernel, rfl, by decide⟩
theorem dX9_findHome_258 : AtI iX9_findHome 258 (.aload_n 0) 1 259 := ⟨by decide +kernel, rfl⟩
theorem dX9_findHome_259 : AtI iX9_findHome 259 (.iload 4) 2 261 := ⟨by decide +kernel, rfl⟩
theorem dX9_findHome_261 : AtI iX9_findHome 261 (.invokevirtual 252) 3 264 := ⟨by decide +kernel, rfl⟩
theorem dX9_findHome_264 : AtI iX9_findHome 264 (.iinc 4 (-1)) 3 267 := ⟨by decide +kernel, rfl⟩
theorem dX9_findHome_267 : AtJ iX9_findHome 267 (.goto (-230)) (-230) 270 37 := ⟨by decide +kernel, rfl, by decide⟩
theorem dX9_findHome_270 : AtI iX9_findHome 270 .return_ 1 271 := ⟨by decide +kernel, rfl⟩
theorem dX9_tellsHome_0 : AtI iX9_tellsHome 0 (.aload_n 0) 1 1 := ⟨by decide +kernel, rfl⟩
theorem dX9_tellsHome_1 : AtI iX9_tellsHome 1 (.getfield 233) 3 4 := ⟨by decide +kernel, rfl⟩
theorem dX9_tellsHome_4 : AtJ iX9_tellsHome 4 (.ifCond .ne 7) 7 7 11 := ⟨by decide +kernel, rfl, by decide⟩
theorem dX9_tellsHome_7 : AtI iX9_tellsHome 7 (.iconst 0) 1 8 := ⟨by decide +kernel, rfl⟩
theorem dX9_tellsHome_8 : AtJ iX9_tellsHome 8 (.goto 7) 7 11 15 := ⟨by decide +kernel, rfl, by decide⟩
theorem dX9_tellsHome_11 : AtI iX9_tellsHome 11 (.aload_n 0) 1 12 := ⟨by decide +kernel, rfl⟩
theorem dX9_tellsHome_12 : AtI iX9_tellsHome 12 (.getfield 236) 3 15 := ⟨by decide +kernel, rfl⟩
theorem dX9_tellsHome_15 : AtI iX9_tellsHome 15 (.istore_n 2) 1 16 := ⟨by decide +kernel, rfl⟩
theorem dX9_tellsHome_16 : AtI iX9_tellsHome 16 (.iload_n 2) 1 17 := ⟨by decide +kernel, rfl⟩
theorem dX9_tellsHome_17 : AtI iX9_tellsHome 17 (.ldc 245) 2 19 := ⟨by decide +kernel, rfl⟩
theorem dX9_tellsHome_19 : AtI iX9_tellsHome 19 (.invokestatic 255) 3 22 := ⟨by decide +kernel, rfl⟩
theorem dX9_tellsHome_22 : AtI iX9_tellsHome 22 (.istore_n 3) 1 23 := ⟨by decide +kernel, rfl⟩
theorem dX9_tellsHome_23 : AtI iX9_tellsHome 23 (.iload_n 1) 1 24 := ⟨by decide +kernel, rfl⟩
theorem dX9_tellsHome_24 : AtI iX9_tellsHome 24 (.bipush (-4)) 2 26 := ⟨by decide +kernel, rfl⟩
theorem dX9_tellsHome_26 : AtJ iX9_tellsHome 26 (.if_icmp .ne 9) 9 29 35 := ⟨by decide +kernel, rfl, by decide⟩
theorem dX9_tellsHome_29 : AtI iX9_tellsHome 29 (.iload_n 2) 1 30 := ⟨by decide +kernel, rfl⟩
theorem dX9_tellsHome_30 : AtI iX9_tellsHome 30 (.iload_n 3) 1 31 := ⟨by decide +kernel, rfl⟩
theorem dX9_tellsHome_31 : AtI iX9_tellsHome 31 .idiv 1 32 := ⟨by decide +kernel, rfl⟩
theorem dX9_tellsHome_32 : AtJ iX9_tellsHome 32 (.goto 58) 58 35 90 := ⟨by decide +kernel, rfl, by decide⟩
theorem dX9_tellsHome_35 : AtI iX9_tellsHome 35 (.iload_n 1) 1 36 := ⟨by decide +kernel, rfl⟩
theorem dX9_tellsHome_36 : AtI iX9_tellsHome 36 (.bipush (-3)) 2 38 := ⟨by decide +kernel, rfl⟩
theorem dX9_tellsHome_38 : AtJ iX9_tellsHome 38 (.if_icmp .ne 10) 10 41 48 := ⟨by decide +kernel, rfl, by decide⟩
theorem dX9_tellsHome_41 : AtI iX9_tellsHome 41 (.ldc 245) 2 43 := ⟨by decide +kernel, rfl⟩
theorem dX9_tellsHome_43 : AtI iX9_tellsHome 43 (.iload_n 3) 1 44 := ⟨by decide +kernel, rfl⟩
theorem dX9_tellsHome_44 : AtI iX9_tellsHome 44 .idiv 1 45 := ⟨by decide +kernel, rfl⟩
theorem dX9_tellsHome_45 : AtJ iX9_tellsHome 45 (.goto 45) 45 48 90 := ⟨by decide +kernel, rfl, by decide⟩
theorem dX9_tellsHome_48 : AtI iX9_tellsHome 48 (.aload_n 0) 1 49 := ⟨by decide +kernel, rfl⟩
theorem dX9_tellsHome_49 : AtI iX9_tellsHome 49 (.getfield 233) 3 52 := ⟨by decide +kernel, rfl⟩
theorem dX9_tellsHome_52 : AtJ iX9_tellsHome 52 (.ifCond .ne 7) 7 55 59 := ⟨by decide +kernel, rfl, by decide⟩
theorem dX9_tellsHome_55 : AtI iX9_tellsHome 55 (.iconst (-1)) 1 56 := ⟨by decide +kernel, rfl⟩
theorem dX9_tellsHome_56 : AtJ iX9_tellsHome 56 (.goto 34) 34 59 90 := ⟨by decide +kernel, rfl, by decide⟩
theorem dX9_tellsHome_59 : AtI iX9_tellsHome 59 (.iload_n 1) 1 60 := ⟨by decide +kernel, rfl⟩
theorem dX9_tellsHome_60 : AtI iX9_tellsHome 60 (.bipush (-2)) 2 62 := ⟨by decide +kernel, rfl⟩
theorem dX9_tellsHome_62 : AtJ iX9_tellsHome 62 (.if_icmp .ne 10) 10 65 72 := ⟨by decide +kernel, rfl, by decide⟩
theorem dX9_tellsHome_65 : AtI iX9_tellsHome 65 (.aload_n 0) 1 66 := ⟨by decide +kernel, rfl⟩
theorem dX9_tellsHome_66 : AtI iX9_tellsHome 66 (.getfield 239) 3 69 := ⟨by decide +kernel, rfl⟩
theorem dX9_tellsHome_69 : AtJ iX9_tellsHome 69 (.goto 21) 21 72 90 := ⟨by decide +kernel, rfl, by decide⟩
theorem dX9_tellsHome_72 : AtI iX9_tellsHome 72 (.iload_n 1) 1 73 := ⟨by decide +kernel, rfl⟩
theorem dX9_tellsHome_73 : AtI iX9_tellsHome 73 (.aload_n 0) 1 74 := ⟨by decide +kernel, rfl⟩
theorem dX9_tellsHome_74 : AtI iX9_tellsHome 74 (.getfield 233) 3 77 := ⟨by decide +kernel, rfl⟩
theorem dX9_tellsHome_77 : AtJ iX9_tellsHome 77 (.if_icmp .gt 12) 12 80 89 := ⟨by decide +kernel, rfl, by decide⟩
theorem dX9_tellsHome_80 : AtI iX9_tellsHome 80 (.aload_n 0) 1 81 := ⟨by decide +kernel, rfl⟩
theorem dX9_tellsHome_81 : AtI iX9_tellsHome 81 (.getfield 55) 3 84 := ⟨by decide +kernel, rfl⟩
theorem dX9_tellsHome_84 : AtI iX9_tellsHome 84 (.iload_n 1) 1 85 := ⟨by decide +kernel, rfl⟩
theorem dX9_tellsHome_85 : AtI iX9_tellsHome 85 .iaload 1 86 := ⟨by decide +kernel, rfl⟩
theorem dX9_tellsHome_86 : AtJ iX9_tellsHome 86 (.goto 4) 4 89 90 := ⟨by decide +kernel, rfl, by decide⟩
theorem dX9_tellsHome_89 : AtI iX9_tellsHome 89 (.iconst (-1)) 1 90 := ⟨by decide +kernel, rfl⟩
theorem dX9_tellsHome_90 : AtI iX9_tellsHome 90 .ireturn 1 91 := ⟨by decide +kernel, rfl⟩
theorem dX9_home_0 : AtI iX9_home 0 (.aload_n 0) 1 1 := ⟨by decide +kernel, rfl⟩
theorem dX9_home_1 : AtI iX9_home 1 (.invokevirtual 119) 3 4 := ⟨by decide +kernel, rfl⟩
theorem dX9_home_4 : AtI iX9_home 4 .pop 1 5 := ⟨by decide +kernel, rfl⟩
theorem dX9_home_5 : AtI iX9_home 5 (.iload_n 1) 1 6 := ⟨by decide +kernel, rfl⟩
theorem dX9_home_6 : AtI iX9_home 6 (.iload_n 2) 1 7 := ⟨by decide +kernel, rfl⟩
theorem dX9_home_7 : AtI iX9_home 7 (.invokestatic 198) 3 10 := ⟨by decide +kernel, rfl⟩
theorem dX9_home_10 : AtJ iX9_home 10 (.ifCond .eq 31) 31 13 41 := ⟨by decide +kernel, rfl, by decide⟩
theorem dX9_home_13 : AtI iX9_home 13 (.iload_n 3) 1 14 := ⟨by decide +kernel, rfl⟩
theorem dX9_home_14 : AtI iX9_home 14 (.invokestatic 166) 3 17 := ⟨by decide +kernel, rfl⟩
theorem dX9_home_17 : AtJ iX9_home 17 (.ifCond .eq 24) 24 20 41 := ⟨by decide +kernel, rfl, by decide⟩
theorem dX9_home_20 : AtI iX9_home 20 (.iload 4) 2 22 := ⟨by decide +kernel, rfl⟩
theorem dX9_home_22 : AtI iX9_home 22 .i2l 1 23 := ⟨by decide +kernel, rfl⟩
theorem dX9_home_23 : AtI iX9_home 23 (.ldc2_w 258) 3 26 := ⟨by decide +kernel, rfl⟩
theorem dX9_home_26 : AtI iX9_home 26 (.ldc2_w 123) 3 29 := ⟨by decide +kernel, rfl⟩
theorem dX9_home_29 : AtI iX9_home 29 (.invokestatic 65) 3 32 := ⟨by decide +kernel, rfl⟩
theorem dX9_home_32 : AtJ iX9_home 32 (.ifCond .eq 9) 9 35 41 := ⟨by decide +kernel, rfl, by decide⟩
theorem dX9_home_35 : AtI iX9_home 35 (.iload 4) 2 37 := ⟨by decide +kernel, rfl⟩
theorem dX9_home_37 : AtI iX9_home 37 (.iconst (-1)) 1 38 := ⟨by decide +kernel, rfl⟩
theorem dX9_home_38 : AtJ iX9_home 38 (.if_icmp .ne 6) 6 41 44 := ⟨by decide +kernel, rfl, by decide⟩
theorem dX9_home_41 : AtI iX9_home 41 (.bipush (-2)) 2 43 := ⟨by decide +kernel, rfl⟩
theorem dX9_home_43 : AtI iX9_home 43 .ireturn 1 44 := ⟨by decide +kernel, rfl⟩
theorem dX9_home_44 : AtI iX9_home 44 (.aload_n 0) 1 45 := ⟨by decide +kernel, rfl⟩
theorem dX9_home_45 : AtI iX9_home 45 (.iload_n 1) 1 46 := ⟨by decide +kernel, rfl⟩
theorem dX9_home_46 : AtI iX9_home 46 (.iload_n 2) 1 47 := ⟨by decide +kernel, rfl⟩
theorem dX9_home_47 : AtI iX9_home 47 (.iload_n 3) 1 48 := ⟨by decide +kernel, rfl⟩
theorem dX9_home_48 : AtI iX9_home 48 (.invokevirtual 260) 3 51 := ⟨by decide +kernel, rfl⟩
theorem dX9_home_51 : AtI iX9_home 51 (.aload_n 0) 1 52 := ⟨by decide +kernel, rfl⟩
theorem dX9_home_52 : AtI iX9_home 52 (.iload 4) 2 54 := ⟨by decide +kernel, rfl⟩
theorem dX9_home_54 : AtI iX9_home 54 (.invokevirtual 264) 3 57 := ⟨by decide +kernel, rfl⟩
theorem dX9_home_57 : AtI iX9_home 57 .ireturn 1 58 := ⟨by decide +kernel, rfl⟩
theorem dX9_pairOf_0 : AtI iX9_pairOf 0 (.bipush 24) 2 2 := ⟨by decide +kernel, rfl⟩
theorem dX9_pairOf_2 : AtI iX9_pairOf 2 (.aload_n 0) 1 3 := ⟨by decide +kernel, rfl⟩
theorem dX9_pairOf_3 : AtI iX9_pairOf 3 (.getfield 31) 3 6 := ⟨by decide +kernel, rfl⟩
theorem dX9_pairOf_6 : AtI iX9_pairOf 6 (.iconst 2) 1 7 := ⟨by decide +kernel, rfl⟩
theorem dX9_pairOf_7 : AtI iX9_pairOf 7 (.iload_n 1) 1 8 := ⟨by decide +kernel, rfl⟩
theorem dX9_pairOf_8 : AtI iX9_pairOf 8 .imul 1 9 := ⟨by decide +kernel, rfl⟩
theorem dX9_pairOf_9 : AtI iX9_pairOf 9 .iaload 1 10 := ⟨by decide +kernel, rfl⟩
theorem dX9_pairOf_10 : AtI iX9_pairOf 10 .imul 1 11 := ⟨by decide +kernel, rfl⟩
theorem dX9_pairOf_11 : AtI iX9_pairOf 11 (.aload_n 0) 1 12 := ⟨by decide +kernel, rfl⟩
theorem dX9_pairOf_12 : AtI iX9_pairOf 12 (.getfield 31) 3 15 := ⟨by decide +kernel, rfl⟩
theorem dX9_pairOf_15 : AtI iX9_pairOf 15 (.iconst 2) 1 16 := ⟨by decide +kernel, rfl⟩
theorem dX9_pairOf_16 : AtI iX9_pairOf 16 (.iload_n 1) 1 17 := ⟨by decide +kernel, rfl⟩
theorem dX9_pairOf_17 : AtI iX9_pairOf 17 .imul 1 18 := ⟨by decide +kernel, rfl⟩
theorem dX9_pairOf_18 : AtI iX9_pairOf 18 (.iconst 1) 1 19 := ⟨by decide +kernel, rfl⟩
theorem dX9_pairOf_19 : AtI iX9_pairOf 19 .iadd 1 20 := ⟨by decide +kernel, rfl⟩
theorem dX9_pairOf_20 : AtI iX9_pairOf 20 .iaload 1 21 := ⟨by decide +kernel, rfl⟩
theorem dX9_pairOf_21 : AtI iX9_pairOf 21 .iadd 1 22 := ⟨by decide +kernel, rfl⟩
theorem dX9_pairOf_22 : AtI iX9_pairOf 22 .ireturn 1 23 := ⟨by decide +kernel, rfl⟩
theorem dX9_agreeOf_0 : AtI iX9_agreeOf 0 (.iconst 0) 1 1 := ⟨by decide +kernel, rfl⟩
theorem dX9_agreeOf_1 : AtI iX9_agreeOf 1 (.istore_n 2) 1 2 := ⟨by decide +kernel, rfl⟩
theorem dX9_agreeOf_2 : AtI iX9_agreeOf 2 (.iconst 0) 1 3 := ⟨by decide +kernel, rfl⟩
theorem dX9_agreeOf_3 : AtI iX9_agreeOf 3 (.istore_n 3) 1 4 := ⟨by decide +kernel, rfl⟩
theorem dX9_agreeOf_4 : AtI iX9_agreeOf 4 (.iconst 0) 1 5 := ⟨by decide +kernel, rfl⟩
theorem dX9_agreeOf_5 : AtI iX9_agreeOf 5 (.istore 4) 2 7 := ⟨by decide +kernel, rfl⟩
theorem dX9_agreeOf_7 : AtI iX9_agreeOf 7 (.iload 4) 2 9 := ⟨by decide +kernel, rfl⟩
theorem dX9_agreeOf_9 : AtI iX9_agreeOf 9 (.iconst 4) 1 10 := ⟨by decide +kernel, rfl⟩
theorem dX9_agreeOf_10 : AtJ iX9_agreeOf 10 (.if_icmp .ge 109) 109 13 119 := ⟨by decide +kernel, rfl, by decide⟩
theorem dX9_agreeOf_13 : AtI iX9_agreeOf 13 (.iconst 0) 1 14 := ⟨by decide +kernel, rfl⟩
theorem dX9_agreeOf_14 : AtI iX9_agreeOf 14 (.istore 5) 2 16 := ⟨by decide +kernel, rfl⟩
theorem dX9_agreeOf_16 : AtI iX9_agreeOf 16 (.iconst 0) 1 17 := ⟨by decide +kernel, rfl⟩
theorem dX9_agreeOf_17 : AtI iX9_agreeOf 17 (.istore 6) 2 19 := ⟨by decide +kernel, rfl⟩
theorem dX9_agreeOf_19 : AtI iX9_agreeOf 19 (.iload 6) 2 21 := ⟨by decide +kernel, rfl⟩
theorem dX9_agreeOf_21 : AtI iX9_agreeOf 21 (.iconst 4) 1 22 := ⟨by decide +kernel, rfl⟩
theorem dX9_agreeOf_22 : AtJ iX9_agreeOf 22 (.if_icmp .ge 34) 34 25 56 := ⟨by decide +kernel, rfl, by decide⟩
theorem dX9_agreeOf_25 : AtI iX9_agreeOf 25 (.iload 5) 2 27 := ⟨by decide +kernel, rfl⟩
theorem dX9_agreeOf_27 : AtI iX9_agreeOf 27 (.aload_n 0) 1 28 := ⟨by decide +kernel, rfl⟩
theorem dX9_agreeOf_28 : AtI iX9_agreeOf 28 (.iload 6) 2 30 := ⟨by decide +kernel, rfl⟩
theorem dX9_agreeOf_30 : AtI iX9_agreeOf 30 (.invokevirtual 267) 3 33 := ⟨by decide +kernel, rfl⟩
theorem dX9_agreeOf_33 : AtI iX9_agreeOf 33 (.aload_n 0) 1 34 := ⟨by decide +kernel, rfl⟩
theorem dX9_agreeOf_34 : AtI iX9_agreeOf 34 (.iload 4) 2 36 := ⟨by decide +kernel, rfl⟩
theorem dX9_agreeOf_36 : AtI iX9_agreeOf 36 (.invokevirtual 267) 3 39 := ⟨by decide +kernel, rfl⟩
theorem dX9_agreeOf_39 : AtJ iX9_agreeOf 39 (.if_icmp .ne 7) 7 42 46 := ⟨by decide +kernel, rfl, by decide⟩
theorem dX9_agreeOf_42 : AtI iX9_agreeOf 42 (.iconst 1) 1 43 := ⟨by decide +kernel, rfl⟩
theorem dX9_agreeOf_43 : AtJ iX9_agreeOf 43 (.goto 4) 4 46 47 := ⟨by decide +kernel, rfl, by decide⟩
theorem dX9_agreeOf_46 : AtI iX9_agreeOf 46 (.iconst 0) 1 47 := ⟨by decide +kernel, rfl⟩
theorem dX9_agreeOf_47 : AtI iX9_agreeOf 47 .iadd 1 48 := ⟨by decide +kernel, rfl⟩
theorem dX9_agreeOf_48 : AtI iX9_agreeOf 48 (.istore 5) 2 50 := ⟨by decide +kernel, rfl⟩
theorem dX9_agreeOf_50 : AtI iX9_agreeOf 50 (.iinc 6 1) 3 53 := ⟨by decide +kernel, rfl⟩
theorem dX9_agreeOf_53 : AtJ iX9_agreeOf 53 (.goto (-34)) (-34) 56 19 := ⟨by decide +kernel, rfl, by decide⟩
theorem dX9_agreeOf_56 : AtI iX9_agreeOf 56 (.iload 5) 2 58 := ⟨by decide +kernel, rfl⟩
theorem dX9_agreeOf_58 : AtI iX9_agreeOf 58 (.iload_n 2) 1 59 := ⟨by decide +kernel, rfl⟩
theorem dX9_agreeOf_59 : AtJ iX9_agreeOf 59 (.if_icmp .gt 19) 19 62 78 := ⟨by decide +kernel, rfl, by decide⟩
theorem dX9_agreeOf_62 : AtI iX9_agreeOf 62 (.iload 5) 2 64 := ⟨by decide +kernel, rfl⟩
theorem dX9_agreeOf_64 : AtI iX9_agreeOf 64 (.iload_n 2) 1 65 := ⟨by decide +kernel, rfl⟩
theorem dX9_agreeOf_65 : AtJ iX9_agreeOf 65 (.if_icmp .ne 17) 17 68 82 := ⟨by decide +kernel, rfl, by decide⟩
theorem dX9_agreeOf_68 : AtI iX9_agreeOf 68 (.aload_n 0) 1 69 := ⟨by decide +kernel, rfl⟩
theorem dX9_agreeOf_69 : AtI iX9_agreeOf 69 (.iload 4) 2 71 := ⟨by decide +kernel, rfl⟩
theorem dX9_agreeOf_71 : AtI iX9_agreeOf 71 (.invokevirtual 267) 3 74 := ⟨by decide +kernel, rfl⟩
theorem dX9_agreeOf_74 : AtI iX9_agreeOf 74 (.iload_n 3) 1 75 := ⟨by decide +kernel, rfl⟩
theorem dX9_agreeOf_75 : AtJ iX9_agreeOf 75 (.if_icmp .ge 7) 7 78 82 := ⟨by decide +kernel, rfl, by decide⟩
theorem dX9_agreeOf_78 : AtI iX9_agreeOf 78 (.iconst 1) 1 79 := ⟨by decide +kernel, rfl⟩
theorem dX9_agreeOf_79 : AtJ iX9_agreeOf 79 (.goto 4) 4 82 83 := ⟨by decide +kernel, rfl, by decide⟩
theorem dX9_agreeOf_82 : AtI iX9_agreeOf 82 (.iconst 0) 1 83 := ⟨by decide +kernel, rfl⟩
theorem dX9_agreeOf_83 : AtI iX9_agreeOf 83 (.istore 6) 2 85 := ⟨by decide +kernel, rfl⟩
theorem dX9_agreeOf_85 : AtI iX9_agreeOf 85 (.iload 6) 2 87 := ⟨by decide +kernel, rfl⟩
theorem dX9_agreeOf_87 : AtJ iX9_agreeOf 87 (.ifCond .eq 12) 12 90 99 := ⟨by decide +kernel, rfl, by decide⟩
theorem dX9_agreeOf_90 : AtI iX9_agreeOf 90 (.aload_n 0) 1 91 := ⟨by decide +kernel, rfl⟩
theorem dX9_agreeOf_91 : AtI iX9_agreeOf 91 (.iload 4) 2 93 := ⟨by decide +kernel, rfl⟩
theorem dX9_agreeOf_93 : AtI iX9_agreeOf 93 (.invokevirtual 267) 3 96 := ⟨by decide +kernel, rfl⟩
theorem dX9_agreeOf_96 : AtJ iX9_agreeOf 96 (.goto 4) 4 99 100 := ⟨by decide +kernel, rfl, by decide⟩
theorem dX9_agreeOf_99 : AtI iX9_agreeOf 99 (.iload_n 3) 1 100 := ⟨by decide +kernel, rfl⟩
theorem dX9_agreeOf_100 : AtI iX9_agreeOf 100 (.istore_n 3) 1 101 := ⟨by decide +kernel, rfl⟩
theorem dX9_agreeOf_101 : AtI iX9_agreeOf 101 (.iload 6) 2 103 := ⟨by decide +kernel, rfl⟩
theorem dX9_agreeOf_103 : AtJ iX9_agreeOf 103 (.ifCond .eq 8) 8 106 111 := ⟨by decide +kernel, rfl, by decide⟩
theorem dX9_agreeOf_106 : AtI iX9_agreeOf 106 (.iload 5) 2 108 := ⟨by decide +kernel, rfl⟩
theorem dX9_agreeOf_108 : AtJ iX9_agreeOf 108 (.goto 4) 4 111 112 := ⟨by decide +kernel, rfl, by decide⟩
theorem dX9_agreeOf_111 : AtI iX9_agreeOf 111 (.iload_n 2) 1 112 := ⟨by decide +kernel, rfl⟩
theorem dX9_agreeOf_112 : AtI iX9_agreeOf 112 (.istore_n 2) 1 113 := ⟨by decide +kernel, rfl⟩
theorem dX9_agreeOf_113 : AtI iX9_agreeOf 113 (.iinc 4 1) 3 116 := ⟨by decide +kernel, rfl⟩
theorem dX9_agreeOf_116 : AtJ iX9_agreeOf 116 (.goto (-109)) (-109) 119 7 := ⟨by decide +kernel, rfl, by decide⟩
theorem dX9_agreeOf_119 : AtI iX9_agreeOf 119 (.iload_n 1) 1 120 := ⟨by decide +kernel, rfl⟩
theorem dX9_agreeOf_120 : AtJ iX9_agreeOf 120 (.ifCond .ne 9) 9 123 129 := ⟨by decide +kernel, rfl, by decide⟩
theorem dX9_agreeOf_123 : AtI iX9_agreeOf 123 (.iconst 4) 1 124 := ⟨by decide +kernel, rfl⟩
theorem dX9_agreeOf_124 : AtI iX9_agreeOf 124 (.iload_n 2) 1 125 := ⟨by decide +kernel, rfl⟩
theorem dX9_agreeOf_125 : AtI iX9_agreeOf 125 .isub 1 126 := ⟨by decide +kernel, rfl⟩
theorem dX9_agreeOf_126 : AtJ iX9_agreeOf 126 (.goto 19) 19 129 145 := ⟨by decide +kernel, rfl, by decide⟩
theorem dX9_agreeOf_129 : AtI iX9_agreeOf 129 (.iload_n 1) 1 130 := ⟨by decide +kernel, rfl⟩
theorem dX9_agreeOf_130 : AtI iX9_agreeOf 130 (.iconst 1) 1 131 := ⟨by decide +kernel, rfl⟩
theorem dX9_agreeOf_131 : AtJ iX9_agreeOf 131 (.if_icmp .ne 10) 10 134 141 := ⟨by decide +kernel, rfl, by decide⟩
theorem dX9_agreeOf_134 : AtI iX9_agreeOf 134 (.iload_n 3) 1 135 := ⟨by decide +kernel, rfl⟩
theorem dX9_agreeOf_135 : AtI iX9_agreeOf 135 (.bipush 24) 2 137 := ⟨by decide +kernel, rfl⟩
theorem dX9_agreeOf_137 : AtI iX9_agreeOf 137 .idiv 1 138 := ⟨by decide +kernel, rfl⟩
theorem dX9_agreeOf_138 : AtJ iX9_agreeOf 138 (.goto 7) 7 141 145 := ⟨by decide +kernel, rfl, by decide⟩
theorem dX9_agreeOf_141 : AtI iX9_agreeOf 141 (.iload_n 3) 1 142 := ⟨by decide +kernel, rfl⟩
theorem dX9_agreeOf_142 : AtI iX9_agreeOf 142 (.bipush 24) 2 144 := ⟨by decide +kernel, rfl⟩
theorem dX9_agreeOf_144 : AtI iX9_agreeOf 144 .irem 1 145 := ⟨by decide +kernel, rfl⟩
theorem dX9_agreeOf_145 : AtI iX9_agreeOf 145 .ireturn 1 146 := ⟨by decide +kernel, rfl⟩
theorem dX9_agree_0 : AtI iX9_agree 0 (.iload_n 1) 1 1 := ⟨by decide +kernel, rfl⟩
theorem dX9_agree_1 : AtI iX9_agree 1 .i2l 1 2 := ⟨by decide +kernel, rfl⟩
theorem dX9_agree_2 : AtI iX9_agree 2 (.lconst 0) 1 3 := ⟨by decide +kernel, rfl⟩
theorem dX9_agree_3 : AtI iX9_agree 3 (.ldc2_w 78) 3 6 := ⟨by decide +kernel, rfl⟩
theorem dX9_agree_6 : AtI iX9_agree 6 (.invokestatic 65) 3 9 := ⟨by decide +kernel, rfl⟩
theorem dX9_agree_9 : AtJ iX9_agree 9 (.ifCond .eq 11) 11 12 20 := ⟨by decide +kernel, rfl, by decide⟩
theorem dX9_agree_12 : AtI iX9_agree 12 (.aload_n 0) 1 13 := ⟨by decide +kernel, rfl⟩
theorem dX9_agree_13 : AtI iX9_agree 13 (.iload_n 1) 1 14 := ⟨by decide +kernel, rfl⟩
theorem dX9_agree_14 : AtI iX9_agree 14 (.invokevirtual 270) 3 17 := ⟨by decide +kernel, rfl⟩
theorem dX9_agree_17 : AtJ iX9_agree 17 (.goto 5) 5 20 22 := ⟨by decide +kernel, rfl, by decide⟩
theorem dX9_agree_20 : AtI iX9_agree 20 (.bipush (-2)) 2 22 := ⟨by decide +kernel, rfl⟩
theorem dX9_agree_22 : AtI iX9_agree 22 .ireturn 1 23 := ⟨by decide +kernel, rfl⟩
theorem dX9_changesBy_0 : AtI iX9_changesBy 0 (.iconst 0) 1 1 := ⟨by decide +kernel, rfl⟩
theorem dX9_changesBy_1 : AtI iX9_changesBy 1 (.istore_n 3) 1 2 := ⟨by decide +kernel, rfl⟩
theorem dX9_changesBy_2 : AtI iX9_changesBy 2 (.iconst 0) 1 3 := ⟨by decide +kernel, rfl⟩
theorem dX9_changesBy_3 : AtI iX9_changesBy 3 (.istore 4) 2 5 := ⟨by decide +kernel, rfl⟩
theorem dX9_changesBy_5 : AtI iX9_changesBy 5 (.iload 4) 2 7 := ⟨by decide +kernel, rfl⟩
theorem dX9_changesBy_7 : AtI iX9_changesBy 7 (.iconst 4) 1 8 := ⟨by decide +kernel, rfl⟩
theorem dX9_changesBy_8 : AtJ iX9_changesBy 8 (.if_icmp .ge 28) 28 11 36 := ⟨by decide +kernel, rfl, by decide⟩
theorem dX9_changesBy_11 : AtI iX9_changesBy 11 (.iload_n 3) 1 12 := ⟨by decide +kernel, rfl⟩
theorem dX9_changesBy_12 : AtI iX9_changesBy 12 (.aload_n 0) 1 13 := ⟨by decide +kernel, rfl⟩
theorem dX9_changesBy_13 : AtI iX9_changesBy 13 (.getfield 31) 3 16 := ⟨by decide +kernel, rfl⟩
theorem dX9_changesBy_16 : AtI iX9_changesBy 16 (.iconst 2) 1 17 := ⟨by decide +kernel, rfl⟩
theorem dX9_changesBy_17 : AtI iX9_changesBy 17 (.iload 4) 2 19 := ⟨by decide +kernel, rfl⟩
theorem dX9_changesBy_19 : AtI iX9_changesBy 19 .imul 1 20 := ⟨by decide +kernel, rfl⟩
theorem dX9_changesBy_20 : AtI iX9_changesBy 20 (.iload_n 1) 1 21 := ⟨by decide +kernel, rfl⟩
theorem dX9_changesBy_21 : AtI iX9_changesBy 21 .iadd 1 22 := ⟨by decide +kernel, rfl⟩
theorem dX9_changesBy_22 : AtI iX9_changesBy 22 .iaload 1 23 := ⟨by decide +kernel, rfl⟩
theorem dX9_changesBy_23 : AtI iX9_changesBy 23 (.iload_n 2) 1 24 := ⟨by decide +kernel, rfl⟩
theorem dX9_changesBy_24 : AtI iX9_changesBy 24 .isub 1 25 := ⟨by decide +kernel, rfl⟩
theorem dX9_changesBy_25 : AtI iX9_changesBy 25 (.invokestatic 273) 3 28 := ⟨by decide +kernel, rfl⟩
theorem dX9_changesBy_28 : AtI iX9_changesBy 28 .iadd 1 29 := ⟨by decide +kernel, rfl⟩
theorem dX9_changesBy_29 : AtI iX9_changesBy 29 (.istore_n 3) 1 30 := ⟨by decide +kernel, rfl⟩
theorem dX9_changesBy_30 : AtI iX9_changesBy 30 (.iinc 4 1) 3 33 := ⟨by decide +kernel, rfl⟩
theorem dX9_changesBy_33 : AtJ iX9_changesBy 33 (.goto (-28)) (-28) 36 5 := ⟨by decide +kernel, rfl, by decide⟩
theorem dX9_changesBy_36 : AtI iX9_changesBy 36 (.iload_n 3) 1 37 := ⟨by decide +kernel, rfl⟩
theorem dX9_changesBy_37 : AtI iX9_changesBy 37 .ireturn 1 38 := ⟨by decide +kernel, rfl⟩
theorem dX9_middleBell_0 : AtI iX9_middleBell 0 (.iconst 0) 1 1 := ⟨by decide +kernel, rfl⟩
theorem dX9_middleBell_1 : AtI iX9_middleBell 1 (.istore_n 2) 1 2 := ⟨by decide +kernel, rfl⟩
theorem dX9_middleBell_2 : AtI iX9_middleBell 2 (.iconst 1) 1 3 := ⟨by decide +kernel, rfl⟩
theorem dX9_middleBell_3 : AtI iX9_middleBell 3 (.istore_n 3) 1 4 := ⟨by decide +kernel, rfl⟩
theorem dX9_middleBell_4 : AtI iX9_middleBell 4 (.iload_n 3) 1 5 := ⟨by decide +kernel, rfl⟩
theorem dX9_middleBell_5 : AtI iX9_middleBell 5 (.bipush 24) 2 7 := ⟨by decide +kernel, rfl⟩
theorem dX9_middleBell_7 : AtJ iX9_middleBell 7 (.if_icmp .ge 30) 30 10 37 := ⟨by decide +kernel, rfl, by decide⟩
theorem dX9_middleBell_10 : AtI iX9_middleBell 10 (.aload_n 0) 1 11 := ⟨by decide +kernel, rfl⟩
theorem dX9_middleBell_11 : AtI iX9_middleBell 11 (.iload_n 1) 1 12 := ⟨by decide +kernel, rfl⟩
theorem dX9_middleBell_12 : AtI iX9_middleBell 12 (.iload_n 3) 1 13 := ⟨by decide +kernel, rfl⟩
theorem dX9_middleBell_13 : AtI iX9_middleBell 13 (.invokevirtual 276) 3 16 := ⟨by decide +kernel, rfl⟩
theorem dX9_middleBell_16 : AtI iX9_middleBell 16 (.aload_n 0) 1 17 := ⟨by decide +kernel, rfl⟩
theorem dX9_middleBell_17 : AtI iX9_middleBell 17 (.iload_n 1) 1 18 := ⟨by decide +kernel, rfl⟩
theorem dX9_middleBell_18 : AtI iX9_middleBell 18 (.iload_n 2) 1 19 := ⟨by decide +kernel, rfl⟩
theorem dX9_middleBell_19 : AtI iX9_middleBell 19 (.invokevirtual 276) 3 22 := ⟨by decide +kernel, rfl⟩
theorem dX9_middleBell_22 : AtJ iX9_middleBell 22 (.if_icmp .ge 7) 7 25 29 := ⟨by decide +kernel, rfl, by decide⟩
theorem dX9_middleBell_25 : AtI iX9_middleBell 25 (.iload_n 3) 1 26 := ⟨by decide +kernel, rfl⟩
theorem dX9_middleBell_26 : AtJ iX9_middleBell 26 (.goto 4) 4 29 30 := ⟨by decide +kernel, rfl, by decide⟩
theorem dX9_middleBell_29 : AtI iX9_middleBell 29 (.iload_n 2) 1 30 := ⟨by decide +kernel, rfl⟩
theorem dX9_middleBell_30 : AtI iX9_middleBell 30 (.istore_n 2) 1 31 := ⟨by decide +kernel, rfl⟩
theorem dX9_middleBell_31 : AtI iX9_middleBell 31 (.iinc 3 1) 3 34 := ⟨by decide +kernel, rfl⟩
theorem dX9_middleBell_34 : AtJ iX9_middleBell 34 (.goto (-30)) (-30) 37 4 := ⟨by decide +kernel, rfl, by decide⟩
theorem dX9_middleBell_37 : AtI iX9_middleBell 37 (.iload_n 2) 1 38 := ⟨by decide +kernel, rfl⟩
theorem dX9_middleBell_38 : AtI iX9_middleBell 38 .ireturn 1 39 := ⟨by decide +kernel, rfl⟩
theorem dX9_middleOf_0 : AtI iX9_middleOf 0 (.aload_n 0) 1 1 := ⟨by decide +kernel, rfl⟩
theorem dX9_middleOf_1 : AtI iX9_middleOf 1 (.iconst 0) 1 2 := ⟨by decide +kernel, rfl⟩
theorem dX9_middleOf_2 : AtI iX9_middleOf 2 (.invokevirtual 279) 3 5 := ⟨by decide +kernel, rfl⟩
theorem dX9_middleOf_5 : AtI iX9_middleOf 5 (.istore_n 2) 1 6 := ⟨by decide +kernel, rfl⟩
theorem dX9_middleOf_6 : AtI iX9_middleOf 6 (.aload_n 0) 1 7 := ⟨by decide +kernel, rfl⟩
theorem dX9_middleOf_7 : AtI iX9_middleOf 7 (.iconst 1) 1 8 := ⟨by decide +kernel, rfl⟩
theorem dX9_middleOf_8 : AtI iX9_middleOf 8 (.invokevirtual 279) 3 11 := ⟨by decide +kernel, rfl⟩
theorem dX9_middleOf_11 : AtI iX9_middleOf 11 (.istore_n 3) 1 12 := ⟨by decide +kernel, rfl⟩
theorem dX9_middleOf_12 : AtI iX9_middleOf 12 (.iload_n 1) 1 13 := ⟨by decide +kernel, rfl⟩
theorem dX9_middleOf_13 : AtJ iX9_middleOf 13 (.ifCond .ne 19) 19 16 32 := ⟨by decide +kernel, rfl, by decide⟩
theorem dX9_middleOf_16 : AtI iX9_middleOf 16 (.aload_n 0) 1 17 := ⟨by decide +kernel, rfl⟩
theorem dX9_middleOf_17 : AtI iX9_middleOf 17 (.iconst 0) 1 18 := ⟨by decide +kernel, rfl⟩
theorem dX9_middleOf_18 : AtI iX9_middleOf 18 (.iload_n 2) 1 19 := ⟨by decide +kernel, rfl⟩
theorem dX9_middleOf_19 : AtI iX9_middleOf 19 (.invokevirtual 276) 3 22 := ⟨by decide +kernel, rfl⟩
theorem dX9_middleOf_22 : AtI iX9_middleOf 22 (.aload_n 0) 1 23 := ⟨by decide +kernel, rfl⟩
theorem dX9_middleOf_23 : AtI iX9_middleOf 23 (.iconst 1) 1 24 := ⟨by decide +kernel, rfl⟩
theorem dX9_middleOf_24 : AtI iX9_middleOf 24 (.iload_n 3) 1 25 := ⟨by decide +kernel, rfl⟩
theorem dX9_middleOf_25 : AtI iX9_middleOf 25 (.invokevirtual 276) 3 28 := ⟨by decide +kernel, rfl⟩
theorem dX9_middleOf_28 : AtI iX9_middleOf 28 .iadd 1 29 := ⟨by decide +kernel, rfl⟩
theorem dX9_middleOf_29 : AtJ iX9_middleOf 29 (.goto 13) 13 32 42 := ⟨by decide +kernel, rfl, by decide⟩
theorem dX9_middleOf_32 : AtI iX9_middleOf 32 (.iload_n 1) 1 33 := ⟨by decide +kernel, rfl⟩
theorem dX9_middleOf_33 : AtI iX9_middleOf 33 (.iconst 1) 1 34 := ⟨by decide +kernel, rfl⟩
theorem dX9_middleOf_34 : AtJ iX9_middleOf 34 (.if_icmp .ne 7) 7 37 41 := ⟨by decide +kernel, rfl, by decide⟩
theorem dX9_middleOf_37 : AtI iX9_middleOf 37 (.iload_n 2) 1 38 := ⟨by decide +kernel, rfl⟩
theorem dX9_middleOf_38 : AtJ iX9_middleOf 38 (.goto 4) 4 41 42 := ⟨by decide +kernel, rfl, by decide⟩
theorem dX9_middleOf_41 : AtI iX9_middleOf 41 (.iload_n 3) 1 42 := ⟨by decide +kernel, rfl⟩
theorem dX9_middleOf_42 : AtI iX9_middleOf 42 .ireturn 1 43 := ⟨by decide +kernel, rfl⟩
theorem dX9_middle_0 : AtI iX9_middle 0 (.iload_n 1) 1 1 := ⟨by decide +kernel, rfl⟩
theorem dX9_middle_1 : AtI iX9_middle 1 .i2l 1 2 := ⟨by decide +kernel, rfl⟩
theorem dX9_middle_2 : AtI iX9_middle 2 (.lconst 0) 1 3 := ⟨by decide +kernel, rfl⟩
theorem dX9_middle_3 : AtI iX9_middle 3 (.ldc2_w 78) 3 6 := ⟨by decide +kernel, rfl⟩
theorem dX9_middle_6 : AtI iX9_middle 6 (.invokestatic 65) 3 9 := ⟨by decide +kernel, rfl⟩
theorem dX9_middle_9 : AtJ iX9_middle 9 (.ifCond .eq 11) 11 12 20 := ⟨by decide +kernel, rfl, by decide⟩
theorem dX9_middle_12 : AtI iX9_middle 12 (.aload_n 0) 1 13 := ⟨by decide +kernel, rfl⟩
theorem dX9_middle_13 : AtI iX9_middle 13 (.iload_n 1) 1 14 := ⟨by decide +kernel, rfl⟩
theorem dX9_middle_14 : AtI iX9_middle 14 (.invokevirtual 282) 3 17 := ⟨by decide +kernel, rfl⟩
theorem dX9_middle_17 : AtJ iX9_middle 17 (.goto 5) 5 20 22 := ⟨by decide +kernel, rfl, by decide⟩
theorem dX9_middle_20 : AtI iX9_middle 20 (.bipush (-2)) 2 22 := ⟨by decide +kernel, rfl⟩
theorem dX9_middle_22 : AtI iX9_middle 22 .ireturn 1 23 := ⟨by decide +kernel, rfl⟩
theorem dX9_seen_0 : AtI iX9_seen 0 (.iload_n 1) 1 1 := ⟨by decide +kernel, rfl⟩
theorem dX9_seen_1 : AtI iX9_seen 1 .i2l 1 2 := ⟨by decide +kernel, rfl⟩
theorem dX9_seen_2 : AtI iX9_seen 2 (.lconst 0) 1 3 := ⟨by decide +kernel, rfl⟩
theorem dX9_seen_3 : AtI iX9_seen 3 (.ldc2_w 138) 3 6 := ⟨by decide +kernel, rfl⟩
theorem dX9_seen_6 : AtI iX9_seen 6 (.invokestatic 65) 3 9 := ⟨by decide +kernel, rfl⟩
theorem dX9_seen_9 : AtJ iX9_seen 9 (.ifCond .eq 17) 17 12 26 := ⟨by decide +kernel, rfl, by decide⟩
theorem dX9_seen_12 : AtI iX9_seen 12 (.iload_n 2) 1 13 := ⟨by decide +kernel, rfl⟩
theorem dX9_seen_13 : AtI iX9_seen 13 (.invokestatic 127) 3 16 := ⟨by decide +kernel, rfl⟩
theorem dX9_seen_16 : AtJ iX9_seen 16 (.ifCond .eq 10) 10 19 26 := ⟨by decide +kernel, rfl, by decide⟩
theorem dX9_seen_19 : AtI iX9_seen 19 (.iload_n 3) 1 20 := ⟨by decide +kernel, rfl⟩
theorem dX9_seen_20 : AtI iX9_seen 20 (.invokestatic 135) 3 23 := ⟨by decide +kernel, rfl⟩
theorem dX9_seen_23 : AtJ iX9_seen 23 (.ifCond .ne 6) 6 26 29 := ⟨by decide +kernel, rfl, by decide⟩
theorem dX9_seen_26 : AtI iX9_seen 26 (.bipush (-2)) 2 28 := ⟨by decide +kernel, rfl⟩
theorem dX9_seen_28 : AtI iX9_seen 28 .ireturn 1 29 := ⟨by decide +kernel, rfl⟩
theorem dX9_seen_29 : AtI iX9_seen 29 (.aload_n 0) 1 30 := ⟨by decide +kernel, rfl⟩
theorem dX9_seen_30 : AtI iX9_seen 30 (.getfield 285) 3 33 := ⟨by decide +kernel, rfl⟩
theorem dX9_seen_33 : AtI iX9_seen 33 (.bipush 6) 2 35 := ⟨by decide +kernel, rfl⟩
theorem dX9_seen_35 : AtJ iX9_seen 35 (.if_icmp .ne 6) 6 38 41 := ⟨by decide +kernel, rfl, by decide⟩
theorem dX9_seen_38 : AtI iX9_seen 38 (.bipush (-4)) 2 40 := ⟨by decide +kernel, rfl⟩
theorem dX9_seen_40 : AtI iX9_seen 40 .ireturn 1 41 := ⟨by decide +kernel, rfl⟩
theorem dX9_seen_41 : AtI iX9_seen 41 (.aload_n 0) 1 42 := ⟨by decide +kernel, rfl⟩
theorem dX9_seen_42 : AtI iX9_seen 42 (.getfield 58) 3 45 := ⟨by decide +kernel, rfl⟩
theorem dX9_seen_45 : AtI iX9_seen 45 (.iconst 3) 1 46 := ⟨by decide +kernel, rfl⟩
theorem dX9_seen_46 : AtI iX9_seen 46 (.aload_n 0) 1 47 := ⟨by decide +kernel, rfl⟩
theorem dX9_seen_47 : AtI iX9_seen 47 (.getfield 285) 3 50 := ⟨by decide +kernel, rfl⟩
theorem dX9_seen_50 : AtI iX9_seen 50 .imul 1 51 := ⟨by decide +kernel, rfl⟩
theorem dX9_seen_51 : AtI iX9_seen 51 (.iload_n 1) 1 52 := ⟨by decide +kernel, rfl⟩
theorem dX9_seen_52 : AtI iX9_seen 52 .iastore 1 53 := ⟨by decide +kernel, rfl⟩
theorem dX9_seen_53 : AtI iX9_seen 53 (.aload_n 0) 1 54 := ⟨by decide +kernel, rfl⟩
theorem dX9_seen_54 : AtI iX9_seen 54 (.getfield 58) 3 57 := ⟨by decide +kernel, rfl⟩
theorem dX9_seen_57 : AtI iX9_seen 57 (.iconst 3) 1 58 := ⟨by decide +kernel, rfl⟩
theorem dX9_seen_58 : AtI iX9_seen 58 (.aload_n 0) 1 59 := ⟨by decide +kernel, rfl⟩
theorem dX9_seen_59 : AtI iX9_seen 59 (.getfield 285) 3 62 := ⟨by decide +kernel, rfl⟩
theorem dX9_seen_62 : AtI iX9_seen 62 .imul 1 63 := ⟨by decide +kernel, rfl⟩
theorem dX9_seen_63 : AtI iX9_seen 63 (.iconst 1) 1 64 := ⟨by decide +kernel, rfl⟩
theorem dX9_seen_64 : AtI iX9_seen 64 .iadd 1 65 := ⟨by decide +kernel, rfl⟩
theorem dX9_seen_65 : AtI iX9_seen 65 (.iload_n 2) 1 66 := ⟨by decide +kernel, rfl⟩
theorem dX9_seen_66 : AtI iX9_seen 66 .iastore 1 67 := ⟨by decide +kernel, rfl⟩
theorem dX9_seen_67 : AtI iX9_seen 67 (.aload_n 0) 1 68 := ⟨by decide +kernel, rfl⟩
theorem dX9_seen_68 : AtI iX9_seen 68 (.getfield 58) 3 71 := ⟨by decide +kernel, rfl⟩
theorem dX9_seen_71 : AtI iX9_seen 71 (.iconst 3) 1 72 := ⟨by decide +kernel, rfl⟩
theorem dX9_seen_72 : AtI iX9_seen 72 (.aload_n 0) 1 73 := ⟨by decide +kernel, rfl⟩
theorem dX9_seen_73 : AtI iX9_seen 73 (.getfield 285) 3 76 := ⟨by decide +kernel, rfl⟩
theorem dX9_seen_76 : AtI iX9_seen 76 .imul 1 77 := ⟨by decide +kernel, rfl⟩
theorem dX9_seen_77 : AtI iX9_seen 77 (.iconst 2) 1 78 := ⟨by decide +kernel, rfl⟩
theorem dX9_seen_78 : AtI iX9_seen 78 .iadd 1 79 := ⟨by decide +kernel, rfl⟩
theorem dX9_seen_79 : AtI iX9_seen 79 (.iload_n 3) 1 80 := ⟨by decide +kernel, rfl⟩
theorem dX9_seen_80 : AtI iX9_seen 80 .iastore 1 81 := ⟨by decide +kernel, rfl⟩
theorem dX9_seen_81 : AtI iX9_seen 81 (.aload_n 0) 1 82 := ⟨by decide +kernel, rfl⟩
theorem dX9_seen_82 : AtI iX9_seen 82 .dup 1 83 := ⟨by decide +kernel, rfl⟩
theorem dX9_seen_83 : AtI iX9_seen 83 (.getfield 285) 3 86 := ⟨by decide +kernel, rfl⟩
theorem dX9_seen_86 : AtI iX9_seen 86 (.iconst 1) 1 87 := ⟨by decide +kernel, rfl⟩
theorem dX9_seen_87 : AtI iX9_seen 87 .iadd 1 88 := ⟨by decide +kernel, rfl⟩
theorem dX9_seen_88 : AtI iX9_seen 88 (.putfield 285) 3 91 := ⟨by decide +kernel, rfl⟩
theorem dX9_seen_91 : AtI iX9_seen 91 (.aload_n 0) 1 92 := ⟨by decide +kernel, rfl⟩
theorem dX9_seen_92 : AtI iX9_seen 92 (.getfield 285) 3 95 := ⟨by decide +kernel, rfl⟩
theorem dX9_seen_95 : AtI iX9_seen 95 .ireturn 1 96 := ⟨by decide +kernel, rfl⟩
theorem dX9_forget_0 : AtI iX9_forget 0 (.aload_n 0) 1 1 := ⟨by decide +kernel, rfl⟩
theorem dX9_forget_1 : AtI iX9_forget 1 (.getfield 285) 3 4 := ⟨by decide +kernel, rfl⟩
theorem dX9_forget_4 : AtI iX9_forget 4 (.istore_n 1) 1 5 := ⟨by decide +kernel, rfl⟩
theorem dX9_forget_5 : AtI iX9_forget 5 (.aload_n 0) 1 6 := ⟨by decide +kernel, rfl⟩
theorem dX9_forget_6 : AtI iX9_forget 6 (.iconst 0) 1 7 := ⟨by decide +kernel, rfl⟩
theorem dX9_forget_7 : AtI iX9_forget 7 (.putfield 285) 3 10 := ⟨by decide +kernel, rfl⟩
theorem dX9_forget_10 : AtI iX9_forget 10 (.iload_n 1) 1 11 := ⟨by decide +kernel, rfl⟩
theorem dX9_forget_11 : AtI iX9_forget 11 .ireturn 1 12 := ⟨by decide +kernel, rfl⟩
theorem dX9_whichNow_0 : AtI iX9_whichNow 0 (.iconst 0) 1 1 := ⟨by decide +kernel, rfl⟩
theorem dX9_whichNow_1 : AtI iX9_whichNow 1 (.istore_n 1) 1 2 := ⟨by decide +kernel, rfl⟩
theorem dX9_whichNow_2 : AtI iX9_whichNow 2 (.iconst 0) 1 3 := ⟨by decide +kernel, rfl⟩
theorem dX9_whichNow_3 : AtI iX9_whichNow 3 (.istore_n 2) 1 4 := ⟨by decide +kernel, rfl⟩
theorem dX9_whichNow_4 : AtI iX9_whichNow 4 (.iload_n 2) 1 5 := ⟨by decide +kernel, rfl⟩
theorem dX9_whichNow_5 : AtI iX9_whichNow 5 (.bipush 28) 2 7 := ⟨by decide +kernel, rfl⟩
theorem dX9_whichNow_7 : AtJ iX9_whichNow 7 (.if_icmp .ge 105) 105 10 112 := ⟨by decide +kernel, rfl, by decide⟩
theorem dX9_whichNow_10 : AtI iX9_whichNow 10 (.iconst 1) 1 11 := ⟨by decide +kernel, rfl⟩
theorem dX9_whichNow_11 : AtI iX9_whichNow 11 (.istore_n 3) 1 12 := ⟨by decide +kernel, rfl⟩
theorem dX9_whichNow_12 : AtI iX9_whichNow 12 (.iconst 0) 1 13 := ⟨by decide +kernel, rfl⟩
theorem dX9_whichNow_13 : AtI iX9_whichNow 13 (.istore 4) 2 15 := ⟨by decide +kernel, rfl⟩
theorem dX9_whichNow_15 : AtI iX9_whichNow 15 (.iload 4) 2 17 := ⟨by decide +kernel, rfl⟩
theorem dX9_whichNow_17 : AtI iX9_whichNow 17 (.aload_n 0) 1 18 := ⟨by decide +kernel, rfl⟩
theorem dX9_whichNow_18 : AtI iX9_whichNow 18 (.getfield 285) 3 21 := ⟨by decide +kernel, rfl⟩
theorem dX9_whichNow_21 : AtJ iX9_whichNow 21 (.if_icmp .ge 71) 71 24 92 := ⟨by decide +kernel, rfl, by decide⟩
theorem dX9_whichNow_24 : AtI iX9_whichNow 24 (.iload_n 3) 1 25 := ⟨by decide +kernel, rfl⟩
theorem dX9_whichNow_25 : AtJ iX9_whichNow 25 (.ifCond .eq 59) 59 28 84 := ⟨by decide +kernel, rfl, by decide⟩
theorem dX9_whichNow_28 : AtI iX9_whichNow 28 (.aload_n 0) 1 29 := ⟨by decide +kernel, rfl⟩
theorem dX9_whichNow_29 : AtI iX9_whichNow 29 (.bipush 24) 2 31 := ⟨by decide +kernel, rfl⟩
theorem dX9_whichNow_31 : AtI iX9_whichNow 31 (.iload_n 2) 1 32 := ⟨by decide +kernel, rfl⟩
theorem dX9_whichNow_32 : AtI iX9_whichNow 32 .imul 1 33 := ⟨by decide +kernel, rfl⟩
theorem dX9_whichNow_33 : AtI iX9_whichNow 33 (.aload_n 0) 1 34 := ⟨by decide +kernel, rfl⟩
theorem dX9_whichNow_34 : AtI iX9_whichNow 34 (.getfield 58) 3 37 := ⟨by decide +kernel, rfl⟩
theorem dX9_whichNow_37 : AtI iX9_whichNow 37 (.iconst 3) 1 38 := ⟨by decide +kernel, rfl⟩
theorem dX9_whichNow_38 : AtI iX9_whichNow 38 (.iload 4) 2 40 := ⟨by decide +kernel, rfl⟩
theorem dX9_whichNow_40 : AtI iX9_whichNow 40 .imul 1 41 := ⟨by decide +kernel, rfl⟩
theorem dX9_whichNow_41 : AtI iX9_whichNow 41 .iaload 1 42 := ⟨by decide +kernel, rfl⟩
theorem dX9_whichNow_42 : AtI iX9_whichNow 42 .iadd 1 43 := ⟨by decide +kernel, rfl⟩
theorem dX9_whichNow_43 : AtI iX9_whichNow 43 (.aload_n 0) 1 44 := ⟨by decide +kernel, rfl⟩
theorem dX9_whichNow_44 : AtI iX9_whichNow 44 (.getfield 58) 3 47 := ⟨by decide +kernel, rfl⟩
theorem dX9_whichNow_47 : AtI iX9_whichNow 47 (.iconst 3) 1 48 := ⟨by decide +kernel, rfl⟩
theorem dX9_whichNow_48 : AtI iX9_whichNow 48 (.iload 4) 2 50 := ⟨by decide +kernel, rfl⟩
theorem dX9_whichNow_50 : AtI iX9_whichNow 50 .imul 1 51 := ⟨by decide +kernel, rfl⟩
theorem dX9_whichNow_51 : AtI iX9_whichNow 51 (.iconst 1) 1 52 := ⟨by decide +kernel, rfl⟩
theorem dX9_whichNow_52 : AtI iX9_whichNow 52 .iadd 1 53 := ⟨by decide +kernel, rfl⟩
theorem dX9_whichNow_53 : AtI iX9_whichNow 53 .iaload 1 54 := ⟨by decide +kernel, rfl⟩
theorem dX9_whichNow_54 : AtI iX9_whichNow 54 (.invokevirtual 169) 3 57 := ⟨by decide +kernel, rfl⟩
theorem dX9_whichNow_57 : AtI iX9_whichNow 57 (.aload_n 0) 1 58 := ⟨by decide +kernel, rfl⟩
theorem dX9_whichNow_58 : AtI iX9_whichNow 58 (.getfield 58) 3 61 := ⟨by decide +kernel, rfl⟩
theorem dX9_whichNow_61 : AtI iX9_whichNow 61 (.iconst 3) 1 62 := ⟨by decide +kernel, rfl⟩
theorem dX9_whichNow_62 : AtI iX9_whichNow 62 (.iload 4) 2 64 := ⟨by decide +kernel, rfl⟩
theorem dX9_whichNow_64 : AtI iX9_whichNow 64 .imul 1 65 := ⟨by decide +kernel, rfl⟩
theorem dX9_whichNow_65 : AtI iX9_whichNow 65 (.iconst 2) 1 66 := ⟨by decide +kernel, rfl⟩
theorem dX9_whichNow_66 : AtI iX9_whichNow 66 .iadd 1 67 := ⟨by decide +kernel, rfl⟩
theorem dX9_whichNow_67 : AtI iX9_whichNow 67 .iaload 1 68 := ⟨by decide +kernel, rfl⟩
theorem dX9_whichNow_68 : AtI iX9_whichNow 68 (.iconst 1) 1 69 := ⟨by decide +kernel, rfl⟩
theorem dX9_whichNow_69 : AtJ iX9_whichNow 69 (.if_icmp .ne 7) 7 72 76 := ⟨by decide +kernel, rfl, by decide⟩
theorem dX9_whichNow_72 : AtI iX9_whichNow 72 (.iconst 1) 1 73 := ⟨by decide +kernel, rfl⟩
theorem dX9_whichNow_73 : AtJ iX9_whichNow 73 (.goto 4) 4 76 77 := ⟨by decide +kernel, rfl, by decide⟩
theorem dX9_whichNow_76 : AtI iX9_whichNow 76 (.iconst 0) 1 77 := ⟨by decide +kernel, rfl⟩
theorem dX9_whichNow_77 : AtJ iX9_whichNow 77 (.if_icmp .ne 7) 7 80 84 := ⟨by decide +kernel, rfl, by decide⟩
theorem dX9_whichNow_80 : AtI iX9_whichNow 80 (.iconst 1) 1 81 := ⟨by decide +kernel, rfl⟩
theorem dX9_whichNow_81 : AtJ iX9_whichNow 81 (.goto 4) 4 84 85 := ⟨by decide +kernel, rfl, by decide⟩
theorem dX9_whichNow_84 : AtI iX9_whichNow 84 (.iconst 0) 1 85 := ⟨by decide +kernel, rfl⟩
theorem dX9_whichNow_85 : AtI iX9_whichNow 85 (.istore_n 3) 1 86 := ⟨by decide +kernel, rfl⟩
theorem dX9_whichNow_86 : AtI iX9_whichNow 86 (.iinc 4 1) 3 89 := ⟨by decide +kernel, rfl⟩
theorem dX9_whichNow_89 : AtJ iX9_whichNow 89 (.goto (-74)) (-74) 92 15 := ⟨by decide +kernel, rfl, by decide⟩
theorem dX9_whichNow_92 : AtI iX9_whichNow 92 (.iload_n 1) 1 93 := ⟨by decide +kernel, rfl⟩
theorem dX9_whichNow_93 : AtI iX9_whichNow 93 (.iload_n 3) 1 94 := ⟨by decide +kernel, rfl⟩
theorem dX9_whichNow_94 : AtJ iX9_whichNow 94 (.ifCond .eq 9) 9 97 103 := ⟨by decide +kernel, rfl, by decide⟩
theorem dX9_whichNow_97 : AtI iX9_whichNow 97 (.iconst 1) 1 98 := ⟨by decide +kernel, rfl⟩
theorem dX9_whichNow_98 : AtI iX9_whichNow 98 (.iload_n 2) 1 99 := ⟨by decide +kernel, rfl⟩
theorem dX9_whichNow_99 : AtI iX9_whichNow 99 .ishl 1 100 := ⟨by decide +kernel, rfl⟩
theorem dX9_whichNow_100 : AtJ iX9_whichNow 100 (.goto 4) 4 103 104 := ⟨by decide +kernel, rfl, by decide⟩
theorem dX9_whichNow_103 : AtI iX9_whichNow 103 (.iconst 0) 1 104 := ⟨by decide +kernel, rfl⟩
theorem dX9_whichNow_104 : AtI iX9_whichNow 104 .ior 1 105 := ⟨by decide +kernel, rfl⟩
theorem dX9_whichNow_105 : AtI iX9_whichNow 105 (.istore_n 1) 1 106 := ⟨by decide +kernel, rfl⟩
theorem dX9_whichNow_106 : AtI iX9_whichNow 106 (.iinc 2 1) 3 109 := ⟨by decide +kernel, rfl⟩
theorem dX9_whichNow_109 : AtJ iX9_whichNow 109 (.goto (-105)) (-105) 112 4 := ⟨by decide +kernel, rfl, by decide⟩
theorem dX9_whichNow_112 : AtI iX9_whichNow 112 (.iload_n 1) 1 113 := ⟨by decide +kernel, rfl⟩
theorem dX9_whichNow_113 : AtI iX9_whichNow 113 .ireturn 1 114 := ⟨by decide +kernel, rfl⟩
theorem dX9_which_0 : AtI iX9_which 0 (.aload_n 0) 1 1 := ⟨by decide +kernel, rfl⟩
theorem dX9_which_1 : AtI iX9_which 1 (.invokevirtual 288) 3 4 := ⟨by decide +kernel, rfl⟩
theorem dX9_which_4 : AtI iX9_which 4 .ireturn 1 5 := ⟨by decide +kernel, rfl⟩
theorem dX9_seasonOf_0 : AtI iX9_seasonOf 0 (.iload_n 1) 1 1 := ⟨by decide +kernel, rfl⟩
theorem dX9_seasonOf_1 : AtI iX9_seasonOf 1 (.istore_n 3) 1 2 := ⟨by decide +kernel, rfl⟩
theorem dX9_seasonOf_2 : AtI iX9_seasonOf 2 (.iconst 0) 1 3 := ⟨by decide +kernel, rfl⟩
theorem dX9_seasonOf_3 : AtI iX9_seasonOf 3 (.istore 4) 2 5 := ⟨by decide +kernel, rfl⟩
theorem dX9_seasonOf_5 : AtI iX9_seasonOf 5 (.iconst 0) 1 6 := ⟨by decide +kernel, rfl⟩
theorem dX9_seasonOf_6 : AtI iX9_seasonOf 6 (.istore 5) 2 8 := ⟨by decide +kernel, rfl⟩
theorem dX9_seasonOf_8 : AtI iX9_seasonOf 8 (.iload 5) 2 10 := ⟨by decide +kernel, rfl⟩
theorem dX9_seasonOf_10 : AtI iX9_seasonOf 10 (.iconst 4) 1 11 := ⟨by decide +kernel, rfl⟩
theorem dX9_seasonOf_11 : AtJ iX9_seasonOf 11 (.if_icmp .ge 97) 97 14 108 := ⟨by decide +kernel, rfl, by decide⟩
theorem dX9_seasonOf_14 : AtI iX9_seasonOf 14 (.ldc_w 291) 3 17 := ⟨by decide +kernel, rfl⟩
theorem dX9_seasonOf_17 : AtI iX9_seasonOf 17 (.iload_n 3) 1 18 := ⟨by decide +kernel, rfl⟩
theorem dX9_seasonOf_18 : AtI iX9_seasonOf 18 .imul 1 19 := ⟨by decide +kernel, rfl⟩
theorem dX9_seasonOf_19 : AtI iX9_seasonOf 19 (.sipush 12345) 3 22 := ⟨by decide +kernel, rfl⟩
theorem dX9_seasonOf_22 : AtI iX9_seasonOf 22 .iadd 1 23 := ⟨by decide +kernel, rfl⟩
theorem dX9_seasonOf_23 : AtI iX9_seasonOf 23 (.istore_n 3) 1 24 := ⟨by decide +kernel, rfl⟩
theorem dX9_seasonOf_24 : AtI iX9_seasonOf 24 (.aload_n 0) 1 25 := ⟨by decide +kernel, rfl⟩
theorem dX9_seasonOf_25 : AtI iX9_seasonOf 25 (.bipush 7) 2 27 := ⟨by decide +kernel, rfl⟩
theorem dX9_seasonOf_27 : AtI iX9_seasonOf 27 (.iload 5) 2 29 := ⟨by decide +kernel, rfl⟩
theorem dX9_seasonOf_29 : AtI iX9_seasonOf 29 .imul 1 30 := ⟨by decide +kernel, rfl⟩
theorem dX9_seasonOf_30 : AtI iX9_seasonOf 30 (.iload_n 3) 1 31 := ⟨by decide +kernel, rfl⟩
theorem dX9_seasonOf_31 : AtI iX9_seasonOf 31 (.bipush 16) 2 33 := ⟨by decide +kernel, rfl⟩
theorem dX9_seasonOf_33 : AtI iX9_seasonOf 33 .iushr 1 34 := ⟨by decide +kernel, rfl⟩
theorem dX9_seasonOf_34 : AtI iX9_seasonOf 34 (.bipush 7) 2 36 := ⟨by decide +kernel, rfl⟩
theorem dX9_seasonOf_36 : AtI iX9_seasonOf 36 .irem 1 37 := ⟨by decide +kernel, rfl⟩
theorem dX9_seasonOf_37 : AtI iX9_seasonOf 37 .iadd 1 38 := ⟨by decide +kernel, rfl⟩
theorem dX9_seasonOf_38 : AtI iX9_seasonOf 38 (.putfield 61) 3 41 := ⟨by decide +kernel, rfl⟩
theorem dX9_seasonOf_41 : AtI iX9_seasonOf 41 (.sipush 168) 3 44 := ⟨by decide +kernel, rfl⟩
theorem dX9_seasonOf_44 : AtI iX9_seasonOf 44 (.iload 5) 2 46 := ⟨by decide +kernel, rfl⟩
theorem dX9_seasonOf_46 : AtI iX9_seasonOf 46 .imul 1 47 := ⟨by decide +kernel, rfl⟩
theorem dX9_seasonOf_47 : AtI iX9_seasonOf 47 (.istore 6) 2 49 := ⟨by decide +kernel, rfl⟩
theorem dX9_seasonOf_49 : AtI iX9_seasonOf 49 (.iload 6) 2 51 := ⟨by decide +kernel, rfl⟩
theorem dX9_seasonOf_51 : AtI iX9_seasonOf 51 (.sipush 168) 3 54 := ⟨by decide +kernel, rfl⟩
theorem dX9_seasonOf_54 : AtI iX9_seasonOf 54 (.iload 5) 2 56 := ⟨by decide +kernel, rfl⟩
theorem dX9_seasonOf_56 : AtI iX9_seasonOf 56 .imul 1 57 := ⟨by decide +kernel, rfl⟩
theorem dX9_seasonOf_57 : AtI iX9_seasonOf 57 (.sipush 168) 3 60 := ⟨by decide +kernel, rfl⟩
theorem dX9_seasonOf_60 : AtI iX9_seasonOf 60 .iadd 1 61 := ⟨by decide +kernel, rfl⟩
theorem dX9_seasonOf_61 : AtJ iX9_seasonOf 61 (.if_icmp .ge 41) 41 64 102 := ⟨by decide +kernel, rfl, by decide⟩
theorem dX9_seasonOf_64 : AtI iX9_seasonOf 64 (.iload 4) 2 66 := ⟨by decide +kernel, rfl⟩
theorem dX9_seasonOf_66 : AtI iX9_seasonOf 66 (.iload 6) 2 68 := ⟨by decide +kernel, rfl⟩
theorem dX9_seasonOf_68 : AtI iX9_seasonOf 68 (.bipush 24) 2 70 := ⟨by decide +kernel, rfl⟩
theorem dX9_seasonOf_70 : AtI iX9_seasonOf 70 .idiv 1 71 := ⟨by decide +kernel, rfl⟩
theorem dX9_seasonOf_71 : AtI iX9_seasonOf 71 (.aload_n 0) 1 72 := ⟨by decide +kernel, rfl⟩
theorem dX9_seasonOf_72 : AtI iX9_seasonOf 72 (.getfield 61) 3 75 := ⟨by decide +kernel, rfl⟩
theorem dX9_seasonOf_75 : AtJ iX9_seasonOf 75 (.if_icmp .eq 17) 17 78 92 := ⟨by decide +kernel, rfl, by decide⟩
theorem dX9_seasonOf_78 : AtI iX9_seasonOf 78 (.aload_n 0) 1 79 := ⟨by decide +kernel, rfl⟩
theorem dX9_seasonOf_79 : AtI iX9_seasonOf 79 (.iload 6) 2 81 := ⟨by decide +kernel, rfl⟩
theorem dX9_seasonOf_81 : AtI iX9_seasonOf 81 (.iload_n 2) 1 82 := ⟨by decide +kernel, rfl⟩
theorem dX9_seasonOf_82 : AtI iX9_seasonOf 82 (.invokevirtual 169) 3 85 := ⟨by decide +kernel, rfl⟩
theorem dX9_seasonOf_85 : AtJ iX9_seasonOf 85 (.ifCond .eq 7) 7 88 92 := ⟨by decide +kernel, rfl, by decide⟩
theorem dX9_seasonOf_88 : AtI iX9_seasonOf 88 (.iconst 1) 1 89 := ⟨by decide +kernel, rfl⟩
theorem dX9_seasonOf_89 : AtJ iX9_seasonOf 89 (.goto 4) 4 92 93 := ⟨by decide +kernel, rfl, by decide⟩
theorem dX9_seasonOf_92 : AtI iX9_seasonOf 92 (.iconst 0) 1 93 := ⟨by decide +kernel, rfl⟩
theorem dX9_seasonOf_93 : AtI iX9_seasonOf 93 .iadd 1 94 := ⟨by decide +kernel, rfl⟩
theorem dX9_seasonOf_94 : AtI iX9_seasonOf 94 (.istore 4) 2 96 := ⟨by decide +kernel, rfl⟩
theorem dX9_seasonOf_96 : AtI iX9_seasonOf 96 (.iinc 6 1) 3 99 := ⟨by decide +kernel, rfl⟩
theorem dX9_seasonOf_99 : AtJ iX9_seasonOf 99 (.goto (-50)) (-50) 102 49 := ⟨by decide +kernel, rfl, by decide⟩
theorem dX9_seasonOf_102 : AtI iX9_seasonOf 102 (.iinc 5 1) 3 105 := ⟨by decide +kernel, rfl⟩
theorem dX9_seasonOf_105 : AtJ iX9_seasonOf 105 (.goto (-97)) (-97) 108 8 := ⟨by decide +kernel, rfl, by decide⟩
theorem dX9_seasonOf_108 : AtI iX9_seasonOf 108 (.iload 4) 2 110 := ⟨by decide +kernel, rfl⟩
theorem dX9_seasonOf_110 : AtI iX9_seasonOf 110 .ireturn 1 111 := ⟨by decide +kernel, rfl⟩
theorem dX9_season_0 : AtI iX9_season 0 (.iload_n 2) 1 1 := ⟨by decide +kernel, rfl⟩
theorem dX9_season_1 : AtI iX9_season 1 (.invokestatic 127) 3 4 := ⟨by decide +kernel, rfl⟩
theorem dX9_season_4 : AtJ iX9_season 4 (.ifCond .eq 12) 12 7 16 := ⟨by decide +kernel, rfl, by decide⟩
theorem dX9_season_7 : AtI iX9_season 7 (.aload_n 0) 1 8 := ⟨by decide +kernel, rfl⟩
theorem dX9_season_8 : AtI iX9_season 8 (.iload_n 1) 1 9 := ⟨by decide +kernel, rfl⟩
theorem dX9_season_9 : AtI iX9_season 9 (.iload_n 2) 1 10 := ⟨by decide +kernel, rfl⟩
theorem dX9_season_10 : AtI iX9_season 10 (.invokevirtual 292) 3 13 := ⟨by decide +kernel, rfl⟩
theorem dX9_season_13 : AtJ iX9_season 13 (.goto 5) 5 16 18 := ⟨by decide +kernel, rfl, by decide⟩
theorem dX9_season_16 : AtI iX9_season 16 (.bipush (-2)) 2 18 := ⟨by decide +kernel, rfl⟩
theorem dX9_season_18 : AtI iX9_season 18 .ireturn 1 19 := ⟨by decide +kernel, rfl⟩
theorem dX9_write_0 : AtI iX9_write 0 (.iload_n 1) 1 1 := ⟨by decide +kernel, rfl⟩
theorem dX9_write_1 : AtI iX9_write 1 (.invokestatic 127) 3 4 := ⟨by decide +kernel, rfl⟩
theorem dX9_write_4 : AtJ iX9_write 4 (.ifCond .eq 17) 17 7 21 := ⟨by decide +kernel, rfl, by decide⟩
theorem dX9_write_7 : AtI iX9_write 7 (.iload_n 2) 1 8 := ⟨by decide +kernel, rfl⟩
theorem dX9_write_8 : AtI iX9_write 8 (.invokestatic 166) 3 11 := ⟨by decide +kernel, rfl⟩
theorem dX9_write_11 : AtJ iX9_write 11 (.ifCond .eq 10) 10 14 21 := ⟨by decide +kernel, rfl, by decide⟩
theorem dX9_write_14 : AtI iX9_write 14 (.iload_n 3) 1 15 := ⟨by decide +kernel, rfl⟩
theorem dX9_write_15 : AtI iX9_write 15 (.invokestatic 74) 3 18 := ⟨by decide +kernel, rfl⟩
theorem dX9_write_18 : AtJ iX9_write 18 (.ifCond .ne 6) 6 21 24 := ⟨by decide +kernel, rfl, by decide⟩
theorem dX9_write_21 : AtI iX9_write 21 (.bipush (-2)) 2 23 := ⟨by decide +kernel, rfl⟩
theorem dX9_write_23 : AtI iX9_write 23 .ireturn 1 24 := ⟨by decide +kernel, rfl⟩
theorem dX9_write_24 : AtI iX9_write 24 (.aload_n 0) 1 25 := ⟨by decide +kernel, rfl⟩
theorem dX9_write_25 : AtI iX9_write 25 (.getfield 7) 3 28 := ⟨by decide +kernel, rfl⟩
theorem dX9_write_28 : AtI iX9_write 28 (.iload_n 3) 1 29 := ⟨by decide +kernel, rfl⟩
theorem dX9_write_29 : AtI iX9_write 29 .iaload 1 30 := ⟨by decide +kernel, rfl⟩
theorem dX9_write_30 : AtJ iX9_write 30 (.ifCond .ge 9) 9 33 39 := ⟨by decide +kernel, rfl, by decide⟩
theorem dX9_write_33 : AtI iX9_write 33 (.aload_n 0) 1 34 := ⟨by decide +kernel, rfl⟩
theorem dX9_write_34 : AtI iX9_write 34 (.iconst 1) 1 35 := ⟨by decide +kernel, rfl⟩
theorem dX9_write_35 : AtI iX9_write 35 (.invokevirtual 80) 3 38 := ⟨by decide +kernel, rfl⟩
theorem dX9_write_38 : AtI iX9_write 38 .ireturn 1 39 := ⟨by decide +kernel, rfl⟩
theorem dX9_write_39 : AtI iX9_write 39 (.aload_n 0) 1 40 := ⟨by decide +kernel, rfl⟩
theorem dX9_write_40 : AtI iX9_write 40 (.getfield 13) 3 43 := ⟨by decide +kernel, rfl⟩
theorem dX9_write_43 : AtI iX9_write 43 (.iload_n 3) 1 44 := ⟨by decide +kernel, rfl⟩
theorem dX9_write_44 : AtI iX9_write 44 .iaload 1 45 := ⟨by decide +kernel, rfl⟩
theorem dX9_write_45 : AtI iX9_write 45 (.sipush 672) 3 48 := ⟨by decide +kernel, rfl⟩
theorem dX9_write_48 : AtI iX9_write 48 (.iload_n 2) 1 49 := ⟨by decide +kernel, rfl⟩
theorem dX9_write_49 : AtI iX9_write 49 .isub 1 50 := ⟨by decide +kernel, rfl⟩
theorem dX9_write_50 : AtI iX9_write 50 (.invokestatic 140) 3 53 := ⟨by decide +kernel, rfl⟩
theorem dX9_write_53 : AtI iX9_write 53 (.istore 4) 2 55 := ⟨by decide +kernel, rfl⟩
theorem dX9_write_55 : AtI iX9_write 55 (.iconst 0) 1 56 := ⟨by decide +kernel, rfl⟩
theorem dX9_write_56 : AtI iX9_write 56 (.istore 5) 2 58 := ⟨by decide +kernel, rfl⟩
theorem dX9_write_58 : AtI iX9_write 58 (.iload 5) 2 60 := ⟨by decide +kernel, rfl⟩
theorem dX9_write_60 : AtI iX9_write 60 (.iload 4) 2 62 := ⟨by decide +kernel, rfl⟩
theorem dX9_write_62 : AtJ iX9_write 62 (.if_icmp .ge 38) 38 65 100 := ⟨by decide +kernel, rfl, by decide⟩
theorem dX9_write_65 : AtI iX9_write 65 (.aload_n 0) 1 66 := ⟨by decide +kernel, rfl⟩
theorem dX9_write_66 : AtI iX9_write 66 (.getfield 16) 3 69 := ⟨by decide +kernel, rfl⟩
theorem dX9_write_69 : AtI iX9_write 69 (.bipush 60) 2 71 := ⟨by decide +kernel, rfl⟩
theorem dX9_write_71 : AtI iX9_write 71 (.iload_n 3) 1 72 := ⟨by decide +kernel, rfl⟩
theorem dX9_write_72 : AtI iX9_write 72 .imul 1 73 := ⟨by decide +kernel, rfl⟩
theorem dX9_write_73 : AtI iX9_write 73 (.iload 5) 2 75 := ⟨by decide +kernel, rfl⟩
theorem dX9_write_75 : AtI iX9_write 75 .iadd 1 76 := ⟨by decide +kernel, rfl⟩
theorem dX9_write_76 : AtI iX9_write 76 (.aload_n 0) 1 77 := ⟨by decide +kernel, rfl⟩
theorem dX9_write_77 : AtI iX9_write 77 (.iload_n 2) 1 78 := ⟨by decide +kernel, rfl⟩
theorem dX9_write_78 : AtI iX9_write 78 (.iload 5) 2 80 := ⟨by decide +kernel, rfl⟩
theorem dX9_write_80 : AtI iX9_write 80 .iadd 1 81 := ⟨by decide +kernel, rfl⟩
theorem dX9_write_81 : AtI iX9_write 81 (.iload_n 1) 1 82 := ⟨by decide +kernel, rfl⟩
theorem dX9_write_82 : AtI iX9_write 82 (.invokevirtual 169) 3 85 := ⟨by decide +kernel, rfl⟩
theorem dX9_write_85 : AtJ iX9_write 85 (.ifCond .eq 7) 7 88 92 := ⟨by decide +kernel, rfl, by decide⟩
theorem dX9_write_88 : AtI iX9_write 88 (.iconst 1) 1 89 := ⟨by decide +kernel, rfl⟩
theorem dX9_write_89 : AtJ iX9_write 89 (.goto 4) 4 92 93 := ⟨by decide +kernel, rfl, by decide⟩
theorem dX9_write_92 : AtI iX9_write 92 (.iconst 0) 1 93 := ⟨by decide +kernel, rfl⟩
theorem dX9_write_93 : AtI iX9_write 93 .iastore 1 94 := ⟨by decide +kernel, rfl⟩
theorem dX9_write_94 : AtI iX9_write 94 (.iinc 5 1) 3 97 := ⟨by decide +kernel, rfl⟩
theorem dX9_write_97 : AtJ iX9_write 97 (.goto (-39)) (-39) 100 58 := ⟨by decide +kernel, rfl, by decide⟩
theorem dX9_write_100 : AtI iX9_write 100 (.iload 4) 2 102 := ⟨by decide +kernel, rfl⟩
theorem dX9_write_102 : AtI iX9_write 102 .ireturn 1 103 := ⟨by decide +kernel, rfl⟩
theorem dX9_count_0 : AtI iX9_count 0 (.iconst 0) 1 1 := ⟨by decide +kernel, rfl⟩
theorem dX9_count_1 : AtI iX9_count 1 (.istore_n 2) 1 2 := ⟨by decide +kernel, rfl⟩
theorem dX9_count_2 : AtI iX9_count 2 (.aload_n 0) 1 3 := ⟨by decide +kernel, rfl⟩
theorem dX9_count_3 : AtI iX9_count 3 (.invokevirtual 119) 3 6 := ⟨by decide +kernel, rfl⟩
theorem dX9_count_6 : AtI iX9_count 6 .pop 1 7 := ⟨by decide +kernel, rfl⟩
theorem dX9_count_7 : AtI iX9_count 7 (.iload_n 1) 1 8 := ⟨by decide +kernel, rfl⟩
theorem dX9_count_8 : decode iX9_count.2.1 8 = .ok (.tableswitch 147 0 8 #[52, 57, 62, 67, 72, 101, 132, 132, 142], 52) := by decide +kernel
theorem dX9_count_60 : AtI iX9_count 60 (.aload_n 0) 1 61 := ⟨by decide +kernel, rfl⟩
theorem dX9_count_61 : AtI iX9_count 61 (.getfield 106) 3 64 := ⟨by decide +kernel, rfl⟩
theorem dX9_count_64 : AtI iX9_count 64 .ireturn 1 65 := ⟨by decide +kernel, rfl⟩
theorem dX9_count_65 : AtI iX9_count 65 (.aload_n 0) 1 66 := ⟨by decide +kernel, rfl⟩
theorem dX9_count_66 : AtI iX9_count 66 (.getfield 95) 3 69 := ⟨by decide +kernel, rfl⟩
theorem dX9_count_69 : AtI iX9_count 69 .ireturn 1 70 := ⟨by decide +kernel, rfl⟩
theorem dX9_count_70 : AtI iX9_count 70 (.aload_n 0) 1 71 := ⟨by decide +kernel, rfl⟩
theorem dX9_count_71 : AtI iX9_count 71 (.getfield 148) 3 74 := ⟨by decide +kernel, rfl⟩
theorem dX9_count_74 : AtI iX9_count 74 .ireturn 1 75 := ⟨by decide +kernel, rfl⟩
theorem dX9_count_75 : AtI iX9_count 75 (.aload_n 0) 1 76 := ⟨by decide +kernel, rfl⟩
theorem dX9_count_76 : AtI iX9_count 76 (.getfield 285) 3 79 := ⟨by decide +kernel, rfl⟩
theorem dX9_count_79 : AtI iX9_count 79 .ireturn 1 80 := ⟨by decide +kernel, rfl⟩
theorem dX9_count_80 : AtI iX9_count 80 (.iconst 0) 1 81 := ⟨by decide +kernel, rfl⟩
theorem dX9_count_81 : AtI iX9_count 81 (.istore_n 3) 1 82 := ⟨by decide +kernel, rfl⟩
theorem dX9_count_82 : AtI iX9_count 82 (.iload_n 3) 1 83 := ⟨by decide +kernel, rfl⟩
theorem dX9_count_83 : AtI iX9_count 83 (.bipush 8) 2 85 := ⟨by decide +kernel, rfl⟩
theorem dX9_count_85 : AtJ iX9_count 85 (.if_icmp .ge 22) 22 88 107 := ⟨by decide +kernel, rfl, by decide⟩
theorem dX9_count_88 : AtI iX9_count 88 (.iload_n 2) 1 89 := ⟨by decide +kernel, rfl⟩
theorem dX9_count_89 : AtI iX9_count 89 (.aload_n 0) 1 90 := ⟨by decide +kernel, rfl⟩
theorem dX9_count_90 : AtI iX9_count 90 (.getfield 28) 3 93 := ⟨by decide +kernel, rfl⟩
theorem dX9_count_93 : AtI iX9_count 93 (.iconst 3) 1 94 := ⟨by decide +kernel, rfl⟩
theorem dX9_count_94 : AtI iX9_count 94 (.iload_n 3) 1 95 := ⟨by decide +kernel, rfl⟩
theorem dX9_count_95 : AtI iX9_count 95 .imul 1 96 := ⟨by decide +kernel, rfl⟩
theorem dX9_count_96 : AtI iX9_count 96 (.iconst 1) 1 97 := ⟨by decide +kernel, rfl⟩
theorem dX9_count_97 : AtI iX9_count 97 .iadd 1 98 := ⟨by decide +kernel, rfl⟩
theorem dX9_count_98 : AtI iX9_count 98 .iaload 1 99 := ⟨by decide +kernel, rfl⟩
theorem dX9_count_99 : AtI iX9_count 99 .iadd 1 100 := ⟨by decide +kernel, rfl⟩
theorem dX9_count_100 : AtI iX9_count 100 (.istore_n 2) 1 101 := ⟨by decide +kernel, rfl⟩
theorem dX9_count_101 : AtI iX9_count 101 (.iinc 3 1) 3 104 := ⟨by decide +kernel, rfl⟩
theorem dX9_count_104 : AtJ iX9_count 104 (.goto (-22)) (-22) 107 82 := ⟨by decide +kernel, rfl, by decide⟩
theorem dX9_count_107 : AtI iX9_count 107 (.iload_n 2) 1 108 := ⟨by decide +kernel, rfl⟩
theorem dX9_count_108 : AtI iX9_count 108 .ireturn 1 109 := ⟨by decide +kernel, rfl⟩
theorem dX9_count_109 : AtI iX9_count 109 (.iconst 0) 1 110 := ⟨by decide +kernel, rfl⟩
theorem dX9_count_110 : AtI iX9_count 110 (.istore_n 3) 1 111 := ⟨by decide +kernel, rfl⟩
theorem dX9_count_111 : AtI iX9_count 111 (.iload_n 3) 1 112 := ⟨by decide +kernel, rfl⟩
theorem dX9_count_112 : AtI iX9_count 112 (.aload_n 0) 1 113 := ⟨by decide +kernel, rfl⟩
theorem dX9_count_113 : AtI iX9_count 113 (.getfield 106) 3 116 := ⟨by decide +kernel, rfl⟩
theorem dX9_count_116 : AtJ iX9_count 116 (.if_icmp .ge 22) 22 119 138 := ⟨by decide +kernel, rfl, by decide⟩
theorem dX9_count_119 : AtI iX9_count 119 (.iload_n 2) 1 120 := ⟨by decide +kernel, rfl⟩
theorem dX9_count_120 : AtI iX9_count 120 (.aload_n 0) 1 121 := ⟨by decide +kernel, rfl⟩
theorem dX9_count_121 : AtI iX9_count 121 (.getfield 25) 3 124 := ⟨by decide +kernel, rfl⟩
theorem dX9_count_124 : AtI iX9_count 124 (.iconst 3) 1 125 := ⟨by decide +kernel, rfl⟩
theorem dX9_count_125 : AtI iX9_count 125 (.iload_n 3) 1 126 := ⟨by decide +kernel, rfl⟩
theorem dX9_count_126 : AtI iX9_count 126 .imul 1 127 := ⟨by decide +kernel, rfl⟩
theorem dX9_count_127 : AtI iX9_count 127 (.iconst 2) 1 128 := ⟨by decide +kernel, rfl⟩
theorem dX9_count_128 : AtI iX9_count 128 .iadd 1 129 := ⟨by decide +kernel, rfl⟩
theorem dX9_count_129 : AtI iX9_count 129 .iaload 1 130 := ⟨by decide +kernel, rfl⟩
theorem dX9_count_130 : AtI iX9_count 130 .iadd 1 131 := ⟨by decide +kernel, rfl⟩
theorem dX9_count_131 : AtI iX9_count 131 (.istore_n 2) 1 132 := ⟨by decide +kernel, rfl⟩
theorem dX9_count_132 : AtI iX9_count 132 (.iinc 3 1) 3 135 := ⟨by decide +kernel, rfl⟩
theorem dX9_count_135 : AtJ iX9_count 135 (.goto (-24)) (-24) 138 111 := ⟨by decide +kernel, rfl, by decide⟩
theorem dX9_count_138 : AtI iX9_count 138 (.iload_n 2) 1 139 := ⟨by decide +kernel, rfl⟩
theorem dX9_count_139 : AtI iX9_count 139 .ireturn 1 140 := ⟨by decide +kernel, rfl⟩
theorem dX9_count_140 : AtI iX9_count 140 (.aload_n 0) 1 141 := ⟨by decide +kernel, rfl⟩
theorem dX9_count_141 : AtI iX9_count 141 (.getfield 37) 3 144 := ⟨by decide +kernel, rfl⟩
theorem dX9_count_144 : AtI iX9_count 144 (.iload_n 1) 1 145 := ⟨by decide +kernel, rfl⟩
theorem dX9_count_145 : AtI iX9_count 145 (.bipush 6) 2 147 := ⟨by decide +kernel, rfl⟩
theorem dX9_count_147 : AtI iX9_count 147 .isub 1 148 := ⟨by decide +kernel, rfl⟩
theorem dX9_count_148 : AtI iX9_count 148 .iaload 1 149 := ⟨by decide +kernel, rfl⟩
theorem dX9_count_149 : AtI iX9_count 149 .ireturn 1 150 := ⟨by decide +kernel, rfl⟩
theorem dX9_count_150 : AtI iX9_count 150 (.aload_n 0) 1 151 := ⟨by decide +kernel, rfl⟩
theorem dX9_count_151 : AtI iX9_count 151 (.getfield 69) 3 154 := ⟨by decide +kernel, rfl⟩
theorem dX9_count_154 : AtI iX9_count 154 .ireturn 1 155 := ⟨by decide +kernel, rfl⟩
theorem dX9_count_155 : AtI iX9_count 155 (.bipush (-2)) 2 157 := ⟨by decide +kernel, rfl⟩
theorem dX9_count_157 : AtI iX9_count 157 .ireturn 1 158 := ⟨by decide +kernel, rfl⟩
theorem dX9_tellsLand_0 : AtI iX9_tellsLand 0 (.ldc2_w 295) 3 3 := ⟨by decide +kernel, rfl⟩
theorem dX9_tellsLand_3 : AtI iX9_tellsLand 3 (.lload_n 1) 1 4 := ⟨by decide +kernel, rfl⟩
theorem dX9_tellsLand_4 : AtI iX9_tellsLand 4 .lmul 1 5 := ⟨by decide +kernel, rfl⟩
theorem dX9_tellsLand_5 : AtI iX9_tellsLand 5 (.aload_n 0) 1 6 := ⟨by decide +kernel, rfl⟩
theorem dX9_tellsLand_6 : AtI iX9_tellsLand 6 (.iconst 0) 1 7 := ⟨by decide +kernel, rfl⟩
theorem dX9_tellsLand_7 : AtI iX9_tellsLand 7 (.iload_n 3) 1 8 := ⟨by decide +kernel, rfl⟩
theorem dX9_tellsLand_8 : AtI iX9_tellsLand 8 (.invokevirtual 179) 3 11 := ⟨by decide +kernel, rfl⟩
theorem dX9_tellsLand_11 : AtI iX9_tellsLand 11 .i2l 1 12 := ⟨by decide +kernel, rfl⟩
theorem dX9_tellsLand_12 : AtI iX9_tellsLand 12 .ladd 1 13 := ⟨by decide +kernel, rfl⟩
theorem dX9_tellsLand_13 : AtI iX9_tellsLand 13 (.lstore 4) 2 15 := ⟨by decide +kernel, rfl⟩
theorem dX9_tellsLand_15 : AtI iX9_tellsLand 15 (.ldc2_w 295) 3 18 := ⟨by decide +kernel, rfl⟩
theorem dX9_tellsLand_18 : AtI iX9_tellsLand 18 (.lload 4) 2 20 := ⟨by decide +kernel, rfl⟩
theorem dX9_tellsLand_20 : AtI iX9_tellsLand 20 .lmul 1 21 := ⟨by decide +kernel, rfl⟩
theorem dX9_tellsLand_21 : AtI iX9_tellsLand 21 (.aload_n 0) 1 22 := ⟨by decide +kernel, rfl⟩
theorem dX9_tellsLand_22 : AtI iX9_tellsLand 22 (.iconst 2) 1 23 := ⟨by decide +kernel, rfl⟩
theorem dX9_tellsLand_23 : AtI iX9_tellsLand 23 (.iload_n 3) 1 24 := ⟨by decide +kernel, rfl⟩
theorem dX9_tellsLand_24 : AtI iX9_tellsLand 24 (.invokevirtual 179) 3 27 := ⟨by decide +kernel, rfl⟩
theorem dX9_tellsLand_27 : AtI iX9_tellsLand 27 .i2l 1 28 := ⟨by decide +kernel, rfl⟩
theorem dX9_tellsLand_28 : AtI iX9_tellsLand 28 .ladd 1 29 := ⟨by decide +kernel, rfl⟩
theorem dX9_tellsLand_29 : AtI iX9_tellsLand 29 (.lstore 4) 2 31 := ⟨by decide +kernel, rfl⟩
theorem dX9_tellsLand_31 : AtI iX9_tellsLand 31 (.ldc2_w 295) 3 34 := ⟨by decide +kernel, rfl⟩
theorem dX9_tellsLand_34 : AtI iX9_tellsLand 34 (.lload 4) 2 36 := ⟨by decide +kernel, rfl⟩
theorem dX9_tellsLand_36 : AtI iX9_tellsLand 36 .lmul 1 37 := ⟨by decide +kernel, rfl⟩
theorem dX9_tellsLand_37 : AtI iX9_tellsLand 37 (.aload_n 0) 1 38 := ⟨by decide +kernel, rfl⟩
theorem dX9_tellsLand_38 : AtI iX9_tellsLand 38 (.iload_n 3) 1 39 := ⟨by decide +kernel, rfl⟩
theorem dX9_tellsLand_39 : AtI iX9_tellsLand 39 (.invokevirtual 182) 3 42 := ⟨by decide +kernel, rfl⟩
theorem dX9_tellsLand_42 : AtI iX9_tellsLand 42 .i2l 1 43 := ⟨by decide +kernel, rfl⟩
theorem dX9_tellsLand_43 : AtI iX9_tellsLand 43 .ladd 1 44 := ⟨by decide +kernel, rfl⟩
theorem dX9_tellsLand_44 : AtI iX9_tellsLand 44 (.lstore 4) 2 46 := ⟨by decide +kernel, rfl⟩
theorem dX9_tellsLand_46 : AtI iX9_tellsLand 46 (.ldc2_w 295) 3 49 := ⟨by decide +kernel, rfl⟩
theorem dX9_tellsLand_49 : AtI iX9_tellsLand 49 (.lload 4) 2 51 := ⟨by decide +kernel, rfl⟩
theorem dX9_tellsLand_51 : AtI iX9_tellsLand 51 .lmul 1 52 := ⟨by decide +kernel, rfl⟩
theorem dX9_tellsLand_52 : AtI iX9_tellsLand 52 (.aload_n 0) 1 53 := ⟨by decide +kernel, rfl⟩
theorem dX9_tellsLand_53 : AtI iX9_tellsLand 53 (.bipush 50) 2 55 := ⟨by decide +kernel, rfl⟩
theorem dX9_tellsLand_55 : AtI iX9_tellsLand 55 (.iload_n 3) 1 56 := ⟨by decide +kernel, rfl⟩
theorem dX9_tellsLand_56 : AtI iX9_tellsLand 56 (.iconst 0) 1 57 := ⟨by decide +kernel, rfl⟩
theorem dX9_tellsLand_57 : AtI iX9_tellsLand 57 (.invokevirtual 176) 3 60 := ⟨by decide +kernel, rfl⟩
theorem dX9_tellsLand_60 : AtI iX9_tellsLand 60 .i2l 1 61 := ⟨by decide +kernel, rfl⟩
theorem dX9_tellsLand_61 : AtI iX9_tellsLand 61 .ladd 1 62 := ⟨by decide +kernel, rfl⟩
theorem dX9_tellsLand_62 : AtI iX9_tellsLand 62 (.lstore 4) 2 64 := ⟨by decide +kernel, rfl⟩
theorem dX9_tellsLand_64 : AtI iX9_tellsLand 64 (.ldc2_w 295) 3 67 := ⟨by decide +kernel, rfl⟩
theorem dX9_tellsLand_67 : AtI iX9_tellsLand 67 (.lload 4) 2 69 := ⟨by decide +kernel, rfl⟩
theorem dX9_tellsLand_69 : AtI iX9_tellsLand 69 .lmul 1 70 := ⟨by decide +kernel, rfl⟩
theorem dX9_tellsLand_70 : AtI iX9_tellsLand 70 (.aload_n 0) 1 71 := ⟨by decide +kernel, rfl⟩
theorem dX9_tellsLand_71 : AtI iX9_tellsLand 71 (.bipush 50) 2 73 := ⟨by decide +kernel, rfl⟩
theorem dX9_tellsLand_73 : AtI iX9_tellsLand 73 (.iload_n 3) 1 74 := ⟨by decide +kernel, rfl⟩
theorem dX9_tellsLand_74 : AtI iX9_tellsLand 74 (.iconst 1) 1 75 := ⟨by decide +kernel, rfl⟩
theorem dX9_tellsLand_75 : AtI iX9_tellsLand 75 (.invokevirtual 176) 3 78 := ⟨by decide +kernel, rfl⟩
theorem dX9_tellsLand_78 : AtI iX9_tellsLand 78 .i2l 1 79 := ⟨by decide +kernel, rfl⟩
theorem dX9_tellsLand_79 : AtI iX9_tellsLand 79 .ladd 1 80 := ⟨by decide +kernel, rfl⟩
theorem dX9_tellsLand_80 : AtI iX9_tellsLand 80 (.lstore 4) 2 82 := ⟨by decide +kernel, rfl⟩
theorem dX9_tellsLand_82 : AtI iX9_tellsLand 82 (.ldc2_w 295) 3 85 := ⟨by decide +kernel, rfl⟩
theorem dX9_tellsLand_85 : AtI iX9_tellsLand 85 (.lload 4) 2 87 := ⟨by decide +kernel, rfl⟩
theorem dX9_tellsLand_87 : AtI iX9_tellsLand 87 .lmul 1 88 := ⟨by decide +kernel, rfl⟩
theorem dX9_tellsLand_88 : AtI iX9_tellsLand 88 (.aload_n 0) 1 89 := ⟨by decide +kernel, rfl⟩
theorem dX9_tellsLand_89 : AtI iX9_tellsLand 89 (.iload_n 3) 1 90 := ⟨by decide +kernel, rfl⟩
theorem dX9_tellsLand_90 : AtI iX9_tellsLand 90 (.bipush 7) 2 92 := ⟨by decide +kernel, rfl⟩
theorem dX9_tellsLand_92 : AtI iX9_tellsLand 92 (.bipush 99) 2 94 := ⟨by decide +kernel, rfl⟩
theorem dX9_tellsLand_94 : AtI iX9_tellsLand 94 (.iconst 0) 1 95 := ⟨by decide +kernel, rfl⟩
theorem dX9_tellsLand_95 : AtI iX9_tellsLand 95 (.invokevirtual 227) 3 98 := ⟨by decide +kernel, rfl⟩
theorem dX9_tellsLand_98 : AtI iX9_tellsLand 98 .i2l 1 99 := ⟨by decide +kernel, rfl⟩
theorem dX9_tellsLand_99 : AtI iX9_tellsLand 99 .ladd 1 100 := ⟨by decide +kernel, rfl⟩
theorem dX9_tellsLand_100 : AtI iX9_tellsLand 100 (.lstore 4) 2 102 := ⟨by decide +kernel, rfl⟩
theorem dX9_tellsLand_102 : AtI iX9_tellsLand 102 (.ldc2_w 295) 3 105 := ⟨by decide +kernel, rfl⟩
theorem dX9_tellsLand_105 : AtI iX9_tellsLand 105 (.lload 4) 2 107 := ⟨by decide +kernel, rfl⟩
theorem dX9_tellsLand_107 : AtI iX9_tellsLand 107 .lmul 1 108 := ⟨by decide +kernel, rfl⟩
theorem dX9_tellsLand_108 : AtI iX9_tellsLand 108 (.aload_n 0) 1 109 := ⟨by decide +kernel, rfl⟩
theorem dX9_tellsLand_109 : AtI iX9_tellsLand 109 (.iload_n 3) 1 110 := ⟨by decide +kernel, rfl⟩
theorem dX9_tellsLand_110 : AtI iX9_tellsLand 110 (.bipush 7) 2 112 := ⟨by decide +kernel, rfl⟩
theorem dX9_tellsLand_112 : AtI iX9_tellsLand 112 (.bipush 99) 2 114 := ⟨by decide +kernel, rfl⟩
theorem dX9_tellsLand_114 : AtI iX9_tellsLand 114 (.iconst 1) 1 115 := ⟨by decide +kernel, rfl⟩
theorem dX9_tellsLand_115 : AtI iX9_tellsLand 115 (.invokevirtual 227) 3 118 := ⟨by decide +kernel, rfl⟩
theorem dX9_tellsLand_118 : AtI iX9_tellsLand 118 .i2l 1 119 := ⟨by decide +kernel, rfl⟩
theorem dX9_tellsLand_119 : AtI iX9_tellsLand 119 .ladd 1 120 := ⟨by decide +kernel, rfl⟩
theorem dX9_tellsLand_120 : AtI iX9_tellsLand 120 (.lstore 4) 2 122 := ⟨by decide +kernel, rfl⟩
theorem dX9_tellsLand_122 : AtI iX9_tellsLand 122 (.ldc2_w 295) 3 125 := ⟨by decide +kernel, rfl⟩
theorem dX9_tellsLand_125 : AtI iX9_tellsLand 125 (.lload 4) 2 127 := ⟨by decide +kernel, rfl⟩
theorem dX9_tellsLand_127 : AtI iX9_tellsLand 127 .lmul 1 128 := ⟨by decide +kernel, rfl⟩
theorem dX9_tellsLand_128 : AtI iX9_tellsLand 128 (.aload_n 0) 1 129 := ⟨by decide +kernel, rfl⟩
theorem dX9_tellsLand_129 : AtI iX9_tellsLand 129 (.iload_n 3) 1 130 := ⟨by decide +kernel, rfl⟩
theorem dX9_tellsLand_130 : AtI iX9_tellsLand 130 (.bipush 7) 2 132 := ⟨by decide +kernel, rfl⟩
theorem dX9_tellsLand_132 : AtI iX9_tellsLand 132 (.bipush 99) 2 134 := ⟨by decide +kernel, rfl⟩
theorem dX9_tellsLand_134 : AtI iX9_tellsLand 134 (.invokevirtual 230) 3 137 := ⟨by decide +kernel, rfl⟩
theorem dX9_tellsLand_137 : AtI iX9_tellsLand 137 .i2l 1 138 := ⟨by decide +kernel, rfl⟩
theorem dX9_tellsLand_138 : AtI iX9_tellsLand 138 .ladd 1 139 := ⟨by decide +kernel, rfl⟩
theorem dX9_tellsLand_139 : AtI iX9_tellsLand 139 (.lstore 4) 2 141 := ⟨by decide +kernel, rfl⟩
theorem dX9_tellsLand_141 : AtI iX9_tellsLand 141 (.ldc2_w 295) 3 144 := ⟨by decide +kernel, rfl⟩
theorem dX9_tellsLand_144 : AtI iX9_tellsLand 144 (.lload 4) 2 146 := ⟨by decide +kernel, rfl⟩
theorem dX9_tellsLand_146 : AtI iX9_tellsLand 146 .lmul 1 147 := ⟨by decide +kernel, rfl⟩
theorem dX9_tellsLand_147 : AtI iX9_tellsLand 147 (.aload_n 0) 1 148 := ⟨by decide +kernel, rfl⟩
theorem dX9_tellsLand_148 : AtI iX9_tellsLand 148 (.bipush 7) 2 150 := ⟨by decide +kernel, rfl⟩
theorem dX9_tellsLand_150 : AtI iX9_tellsLand 150 (.iload_n 3) 1 151 := ⟨by decide +kernel, rfl⟩
theorem dX9_tellsLand_151 : AtI iX9_tellsLand 151 (.invokevirtual 292) 3 154 := ⟨by decide +kernel, rfl⟩
theorem dX9_tellsLand_154 : AtI iX9_tellsLand 154 .i2l 1 155 := ⟨by decide +kernel, rfl⟩
theorem dX9_tellsLand_155 : AtI iX9_tellsLand 155 .ladd 1 156 := ⟨by decide +kernel, rfl⟩
theorem dX9_tellsLand_156 : AtI iX9_tellsLand 156 .lreturn 1 157 := ⟨by decide +kernel, rfl⟩
theorem dX9_tellsWays_0 : AtI iX9_tellsWays 0 (.ldc2_w 295) 3 3 := ⟨by decide +kernel, rfl⟩
theorem dX9_tellsWays_3 : AtI iX9_tellsWays 3 (.lload_n 1) 1 4 := ⟨by decide +kernel, rfl⟩
theorem dX9_tellsWays_4 : AtI iX9_tellsWays 4 .lmul 1 5 := ⟨by decide +kernel, rfl⟩
theorem dX9_tellsWays_5 : AtI iX9_tellsWays 5 (.aload_n 0) 1 6 := ⟨by decide +kernel, rfl⟩
theorem dX9_tellsWays_6 : AtI iX9_tellsWays 6 (.iconst 0) 1 7 := ⟨by decide +kernel, rfl⟩
theorem dX9_tellsWays_7 : AtI iX9_tellsWays 7 (.iload_n 3) 1 8 := ⟨by decide +kernel, rfl⟩
theorem dX9_tellsWays_8 : AtI iX9_tellsWays 8 (.iconst 0) 1 9 := ⟨by decide +kernel, rfl⟩
theorem dX9_tellsWays_9 : AtI iX9_tellsWays 9 (.invokevirtual 201) 3 12 := ⟨by decide +kernel, rfl⟩
theorem dX9_tellsWays_12 : AtI iX9_tellsWays 12 .i2l 1 13 := ⟨by decide +kernel, rfl⟩
theorem dX9_tellsWays_13 : AtI iX9_tellsWays 13 .ladd 1 14 := ⟨by decide +kernel, rfl⟩
theorem dX9_tellsWays_14 : AtI iX9_tellsWays 14 (.lstore 4) 2 16 := ⟨by decide +kernel, rfl⟩
theorem dX9_tellsWays_16 : AtI iX9_tellsWays 16 (.ldc2_w 295) 3 19 := ⟨by decide +kernel, rfl⟩
theorem dX9_tellsWays_19 : AtI iX9_tellsWays 19 (.lload 4) 2 21 := ⟨by decide +kernel, rfl⟩
theorem dX9_tellsWays_21 : AtI iX9_tellsWays 21 .lmul 1 22 := ⟨by decide +kernel, rfl⟩
theorem dX9_tellsWays_22 : AtI iX9_tellsWays 22 (.aload_n 0) 1 23 := ⟨by decide +kernel, rfl⟩
theorem dX9_tellsWays_23 : AtI iX9_tellsWays 23 (.iconst 0) 1 24 := ⟨by decide +kernel, rfl⟩
theorem dX9_tellsWays_24 : AtI iX9_tellsWays 24 (.iload_n 3) 1 25 := ⟨by decide +kernel, rfl⟩
theorem dX9_tellsWays_25 : AtI iX9_tellsWays 25 (.iconst 1) 1 26 := ⟨by decide +kernel, rfl⟩
theorem dX9_tellsWays_26 : AtI iX9_tellsWays 26 (.invokevirtual 201) 3 29 := ⟨by decide +kernel, rfl⟩
theorem dX9_tellsWays_29 : AtI iX9_tellsWays 29 .i2l 1 30 := ⟨by decide +kernel, rfl⟩
theorem dX9_tellsWays_30 : AtI iX9_tellsWays 30 .ladd 1 31 := ⟨by decide +kernel, rfl⟩
theorem dX9_tellsWays_31 : AtI iX9_tellsWays 31 (.lstore 4) 2 33 := ⟨by decide +kernel, rfl⟩
theorem dX9_tellsWays_33 : AtI iX9_tellsWays 33 (.ldc2_w 295) 3 36 := ⟨by decide +kernel, rfl⟩
theorem dX9_tellsWays_36 : AtI iX9_tellsWays 36 (.lload 4) 2 38 := ⟨by decide +kernel, rfl⟩
theorem dX9_tellsWays_38 : AtI iX9_tellsWays 38 .lmul 1 39 := ⟨by decide +kernel, rfl⟩
theorem dX9_tellsWays_39 : AtI iX9_tellsWays 39 (.aload_n 0) 1 40 := ⟨by decide +kernel, rfl⟩
theorem dX9_tellsWays_40 : AtI iX9_tellsWays 40 (.iconst 0) 1 41 := ⟨by decide +kernel, rfl⟩
theorem dX9_tellsWays_41 : AtI iX9_tellsWays 41 (.iload_n 3) 1 42 := ⟨by decide +kernel, rfl⟩
theorem dX9_tellsWays_42 : AtI iX9_tellsWays 42 (.iconst 2) 1 43 := ⟨by decide +kernel, rfl⟩
theorem dX9_tellsWays_43 : AtI iX9_tellsWays 43 (.iconst 0) 1 44 := ⟨by decide +kernel, rfl⟩
theorem dX9_tellsWays_44 : AtI iX9_tellsWays 44 (.invokevirtual 213) 3 47 := ⟨by decide +kernel, rfl⟩
theorem dX9_tellsWays_47 : AtI iX9_tellsWays 47 .i2l 1 48 := ⟨by decide +kernel, rfl⟩
theorem dX9_tellsWays_48 : AtI iX9_tellsWays 48 .ladd 1 49 := ⟨by decide +kernel, rfl⟩
theorem dX9_tellsWays_49 : AtI iX9_tellsWays 49 (.lstore 4) 2 51 := ⟨by decide +kernel, rfl⟩
theorem dX9_tellsWays_51 : AtI iX9_tellsWays 51 (.aload_n 0) 1 52 := ⟨by decide +kernel, rfl⟩
theorem dX9_tellsWays_52 : AtI iX9_tellsWays 52 (.iload_n 3) 1 53 := ⟨by decide +kernel, rfl⟩
theorem dX9_tellsWays_53 : AtI iX9_tellsWays 53 (.iconst 0) 1 54 := ⟨by decide +kernel, rfl⟩
theorem dX9_tellsWays_54 : AtI iX9_tellsWays 54 (.bipush 30) 2 56 := ⟨by decide +kernel, rfl⟩
theorem dX9_tellsWays_56 : AtI iX9_tellsWays 56 (.invokevirtual 260) 3 59 := ⟨by decide +kernel, rfl⟩
theorem dX9_tellsWays_59 : AtI iX9_tellsWays 59 (.bipush (-4)) 2 61 := ⟨by decide +kernel, rfl⟩
theorem dX9_tellsWays_61 : AtI iX9_tellsWays 61 (.istore 6) 2 63 := ⟨by decide +kernel, rfl⟩
theorem dX9_tellsWays_63 : AtI iX9_tellsWays 63 (.iload 6) 2 65 := ⟨by decide +kernel, rfl⟩
theorem dX9_tellsWays_65 : AtI iX9_tellsWays 65 (.iconst (-1)) 1 66 := ⟨by decide +kernel, rfl⟩
theorem dX9_tellsWays_66 : AtJ iX9_tellsWays 66 (.if_icmp .ge 25) 25 69 91 := ⟨by decide +kernel, rfl, by decide⟩
theorem dX9_tellsWays_69 : AtI iX9_tellsWays 69 (.ldc2_w 295) 3 72 := ⟨by decide +kernel, rfl⟩
theorem dX9_tellsWays_72 : AtI iX9_tellsWays 72 (.lload 4) 2 74 := ⟨by decide +kernel, rfl⟩
theorem dX9_tellsWays_74 : AtI iX9_tellsWays 74 .lmul 1 75 := ⟨by decide +kernel, rfl⟩
theorem dX9_tellsWays_75 : AtI iX9_tellsWays 75 (.aload_n 0) 1 76 := ⟨by decide +kernel, rfl⟩
theorem dX9_tellsWays_76 : AtI iX9_tellsWays 76 (.iload 6) 2 78 := ⟨by decide +kernel, rfl⟩
theorem dX9_tellsWays_78 : AtI iX9_tellsWays 78 (.invokevirtual 264) 3 81 := ⟨by decide +kernel, rfl⟩
theorem dX9_tellsWays_81 : AtI iX9_tellsWays 81 .i2l 1 82 := ⟨by decide +kernel, rfl⟩
theorem dX9_tellsWays_82 : AtI iX9_tellsWays 82 .ladd 1 83 := ⟨by decide +kernel, rfl⟩
theorem dX9_tellsWays_83 : AtI iX9_tellsWays 83 (.lstore 4) 2 85 := ⟨by decide +kernel, rfl⟩
theorem dX9_tellsWays_85 : AtI iX9_tellsWays 85 (.iinc 6 1) 3 88 := ⟨by decide +kernel, rfl⟩
theorem dX9_tellsWays_88 : AtJ iX9_tellsWays 88 (.goto (-25)) (-25) 91 63 := ⟨by decide +kernel, rfl, by decide⟩
theorem dX9_tellsWays_91 : AtI iX9_tellsWays 91 (.ldc2_w 295) 3 94 := ⟨by decide +kernel, rfl⟩
theorem dX9_tellsWays_94 : AtI iX9_tellsWays 94 (.lload 4) 2 96 := ⟨by decide +kernel, rfl⟩
theorem dX9_tellsWays_96 : AtI iX9_tellsWays 96 .lmul 1 97 := ⟨by decide +kernel, rfl⟩
theorem dX9_tellsWays_97 : AtI iX9_tellsWays 97 (.aload_n 0) 1 98 := ⟨by decide +kernel, rfl⟩
theorem dX9_tellsWays_98 : AtI iX9_tellsWays 98 (.iconst 1) 1 99 := ⟨by decide +kernel, rfl⟩
theorem dX9_tellsWays_99 : AtI iX9_tellsWays 99 (.invokevirtual 264) 3 102 := ⟨by decide +kernel, rfl⟩
theorem dX9_tellsWays_102 : AtI iX9_tellsWays 102 .i2l 1 103 := ⟨by decide +kernel, rfl⟩
theorem dX9_tellsWays_103 : AtI iX9_tellsWays 103 .ladd 1 104 := ⟨by decide +kernel, rfl⟩
theorem dX9_tellsWays_104 : AtI iX9_tellsWays 104 .lreturn 1 105 := ⟨by decide +kernel, rfl⟩
theorem dX9_digest_0 : AtI iX9_digest 0 (.ldc2_w 297) 3 3 := ⟨by decide +kernel, rfl⟩
theorem dX9_digest_3 : AtI iX9_digest 3 (.lstore_n 1) 1 4 := ⟨by decide +kernel, rfl⟩
theorem dX9_digest_4 : AtI iX9_digest 4 (.iconst 0) 1 5 := ⟨by decide +kernel, rfl⟩
theorem dX9_digest_5 : AtI iX9_digest 5 (.istore_n 3) 1 6 := ⟨by decide +kernel, rfl⟩
theorem dX9_digest_6 : AtI iX9_digest 6 (.iload_n 3) 1 7 := ⟨by decide +kernel, rfl⟩
theorem dX9_digest_7 : AtI iX9_digest 7 (.bipush 8) 2 9 := ⟨by decide +kernel, rfl⟩
theorem dX9_digest_9 : AtJ iX9_digest 9 (.if_icmp .ge 22) 22 12 31 := ⟨by decide +kernel, rfl, by decide⟩
theorem dX9_digest_12 : AtI iX9_digest 12 (.ldc2_w 295) 3 15 := ⟨by decide +kernel, rfl⟩
theorem dX9_digest_15 : AtI iX9_digest 15 (.lload_n 1) 1 16 := ⟨by decide +kernel, rfl⟩
theorem dX9_digest_16 : AtI iX9_digest 16 .lmul 1 17 := ⟨by decide +kernel, rfl⟩
theorem dX9_digest_17 : AtI iX9_digest 17 (.aload_n 0) 1 18 := ⟨by decide +kernel, rfl⟩
theorem dX9_digest_18 : AtI iX9_digest 18 (.iload_n 3) 1 19 := ⟨by decide +kernel, rfl⟩
theorem dX9_digest_19 : AtI iX9_digest 19 (.invokevirtual 299) 3 22 := ⟨by decide +kernel, rfl⟩
theorem dX9_digest_22 : AtI iX9_digest 22 .i2l 1 23 := ⟨by decide +kernel, rfl⟩
theorem dX9_digest_23 : AtI iX9_digest 23 .ladd 1 24 := ⟨by decide +kernel, rfl⟩
theorem dX9_digest_24 : AtI iX9_digest 24 (.lstore_n 1) 1 25 := ⟨by decide +kernel, rfl⟩
theorem dX9_digest_25 : AtI iX9_digest 25 (.iinc 3 1) 3 28 := ⟨by decide +kernel, rfl⟩
theorem dX9_digest_28 : AtJ iX9_digest 28 (.goto (-22)) (-22) 31 6 := ⟨by decide +kernel, rfl, by decide⟩
theorem dX9_digest_31 : AtI iX9_digest 31 (.ldc2_w 295) 3 34 := ⟨by decide +kernel, rfl⟩
theorem dX9_digest_34 : AtI iX9_digest 34 (.lload_n 1) 1 35 := ⟨by decide +kernel, rfl⟩
theorem dX9_digest_35 : AtI iX9_digest 35 .lmul 1 36 := ⟨by decide +kernel, rfl⟩
theorem dX9_digest_36 : AtI iX9_digest 36 (.aload_n 0) 1 37 := ⟨by decide +kernel, rfl⟩
theorem dX9_digest_37 : AtI iX9_digest 37 (.invokevirtual 119) 3 40 := ⟨by decide +kernel, rfl⟩
theorem dX9_digest_40 : AtI iX9_digest 40 .i2l 1 41 := ⟨by decide +kernel, rfl⟩
theorem dX9_digest_41 : AtI iX9_digest 41 .ladd 1 42 := ⟨by decide +kernel, rfl⟩
theorem dX9_digest_42 : AtI iX9_digest 42 (.lstore_n 1) 1 43 := ⟨by decide +kernel, rfl⟩
theorem dX9_digest_43 : AtI iX9_digest 43 (.iconst 0) 1 44 := ⟨by decide +kernel, rfl⟩
theorem dX9_digest_44 : AtI iX9_digest 44 (.istore_n 3) 1 45 := ⟨by decide +kernel, rfl⟩
theorem dX9_digest_45 : AtI iX9_digest 45 (.iload_n 3) 1 46 := ⟨by decide +kernel, rfl⟩
theorem dX9_digest_46 : AtI iX9_digest 46 (.aload_n 0) 1 47 := ⟨by decide +kernel, rfl⟩
theorem dX9_digest_47 : AtI iX9_digest 47 (.getfield 106) 3 50 := ⟨by decide +kernel, rfl⟩
theorem dX9_digest_50 : AtJ iX9_digest 50 (.if_icmp .ge 43) 43 53 93 := ⟨by decide +kernel, rfl, by decide⟩
theorem dX9_digest_53 : AtI iX9_digest 53 (.iconst 0) 1 54 := ⟨by decide +kernel, rfl⟩
theorem dX9_digest_54 : AtI iX9_digest 54 (.istore 4) 2 56 := ⟨by decide +kernel, rfl⟩
theorem dX9_digest_56 : AtI iX9_digest 56 (.iload 4) 2 58 := ⟨by decide +kernel, rfl⟩
theorem dX9_digest_58 : AtI iX9_digest 58 (.iconst 3) 1 59 := ⟨by decide +kernel, rfl⟩
theorem dX9_digest_59 : AtJ iX9_digest 59 (.if_icmp .ge 28) 28 62 87 := ⟨by decide +kernel, rfl, by decide⟩
theorem dX9_digest_62 : AtI iX9_digest 62 (.ldc2_w 295) 3 65 := ⟨by decide +kernel, rfl⟩
theorem dX9_digest_65 : AtI iX9_digest 65 (.lload_n 1) 1 66 := ⟨by decide +kernel, rfl⟩
theorem dX9_digest_66 : AtI iX9_digest 66 .lmul 1 67 := ⟨by decide +kernel, rfl⟩
theorem dX9_digest_67 : AtI iX9_digest 67 (.aload_n 0) 1 68 := ⟨by decide +kernel, rfl⟩
theorem dX9_digest_68 : AtI iX9_digest 68 (.getfield 25) 3 71 := ⟨by decide +kernel, rfl⟩
theorem dX9_digest_71 : AtI iX9_digest 71 (.iconst 3) 1 72 := ⟨by decide +kernel, rfl⟩
theorem dX9_digest_72 : AtI iX9_digest 72 (.iload_n 3) 1 73 := ⟨by decide +kernel, rfl⟩
theorem dX9_digest_73 : AtI iX9_digest 73 .imul 1 74 := ⟨by decide +kernel, rfl⟩
theorem dX9_digest_74 : AtI iX9_digest 74 (.iload 4) 2 76 := ⟨by decide +kernel, rfl⟩
theorem dX9_digest_76 : AtI iX9_digest 76 .iadd 1 77 := ⟨by decide +kernel, rfl⟩
theorem dX9_digest_77 : AtI iX9_digest 77 .iaload 1 78 := ⟨by decide +kernel, rfl⟩
theorem dX9_digest_78 : AtI iX9_digest 78 .i2l 1 79 := ⟨by decide +kernel, rfl⟩
theorem dX9_digest_79 : AtI iX9_digest 79 .ladd 1 80 := ⟨by decide +kernel, rfl⟩
theorem dX9_digest_80 : AtI iX9_digest 80 (.lstore_n 1) 1 81 := ⟨by decide +kernel, rfl⟩
theorem dX9_digest_81 : AtI iX9_digest 81 (.iinc 4 1) 3 84 := ⟨by decide +kernel, rfl⟩
theorem dX9_digest_84 : AtJ iX9_digest 84 (.goto (-28)) (-28) 87 56 := ⟨by decide +kernel, rfl, by decide⟩
theorem dX9_digest_87 : AtI iX9_digest 87 (.iinc 3 1) 3 90 := ⟨by decide +kernel, rfl⟩
theorem dX9_digest_90 : AtJ iX9_digest 90 (.goto (-45)) (-45) 93 45 := ⟨by decide +kernel, rfl, by decide⟩
theorem dX9_digest_93 : AtI iX9_digest 93 (.iconst 0) 1 94 := ⟨by decide +kernel, rfl⟩
theorem dX9_digest_94 : AtI iX9_digest 94 (.istore_n 3) 1 95 := ⟨by decide +kernel, rfl⟩
theorem dX9_digest_95 : AtI iX9_digest 95 (.iload_n 3) 1 96 := ⟨by decide +kernel, rfl⟩
theorem dX9_digest_96 : AtI iX9_digest 96 (.bipush 8) 2 98 := ⟨by decide +kernel, rfl⟩
theorem dX9_digest_98 : AtJ iX9_digest 98 (.if_icmp .ge 16) 16 101 114 := ⟨by decide +kernel, rfl, by decide⟩
theorem dX9_digest_101 : AtI iX9_digest 101 (.aload_n 0) 1 102 := ⟨by decide +kernel, rfl⟩
theorem dX9_digest_102 : AtI iX9_digest 102 (.lload_n 1) 1 103 := ⟨by decide +kernel, rfl⟩
theorem dX9_digest_103 : AtI iX9_digest 103 (.iload_n 3) 1 104 := ⟨by decide +kernel, rfl⟩
theorem dX9_digest_104 : AtI iX9_digest 104 (.invokevirtual 302) 3 107 := ⟨by decide +kernel, rfl⟩
theorem dX9_digest_107 : AtI iX9_digest 107 (.lstore_n 1) 1 108 := ⟨by decide +kernel, rfl⟩
theorem dX9_digest_108 : AtI iX9_digest 108 (.iinc 3 1) 3 111 := ⟨by decide +kernel, rfl⟩
theorem dX9_digest_111 : AtJ iX9_digest 111 (.goto (-16)) (-16) 114 95 := ⟨by decide +kernel, rfl, by decide⟩
theorem dX9_digest_114 : AtI iX9_digest 114 (.iconst 1) 1 115 := ⟨by decide +kernel, rfl⟩
theorem dX9_digest_115 : AtI iX9_digest 115 (.istore_n 3) 1 116 := ⟨by decide +kernel, rfl⟩
theorem dX9_digest_116 : AtI iX9_digest 116 (.iload_n 3) 1 117 := ⟨by decide +kernel, rfl⟩
theorem dX9_digest_117 : AtI iX9_digest 117 (.bipush 8) 2 119 := ⟨by decide +kernel, rfl⟩
theorem dX9_digest_119 : AtJ iX9_digest 119 (.if_icmp .ge 16) 16 122 135 := ⟨by decide +kernel, rfl, by decide⟩
theorem dX9_digest_122 : AtI iX9_digest 122 (.aload_n 0) 1 123 := ⟨by decide +kernel, rfl⟩
theorem dX9_digest_123 : AtI iX9_digest 123 (.lload_n 1) 1 124 := ⟨by decide +kernel, rfl⟩
theorem dX9_digest_124 : AtI iX9_digest 124 (.iload_n 3) 1 125 := ⟨by decide +kernel, rfl⟩
theorem dX9_digest_125 : AtI iX9_digest 125 (.invokevirtual 306) 3 128 := ⟨by decide +kernel, rfl⟩
theorem dX9_digest_128 : AtI iX9_digest 128 (.lstore_n 1) 1 129 := ⟨by decide +kernel, rfl⟩
theorem dX9_digest_129 : AtI iX9_digest 129 (.iinc 3 1) 3 132 := ⟨by decide +kernel, rfl⟩
theorem dX9_digest_132 : AtJ iX9_digest 132 (.goto (-16)) (-16) 135 116 := ⟨by decide +kernel, rfl, by decide⟩
theorem dX9_digest_135 : AtI iX9_digest 135 (.iconst 0) 1 136 := ⟨by decide +kernel, rfl⟩
theorem dX9_digest_136 : AtI iX9_digest 136 (.istore_n 3) 1 137 := ⟨by decide +kernel, rfl⟩
theorem dX9_digest_137 : AtI iX9_digest 137 (.iload_n 3) 1 138 := ⟨by decide +kernel, rfl⟩
theorem dX9_digest_138 : AtI iX9_digest 138 (.bipush 16) 2 140 := ⟨by decide +kernel, rfl⟩
theorem dX9_digest_140 : AtJ iX9_digest 140 (.if_icmp .ge 38) 38 143 178 := ⟨by decide +kernel, rfl, by decide⟩
theorem dX9_digest_143 : AtI iX9_digest 143 (.ldc2_w 295) 3 146 := ⟨by decide +kernel, rfl⟩
theorem dX9_digest_146 : AtI iX9_digest 146 (.lload_n 1) 1 147 := ⟨by decide +kernel, rfl⟩
theorem dX9_digest_147 : AtI iX9_digest 147 .lmul 1 148 := ⟨by decide +kernel, rfl⟩
theorem dX9_digest_148 : AtI iX9_digest 148 (.aload_n 0) 1 149 := ⟨by decide +kernel, rfl⟩
theorem dX9_digest_149 : AtI iX9_digest 149 (.bipush 30) 2 151 := ⟨by decide +kernel, rfl⟩
theorem dX9_digest_151 : AtI iX9_digest 151 (.iconst 0) 1 152 := ⟨by decide +kernel, rfl⟩
theorem dX9_digest_152 : AtI iX9_digest 152 (.iload_n 3) 1 153 := ⟨by decide +kernel, rfl⟩
theorem dX9_digest_153 : AtI iX9_digest 153 (.iconst 4) 1 154 := ⟨by decide +kernel, rfl⟩
theorem dX9_digest_154 : AtI iX9_digest 154 .idiv 1 155 := ⟨by decide +kernel, rfl⟩
theorem dX9_digest_155 : AtI iX9_digest 155 (.iload_n 3) 1 156 := ⟨by decide +kernel, rfl⟩
theorem dX9_digest_156 : AtI iX9_digest 156 (.iconst 4) 1 157 := ⟨by decide +kernel, rfl⟩
theorem dX9_digest_157 : AtI iX9_digest 157 .irem 1 158 := ⟨by decide +kernel, rfl⟩
theorem dX9_digest_158 : AtI iX9_digest 158 (.invokevirtual 172) 3 161 := ⟨by decide +kernel, rfl⟩
theorem dX9_digest_161 : AtJ iX9_digest 161 (.ifCond .eq 7) 7 164 168 := ⟨by decide +kernel, rfl, by decide⟩
theorem dX9_digest_164 : AtI iX9_digest 164 (.iconst 1) 1 165 := ⟨by decide +kernel, rfl⟩
theorem dX9_digest_165 : AtJ iX9_digest 165 (.goto 4) 4 168 169 := ⟨by decide +kernel, rfl, by decide⟩
theorem dX9_digest_168 : AtI iX9_digest 168 (.iconst 0) 1 169 := ⟨by decide +kernel, rfl⟩
theorem dX9_digest_169 : AtI iX9_digest 169 .i2l 1 170 := ⟨by decide +kernel, rfl⟩
theorem dX9_digest_170 : AtI iX9_digest 170 .ladd 1 171 := ⟨by decide +kernel, rfl⟩
theorem dX9_digest_171 : AtI iX9_digest 171 (.lstore_n 1) 1 172 := ⟨by decide +kernel, rfl⟩
theorem dX9_digest_172 : AtI iX9_digest 172 (.iinc 3 1) 3 175 := ⟨by decide +kernel, rfl⟩
theorem dX9_digest_175 : AtJ iX9_digest 175 (.goto (-38)) (-38) 178 137 := ⟨by decide +kernel, rfl, by decide⟩
theorem dX9_digest_178 : AtI iX9_digest 178 (.iconst 1) 1 179 := ⟨by decide +kernel, rfl⟩
theorem dX9_digest_179 : AtI iX9_digest 179 (.istore_n 3) 1 180 := ⟨by decide +kernel, rfl⟩
theorem dX9_digest_180 : AtI iX9_digest 180 (.iload_n 3) 1 181 := ⟨by decide +kernel, rfl⟩
theorem dX9_digest_181 : AtI iX9_digest 181 (.iconst 4) 1 182 := ⟨by decide +kernel, rfl⟩
theorem dX9_digest_182 : AtJ iX9_digest 182 (.if_icmp .ge 23) 23 185 205 := ⟨by decide +kernel, rfl, by decide⟩
theorem dX9_digest_185 : AtI iX9_digest 185 (.ldc2_w 295) 3 188 := ⟨by decide +kernel, rfl⟩
theorem dX9_digest_188 : AtI iX9_digest 188 (.lload_n 1) 1 189 := ⟨by decide +kernel, rfl⟩
theorem dX9_digest_189 : AtI iX9_digest 189 .lmul 1 190 := ⟨by decide +kernel, rfl⟩
theorem dX9_digest_190 : AtI iX9_digest 190 (.aload_n 0) 1 191 := ⟨by decide +kernel, rfl⟩
theorem dX9_digest_191 : AtI iX9_digest 191 (.iconst 0) 1 192 := ⟨by decide +kernel, rfl⟩
theorem dX9_digest_192 : AtI iX9_digest 192 (.iload_n 3) 1 193 := ⟨by decide +kernel, rfl⟩
theorem dX9_digest_193 : AtI iX9_digest 193 (.invokevirtual 185) 3 196 := ⟨by decide +kernel, rfl⟩
theorem dX9_digest_196 : AtI iX9_digest 196 .i2l 1 197 := ⟨by decide +kernel, rfl⟩
theorem dX9_digest_197 : AtI iX9_digest 197 .ladd 1 198 := ⟨by decide +kernel, rfl⟩
theorem dX9_digest_198 : AtI iX9_digest 198 (.lstore_n 1) 1 199 := ⟨by decide +kernel, rfl⟩
theorem dX9_digest_199 : AtI iX9_digest 199 (.iinc 3 1) 3 202 := ⟨by decide +kernel, rfl⟩
theorem dX9_digest_202 : AtJ iX9_digest 202 (.goto (-22)) (-22) 205 180 := ⟨by decide +kernel, rfl, by decide⟩
theorem dX9_digest_205 : AtI iX9_digest 205 (.iconst 0) 1 206 := ⟨by decide +kernel, rfl⟩
theorem dX9_digest_206 : AtI iX9_digest 206 (.istore_n 3) 1 207 := ⟨by decide +kernel, rfl⟩
theorem dX9_digest_207 : AtI iX9_digest 207 (.iload_n 3) 1 208 := ⟨by decide +kernel, rfl⟩
theorem dX9_digest_208 : AtI iX9_digest 208 (.iconst 3) 1 209 := ⟨by decide +kernel, rfl⟩
theorem dX9_digest_209 : AtJ iX9_digest 209 (.if_icmp .ge 22) 22 212 231 := ⟨by decide +kernel, rfl, by decide⟩
theorem dX9_digest_212 : AtI iX9_digest 212 (.ldc2_w 295) 3 215 := ⟨by decide +kernel, rfl⟩
theorem dX9_digest_215 : AtI iX9_digest 215 (.lload_n 1) 1 216 := ⟨by decide +kernel, rfl⟩
theorem dX9_digest_216 : AtI iX9_digest 216 .lmul 1 217 := ⟨by decide +kernel, rfl⟩
theorem dX9_digest_217 : AtI iX9_digest 217 (.aload_n 0) 1 218 := ⟨by decide +kernel, rfl⟩
theorem dX9_digest_218 : AtI iX9_digest 218 (.iload_n 3) 1 219 := ⟨by decide +kernel, rfl⟩
theorem dX9_digest_219 : AtI iX9_digest 219 (.invokevirtual 270) 3 222 := ⟨by decide +kernel, rfl⟩
theorem dX9_digest_222 : AtI iX9_digest 222 .i2l 1 223 := ⟨by decide +kernel, rfl⟩
theorem dX9_digest_223 : AtI iX9_digest 223 .ladd 1 224 := ⟨by decide +kernel, rfl⟩
theorem dX9_digest_224 : AtI iX9_digest 224 (.lstore_n 1) 1 225 := ⟨by decide +kernel, rfl⟩
theorem dX9_digest_225 : AtI iX9_digest 225 (.iinc 3 1) 3 228 := ⟨by decide +kernel, rfl⟩
theorem dX9_digest_228 : AtJ iX9_digest 228 (.goto (-21)) (-21) 231 207 := ⟨by decide +kernel, rfl, by decide⟩
theorem dX9_digest_231 : AtI iX9_digest 231 (.iconst 0) 1 232 := ⟨by decide +kernel, rfl⟩
theorem dX9_digest_232 : AtI iX9_digest 232 (.istore_n 3) 1 233 := ⟨by decide +kernel, rfl⟩
theorem dX9_digest_233 : AtI iX9_digest 233 (.iload_n 3) 1 234 := ⟨by decide +kernel, rfl⟩
theorem dX9_digest_234 : AtI iX9_digest 234 (.iconst 3) 1 235 := ⟨by decide +kernel, rfl⟩
theorem dX9_digest_235 : AtJ iX9_digest 235 (.if_icmp .ge 22) 22 238 257 := ⟨by decide +kernel, rfl, by decide⟩
theorem dX9_digest_238 : AtI iX9_digest 238 (.ldc2_w 295) 3 241 := ⟨by decide +kernel, rfl⟩
theorem dX9_digest_241 : AtI iX9_digest 241 (.lload_n 1) 1 242 := ⟨by decide +kernel, rfl⟩
theorem dX9_digest_242 : AtI iX9_digest 242 .lmul 1 243 := ⟨by decide +kernel, rfl⟩
theorem dX9_digest_243 : AtI iX9_digest 243 (.aload_n 0) 1 244 := ⟨by decide +kernel, rfl⟩
theorem dX9_digest_244 : AtI iX9_digest 244 (.iload_n 3) 1 245 := ⟨by decide +kernel, rfl⟩
theorem dX9_digest_245 : AtI iX9_digest 245 (.invokevirtual 282) 3 248 := ⟨by decide +kernel, rfl⟩
theorem dX9_digest_248 : AtI iX9_digest 248 .i2l 1 249 := ⟨by decide +kernel, rfl⟩
theorem dX9_digest_249 : AtI iX9_digest 249 .ladd 1 250 := ⟨by decide +kernel, rfl⟩
theorem dX9_digest_250 : AtI iX9_digest 250 (.lstore_n 1) 1 251 := ⟨by decide +kernel, rfl⟩
theorem dX9_digest_251 : AtI iX9_digest 251 (.iinc 3 1) 3 254 := ⟨by decide +kernel, rfl⟩
theorem dX9_digest_254 : AtJ iX9_digest 254 (.goto (-21)) (-21) 257 233 := ⟨by decide +kernel, rfl, by decide⟩
theorem dX9_digest_257 : AtI iX9_digest 257 (.ldc2_w 295) 3 260 := ⟨by decide +kernel, rfl⟩
theorem dX9_digest_260 : AtI iX9_digest 260 (.lload_n 1) 1 261 := ⟨by decide +kernel, rfl⟩
theorem dX9_digest_261 : AtI iX9_digest 261 .lmul 1 262 := ⟨by decide +kernel, rfl⟩
theorem dX9_digest_262 : AtI iX9_digest 262 (.aload_n 0) 1 263 := ⟨by decide +kernel, rfl⟩
theorem dX9_digest_263 : AtI iX9_digest 263 (.invokevirtual 288) 3 266 := ⟨by decide +kernel, rfl⟩
theorem dX9_digest_266 : AtI iX9_digest 266 .i2l 1 267 := ⟨by decide +kernel, rfl⟩
theorem dX9_digest_267 : AtI iX9_digest 267 .ladd 1 268 := ⟨by decide +kernel, rfl⟩
theorem dX9_digest_268 : AtI iX9_digest 268 .lreturn 1 269 := ⟨by decide +kernel, rfl⟩
end
section
/-! more rows of Gj: locals forgotten, longs compared, small switches; ends of readers -/
section GM
variable {l : Launch} {x : Cx} {y : MI} {d mc ms nf : Nat} {Q : QT} {kc ks n : Nat} {w : AW} {pc nx tg nx2 : Nat} {t L : List (Option AV)} {S : List AV}
theorem gj_dr0 {a0 : Option AV} (k : Gj l x y d mc ms nf Q kc ks n w pc (none :: t) S) : Gj l x y d mc ms nf Q kc ks n w pc (a0 :: t) S := gj_loc (fun i v h => by
  match i, h with
  | 0, h => exact absurd h (by simp [lk])
  | q + 1, h => exact h) k
theorem gj_dr1 {a0 a1 : Option AV} (k : Gj l x y d mc ms nf Q kc ks n w pc (a0 :: none :: t) S) : Gj l x y d mc ms nf Q kc ks n w pc (a0 :: a1 :: t) S := gj_loc (fun i v h => by
  match i, h with
  | 0, h => exact h
  | 1, h => exact absurd h (by simp [lk])
  | q + 2, h => exact h) k
theorem gj_dr2 {a0 a1 a2 : Option AV} (k : Gj l x y d mc ms nf Q kc ks n w pc (a0 :: a1 :: none :: t) S) : Gj l x y d mc ms nf Q kc ks n w pc (a0 :: a1 :: a2 :: t) S := gj_loc (fun i v h => by
  match i, h with
  | 0, h => exact h
  | 1, h => exact h
  | 2, h => exact absurd h (by simp [lk])
  | q + 3, h => exact h) k
theorem gj_dr3 {a0 a1 a2 a3 : Option AV} (k : Gj l x y d mc ms nf Q kc ks n w pc (a0 :: a1 :: a2 :: none :: t) S) : Gj l x y d mc ms nf Q kc ks n w pc (a0 :: a1 :: a2 :: a3 :: t) S := gj_loc (fun i v h => by
  match i, h with
  | 0, h => exact h
  | 1, h => exact h
  | 2, h => exact h
  | 3, h => exact absurd h (by simp [lk])
  | q + 4, h => exact h) k
theorem gj_dr4 {a0 a1 a2 a3 a4 : Option AV} (k : Gj l x y d mc ms nf Q kc ks n w pc (a0 :: a1 :: a2 :: a3 :: none :: t) S) : Gj l x y d mc ms nf Q kc ks n w pc (a0 :: a1 :: a2 :: a3 :: a4 :: t) S := gj_loc (fun i v h => by
  match i, h with
  | 0, h => exact h
  | 1, h => exact h
  | 2, h => exact h
  | 3, h => exact h
  | 4, h => exact absurd h (by simp [lk])
  | q + 5, h => exact h) k
theorem gj_dr5 {a0 a1 a2 a3 a4 a5 : Option AV} (k : Gj l x y d mc ms nf Q kc ks n w pc (a0 :: a1 :: a2 :: a3 :: a4 :: none :: t) S) : Gj l x y d mc ms nf Q kc ks n w pc (a0 :: a1 :: a2 :: a3 :: a4 :: a5 :: t) S := gj_loc (fun i v h => by
  match i, h with
  | 0, h => exact h
  | 1, h => exact h
  | 2, h => exact h
  | 3, h => exact h
  | 4, h => exact h
  | 5, h => exact absurd h (by simp [lk])
  | q + 6, h => exact h) k
theorem gj_dr6 {a0 a1 a2 a3 a4 a5 a6 : Option AV} (k : Gj l x y d mc ms nf Q kc ks n w pc (a0 :: a1 :: a2 :: a3 :: a4 :: a5 :: none :: t) S) : Gj l x y d mc ms nf Q kc ks n w pc (a0 :: a1 :: a2 :: a3 :: a4 :: a5 :: a6 :: t) S := gj_loc (fun i v h => by
  match i, h with
  | 0, h => exact h
  | 1, h => exact h
  | 2, h => exact h
  | 3, h => exact h
  | 4, h => exact h
  | 5, h => exact h
  | 6, h => exact absurd h (by simp [lk])
  | q + 7, h => exact h) k
theorem gj_dr7 {a0 a1 a2 a3 a4 a5 a6 a7 : Option AV} (k : Gj l x y d mc ms nf Q kc ks n w pc (a0 :: a1 :: a2 :: a3 :: a4 :: a5 :: a6 :: none :: t) S) : Gj l x y d mc ms nf Q kc ks n w pc (a0 :: a1 :: a2 :: a3 :: a4 :: a5 :: a6 :: a7 :: t) S := gj_loc (fun i v h => by
  match i, h with
  | 0, h => exact h
  | 1, h => exact h
  | 2, h => exact h
  | 3, h => exact h
  | 4, h => exact h
  | 5, h => exact h
  | 6, h => exact h
  | 7, h => exact absurd h (by simp [lk])
  | q + 8, h => exact h) k
theorem gj_dr8 {a0 a1 a2 a3 a4 a5 a6 a7 a8 : Option AV} (k : Gj l x y d mc ms nf Q kc ks n w pc (a0 :: a1 :: a2 :: a3 :: a4 :: a5 :: a6 :: a7 :: none :: t) S) : Gj l x y d mc ms nf Q kc ks n w pc (a0 :: a1 :: a2 :: a3 :: a4 :: a5 :: a6 :: a7 :: a8 :: t) S := gj_loc (fun i v h => by
  match i, h with
  | 0, h => exact h
  | 1, h => exact h
  | 2, h => exact h
  | 3, h => exact h
  | 4, h => exact h
  | 5, h => exact h
  | 6, h => exact h
  | 7, h => exact h
  | 8, h => exact absurd h (by simp [lk])
  | q + 9, h => exact h) k
theorem gj_dr9 {a0 a1 a2 a3 a4 a5 a6 a7 a8 a9 : Option AV} (k : Gj l x y d mc ms nf Q kc ks n w pc (a0 :: a1 :: a2 :: a3 :: a4 :: a5 :: a6 :: a7 :: a8 :: none :: t) S) : Gj l x y d mc ms nf Q kc ks n w pc (a0 :: a1 :: a2 :: a3 :: a4 :: a5 :: a6 :: a7 :: a8 :: a9 :: t) S := gj_loc (fun i v h => by
  match i, h with
  | 0, h => exact h
  | 1, h => exact h
  | 2, h => exact h
  | 3, h => exact h
  | 4, h => exact h
  | 5, h => exact h
  | 6, h => exact h
  | 7, h => exact h
  | 8, h => exact h
  | 9, h => exact absurd h (by simp [lk])
  | q + 10, h => exact h) k
theorem gj_dr10 {a0 a1 a2 a3 a4 a5 a6 a7 a8 a9 a10 : Option AV} (k : Gj l x y d mc ms nf Q kc ks n w pc (a0 :: a1 :: a2 :: a3 :: a4 :: a5 :: a6 :: a7 :: a8 :: a9 :: none :: t) S) : Gj l x y d mc ms nf Q kc ks n w pc (a0 :: a1 :: a2 :: a3 :: a4 :: a5 :: a6 :: a7 :: a8 :: a9 :: a10 :: t) S := gj_loc (fun i v h => by
  match i, h with
  | 0, h => exact h
  | 1, h => exact h
  | 2, h => exact h
  | 3, h => exact h
  | 4, h => exact h
  | 5, h => exact h
  | 6, h => exact h
  | 7, h => exact h
  | 8, h => exact h
  | 9, h => exact h
  | 10, h => exact absurd h (by simp [lk])
  | q + 11, h => exact h) k
theorem gj_dr11 {a0 a1 a2 a3 a4 a5 a6 a7 a8 a9 a10 a11 : Option AV} (k : Gj l x y d mc ms nf Q kc ks n w pc (a0 :: a1 :: a2 :: a3 :: a4 :: a5 :: a6 :: a7 :: a8 :: a9 :: a10 :: none :: t) S) : Gj l x y d mc ms nf Q kc ks n w pc (a0 :: a1 :: a2 :: a3 :: a4 :: a5 :: a6 :: a7 :: a8 :: a9 :: a10 :: a11 :: t) S := gj_loc (fun i v h => by
  match i, h with
  | 0, h => exact h
  | 1, h => exact h
  | 2, h => exact h
  | 3, h => exact h
  | 4, h => exact h
  | 5, h => exact h
  | 6, h => exact h
  | 7, h => exact h
  | 8, h => exact h
  | 9, h => exact h
  | 10, h => exact h
  | 11, h => exact absurd h (by simp [lk])
  | q + 12, h => exact h) k
theorem gj_dr12 {a0 a1 a2 a3 a4 a5 a6 a7 a8 a9 a10 a11 a12 : Option AV} (k : Gj l x y d mc ms nf Q kc ks n w pc (a0 :: a1 :: a2 :: a3 :: a4 :: a5 :: a6 :: a7 :: a8 :: a9 :: a10 :: a11 :: none :: t) S) : Gj l x y d mc ms nf Q kc ks n w pc (a0 :: a1 :: a2 :: a3 :: a4 :: a5 :: a6 :: a7 :: a8 :: a9 :: a10 :: a11 :: a12 :: t) S := gj_loc (fun i v h => by
  match i, h with
  | 0, h => exact h
  | 1, h => exact h
  | 2, h => exact h
  | 3, h => exact h
  | 4, h => exact h
  | 5, h => exact h
  | 6, h => exact h
  | 7, h => exact h
  | 8, h => exact h
  | 9, h => exact h
  | 10, h => exact h
  | 11, h => exact h
  | 12, h => exact absurd h (by simp [lk])
  | q + 13, h => exact h) k
theorem gj_lc_lt {a b off : Int} (dg : AtI y pc .lcmp 1 nx) (dh : AtJ y nx (.ifCond .lt off) off nx2 tg) (ha : R64 a) (hb : R64 b) (kt : a < b → Gj l x y d mc ms nf Q kc ks n w tg L S) (kf : ¬ (a < b) → Gj l x y d mc ms nf Q kc ks n w nx2 L S) : Gj l x y d mc ms nf Q kc ks n w pc L (vL b :: vL a :: S) := by
  have e : (cmpL a b < 0) ↔ (a < b) := by unfold cmpL; (repeat' split) <;> constructor <;> intro h <;> omega
  exact gj_lcmp dg ha hb (gj_if_lt dh (by unfold cmpL; (repeat' split) <;> omega) (fun h => kt (e.mp h)) (fun h => kf (fun q => h (e.mpr q))))
theorem gj_lc_gt {a b off : Int} (dg : AtI y pc .lcmp 1 nx) (dh : AtJ y nx (.ifCond .gt off) off nx2 tg) (ha : R64 a) (hb : R64 b) (kt : b < a → Gj l x y d mc ms nf Q kc ks n w tg L S) (kf : ¬ (b < a) → Gj l x y d mc ms nf Q kc ks n w nx2 L S) : Gj l x y d mc ms nf Q kc ks n w pc L (vL b :: vL a :: S) := by
  have e : (0 < cmpL a b) ↔ (b < a) := by unfold cmpL; (repeat' split) <;> constructor <;> intro h <;> omega
  exact gj_lcmp dg ha hb (gj_if_gt dh (by unfold cmpL; (repeat' split) <;> omega) (fun h => kt (e.mp h)) (fun h => kf (fun q => h (e.mpr q))))
theorem gj_lc_le {a b off : Int} (dg : AtI y pc .lcmp 1 nx) (dh : AtJ y nx (.ifCond .le off) off nx2 tg) (ha : R64 a) (hb : R64 b) (kt : a ≤ b → Gj l x y d mc ms nf Q kc ks n w tg L S) (kf : ¬ (a ≤ b) → Gj l x y d mc ms nf Q kc ks n w nx2 L S) : Gj l x y d mc ms nf Q kc ks n w pc L (vL b :: vL a :: S) := by
  have e : (cmpL a b ≤ 0) ↔ (a ≤ b) := by unfold cmpL; (repeat' split) <;> constructor <;> intro h <;> omega
  exact gj_lcmp dg ha hb (gj_if_le dh (by unfold cmpL; (repeat' split) <;> omega) (fun h => kt (e.mp h)) (fun h => kf (fun q => h (e.mpr q))))
theorem gj_lc_ge {a b off : Int} (dg : AtI y pc .lcmp 1 nx) (dh : AtJ y nx (.ifCond .ge off) off nx2 tg) (ha : R64 a) (hb : R64 b) (kt : b ≤ a → Gj l x y d mc ms nf Q kc ks n w tg L S) (kf : ¬ (b ≤ a) → Gj l x y d mc ms nf Q kc ks n w nx2 L S) : Gj l x y d mc ms nf Q kc ks n w pc L (vL b :: vL a :: S) := by
  have e : (0 ≤ cmpL a b) ↔ (b ≤ a) := by unfold cmpL; (repeat' split) <;> constructor <;> intro h <;> omega
  exact gj_lcmp dg ha hb (gj_if_ge dh (by unfold cmpL; (repeat' split) <;> omega) (fun h => kt (e.mp h)) (fun h => kf (fun q => h (e.mpr q))))
theorem gj_tsw3 {z dflt o0 o1 o2 : Int} {t0 t1 t2 td len : Nat} (dg : decode y.2.1 pc = .ok (.tableswitch dflt 0 2 #[o0, o1, o2], len)) (hr : R32 z) (h0 : (pc : Int) + o0 = (t0 : Int)) (h1 : (pc : Int) + o1 = (t1 : Int)) (h2 : (pc : Int) + o2 = (t2 : Int)) (hd : (pc : Int) + dflt = (td : Int)) (k0 : z = 0 → Gj l x y d mc ms nf Q kc ks n w t0 L S) (k1 : z = 1 → Gj l x y d mc ms nf Q kc ks n w t1 L S) (k2 : z = 2 → Gj l x y d mc ms nf Q kc ks n w t2 L S) (kd : z < 0 ∨ 2 < z → Gj l x y d mc ms nf Q kc ks n w td L S) : Gj l x y d mc ms nf Q kc ks n w pc L (vI z :: S) := by
  by_cases c0 : z = 0
  · exact gj_tswI dg 0 hr (by omega) (by omega) rfl h0 (k0 c0)
  by_cases c1 : z = 1
  · exact gj_tswI dg 1 hr (by omega) (by omega) rfl h1 (k1 c1)
  by_cases c2 : z = 2
  · exact gj_tswI dg 2 hr (by omega) (by omega) rfl h2 (k2 c2)
  exact gj_tswO dg hr (by omega) hd (kd (by omega))
theorem gj_tsw9 {z dflt o0 o1 o2 o3 o4 o5 o6 o7 o8 : Int} {t0 t1 t2 t3 t4 t5 t6 t7 t8 td len : Nat} (dg : decode y.2.1 pc = .ok (.tableswitch dflt 0 8 #[o0, o1, o2, o3, o4, o5, o6, o7, o8], len)) (hr : R32 z) (h0 : (pc : Int) + o0 = (t0 : Int)) (h1 : (pc : Int) + o1 = (t1 : Int)) (h2 : (pc : Int) + o2 = (t2 : Int)) (h3 : (pc : Int) + o3 = (t3 : Int)) (h4 : (pc : Int) + o4 = (t4 : Int)) (h5 : (pc : Int) + o5 = (t5 : Int)) (h6 : (pc : Int) + o6 = (t6 : Int)) (h7 : (pc : Int) + o7 = (t7 : Int)) (h8 : (pc : Int) + o8 = (t8 : Int)) (hd : (pc : Int) + dflt = (td : Int)) (k0 : z = 0 → Gj l x y d mc ms nf Q kc ks n w t0 L S) (k1 : z = 1 → Gj l x y d mc ms nf Q kc ks n w t1 L S) (k2 : z = 2 → Gj l x y d mc ms nf Q kc ks n w t2 L S) (k3 : z = 3 → Gj l x y d mc ms nf Q kc ks n w t3 L S) (k4 : z = 4 → Gj l x y d mc ms nf Q kc ks n w t4 L S) (k5 : z = 5 → Gj l x y d mc ms nf Q kc ks n w t5 L S) (k6 : z = 6 → Gj l x y d mc ms nf Q kc ks n w t6 L S) (k7 : z = 7 → Gj l x y d mc ms nf Q kc ks n w t7 L S) (k8 : z = 8 → Gj l x y d mc ms nf Q kc ks n w t8 L S) (kd : z < 0 ∨ 8 < z → Gj l x y d mc ms nf Q kc ks n w td L S) : Gj l x y d mc ms nf Q kc ks n w pc L (vI z :: S) := by
  by_cases c0 : z = 0
  · exact gj_tswI dg 0 hr (by omega) (by omega) rfl h0 (k0 c0)
  by_cases c1 : z = 1
  · exact gj_tswI dg 1 hr (by omega) (by omega) rfl h1 (k1 c1)
  by_cases c2 : z = 2
  · exact gj_tswI dg 2 hr (by omega) (by omega) rfl h2 (k2 c2)
  by_cases c3 : z = 3
  · exact gj_tswI dg 3 hr (by omega) (by omega) rfl h3 (k3 c3)
  by_cases c4 : z = 4
  · exact gj_tswI dg 4 hr (by omega) (by omega) rfl h4 (k4 c4)
  by_cases c5 : z = 5
  · exact gj_tswI dg 5 hr (by omega) (by omega) rfl h5 (k5 c5)
  by_cases c6 : z = 6
  · exact gj_tswI dg 6 hr (by omega) (by omega) rfl h6 (k6 c6)
  by_cases c7 : z = 7
  · exact gj_tswI dg 7 hr (by omega) (by omega) rfl h7 (k7 c7)
  by_cases c8 : z = 8
  · exact gj_tswI dg 8 hr (by omega) (by omega) rfl h8 (k8 c8)
  exact gj_tswO dg hr (by omega) hd (kd (by omega))
theorem rd_i {a b : Int} (h : a = b) : Rd (vI b) w (some (vI a)) w := ⟨by rw [h], rfl⟩
theorem rd_l {a b : Int} (h : a = b) : Rd (vL b) w (some (vL a)) w := ⟨by rw [h], rfl⟩
theorem wr_i {a b : Int} {P : AW → Prop} (h : a = b) (hp : P w) : Wr (vI b) P (some (vI a)) w := ⟨by rw [h], hp⟩
theorem wr_l {a b : Int} {P : AW → Prop} (h : a = b) (hp : P w) : Wr (vL b) P (some (vL a)) w := ⟨by rw [h], hp⟩
theorem wv_v {P : AW → Prop} (hp : P w) : Wv P none w := ⟨rfl, hp⟩
theorem Mt.weak {As : List AV} {Q2 : QT} (h : Mt l x y d mc ms n w As Q) (hq : ∀ v w2, Q v w2 → Q2 v w2) : Mt l x y d mc ms n w As Q2 := by
  intro p e ha hc hk s m args below hf happ hP hK
  obtain ⟨k, o, h1, h2, h3, ⟨⟨v, w2, e1, e2, e3, e4⟩, hF⟩, h5⟩ := h p e ha hc hk s m args below hf happ hP hK
  exact ⟨k, o, h1, h2, h3, ⟨⟨v, w2, e1, hq v w2 e2, e3, e4⟩, hF⟩, h5⟩
end GM
end
section
/-! pure words: sums, first places, places of the most, bits -/
def sumN (f : Int → Int) : Nat → Int
  | 0 => 0
  | k + 1 => sumN f k + f (k : Int)
def sumZ (f : Int → Int) (i : Int) : Int := sumN f i.toNat
theorem sumZ_0 (f : Int → Int) : sumZ f 0 = 0 := rfl
theorem sumZ_s (f : Int → Int) {i : Int} (h : 0 ≤ i) : sumZ f (i + 1) = sumZ f i + f i := by
  unfold sumZ
  rw [show (i + 1).toNat = i.toNat + 1 by omega, sumN, show ((i.toNat : Nat) : Int) = i by omega]
theorem sumN_congr {f g : Int → Int} : ∀ (k : Nat), (∀ i : Int, 0 ≤ i → i < (k : Int) → f i = g i) → sumN f k = sumN g k
  | 0, _ => rfl
  | k + 1, h => by
    rw [sumN, sumN, sumN_congr k (fun i h0 h1 => h i h0 (by omega)), h (k : Int) (by omega) (by omega)]
theorem sumZ_congr {f g : Int → Int} {n : Int} (h : ∀ i : Int, 0 ≤ i → i < n → f i = g i) : sumZ f n = sumZ g n := sumN_congr _ (fun i h0 h1 => h i h0 (by omega))
theorem sumN_bd {f : Int → Int} {a b : Int} : ∀ (k : Nat), (∀ i : Int, 0 ≤ i → i < (k : Int) → a ≤ f i ∧ f i ≤ b) → a * (k : Int) ≤ sumN f k ∧ sumN f k ≤ b * (k : Int)
  | 0, _ => by simp [sumN]
  | k + 1, h => by
    have h1 := sumN_bd k (fun i h0 h1 => h i h0 (by omega))
    have h2 := h (k : Int) (by omega) (by omega)
    rw [sumN, show ((k + 1 : Nat) : Int) = (k : Int) + 1 by omega, Int.mul_add, Int.mul_add]
    omega
theorem sumZ_bd {f : Int → Int} {a b n : Int} (hn : 0 ≤ n) (h : ∀ i : Int, 0 ≤ i → i < n → a ≤ f i ∧ f i ≤ b) : a * n ≤ sumZ f n ∧ sumZ f n ≤ b * n := by
  have := sumN_bd (f := f) (a := a) (b := b) n.toNat (fun i h0 h1 => h i h0 (by omega))
  rw [show ((n.toNat : Nat) : Int) = n by omega] at this
  exact this
theorem sumN_add (f : Int → Int) (a : Nat) : ∀ (b : Nat), sumN f (a + b) = sumN f a + sumN (fun i => f ((a : Int) + i)) b
  | 0 => by simp [sumN]
  | b + 1 => by
    rw [← Nat.add_assoc, sumN, sumN_add f a b, sumN, Int.add_assoc]
    congr 2
theorem sumZ_add (f : Int → Int) {a b : Int} (ha : 0 ≤ a) (hb : 0 ≤ b) : sumZ f (a + b) = sumZ f a + sumZ (fun i => f (a + i)) b := by
  unfold sumZ
  rw [show (a + b).toNat = a.toNat + b.toNat by omega, sumN_add, show ((a.toNat : Nat) : Int) = a by omega]
/-- the first h from a on, n of them, of which p holds; -1 -/
def fstN (p : Int → Bool) : Nat → Int → Int
  | 0, _ => -1
  | n + 1, a => if p a = true then a else fstN p n (a + 1)
def fstZ (p : Int → Bool) (a b : Int) : Int := fstN p (b - a).toNat a
theorem fstZ_end {p : Int → Bool} {a b : Int} (h : b ≤ a) : fstZ p a b = -1 := by
  unfold fstZ
  rw [show (b - a).toNat = 0 by omega]; rfl
theorem fstZ_yes {p : Int → Bool} {a b : Int} (h : a < b) (hp : p a = true) : fstZ p a b = a := by
  unfold fstZ
  rw [show (b - a).toNat = (b - (a + 1)).toNat + 1 by omega, fstN, if_pos hp]
theorem fstZ_no {p : Int → Bool} {a b : Int} (h : a < b) (hp : ¬ p a = true) : fstZ p a b = fstZ p (a + 1) b := by
  unfold fstZ
  rw [show (b - a).toNat = (b - (a + 1)).toNat + 1 by omega, fstN, if_neg hp]
theorem fstZ_R {p : Int → Bool} : ∀ (n : Nat) (a b : Int), (b - a).toNat = n → fstZ p a b = -1 ∨ (a ≤ fstZ p a b ∧ fstZ p a b < b ∧ p (fstZ p a b) = true ∧ ∀ i, a ≤ i → i < fstZ p a b → p i = false)
  | 0, a, b, h => Or.inl (fstZ_end (by omega))
  | n + 1, a, b, h => by
    by_cases hp : p a = true
    · rw [fstZ_yes (by omega) hp]
      exact Or.inr ⟨by omega, by omega, hp, fun i h1 h2 => absurd h2 (by omega)⟩
    · rw [fstZ_no (by omega) hp]
      rcases fstZ_R n (a + 1) b (by omega) with h1 | ⟨h1, h2, h3, h4⟩
      · exact Or.inl h1
      · refine Or.inr ⟨by omega, h2, h3, fun i g1 g2 => ?_⟩
        by_cases e : i = a
        · rw [e]; exact Bool.eq_false_iff.mpr hp
        · exact h4 i (by omega) g2
theorem fstZ_none {p : Int → Bool} : ∀ (n : Nat) (a b : Int), (b - a).toNat = n → fstZ p a b = -1 → 0 ≤ a → ∀ i, a ≤ i → i < b → p i = false
  | 0, a, b, h, _, _, i, h1, h2 => absurd h2 (by omega)
  | n + 1, a, b, h, hf, h0, i, h1, h2 => by
    by_cases hp : p a = true
    · rw [fstZ_yes (by omega) hp] at hf
      omega
    · rw [fstZ_no (by omega) hp] at hf
      by_cases e : i = a
      · rw [e]; exact Bool.eq_false_iff.mpr hp
      · exact fstZ_none n (a + 1) b (by omega) hf (by omega) i (by omega) h2
/-- the place of the most, of like ones the first; of the least -/
def argm (f : Int → Int) : Nat → Int
  | 0 => 0
  | k + 1 => if f (argm f k) < f ((k : Int) + 1) then (k : Int) + 1 else argm f k
def argl (f : Int → Int) : Nat → Int
  | 0 => 0
  | k + 1 => if f ((k : Int) + 1) < f (argl f k) then (k : Int) + 1 else argl f k
theorem argm_in (f : Int → Int) : ∀ k : Nat, 0 ≤ argm f k ∧ argm f k ≤ (k : Int)
  | 0 => by simp [argm]
  | k + 1 => by
    have := argm_in f k
    rw [argm]
    split <;> omega
theorem argl_in (f : Int → Int) : ∀ k : Nat, 0 ≤ argl f k ∧ argl f k ≤ (k : Int)
  | 0 => by simp [argl]
  | k + 1 => by
    have := argl_in f k
    rw [argl]
    split <;> omega
theorem argm_congr {f g : Int → Int} : ∀ (k : Nat), (∀ i : Int, 0 ≤ i → i ≤ (k : Int) → f i = g i) → argm f k = argm g k
  | 0, _ => rfl
  | k + 1, h => by
    have e := argm_congr k (fun i h0 h1 => h i h0 (by omega))
    have hb := argm_in g k
    rw [argm, argm, e, h (argm g k) hb.1 (by omega), h ((k : Int) + 1) (by omega) (by omega)]
theorem argl_congr {f g : Int → Int} : ∀ (k : Nat), (∀ i : Int, 0 ≤ i → i ≤ (k : Int) → f i = g i) → argl f k = argl g k
  | 0, _ => rfl
  | k + 1, h => by
    have e := argl_congr k (fun i h0 h1 => h i h0 (by omega))
    have hb := argl_in g k
    rw [argl, argl, e, h (argl g k) hb.1 (by omega), h ((k : Int) + 1) (by omega) (by omega)]
/-! bits -/
theorem bAnd_R (a b : Int) : R32 (bAnd a b) := iZ_R _
theorem bOr_R (a b : Int) : R32 (bOr a b) := iZ_R _
theorem bXor_R (a b : Int) : R32 (bXor a b) := iZ_R _
theorem bShl_R (a b : Int) : R32 (bShl a b) := iZ_R _
theorem bShr_R (a b : Int) : R32 (bShr a b) := iZ_R _
theorem bUshr_R (a b : Int) : R32 (bUshr a b) := iZ_R _
theorem bB_R (a : Int) : R32 (bB a) := iZ_R _
theorem bS_R (a : Int) : R32 (bS a) := iZ_R _
/-- bit k of v -/
def tb (v : Int) (k : Int) : Bool := (iZ v).toBitVec.getLsbD k.toNat
theorem iZ_nI {k : Int} (h : 0 ≤ k) : iZ k = nI k.toNat := by
  unfold iZ nI
  rw [← Int32.ofInt_eq_ofNat, show ((k.toNat : Nat) : Int) = k by omega]
theorem sh_amt : ∀ k : Nat, k < 32 → ((nI k &&& 31).toBitVec.smod 32).toNat = k := by decide
theorem bShr_bit {v k : Int} (h : 0 ≤ k ∧ k < 32) : bAnd (bShr v k) 1 = if tb v k = true then 1 else 0 := by
  unfold bAnd bShr tb
  rw [iZ_of]
  have hk : k.toNat < 32 := by omega
  have e1 : (iZ v >>> (iZ k &&& 31)).toBitVec = (iZ v).toBitVec.sshiftRight k.toNat := by
    rw [iZ_nI h.1]
    show (iZ v).toBitVec.sshiftRight' _ = _
    rw [BitVec.sshiftRight']
    congr 1
    exact sh_amt _ hk
  have e2 : ((iZ v >>> (iZ k &&& 31)) &&& iZ 1).toBitVec = if (iZ v).toBitVec.getLsbD k.toNat = true then 1#32 else 0#32 := by
    show (iZ v >>> (iZ k &&& 31)).toBitVec &&& (iZ 1).toBitVec = _
    rw [e1]
    have e3 : (iZ 1).toBitVec = 1#32 := by decide
    rw [e3]
    apply BitVec.eq_of_getLsbD_eq
    intro i hi
    rw [BitVec.getLsbD_and, BitVec.getLsbD_sshiftRight]
    by_cases h0 : i = 0
    · subst h0
      cases hb : (iZ v).toBitVec.getLsbD k.toNat <;> simp [hb, hk]
    · cases hb : (iZ v).toBitVec.getLsbD k.toNat <;> simp [h0, BitVec.getLsbD_one]
  show BitVec.toInt (((iZ v >>> (iZ k &&& 31)) &&& iZ 1).toBitVec) = _
  rw [e2]
  split <;> decide
theorem tb_or (a b k : Int) : tb (bOr a b) k = (tb a k || tb b k) := by
  unfold tb bOr
  rw [iZ_of]
  show ((iZ a).toBitVec ||| (iZ b).toBitVec).getLsbD _ = _
  rw [BitVec.getLsbD_or]
theorem tb_and (a b k : Int) : tb (bAnd a b) k = (tb a k && tb b k) := by
  unfold tb bAnd
  rw [iZ_of]
  show ((iZ a).toBitVec &&& (iZ b).toBitVec).getLsbD _ = _
  rw [BitVec.getLsbD_and]
theorem tb_not {a k : Int} (h : 0 ≤ k ∧ k < 32) : tb (bXor a (-1)) k = !(tb a k) := by
  unfold tb bXor
  rw [iZ_of]
  show ((iZ a).toBitVec ^^^ (iZ (-1)).toBitVec).getLsbD _ = _
  have e3 : (iZ (-1)).toBitVec = BitVec.allOnes 32 := by decide
  rw [BitVec.getLsbD_xor, e3, BitVec.getLsbD_allOnes]
  have : k.toNat < 32 := by omega
  simp [this]
theorem tb_shl1 {j k : Int} (hj : 0 ≤ j ∧ j < 32) (hk : 0 ≤ k ∧ k < 32) : tb (bShl 1 j) k = decide (k = j) := by
  unfold tb bShl
  rw [iZ_of]
  have hj' : j.toNat < 32 := by omega
  have e1 : (iZ 1 <<< (iZ j &&& 31)).toBitVec = 1#32 <<< j.toNat := by
    rw [iZ_nI hj.1]
    show (iZ 1).toBitVec <<< ((nI j.toNat &&& 31).toBitVec.smod 32) = _
    rw [BitVec.shiftLeft_eq', sh_amt _ hj']
    have e3 : (iZ 1).toBitVec = 1#32 := by decide
    rw [e3]
  rw [e1, BitVec.getLsbD_shiftLeft, BitVec.getLsbD_one]
  have hk' : k.toNat < 32 := by omega
  by_cases h : k = j
  · subst h; simp [hk']
  · by_cases h2 : k.toNat < j.toNat
    · simp [h, h2]
    · have : k.toNat - j.toNat ≠ 0 := by omega
      simp [h, this]
theorem tb_0 (k : Int) : tb 0 k = false := by
  unfold tb
  have : (iZ 0).toBitVec = 0#32 := by decide
  rw [this]; simp
theorem bOr_0 {a : Int} (h : R32 a) : bOr a 0 = a := by
  unfold bOr
  have : iZ a ||| iZ 0 = iZ a := by rw [iZ_0]; exact Int32.or_zero
  rw [this, iZ_toInt h]
theorem bUshr16 (a : Int) : 0 ≤ bUshr a 16 ∧ bUshr a 16 ≤ 65535 := by
  unfold bUshr
  have hb := pk_ushr (iZ a) (iZ 16) 16 (by decide)
  generalize ((iZ a).toUInt32 >>> ((iZ 16).toUInt32 &&& Int32.toUInt32 31)).toInt32 = q at hb
  have hl : (iZ a).toBitVec.toNat < 2 ^ 32 := (iZ a).toBitVec.isLt
  have hq : q.toBitVec.toNat < 65536 := by rw [hb]; omega
  have e : q.toInt = (q.toBitVec.toNat : Int) := by
    show q.toBitVec.toInt = _
    rw [BitVec.toInt_eq_toNat_of_lt (by omega)]
  rw [e]; omega
theorem bShr_pos {v k : Int} (hv : 0 ≤ v ∧ v ≤ 2147483647) (hk : 0 ≤ k ∧ k < 32) : bShr v k = v / 2 ^ k.toNat := by
  unfold bShr
  have h := pk_shr (iZ v) (iZ k &&& 31) k.toNat (by rw [iZ_nI hk.1]; exact sh_amt _ (by omega))
  rw [h, iZ_toInt (by omega), Int.shiftRight_eq_div_pow]
  rfl
theorem bShl_1 : ∀ k : Nat, k < 31 → bShl 1 (k : Int) = 2 ^ k := by decide
end
section
/-! contracts: small tests; Bells -/
abbrev BellsAt (w : AW) (ru : Int → Int) : Prop := w 7 = cO 0 [vR 8] ∧ w 8 = cI 8 ru
abbrev RuOK (ru : Int → Int) : Prop := ∀ i : Int, 0 ≤ i → i < 8 → 0 ≤ ru i ∧ ru i ≤ 23
set_option maxRecDepth 20000 in
set_option maxHeartbeats 4000000 in
theorem tX8_upTo {l : Launch} {x : Cx} {d : Nat} {w : AW} {a b : Int} (hd : 0 ≤ d) (ha : R32 a) (hb : R32 b) : Mt l x iX8_upTo d 0 0 50 w [vI a, vI b] (Rd (vI (b2i (0 ≤ a ∧ a ≤ b))) w) := by
  refine Mt.of (L0 := [some (vI a), some (vI b)]) rfl rfl rfl ?_
  refine gj_il0 dX8_upTo_0 ?_
  refine gj_if_lt dX8_upTo_1 (by omega) (fun h1 => ?_) (fun h1 => ?_)
  · refine gj_iconst dX8_upTo_13 ?_
    exact gj_zret (Or.inl rfl) dX8_upTo_14 rfl (rd_i (b2i_f (by omega)).symm)
  · refine gj_il0 dX8_upTo_4 ?_
    refine gj_il1 dX8_upTo_5 ?_
    refine gj_icmp_gt dX8_upTo_6 (by omega) (fun h6 => ?_) (fun h6 => ?_)
    · refine gj_iconst dX8_upTo_13 ?_
      exact gj_zret (Or.inl rfl) dX8_upTo_14 rfl (rd_i (b2i_f (by omega)).symm)
    · refine gj_iconst dX8_upTo_9 ?_
      refine gj_goto dX8_upTo_10 ?_
      exact gj_zret (Or.inr rfl) dX8_upTo_14 rfl (rd_i (b2i_t (by omega)).symm)
set_option maxRecDepth 20000 in
set_option maxHeartbeats 4000000 in
theorem tX8_isLand {l : Launch} {x : Cx} {d : Nat} {w : AW} {a : Int} (hd : 1 ≤ d) (ha : R32 a) : Mt l x iX8_isLand d 0 0 50 w [vI a] (Rd (vI (b2i (0 ≤ a ∧ a ≤ 7))) w) := by
  refine Mt.of (L0 := [some (vI a)]) rfl rfl rfl ?_
  refine gj_il0 dX8_isLand_0 ?_
  refine gj_bipush dX8_isLand_1 rfl ?_
  refine gj_cS2r dX8_isLand_3 mX8_75 hX8_upTo (by omega) rfl (tX8_upTo  (by omega) (by omega) (by omega)) ?_
  exact gj_zret (b2i_R _) dX8_isLand_6 rfl (rd_i rfl)
set_option maxRecDepth 20000 in
set_option maxHeartbeats 4000000 in
theorem tX8_isParish {l : Launch} {x : Cx} {d : Nat} {w : AW} {a : Int} (hd : 1 ≤ d) (ha : R32 a) : Mt l x iX8_isParish d 0 0 50 w [vI a] (Rd (vI (b2i (0 ≤ a ∧ a ≤ 3))) w) := by
  refine Mt.of (L0 := [some (vI a)]) rfl rfl rfl ?_
  refine gj_il0 dX8_isParish_0 ?_
  refine gj_iconst dX8_isParish_1 ?_
  refine gj_cS2r dX8_isParish_2 mX8_75 hX8_upTo (by omega) rfl (tX8_upTo  (by omega) (by omega) (by omega)) ?_
  exact gj_zret (b2i_R _) dX8_isParish_5 rfl (rd_i rfl)
set_option maxRecDepth 20000 in
set_option maxHeartbeats 4000000 in
theorem tX8_isKind {l : Launch} {x : Cx} {d : Nat} {w : AW} {a : Int} (hd : 1 ≤ d) (ha : R32 a) : Mt l x iX8_isKind d 0 0 50 w [vI a] (Rd (vI (b2i (0 ≤ a ∧ a ≤ 3))) w) := by
  refine Mt.of (L0 := [some (vI a)]) rfl rfl rfl ?_
  refine gj_il0 dX8_isKind_0 ?_
  refine gj_iconst dX8_isKind_1 ?_
  refine gj_cS2r dX8_isKind_2 mX8_75 hX8_upTo (by omega) rfl (tX8_upTo  (by omega) (by omega) (by omega)) ?_
  exact gj_zret (b2i_R _) dX8_isKind_5 rfl (rd_i rfl)
set_option maxRecDepth 20000 in
set_option maxHeartbeats 4000000 in
theorem tX8_isHour {l : Launch} {x : Cx} {d : Nat} {w : AW} {a : Int} (hd : 1 ≤ d) (ha : R32 a) : Mt l x iX8_isHour d 0 0 50 w [vI a] (Rd (vI (b2i (0 ≤ a ∧ a ≤ 671))) w) := by
  refine Mt.of (L0 := [some (vI a)]) rfl rfl rfl ?_
  refine gj_il0 dX8_isHour_0 ?_
  refine gj_sipush dX8_isHour_1 rfl ?_
  refine gj_cS2r dX8_isHour_4 mX8_75 hX8_upTo (by omega) rfl (tX8_upTo  (by omega) (by omega) (by omega)) ?_
  exact gj_zret (b2i_R _) dX8_isHour_7 rfl (rd_i rfl)
set_option maxRecDepth 20000 in
set_option maxHeartbeats 4000000 in
theorem tX8_isSheet {l : Launch} {x : Cx} {d : Nat} {w : AW} {a : Int} (hd : 1 ≤ d) (ha : R32 a) : Mt l x iX8_isSheet d 0 0 50 w [vI a] (Rd (vI (b2i (0 ≤ a ∧ a ≤ 3))) w) := by
  refine Mt.of (L0 := [some (vI a)]) rfl rfl rfl ?_
  refine gj_il0 dX8_isSheet_0 ?_
  refine gj_iconst dX8_isSheet_1 ?_
  refine gj_cS2r dX8_isSheet_2 mX8_75 hX8_upTo (by omega) rfl (tX8_upTo  (by omega) (by omega) (by omega)) ?_
  exact gj_zret (b2i_R _) dX8_isSheet_5 rfl (rd_i rfl)
set_option maxRecDepth 20000 in
set_option maxHeartbeats 4000000 in
theorem tX8_isForm {l : Launch} {x : Cx} {d : Nat} {w : AW} {a : Int} (hd : 1 ≤ d) (ha : R32 a) : Mt l x iX8_isForm d 0 0 50 w [vI a] (Rd (vI (b2i (0 ≤ a ∧ a ≤ 2))) w) := by
  refine Mt.of (L0 := [some (vI a)]) rfl rfl rfl ?_
  refine gj_il0 dX8_isForm_0 ?_
  refine gj_iconst dX8_isForm_1 ?_
  refine gj_cS2r dX8_isForm_2 mX8_75 hX8_upTo (by omega) rfl (tX8_upTo  (by omega) (by omega) (by omega)) ?_
  exact gj_zret (b2i_R _) dX8_isForm_5 rfl (rd_i rfl)
set_option maxRecDepth 20000 in
set_option maxHeartbeats 4000000 in
theorem tX8_areTwoLands {l : Launch} {x : Cx} {d : Nat} {w : AW} {a b : Int} (hd : 2 ≤ d) (ha : R32 a) (hb : R32 b) : Mt l x iX8_areTwoLands d 0 0 50 w [vI a, vI b] (Rd (vI (b2i ((0 ≤ a ∧ a ≤ 7) ∧ (0 ≤ b ∧ b ≤ 7) ∧ a ≠ b))) w) := by
  refine Mt.of (L0 := [some (vI a), some (vI b)]) rfl rfl rfl ?_
  refine gj_il0 dX8_areTwoLands_0 ?_
  refine gj_cS1r dX8_areTwoLands_1 mX8_104 hX8_isLand (by omega) rfl (tX8_isLand  (by omega) (by omega)) ?_
  refine gj_ifB_eq dX8_areTwoLands_4 (fun h4 => ?_) (fun h4 => ?_)
  · refine gj_iconst dX8_areTwoLands_23 ?_
    exact gj_zret (Or.inl rfl) dX8_areTwoLands_24 rfl (rd_i (b2i_f (by omega)).symm)
  · refine gj_il1 dX8_areTwoLands_7 ?_
    refine gj_cS1r dX8_areTwoLands_8 mX8_104 hX8_isLand (by omega) rfl (tX8_isLand  (by omega) (by omega)) ?_
    refine gj_ifB_eq dX8_areTwoLands_11 (fun h11 => ?_) (fun h11 => ?_)
    · refine gj_iconst dX8_areTwoLands_23 ?_
      exact gj_zret (Or.inl rfl) dX8_areTwoLands_24 rfl (rd_i (b2i_f (by omega)).symm)
    · refine gj_il0 dX8_areTwoLands_14 ?_
      refine gj_il1 dX8_areTwoLands_15 ?_
      refine gj_icmp_eq dX8_areTwoLands_16 (by omega) (fun h16 => ?_) (fun h16 => ?_)
      · refine gj_iconst dX8_areTwoLands_23 ?_
        exact gj_zret (Or.inl rfl) dX8_areTwoLands_24 rfl (rd_i (b2i_f (by omega)).symm)
      · refine gj_iconst dX8_areTwoLands_19 ?_
        refine gj_goto dX8_areTwoLands_20 ?_
        exact gj_zret (Or.inr rfl) dX8_areTwoLands_24 rfl (rd_i (b2i_t (by omega)).symm)
set_option maxRecDepth 20000 in
set_option maxHeartbeats 4000000 in
theorem tX8_isSiege {l : Launch} {x : Cx} {d : Nat} {w : AW} {a b c : Int} (hd : 2 ≤ d) (ha : R32 a) (hb : R32 b) (hc : R32 c) : Mt l x iX8_isSiege d 0 0 50 w [vI a, vI b, vI c] (Rd (vI (b2i ((0 ≤ a ∧ a ≤ 7) ∧ (0 ≤ b ∧ b ≤ 671) ∧ 1 ≤ c ∧ c ≤ 999))) w) := by
  refine Mt.of (L0 := [some (vI a), some (vI b), some (vI c)]) rfl rfl rfl ?_
  refine gj_il0 dX8_isSiege_0 ?_
  refine gj_cS1r dX8_isSiege_1 mX8_104 hX8_isLand (by omega) rfl (tX8_isLand  (by omega) (by omega)) ?_
  refine gj_ifB_eq dX8_isSiege_4 (fun h4 => ?_) (fun h4 => ?_)
  · refine gj_iconst dX8_isSiege_30 ?_
    exact gj_zret (Or.inl rfl) dX8_isSiege_31 rfl (rd_i (b2i_f (by omega)).symm)
  · refine gj_il1 dX8_isSiege_7 ?_
    refine gj_cS1r dX8_isSiege_8 mX8_154 hX8_isHour (by omega) rfl (tX8_isHour  (by omega) (by omega)) ?_
    refine gj_ifB_eq dX8_isSiege_11 (fun h11 => ?_) (fun h11 => ?_)
    · refine gj_iconst dX8_isSiege_30 ?_
      exact gj_zret (Or.inl rfl) dX8_isSiege_31 rfl (rd_i (b2i_f (by omega)).symm)
    · refine gj_il2 dX8_isSiege_14 ?_
      refine gj_iconst dX8_isSiege_15 ?_
      refine gj_icmp_lt dX8_isSiege_16 (by omega) (fun h16 => ?_) (fun h16 => ?_)
      · refine gj_iconst dX8_isSiege_30 ?_
        exact gj_zret (Or.inl rfl) dX8_isSiege_31 rfl (rd_i (b2i_f (by omega)).symm)
      · refine gj_il2 dX8_isSiege_19 ?_
        refine gj_sipush dX8_isSiege_20 rfl ?_
        refine gj_icmp_gt dX8_isSiege_23 (by omega) (fun h23 => ?_) (fun h23 => ?_)
        · refine gj_iconst dX8_isSiege_30 ?_
          exact gj_zret (Or.inl rfl) dX8_isSiege_31 rfl (rd_i (b2i_f (by omega)).symm)
        · refine gj_iconst dX8_isSiege_26 ?_
          refine gj_goto dX8_isSiege_27 ?_
          exact gj_zret (Or.inr rfl) dX8_isSiege_31 rfl (rd_i (b2i_t (by omega)).symm)
set_option maxRecDepth 20000 in
set_option maxHeartbeats 4000000 in
theorem tX0_at {l : Launch} {x : Cx} {d : Nat} {w : AW} {ru : Int → Int} {p k : Int} (hd : 0 ≤ d) (hB : BellsAt w ru) (hi : 0 ≤ 2 * p + k ∧ 2 * p + k < 8) : Mt l x iX0_at d 0 0 50 w [vR 7, vI p, vI k] (Rd (vI (ru (2 * p + k))) w) := by
  obtain ⟨h7, h8⟩ := hB
  refine Mt.of (L0 := [some (vR 7), some (vI p), some (vI k)]) rfl rfl rfl ?_
  refine gj_al0 dX0_at_0 ?_
  refine gj_get dX0_at_1 fX0_9 h7 rfl rfl ?_
  refine gj_iconst dX0_at_4 ?_
  refine gj_il1 dX0_at_5 ?_
  refine gj_imul dX0_at_6 ?_
  refine gj_il2 dX0_at_7 ?_
  refine gj_iadd dX0_at_8 ?_
  refine gj_iald dX0_at_9 h8 rfl rfl (by omega) ?_
  exact gj_iret dX0_at_10 rfl (rd_i rfl)
def unlF (ru : Int → Int) (a b : Int) : Int := max (ru (2 * a) - ru (2 * b)) (-(ru (2 * a) - ru (2 * b))) + max (ru (2 * a + 1) - ru (2 * b + 1)) (-(ru (2 * a + 1) - ru (2 * b + 1)))
end
