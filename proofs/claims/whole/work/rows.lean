section
-- ===== PART A: goes FIRST, ahead of the names: the tables' words, and 'selects' of the private methods out of them =====
/-- a private method of a class that the tables say can be made, by its rows of tables_1 -/
def lw_okq (q : MethodName × Nat) : Prop := (q.1.cls ≠ "java/lang/invoke/MethodHandle" ∧ q.1.cls ≠ "java/lang/invoke/VarHandle") ∧ Cond.instantiable q.1.cls q.2 ∈ tables_1 ∧ Cond.privateMethod q.1 ∈ tables_1 ∧ Cond.instanceMethod q.1 ∈ tables_1
theorem lw_p0 : lw_okq (⟨"BishopsPeace$Roads", "settle", "()V"⟩, 8) := ⟨⟨by decide +kernel, by decide +kernel⟩, List.mem_of_getElem? (i := 23) (by decide +kernel), List.mem_of_getElem? (i := 271) (by decide +kernel), List.mem_of_getElem? (i := 272) (by decide +kernel)⟩
theorem lw_p1 : lw_okq (⟨"BishopsPeace$Roads", "firstFault", "()I"⟩, 8) := ⟨⟨by decide +kernel, by decide +kernel⟩, List.mem_of_getElem? (i := 23) (by decide +kernel), List.mem_of_getElem? (i := 275) (by decide +kernel), List.mem_of_getElem? (i := 276) (by decide +kernel)⟩
theorem lw_p2 : lw_okq (⟨"BishopsPeace$Roads", "goesOn", "(I)Z"⟩, 8) := ⟨⟨by decide +kernel, by decide +kernel⟩, List.mem_of_getElem? (i := 23) (by decide +kernel), List.mem_of_getElem? (i := 279) (by decide +kernel), List.mem_of_getElem? (i := 280) (by decide +kernel)⟩
theorem lw_p3 : lw_okq (⟨"BishopsPeace$Roads", "measure", "()V"⟩, 8) := ⟨⟨by decide +kernel, by decide +kernel⟩, List.mem_of_getElem? (i := 23) (by decide +kernel), List.mem_of_getElem? (i := 283) (by decide +kernel), List.mem_of_getElem? (i := 284) (by decide +kernel)⟩
theorem lw_p4 : lw_okq (⟨"BishopsPeace$Roads", "shortenWay", "(III)V"⟩, 8) := ⟨⟨by decide +kernel, by decide +kernel⟩, List.mem_of_getElem? (i := 23) (by decide +kernel), List.mem_of_getElem? (i := 287) (by decide +kernel), List.mem_of_getElem? (i := 288) (by decide +kernel)⟩
theorem lw_p5 : lw_okq (⟨"BishopsPeace", "found", "(I)I"⟩, 9) := ⟨⟨by decide +kernel, by decide +kernel⟩, List.mem_of_getElem? (i := 15) (by decide +kernel), List.mem_of_getElem? (i := 358) (by decide +kernel), List.mem_of_getElem? (i := 359) (by decide +kernel)⟩
theorem lw_p6 : lw_okq (⟨"BishopsPeace$Peace", "gatherFeasts", "()V"⟩, 6) := ⟨⟨by decide +kernel, by decide +kernel⟩, List.mem_of_getElem? (i := 75) (by decide +kernel), List.mem_of_getElem? (i := 371) (by decide +kernel), List.mem_of_getElem? (i := 372) (by decide +kernel)⟩
theorem lw_p7 : lw_okq (⟨"BishopsPeace$Peace", "isOpenDay", "(II)Z"⟩, 6) := ⟨⟨by decide +kernel, by decide +kernel⟩, List.mem_of_getElem? (i := 75) (by decide +kernel), List.mem_of_getElem? (i := 398) (by decide +kernel), List.mem_of_getElem? (i := 399) (by decide +kernel)⟩
theorem lw_p8 : lw_okq (⟨"BishopsPeace$Peace", "bellOf", "(II)I"⟩, 6) := ⟨⟨by decide +kernel, by decide +kernel⟩, List.mem_of_getElem? (i := 75) (by decide +kernel), List.mem_of_getElem? (i := 402) (by decide +kernel), List.mem_of_getElem? (i := 403) (by decide +kernel)⟩
theorem lw_p9 : lw_okq (⟨"BishopsPeace$March", "goBetween", "(III)V"⟩, 5) := ⟨⟨by decide +kernel, by decide +kernel⟩, List.mem_of_getElem? (i := 102) (by decide +kernel), List.mem_of_getElem? (i := 477) (by decide +kernel), List.mem_of_getElem? (i := 478) (by decide +kernel)⟩
theorem lw_p10 : lw_okq (⟨"BishopsPeace$March", "need", "(II)V"⟩, 5) := ⟨⟨by decide +kernel, by decide +kernel⟩, List.mem_of_getElem? (i := 102) (by decide +kernel), List.mem_of_getElem? (i := 482) (by decide +kernel), List.mem_of_getElem? (i := 483) (by decide +kernel)⟩
theorem lw_p11 : lw_okq (⟨"BishopsPeace$March", "isAllowed", "(I)Z"⟩, 5) := ⟨⟨by decide +kernel, by decide +kernel⟩, List.mem_of_getElem? (i := 102) (by decide +kernel), List.mem_of_getElem? (i := 486) (by decide +kernel), List.mem_of_getElem? (i := 487) (by decide +kernel)⟩
theorem lw_p12 : lw_okq (⟨"BishopsPeace$Homeward", "walk", "(III)V"⟩, 10) := ⟨⟨by decide +kernel, by decide +kernel⟩, List.mem_of_getElem? (i := 146) (by decide +kernel), List.mem_of_getElem? (i := 526) (by decide +kernel), List.mem_of_getElem? (i := 527) (by decide +kernel)⟩
theorem lw_p13 : lw_okq (⟨"BishopsPeace$Homeward", "arrive", "(III)V"⟩, 10) := ⟨⟨by decide +kernel, by decide +kernel⟩, List.mem_of_getElem? (i := 146) (by decide +kernel), List.mem_of_getElem? (i := 530) (by decide +kernel), List.mem_of_getElem? (i := 531) (by decide +kernel)⟩
theorem lw_p14 : lw_okq (⟨"BishopsPeace$Homeward", "isBetter", "(II)Z"⟩, 10) := ⟨⟨by decide +kernel, by decide +kernel⟩, List.mem_of_getElem? (i := 146) (by decide +kernel), List.mem_of_getElem? (i := 534) (by decide +kernel), List.mem_of_getElem? (i := 535) (by decide +kernel)⟩
theorem lw_p15 : lw_okq (⟨"BishopsPeace$Homeward", "freeOf", "(I)I"⟩, 10) := ⟨⟨by decide +kernel, by decide +kernel⟩, List.mem_of_getElem? (i := 146) (by decide +kernel), List.mem_of_getElem? (i := 543) (by decide +kernel), List.mem_of_getElem? (i := 544) (by decide +kernel)⟩
def lw_privs_1 : List (MethodName × Nat) := [(⟨"BishopsPeace$Roads", "settle", "()V"⟩, 8), (⟨"BishopsPeace$Roads", "firstFault", "()I"⟩, 8), (⟨"BishopsPeace$Roads", "goesOn", "(I)Z"⟩, 8), (⟨"BishopsPeace$Roads", "measure", "()V"⟩, 8), (⟨"BishopsPeace$Roads", "shortenWay", "(III)V"⟩, 8), (⟨"BishopsPeace", "found", "(I)I"⟩, 9), (⟨"BishopsPeace$Peace", "gatherFeasts", "()V"⟩, 6), (⟨"BishopsPeace$Peace", "isOpenDay", "(II)Z"⟩, 6), (⟨"BishopsPeace$Peace", "bellOf", "(II)I"⟩, 6), (⟨"BishopsPeace$March", "goBetween", "(III)V"⟩, 5), (⟨"BishopsPeace$March", "need", "(II)V"⟩, 5), (⟨"BishopsPeace$March", "isAllowed", "(I)Z"⟩, 5), (⟨"BishopsPeace$Homeward", "walk", "(III)V"⟩, 10), (⟨"BishopsPeace$Homeward", "arrive", "(III)V"⟩, 10), (⟨"BishopsPeace$Homeward", "isBetter", "(II)Z"⟩, 10), (⟨"BishopsPeace$Homeward", "freeOf", "(I)I"⟩, 10)]
theorem lw_r1 : ∀ q ∈ lw_privs_1, lw_okq q := List.forall_mem_cons.mpr ⟨lw_p0, List.forall_mem_cons.mpr ⟨lw_p1, List.forall_mem_cons.mpr ⟨lw_p2, List.forall_mem_cons.mpr ⟨lw_p3, List.forall_mem_cons.mpr ⟨lw_p4, List.forall_mem_cons.mpr ⟨lw_p5, List.forall_mem_cons.mpr ⟨lw_p6, List.forall_mem_cons.mpr ⟨lw_p7, List.forall_mem_cons.mpr ⟨lw_p8, List.forall_mem_cons.mpr ⟨lw_p9, List.forall_mem_cons.mpr ⟨lw_p10, List.forall_mem_cons.mpr ⟨lw_p11, List.forall_mem_cons.mpr ⟨lw_p12, List.forall_mem_cons.mpr ⟨lw_p13, List.forall_mem_cons.mpr ⟨lw_p14, List.forall_mem_cons.mpr ⟨lw_p15, fun _ h => absurd h List.not_mem_nil⟩⟩⟩⟩⟩⟩⟩⟩⟩⟩⟩⟩⟩⟩⟩⟩
theorem lw_p16 : lw_okq (⟨"BishopsPeace$Homeward", "commonBits", "()I"⟩, 10) := ⟨⟨by decide +kernel, by decide +kernel⟩, List.mem_of_getElem? (i := 146) (by decide +kernel), List.mem_of_getElem? (i := 552) (by decide +kernel), List.mem_of_getElem? (i := 553) (by decide +kernel)⟩
theorem lw_p17 : lw_okq (⟨"BishopsPeace$Bells", "rank", "(I)I"⟩, 1) := ⟨⟨by decide +kernel, by decide +kernel⟩, List.mem_of_getElem? (i := 64) (by decide +kernel), List.mem_of_getElem? (i := 577) (by decide +kernel), List.mem_of_getElem? (i := 578) (by decide +kernel)⟩
theorem lw_p18 : lw_okq (⟨"BishopsPeace", "wrongItem", "(III)I"⟩, 9) := ⟨⟨by decide +kernel, by decide +kernel⟩, List.mem_of_getElem? (i := 15) (by decide +kernel), List.mem_of_getElem? (i := 643) (by decide +kernel), List.mem_of_getElem? (i := 644) (by decide +kernel)⟩
theorem lw_p19 : lw_okq (⟨"BishopsPeace", "digestOfRoads", "(J)J"⟩, 9) := ⟨⟨by decide +kernel, by decide +kernel⟩, List.mem_of_getElem? (i := 15) (by decide +kernel), List.mem_of_getElem? (i := 689) (by decide +kernel), List.mem_of_getElem? (i := 690) (by decide +kernel)⟩
theorem lw_p20 : lw_okq (⟨"BishopsPeace", "digestOfLands", "(J)J"⟩, 9) := ⟨⟨by decide +kernel, by decide +kernel⟩, List.mem_of_getElem? (i := 15) (by decide +kernel), List.mem_of_getElem? (i := 694) (by decide +kernel), List.mem_of_getElem? (i := 695) (by decide +kernel)⟩
theorem lw_p21 : lw_okq (⟨"BishopsPeace", "digestOfJourneys", "(J)J"⟩, 9) := ⟨⟨by decide +kernel, by decide +kernel⟩, List.mem_of_getElem? (i := 15) (by decide +kernel), List.mem_of_getElem? (i := 704) (by decide +kernel), List.mem_of_getElem? (i := 705) (by decide +kernel)⟩
theorem lw_p22 : lw_okq (⟨"BishopsPeace", "digestOfKinds", "(J)J"⟩, 9) := ⟨⟨by decide +kernel, by decide +kernel⟩, List.mem_of_getElem? (i := 15) (by decide +kernel), List.mem_of_getElem? (i := 711) (by decide +kernel), List.mem_of_getElem? (i := 712) (by decide +kernel)⟩
theorem lw_p23 : lw_okq (⟨"BishopsPeace", "digestOfParishes", "(J)J"⟩, 9) := ⟨⟨by decide +kernel, by decide +kernel⟩, List.mem_of_getElem? (i := 15) (by decide +kernel), List.mem_of_getElem? (i := 716) (by decide +kernel), List.mem_of_getElem? (i := 717) (by decide +kernel)⟩
theorem lw_p24 : lw_okq (⟨"BishopsPeaceModel", "finds", "(I)I"⟩, 29) := ⟨⟨by decide +kernel, by decide +kernel⟩, List.mem_of_getElem? (i := 724) (by decide +kernel), List.mem_of_getElem? (i := 830) (by decide +kernel), List.mem_of_getElem? (i := 831) (by decide +kernel)⟩
theorem lw_p25 : lw_okq (⟨"BishopsPeaceModel", "lacks", "(III)I"⟩, 29) := ⟨⟨by decide +kernel, by decide +kernel⟩, List.mem_of_getElem? (i := 724) (by decide +kernel), List.mem_of_getElem? (i := 842) (by decide +kernel), List.mem_of_getElem? (i := 843) (by decide +kernel)⟩
theorem lw_p26 : lw_okq (⟨"BishopsPeaceModel", "reads", "()I"⟩, 29) := ⟨⟨by decide +kernel, by decide +kernel⟩, List.mem_of_getElem? (i := 724) (by decide +kernel), List.mem_of_getElem? (i := 875) (by decide +kernel), List.mem_of_getElem? (i := 876) (by decide +kernel)⟩
theorem lw_p27 : lw_okq (⟨"BishopsPeaceModel", "readsRoad", "()Z"⟩, 29) := ⟨⟨by decide +kernel, by decide +kernel⟩, List.mem_of_getElem? (i := 724) (by decide +kernel), List.mem_of_getElem? (i := 879) (by decide +kernel), List.mem_of_getElem? (i := 880) (by decide +kernel)⟩
theorem lw_p28 : lw_okq (⟨"BishopsPeaceModel", "tellsOf", "(II)I"⟩, 29) := ⟨⟨by decide +kernel, by decide +kernel⟩, List.mem_of_getElem? (i := 724) (by decide +kernel), List.mem_of_getElem? (i := 883) (by decide +kernel), List.mem_of_getElem? (i := 884) (by decide +kernel)⟩
theorem lw_p29 : lw_okq (⟨"BishopsPeaceModel", "isWar", "(II)Z"⟩, 29) := ⟨⟨by decide +kernel, by decide +kernel⟩, List.mem_of_getElem? (i := 724) (by decide +kernel), List.mem_of_getElem? (i := 945) (by decide +kernel), List.mem_of_getElem? (i := 946) (by decide +kernel)⟩
theorem lw_p30 : lw_okq (⟨"BishopsPeaceModel", "isWarBy", "(II)Z"⟩, 29) := ⟨⟨by decide +kernel, by decide +kernel⟩, List.mem_of_getElem? (i := 724) (by decide +kernel), List.mem_of_getElem? (i := 952) (by decide +kernel), List.mem_of_getElem? (i := 953) (by decide +kernel)⟩
theorem lw_p31 : lw_okq (⟨"BishopsPeaceModel", "isFeast", "(I)Z"⟩, 29) := ⟨⟨by decide +kernel, by decide +kernel⟩, List.mem_of_getElem? (i := 724) (by decide +kernel), List.mem_of_getElem? (i := 956) (by decide +kernel), List.mem_of_getElem? (i := 957) (by decide +kernel)⟩
def lw_privs_2 : List (MethodName × Nat) := [(⟨"BishopsPeace$Homeward", "commonBits", "()I"⟩, 10), (⟨"BishopsPeace$Bells", "rank", "(I)I"⟩, 1), (⟨"BishopsPeace", "wrongItem", "(III)I"⟩, 9), (⟨"BishopsPeace", "digestOfRoads", "(J)J"⟩, 9), (⟨"BishopsPeace", "digestOfLands", "(J)J"⟩, 9), (⟨"BishopsPeace", "digestOfJourneys", "(J)J"⟩, 9), (⟨"BishopsPeace", "digestOfKinds", "(J)J"⟩, 9), (⟨"BishopsPeace", "digestOfParishes", "(J)J"⟩, 9), (⟨"BishopsPeaceModel", "finds", "(I)I"⟩, 29), (⟨"BishopsPeaceModel", "lacks", "(III)I"⟩, 29), (⟨"BishopsPeaceModel", "reads", "()I"⟩, 29), (⟨"BishopsPeaceModel", "readsRoad", "()Z"⟩, 29), (⟨"BishopsPeaceModel", "tellsOf", "(II)I"⟩, 29), (⟨"BishopsPeaceModel", "isWar", "(II)Z"⟩, 29), (⟨"BishopsPeaceModel", "isWarBy", "(II)Z"⟩, 29), (⟨"BishopsPeaceModel", "isFeast", "(I)Z"⟩, 29)]
theorem lw_r2 : ∀ q ∈ lw_privs_2, lw_okq q := List.forall_mem_cons.mpr ⟨lw_p16, List.forall_mem_cons.mpr ⟨lw_p17, List.forall_mem_cons.mpr ⟨lw_p18, List.forall_mem_cons.mpr ⟨lw_p19, List.forall_mem_cons.mpr ⟨lw_p20, List.forall_mem_cons.mpr ⟨lw_p21, List.forall_mem_cons.mpr ⟨lw_p22, List.forall_mem_cons.mpr ⟨lw_p23, List.forall_mem_cons.mpr ⟨lw_p24, List.forall_mem_cons.mpr ⟨lw_p25, List.forall_mem_cons.mpr ⟨lw_p26, List.forall_mem_cons.mpr ⟨lw_p27, List.forall_mem_cons.mpr ⟨lw_p28, List.forall_mem_cons.mpr ⟨lw_p29, List.forall_mem_cons.mpr ⟨lw_p30, List.forall_mem_cons.mpr ⟨lw_p31, fun _ h => absurd h List.not_mem_nil⟩⟩⟩⟩⟩⟩⟩⟩⟩⟩⟩⟩⟩⟩⟩⟩
theorem lw_p32 : lw_okq (⟨"BishopsPeaceModel", "strikesNow", "(IIII)Z"⟩, 29) := ⟨⟨by decide +kernel, by decide +kernel⟩, List.mem_of_getElem? (i := 724) (by decide +kernel), List.mem_of_getElem? (i := 964) (by decide +kernel), List.mem_of_getElem? (i := 965) (by decide +kernel)⟩
theorem lw_p33 : lw_okq (⟨"BishopsPeaceModel", "nextOf", "(III)I"⟩, 29) := ⟨⟨by decide +kernel, by decide +kernel⟩, List.mem_of_getElem? (i := 724) (by decide +kernel), List.mem_of_getElem? (i := 972) (by decide +kernel), List.mem_of_getElem? (i := 973) (by decide +kernel)⟩
theorem lw_p34 : lw_okq (⟨"BishopsPeaceModel", "leftIn", "(II)I"⟩, 29) := ⟨⟨by decide +kernel, by decide +kernel⟩, List.mem_of_getElem? (i := 724) (by decide +kernel), List.mem_of_getElem? (i := 980) (by decide +kernel), List.mem_of_getElem? (i := 981) (by decide +kernel)⟩
theorem lw_p35 : lw_okq (⟨"BishopsPeaceModel", "bestOf", "(I)I"⟩, 29) := ⟨⟨by decide +kernel, by decide +kernel⟩, List.mem_of_getElem? (i := 724) (by decide +kernel), List.mem_of_getElem? (i := 988) (by decide +kernel), List.mem_of_getElem? (i := 989) (by decide +kernel)⟩
theorem lw_p36 : lw_okq (⟨"BishopsPeaceModel", "unlikeOf", "(II)I"⟩, 29) := ⟨⟨by decide +kernel, by decide +kernel⟩, List.mem_of_getElem? (i := 724) (by decide +kernel), List.mem_of_getElem? (i := 996) (by decide +kernel), List.mem_of_getElem? (i := 997) (by decide +kernel)⟩
theorem lw_p37 : lw_okq (⟨"BishopsPeaceModel", "wayOf", "(III)I"⟩, 29) := ⟨⟨by decide +kernel, by decide +kernel⟩, List.mem_of_getElem? (i := 724) (by decide +kernel), List.mem_of_getElem? (i := 1007) (by decide +kernel), List.mem_of_getElem? (i := 1008) (by decide +kernel)⟩
theorem lw_p38 : lw_okq (⟨"BishopsPeaceModel", "findFar", "(I)V"⟩, 29) := ⟨⟨by decide +kernel, by decide +kernel⟩, List.mem_of_getElem? (i := 724) (by decide +kernel), List.mem_of_getElem? (i := 1011) (by decide +kernel), List.mem_of_getElem? (i := 1012) (by decide +kernel)⟩
theorem lw_p39 : lw_okq (⟨"BishopsPeaceModel", "nextLand", "(I)I"⟩, 29) := ⟨⟨by decide +kernel, by decide +kernel⟩, List.mem_of_getElem? (i := 724) (by decide +kernel), List.mem_of_getElem? (i := 1015) (by decide +kernel), List.mem_of_getElem? (i := 1016) (by decide +kernel)⟩
theorem lw_p40 : lw_okq (⟨"BishopsPeaceModel", "hoursOf", "(II)I"⟩, 29) := ⟨⟨by decide +kernel, by decide +kernel⟩, List.mem_of_getElem? (i := 724) (by decide +kernel), List.mem_of_getElem? (i := 1019) (by decide +kernel), List.mem_of_getElem? (i := 1020) (by decide +kernel)⟩
theorem lw_p41 : lw_okq (⟨"BishopsPeaceModel", "raidOf", "(IIII)I"⟩, 29) := ⟨⟨by decide +kernel, by decide +kernel⟩, List.mem_of_getElem? (i := 724) (by decide +kernel), List.mem_of_getElem? (i := 1028) (by decide +kernel), List.mem_of_getElem? (i := 1029) (by decide +kernel)⟩
theorem lw_p42 : lw_okq (⟨"BishopsPeaceModel", "isRaid", "(IIII)Z"⟩, 29) := ⟨⟨by decide +kernel, by decide +kernel⟩, List.mem_of_getElem? (i := 724) (by decide +kernel), List.mem_of_getElem? (i := 1032) (by decide +kernel), List.mem_of_getElem? (i := 1033) (by decide +kernel)⟩
theorem lw_p43 : lw_okq (⟨"BishopsPeaceModel", "goes", "(IIIZ)I"⟩, 29) := ⟨⟨by decide +kernel, by decide +kernel⟩, List.mem_of_getElem? (i := 724) (by decide +kernel), List.mem_of_getElem? (i := 1036) (by decide +kernel), List.mem_of_getElem? (i := 1037) (by decide +kernel)⟩
theorem lw_p44 : lw_okq (⟨"BishopsPeaceModel", "siegeOf", "(IIII)I"⟩, 29) := ⟨⟨by decide +kernel, by decide +kernel⟩, List.mem_of_getElem? (i := 724) (by decide +kernel), List.mem_of_getElem? (i := 1050) (by decide +kernel), List.mem_of_getElem? (i := 1051) (by decide +kernel)⟩
theorem lw_p45 : lw_okq (⟨"BishopsPeaceModel", "falls", "(IIII)I"⟩, 29) := ⟨⟨by decide +kernel, by decide +kernel⟩, List.mem_of_getElem? (i := 724) (by decide +kernel), List.mem_of_getElem? (i := 1054) (by decide +kernel), List.mem_of_getElem? (i := 1055) (by decide +kernel)⟩
theorem lw_p46 : lw_okq (⟨"BishopsPeaceModel", "holdsBy", "(III)I"⟩, 29) := ⟨⟨by decide +kernel, by decide +kernel⟩, List.mem_of_getElem? (i := 724) (by decide +kernel), List.mem_of_getElem? (i := 1062) (by decide +kernel), List.mem_of_getElem? (i := 1063) (by decide +kernel)⟩
theorem lw_p47 : lw_okq (⟨"BishopsPeaceModel", "findHome", "(III)V"⟩, 29) := ⟨⟨by decide +kernel, by decide +kernel⟩, List.mem_of_getElem? (i := 724) (by decide +kernel), List.mem_of_getElem? (i := 1071) (by decide +kernel), List.mem_of_getElem? (i := 1072) (by decide +kernel)⟩
def lw_privs_3 : List (MethodName × Nat) := [(⟨"BishopsPeaceModel", "strikesNow", "(IIII)Z"⟩, 29), (⟨"BishopsPeaceModel", "nextOf", "(III)I"⟩, 29), (⟨"BishopsPeaceModel", "leftIn", "(II)I"⟩, 29), (⟨"BishopsPeaceModel", "bestOf", "(I)I"⟩, 29), (⟨"BishopsPeaceModel", "unlikeOf", "(II)I"⟩, 29), (⟨"BishopsPeaceModel", "wayOf", "(III)I"⟩, 29), (⟨"BishopsPeaceModel", "findFar", "(I)V"⟩, 29), (⟨"BishopsPeaceModel", "nextLand", "(I)I"⟩, 29), (⟨"BishopsPeaceModel", "hoursOf", "(II)I"⟩, 29), (⟨"BishopsPeaceModel", "raidOf", "(IIII)I"⟩, 29), (⟨"BishopsPeaceModel", "isRaid", "(IIII)Z"⟩, 29), (⟨"BishopsPeaceModel", "goes", "(IIIZ)I"⟩, 29), (⟨"BishopsPeaceModel", "siegeOf", "(IIII)I"⟩, 29), (⟨"BishopsPeaceModel", "falls", "(IIII)I"⟩, 29), (⟨"BishopsPeaceModel", "holdsBy", "(III)I"⟩, 29), (⟨"BishopsPeaceModel", "findHome", "(III)V"⟩, 29)]
theorem lw_r3 : ∀ q ∈ lw_privs_3, lw_okq q := List.forall_mem_cons.mpr ⟨lw_p32, List.forall_mem_cons.mpr ⟨lw_p33, List.forall_mem_cons.mpr ⟨lw_p34, List.forall_mem_cons.mpr ⟨lw_p35, List.forall_mem_cons.mpr ⟨lw_p36, List.forall_mem_cons.mpr ⟨lw_p37, List.forall_mem_cons.mpr ⟨lw_p38, List.forall_mem_cons.mpr ⟨lw_p39, List.forall_mem_cons.mpr ⟨lw_p40, List.forall_mem_cons.mpr ⟨lw_p41, List.forall_mem_cons.mpr ⟨lw_p42, List.forall_mem_cons.mpr ⟨lw_p43, List.forall_mem_cons.mpr ⟨lw_p44, List.forall_mem_cons.mpr ⟨lw_p45, List.forall_mem_cons.mpr ⟨lw_p46, List.forall_mem_cons.mpr ⟨lw_p47, fun _ h => absurd h List.not_mem_nil⟩⟩⟩⟩⟩⟩⟩⟩⟩⟩⟩⟩⟩⟩⟩⟩
theorem lw_p48 : lw_okq (⟨"BishopsPeaceModel", "otherEnd", "(II)I"⟩, 29) := ⟨⟨by decide +kernel, by decide +kernel⟩, List.mem_of_getElem? (i := 724) (by decide +kernel), List.mem_of_getElem? (i := 1076) (by decide +kernel), List.mem_of_getElem? (i := 1077) (by decide +kernel)⟩
theorem lw_p49 : lw_okq (⟨"BishopsPeaceModel", "wasAt", "(II)Z"⟩, 29) := ⟨⟨by decide +kernel, by decide +kernel⟩, List.mem_of_getElem? (i := 724) (by decide +kernel), List.mem_of_getElem? (i := 1080) (by decide +kernel), List.mem_of_getElem? (i := 1081) (by decide +kernel)⟩
theorem lw_p50 : lw_okq (⟨"BishopsPeaceModel", "comes", "(I)V"⟩, 29) := ⟨⟨by decide +kernel, by decide +kernel⟩, List.mem_of_getElem? (i := 724) (by decide +kernel), List.mem_of_getElem? (i := 1084) (by decide +kernel), List.mem_of_getElem? (i := 1085) (by decide +kernel)⟩
theorem lw_p51 : lw_okq (⟨"BishopsPeaceModel", "isLess", "(I)Z"⟩, 29) := ⟨⟨by decide +kernel, by decide +kernel⟩, List.mem_of_getElem? (i := 724) (by decide +kernel), List.mem_of_getElem? (i := 1088) (by decide +kernel), List.mem_of_getElem? (i := 1089) (by decide +kernel)⟩
theorem lw_p52 : lw_okq (⟨"BishopsPeaceModel", "tellsHome", "(I)I"⟩, 29) := ⟨⟨by decide +kernel, by decide +kernel⟩, List.mem_of_getElem? (i := 724) (by decide +kernel), List.mem_of_getElem? (i := 1092) (by decide +kernel), List.mem_of_getElem? (i := 1093) (by decide +kernel)⟩
theorem lw_p53 : lw_okq (⟨"BishopsPeaceModel", "agreeOf", "(I)I"⟩, 29) := ⟨⟨by decide +kernel, by decide +kernel⟩, List.mem_of_getElem? (i := 724) (by decide +kernel), List.mem_of_getElem? (i := 1103) (by decide +kernel), List.mem_of_getElem? (i := 1104) (by decide +kernel)⟩
theorem lw_p54 : lw_okq (⟨"BishopsPeaceModel", "pairOf", "(I)I"⟩, 29) := ⟨⟨by decide +kernel, by decide +kernel⟩, List.mem_of_getElem? (i := 724) (by decide +kernel), List.mem_of_getElem? (i := 1107) (by decide +kernel), List.mem_of_getElem? (i := 1108) (by decide +kernel)⟩
theorem lw_p55 : lw_okq (⟨"BishopsPeaceModel", "middleOf", "(I)I"⟩, 29) := ⟨⟨by decide +kernel, by decide +kernel⟩, List.mem_of_getElem? (i := 724) (by decide +kernel), List.mem_of_getElem? (i := 1115) (by decide +kernel), List.mem_of_getElem? (i := 1116) (by decide +kernel)⟩
theorem lw_p56 : lw_okq (⟨"BishopsPeaceModel", "middleBell", "(I)I"⟩, 29) := ⟨⟨by decide +kernel, by decide +kernel⟩, List.mem_of_getElem? (i := 724) (by decide +kernel), List.mem_of_getElem? (i := 1119) (by decide +kernel), List.mem_of_getElem? (i := 1120) (by decide +kernel)⟩
theorem lw_p57 : lw_okq (⟨"BishopsPeaceModel", "changesBy", "(II)I"⟩, 29) := ⟨⟨by decide +kernel, by decide +kernel⟩, List.mem_of_getElem? (i := 724) (by decide +kernel), List.mem_of_getElem? (i := 1123) (by decide +kernel), List.mem_of_getElem? (i := 1124) (by decide +kernel)⟩
theorem lw_p58 : lw_okq (⟨"BishopsPeaceModel", "whichNow", "()I"⟩, 29) := ⟨⟨by decide +kernel, by decide +kernel⟩, List.mem_of_getElem? (i := 724) (by decide +kernel), List.mem_of_getElem? (i := 1142) (by decide +kernel), List.mem_of_getElem? (i := 1143) (by decide +kernel)⟩
theorem lw_p59 : lw_okq (⟨"BishopsPeaceModel", "seasonOf", "(II)I"⟩, 29) := ⟨⟨by decide +kernel, by decide +kernel⟩, List.mem_of_getElem? (i := 724) (by decide +kernel), List.mem_of_getElem? (i := 1150) (by decide +kernel), List.mem_of_getElem? (i := 1151) (by decide +kernel)⟩
theorem lw_p60 : lw_okq (⟨"BishopsPeaceModel", "tellsLand", "(JI)J"⟩, 29) := ⟨⟨by decide +kernel, by decide +kernel⟩, List.mem_of_getElem? (i := 724) (by decide +kernel), List.mem_of_getElem? (i := 1170) (by decide +kernel), List.mem_of_getElem? (i := 1171) (by decide +kernel)⟩
theorem lw_p61 : lw_okq (⟨"BishopsPeaceModel", "tellsWays", "(JI)J"⟩, 29) := ⟨⟨by decide +kernel, by decide +kernel⟩, List.mem_of_getElem? (i := 724) (by decide +kernel), List.mem_of_getElem? (i := 1174) (by decide +kernel), List.mem_of_getElem? (i := 1175) (by decide +kernel)⟩
def lw_privs_4 : List (MethodName × Nat) := [(⟨"BishopsPeaceModel", "otherEnd", "(II)I"⟩, 29), (⟨"BishopsPeaceModel", "wasAt", "(II)Z"⟩, 29), (⟨"BishopsPeaceModel", "comes", "(I)V"⟩, 29), (⟨"BishopsPeaceModel", "isLess", "(I)Z"⟩, 29), (⟨"BishopsPeaceModel", "tellsHome", "(I)I"⟩, 29), (⟨"BishopsPeaceModel", "agreeOf", "(I)I"⟩, 29), (⟨"BishopsPeaceModel", "pairOf", "(I)I"⟩, 29), (⟨"BishopsPeaceModel", "middleOf", "(I)I"⟩, 29), (⟨"BishopsPeaceModel", "middleBell", "(I)I"⟩, 29), (⟨"BishopsPeaceModel", "changesBy", "(II)I"⟩, 29), (⟨"BishopsPeaceModel", "whichNow", "()I"⟩, 29), (⟨"BishopsPeaceModel", "seasonOf", "(II)I"⟩, 29), (⟨"BishopsPeaceModel", "tellsLand", "(JI)J"⟩, 29), (⟨"BishopsPeaceModel", "tellsWays", "(JI)J"⟩, 29)]
theorem lw_r4 : ∀ q ∈ lw_privs_4, lw_okq q := List.forall_mem_cons.mpr ⟨lw_p48, List.forall_mem_cons.mpr ⟨lw_p49, List.forall_mem_cons.mpr ⟨lw_p50, List.forall_mem_cons.mpr ⟨lw_p51, List.forall_mem_cons.mpr ⟨lw_p52, List.forall_mem_cons.mpr ⟨lw_p53, List.forall_mem_cons.mpr ⟨lw_p54, List.forall_mem_cons.mpr ⟨lw_p55, List.forall_mem_cons.mpr ⟨lw_p56, List.forall_mem_cons.mpr ⟨lw_p57, List.forall_mem_cons.mpr ⟨lw_p58, List.forall_mem_cons.mpr ⟨lw_p59, List.forall_mem_cons.mpr ⟨lw_p60, List.forall_mem_cons.mpr ⟨lw_p61, fun _ h => absurd h List.not_mem_nil⟩⟩⟩⟩⟩⟩⟩⟩⟩⟩⟩⟩⟩⟩
def lw_privs : List (MethodName × Nat) := lw_privs_1 ++ (lw_privs_2 ++ (lw_privs_3 ++ (lw_privs_4)))
def lw_tbl : List Cond := k2_sels lw_privs ++ tables_1
theorem lw_privs_ok : ∀ q ∈ lw_privs, lw_okq q := by
  show ∀ q ∈ lw_privs_1 ++ (lw_privs_2 ++ (lw_privs_3 ++ (lw_privs_4))), lw_okq q
  exact List.forall_mem_append.mpr ⟨lw_r1, List.forall_mem_append.mpr ⟨lw_r2, List.forall_mem_append.mpr ⟨lw_r3, lw_r4⟩⟩⟩
end
section
/-! names of classes, fields and methods, out of the printed names (a starting text), and a record of each method -/
def RX0 : String := "BishopsPeace$Bells"
def TX0 : u_T := fun k => match k with
  | _ => ("BishopsPeace$Bells", "rung", "[I", true)
def tyX0 : Nat → FieldType := fun k => match k with
  | _ => .array .int
theorem nmX0 : ∀ a, a < 1 → ∀ b, b < 1 → a ≠ b → (TX0 a).2.1 ≠ (TX0 b).2.1 := by decide +kernel
theorem tyX0_ok : ∀ k, k < 1 → parseFieldDescriptor (TX0 k).2.2.1 = some (tyX0 k) := by decide +kernel
abbrev cX0_init : ByteArray := prog_2_method_1_code
def yX0_init : MethodName := ⟨RX0, "<init>", "()V"⟩
abbrev cX0_at : ByteArray := prog_2_method_2_code
def yX0_at : MethodName := ⟨RX0, "at", "(II)I"⟩
abbrev cX0_put : ByteArray := prog_2_method_3_code
def yX0_put : MethodName := ⟨RX0, "put", "(II)I"⟩
abbrev cX0_hoursUnlike : ByteArray := prog_2_method_4_code
def yX0_hoursUnlike : MethodName := ⟨RX0, "hoursUnlike", "(II)I"⟩
abbrev cX0_likeOnes : ByteArray := prog_2_method_5_code
def yX0_likeOnes : MethodName := ⟨RX0, "likeOnes", "(I)I"⟩
abbrev cX0_commonest : ByteArray := prog_2_method_6_code
def yX0_commonest : MethodName := ⟨RX0, "commonest", "()I"⟩
abbrev cX0_rank : ByteArray := prog_2_method_7_code
def yX0_rank : MethodName := ⟨RX0, "rank", "(I)I"⟩
abbrev cX0_middleOf : ByteArray := prog_2_method_8_code
def yX0_middleOf : MethodName := ⟨RX0, "middleOf", "(I)I"⟩
abbrev cX0_change : ByteArray := prog_2_method_9_code
def yX0_change : MethodName := ⟨RX0, "change", "(II)I"⟩
def RX1 : String := "BishopsPeace$Castle"
def TX1 : u_T := fun k => match k with
  | 0 => ("BishopsPeace$Castle", "peace", "LBishopsPeace$Peace;", true)
  | 1 => ("BishopsPeace$Castle", "breaks", "I", false)
  | 2 => ("BishopsPeace$Castle", "mends", "I", false)
  | _ => ("BishopsPeace$Castle", "stonesLeft", "I", false)
def tyX1 : Nat → FieldType := fun k => match k with
  | 0 => .object "BishopsPeace$Peace"
  | 1 => .int
  | 2 => .int
  | _ => .int
theorem nmX1 : ∀ a, a < 4 → ∀ b, b < 4 → a ≠ b → (TX1 a).2.1 ≠ (TX1 b).2.1 := by decide +kernel
theorem tyX1_ok : ∀ k, k < 4 → parseFieldDescriptor (TX1 k).2.2.1 = some (tyX1 k) := by decide +kernel
abbrev cX1_init : ByteArray := prog_3_method_1_code
def yX1_init : MethodName := ⟨RX1, "<init>", "(LBishopsPeace$Peace;)V"⟩
abbrev cX1_batter : ByteArray := prog_3_method_2_code
def yX1_batter : MethodName := ⟨RX1, "batter", "(IIII)I"⟩
abbrev cX1_leastMends : ByteArray := prog_3_method_3_code
def yX1_leastMends : MethodName := ⟨RX1, "leastMends", "(III)I"⟩
def RX2 : String := "BishopsPeace$Homeward"
def TX2 : u_T := fun k => match k with
  | 0 => ("BishopsPeace$Homeward", "roads", "LBishopsPeace$Roads;", true)
  | 1 => ("BishopsPeace$Homeward", "peace", "LBishopsPeace$Peace;", true)
  | 2 => ("BishopsPeace$Homeward", "row", "[I", true)
  | 3 => ("BishopsPeace$Homeward", "bestRow", "[I", true)
  | 4 => ("BishopsPeace$Homeward", "goal", "I", false)
  | 5 => ("BishopsPeace$Homeward", "start", "I", false)
  | 6 => ("BishopsPeace$Homeward", "been", "I", false)
  | 7 => ("BishopsPeace$Homeward", "bestSteps", "I", false)
  | 8 => ("BishopsPeace$Homeward", "bestHours", "I", false)
  | _ => ("BishopsPeace$Homeward", "bestChance", "I", false)
def tyX2 : Nat → FieldType := fun k => match k with
  | 0 => .object "BishopsPeace$Roads"
  | 1 => .object "BishopsPeace$Peace"
  | 2 => .array .int
  | 3 => .array .int
  | 4 => .int
  | 5 => .int
  | 6 => .int
  | 7 => .int
  | 8 => .int
  | _ => .int
theorem nmX2 : ∀ a, a < 10 → ∀ b, b < 10 → a ≠ b → (TX2 a).2.1 ≠ (TX2 b).2.1 := by decide +kernel
theorem tyX2_ok : ∀ k, k < 10 → parseFieldDescriptor (TX2 k).2.2.1 = some (tyX2 k) := by decide +kernel
abbrev cX2_init : ByteArray := prog_4_method_1_code
def yX2_init : MethodName := ⟨RX2, "<init>", "(LBishopsPeace$Roads;LBishopsPeace$Peace;)V"⟩
abbrev cX2_seek : ByteArray := prog_4_method_2_code
def yX2_seek : MethodName := ⟨RX2, "seek", "(III)V"⟩
abbrev cX2_walk : ByteArray := prog_4_method_3_code
def yX2_walk : MethodName := ⟨RX2, "walk", "(III)V"⟩
abbrev cX2_freeOf : ByteArray := prog_4_method_4_code
def yX2_freeOf : MethodName := ⟨RX2, "freeOf", "(I)I"⟩
abbrev cX2_arrive : ByteArray := prog_4_method_5_code
def yX2_arrive : MethodName := ⟨RX2, "arrive", "(III)V"⟩
abbrev cX2_isBetter : ByteArray := prog_4_method_6_code
def yX2_isBetter : MethodName := ⟨RX2, "isBetter", "(II)Z"⟩
abbrev cX2_commonBits : ByteArray := prog_4_method_7_code
def yX2_commonBits : MethodName := ⟨RX2, "commonBits", "()I"⟩
abbrev cX2_above : ByteArray := prog_4_method_8_code
def yX2_above : MethodName := ⟨RX2, "above", "()I"⟩
abbrev cX2_below : ByteArray := prog_4_method_9_code
def yX2_below : MethodName := ⟨RX2, "below", "()I"⟩
abbrev cX2_landAt : ByteArray := prog_4_method_10_code
def yX2_landAt : MethodName := ⟨RX2, "landAt", "(I)I"⟩
def RX3 : String := "BishopsPeace$March"
def TX3 : u_T := fun k => match k with
  | 0 => ("BishopsPeace$March", "roads", "LBishopsPeace$Roads;", true)
  | 1 => ("BishopsPeace$March", "peace", "LBishopsPeace$Peace;", true)
  | 2 => ("BishopsPeace$March", "lands", "[I", true)
  | 3 => ("BishopsPeace$March", "behind", "[I", true)
  | _ => ("BishopsPeace$March", "needs", "I", false)
def tyX3 : Nat → FieldType := fun k => match k with
  | 0 => .object "BishopsPeace$Roads"
  | 1 => .object "BishopsPeace$Peace"
  | 2 => .array .int
  | 3 => .array .int
  | _ => .int
theorem nmX3 : ∀ a, a < 5 → ∀ b, b < 5 → a ≠ b → (TX3 a).2.1 ≠ (TX3 b).2.1 := by decide +kernel
theorem tyX3_ok : ∀ k, k < 5 → parseFieldDescriptor (TX3 k).2.2.1 = some (tyX3 k) := by decide +kernel
abbrev cX3_init : ByteArray := prog_5_method_1_code
def yX3_init : MethodName := ⟨RX3, "<init>", "(LBishopsPeace$Roads;LBishopsPeace$Peace;)V"⟩
abbrev cX3_firstStart : ByteArray := prog_5_method_2_code
def yX3_firstStart : MethodName := ⟨RX3, "firstStart", "(IIII)I"⟩
abbrev cX3_goBetween : ByteArray := prog_5_method_3_code
def yX3_goBetween : MethodName := ⟨RX3, "goBetween", "(III)V"⟩
abbrev cX3_need : ByteArray := prog_5_method_4_code
def yX3_need : MethodName := ⟨RX3, "need", "(II)V"⟩
abbrev cX3_isAllowed : ByteArray := prog_5_method_5_code
def yX3_isAllowed : MethodName := ⟨RX3, "isAllowed", "(I)Z"⟩
def RX4 : String := "BishopsPeace$Memory"
def TX4 : u_T := fun k => match k with
  | 0 => ("BishopsPeace$Memory", "peace", "LBishopsPeace$Peace;", true)
  | 1 => ("BishopsPeace$Memory", "hours", "[I", true)
  | 2 => ("BishopsPeace$Memory", "lands", "[I", true)
  | 3 => ("BishopsPeace$Memory", "wars", "[Z", true)
  | _ => ("BishopsPeace$Memory", "number", "I", false)
def tyX4 : Nat → FieldType := fun k => match k with
  | 0 => .object "BishopsPeace$Peace"
  | 1 => .array .int
  | 2 => .array .int
  | 3 => .array .boolean
  | _ => .int
theorem nmX4 : ∀ a, a < 5 → ∀ b, b < 5 → a ≠ b → (TX4 a).2.1 ≠ (TX4 b).2.1 := by decide +kernel
theorem tyX4_ok : ∀ k, k < 5 → parseFieldDescriptor (TX4 k).2.2.1 = some (tyX4 k) := by decide +kernel
abbrev cX4_init : ByteArray := prog_6_method_1_code
def yX4_init : MethodName := ⟨RX4, "<init>", "(LBishopsPeace$Peace;)V"⟩
abbrev cX4_keep : ByteArray := prog_6_method_2_code
def yX4_keep : MethodName := ⟨RX4, "keep", "(IIZ)Z"⟩
abbrev cX4_fits : ByteArray := prog_6_method_3_code
def yX4_fits : MethodName := ⟨RX4, "fits", "(I)Z"⟩
def RX5 : String := "BishopsPeace$Peace"
def TX5 : u_T := fun k => match k with
  | 0 => ("BishopsPeace$Peace", "bells", "LBishopsPeace$Bells;", true)
  | 1 => ("BishopsPeace$Peace", "facts", "[I", true)
  | 2 => ("BishopsPeace$Peace", "feasts", "[I", true)
  | 3 => ("BishopsPeace$Peace", "feastCount", "I", false)
  | 4 => ("BishopsPeace$Peace", "feastDays", "I", false)
  | _ => ("BishopsPeace$Peace", "lentWeeks", "I", false)
def tyX5 : Nat → FieldType := fun k => match k with
  | 0 => .object "BishopsPeace$Bells"
  | 1 => .array .int
  | 2 => .array .int
  | 3 => .int
  | 4 => .int
  | _ => .int
theorem nmX5 : ∀ a, a < 6 → ∀ b, b < 6 → a ≠ b → (TX5 a).2.1 ≠ (TX5 b).2.1 := by decide +kernel
theorem tyX5_ok : ∀ k, k < 6 → parseFieldDescriptor (TX5 k).2.2.1 = some (tyX5 k) := by decide +kernel
abbrev cX5_init : ByteArray := prog_7_method_1_code
def yX5_init : MethodName := ⟨RX5, "<init>", "(LBishopsPeace$Bells;)V"⟩
abbrev cX5_mostOf : ByteArray := prog_7_method_2_code
def yX5_mostOf : MethodName := ⟨RX5, "mostOf", "(I)I"⟩
abbrev cX5_at : ByteArray := prog_7_method_3_code
def yX5_at : MethodName := ⟨RX5, "at", "(II)I"⟩
abbrev cX5_put : ByteArray := prog_7_method_4_code
def yX5_put : MethodName := ⟨RX5, "put", "(III)I"⟩
abbrev cX5_swornLands : ByteArray := prog_7_method_5_code
def yX5_swornLands : MethodName := ⟨RX5, "swornLands", "()I"⟩
abbrev cX5_addFeast : ByteArray := prog_7_method_6_code
def yX5_addFeast : MethodName := ⟨RX5, "addFeast", "(I)Z"⟩
abbrev cX5_dropFeast : ByteArray := prog_7_method_7_code
def yX5_dropFeast : MethodName := ⟨RX5, "dropFeast", "()Z"⟩
abbrev cX5_gatherFeasts : ByteArray := prog_7_method_8_code
def yX5_gatherFeasts : MethodName := ⟨RX5, "gatherFeasts", "()V"⟩
abbrev cX5_isOpenDay : ByteArray := prog_7_method_9_code
def yX5_isOpenDay : MethodName := ⟨RX5, "isOpenDay", "(II)Z"⟩
abbrev cX5_bellOf : ByteArray := prog_7_method_10_code
def yX5_bellOf : MethodName := ⟨RX5, "bellOf", "(II)I"⟩
abbrev cX5_isWar : ByteArray := prog_7_method_11_code
def yX5_isWar : MethodName := ⟨RX5, "isWar", "(II)Z"⟩
abbrev cX5_warInDay : ByteArray := prog_7_method_12_code
def yX5_warInDay : MethodName := ⟨RX5, "warInDay", "(II)I"⟩
abbrev cX5_warInWeek : ByteArray := prog_7_method_13_code
def yX5_warInWeek : MethodName := ⟨RX5, "warInWeek", "(II)I"⟩
def RX6 : String := "BishopsPeace$Roads"
def TX6 : u_T := fun k => match k with
  | 0 => ("BishopsPeace$Roads", "text", "[I", true)
  | 1 => ("BishopsPeace$Roads", "one", "[I", true)
  | 2 => ("BishopsPeace$Roads", "other", "[I", true)
  | 3 => ("BishopsPeace$Roads", "hours", "[I", true)
  | 4 => ("BishopsPeace$Roads", "ways", "[I", true)
  | 5 => ("BishopsPeace$Roads", "bytes", "I", false)
  | 6 => ("BishopsPeace$Roads", "number", "I", false)
  | _ => ("BishopsPeace$Roads", "faultAt", "I", false)
def tyX6 : Nat → FieldType := fun k => match k with
  | 0 => .array .int
  | 1 => .array .int
  | 2 => .array .int
  | 3 => .array .int
  | 4 => .array .int
  | 5 => .int
  | 6 => .int
  | _ => .int
theorem nmX6 : ∀ a, a < 8 → ∀ b, b < 8 → a ≠ b → (TX6 a).2.1 ≠ (TX6 b).2.1 := by decide +kernel
theorem tyX6_ok : ∀ k, k < 8 → parseFieldDescriptor (TX6 k).2.2.1 = some (tyX6 k) := by decide +kernel
abbrev cX6_init : ByteArray := prog_8_method_1_code
def yX6_init : MethodName := ⟨RX6, "<init>", "()V"⟩
abbrev cX6_append : ByteArray := prog_8_method_2_code
def yX6_append : MethodName := ⟨RX6, "append", "(I)Z"⟩
abbrev cX6_shorten : ByteArray := prog_8_method_3_code
def yX6_shorten : MethodName := ⟨RX6, "shorten", "(I)V"⟩
abbrev cX6_settle : ByteArray := prog_8_method_4_code
def yX6_settle : MethodName := ⟨RX6, "settle", "()V"⟩
abbrev cX6_firstFault : ByteArray := prog_8_method_5_code
def yX6_firstFault : MethodName := ⟨RX6, "firstFault", "()I"⟩
abbrev cX6_goesOn : ByteArray := prog_8_method_6_code
def yX6_goesOn : MethodName := ⟨RX6, "goesOn", "(I)Z"⟩
abbrev cX6_measure : ByteArray := prog_8_method_7_code
def yX6_measure : MethodName := ⟨RX6, "measure", "()V"⟩
abbrev cX6_shortenWay : ByteArray := prog_8_method_8_code
def yX6_shortenWay : MethodName := ⟨RX6, "shortenWay", "(III)V"⟩
abbrev cX6_shortest : ByteArray := prog_8_method_9_code
def yX6_shortest : MethodName := ⟨RX6, "shortest", "(II)I"⟩
abbrev cX6_reaches : ByteArray := prog_8_method_10_code
def yX6_reaches : MethodName := ⟨RX6, "reaches", "(II)Z"⟩
abbrev cX6_end : ByteArray := prog_8_method_11_code
def yX6_end : MethodName := ⟨RX6, "end", "(II)I"⟩
abbrev cX6_across : ByteArray := prog_8_method_12_code
def yX6_across : MethodName := ⟨RX6, "across", "(II)I"⟩
abbrev cX6_nextLand : ByteArray := prog_8_method_13_code
def yX6_nextLand : MethodName := ⟨RX6, "nextLand", "(II)I"⟩
abbrev cX6_allHours : ByteArray := prog_8_method_14_code
def yX6_allHours : MethodName := ⟨RX6, "allHours", "()I"⟩
def RX7 : String := "BishopsPeace$Sheet"
def TX7 : u_T := fun k => match k with
  | 0 => ("BishopsPeace$Sheet", "items", "[I", true)
  | 1 => ("BishopsPeace$Sheet", "form", "I", false)
  | 2 => ("BishopsPeace$Sheet", "length", "I", false)
  | _ => ("BishopsPeace$Sheet", "lost", "Z", false)
def tyX7 : Nat → FieldType := fun k => match k with
  | 0 => .array .int
  | 1 => .int
  | 2 => .int
  | _ => .boolean
theorem nmX7 : ∀ a, a < 4 → ∀ b, b < 4 → a ≠ b → (TX7 a).2.1 ≠ (TX7 b).2.1 := by decide +kernel
theorem tyX7_ok : ∀ k, k < 4 → parseFieldDescriptor (TX7 k).2.2.1 = some (tyX7 k) := by decide +kernel
abbrev cX7_init : ByteArray := prog_9_method_1_code
def yX7_init : MethodName := ⟨RX7, "<init>", "()V"⟩
abbrev cX7_renew : ByteArray := prog_9_method_2_code
def yX7_renew : MethodName := ⟨RX7, "renew", "(II)V"⟩
abbrev cX7_put : ByteArray := prog_9_method_3_code
def yX7_put : MethodName := ⟨RX7, "put", "(II)V"⟩
abbrev cX7_holdsRun : ByteArray := prog_9_method_4_code
def yX7_holdsRun : MethodName := ⟨RX7, "holdsRun", "(II)Z"⟩
def RX8 : String := "BishopsPeace"
def TX8 : u_T := fun k => match k with
  | 0 => ("BishopsPeace", "roads", "LBishopsPeace$Roads;", true)
  | 1 => ("BishopsPeace", "bells", "LBishopsPeace$Bells;", true)
  | 2 => ("BishopsPeace", "peace", "LBishopsPeace$Peace;", true)
  | 3 => ("BishopsPeace", "march", "LBishopsPeace$March;", true)
  | 4 => ("BishopsPeace", "castle", "LBishopsPeace$Castle;", true)
  | 5 => ("BishopsPeace", "homeward", "LBishopsPeace$Homeward;", true)
  | 6 => ("BishopsPeace", "memory", "LBishopsPeace$Memory;", true)
  | 7 => ("BishopsPeace", "sheets", "[LBishopsPeace$Sheet;", true)
  | _ => ("BishopsPeace", "finding", "I", false)
def tyX8 : Nat → FieldType := fun k => match k with
  | 0 => .object "BishopsPeace$Roads"
  | 1 => .object "BishopsPeace$Bells"
  | 2 => .object "BishopsPeace$Peace"
  | 3 => .object "BishopsPeace$March"
  | 4 => .object "BishopsPeace$Castle"
  | 5 => .object "BishopsPeace$Homeward"
  | 6 => .object "BishopsPeace$Memory"
  | 7 => .array (.object "BishopsPeace$Sheet")
  | _ => .int
theorem nmX8 : ∀ a, a < 9 → ∀ b, b < 9 → a ≠ b → (TX8 a).2.1 ≠ (TX8 b).2.1 := by decide +kernel
theorem tyX8_ok : ∀ k, k < 9 → parseFieldDescriptor (TX8 k).2.2.1 = some (tyX8 k) := by decide +kernel
abbrev cX8_init : ByteArray := prog_1_method_1_code
def yX8_init : MethodName := ⟨RX8, "<init>", "()V"⟩
abbrev cX8_type : ByteArray := prog_1_method_2_code
def yX8_type : MethodName := ⟨RX8, "type", "(I)I"⟩
abbrev cX8_wipe : ByteArray := prog_1_method_3_code
def yX8_wipe : MethodName := ⟨RX8, "wipe", "()I"⟩
abbrev cX8_undo : ByteArray := prog_1_method_4_code
def yX8_undo : MethodName := ⟨RX8, "undo", "()I"⟩
abbrev cX8_fault : ByteArray := prog_1_method_5_code
def yX8_fault : MethodName := ⟨RX8, "fault", "()I"⟩
abbrev cX8_road : ByteArray := prog_1_method_6_code
def yX8_road : MethodName := ⟨RX8, "road", "(II)I"⟩
abbrev cX8_land : ByteArray := prog_1_method_7_code
def yX8_land : MethodName := ⟨RX8, "land", "(III)I"⟩
abbrev cX8_bell : ByteArray := prog_1_method_8_code
def yX8_bell : MethodName := ⟨RX8, "bell", "(III)I"⟩
abbrev cX8_read : ByteArray := prog_1_method_9_code
def yX8_read : MethodName := ⟨RX8, "read", "(I)I"⟩
abbrev cX8_feast : ByteArray := prog_1_method_10_code
def yX8_feast : MethodName := ⟨RX8, "feast", "(I)I"⟩
abbrev cX8_back : ByteArray := prog_1_method_11_code
def yX8_back : MethodName := ⟨RX8, "back", "()I"⟩
abbrev cX8_lent : ByteArray := prog_1_method_12_code
def yX8_lent : MethodName := ⟨RX8, "lent", "(I)I"⟩
abbrev cX8_war : ByteArray := prog_1_method_13_code
def yX8_war : MethodName := ⟨RX8, "war", "(II)I"⟩
abbrev cX8_strikes : ByteArray := prog_1_method_14_code
def yX8_strikes : MethodName := ⟨RX8, "strikes", "(IIII)I"⟩
abbrev cX8_next : ByteArray := prog_1_method_15_code
def yX8_next : MethodName := ⟨RX8, "next", "(III)I"⟩
abbrev cX8_left : ByteArray := prog_1_method_16_code
def yX8_left : MethodName := ⟨RX8, "left", "(II)I"⟩
abbrev cX8_best : ByteArray := prog_1_method_17_code
def yX8_best : MethodName := ⟨RX8, "best", "(I)I"⟩
abbrev cX8_unlike : ByteArray := prog_1_method_18_code
def yX8_unlike : MethodName := ⟨RX8, "unlike", "(II)I"⟩
abbrev cX8_way : ByteArray := prog_1_method_19_code
def yX8_way : MethodName := ⟨RX8, "way", "(III)I"⟩
abbrev cX8_raid : ByteArray := prog_1_method_20_code
def yX8_raid : MethodName := ⟨RX8, "raid", "(IIII)I"⟩
abbrev cX8_set : ByteArray := prog_1_method_21_code
def yX8_set : MethodName := ⟨RX8, "set", "(II)I"⟩
abbrev cX8_siege : ByteArray := prog_1_method_22_code
def yX8_siege : MethodName := ⟨RX8, "siege", "(IIII)I"⟩
abbrev cX8_holds : ByteArray := prog_1_method_23_code
def yX8_holds : MethodName := ⟨RX8, "holds", "(III)I"⟩
abbrev cX8_home : ByteArray := prog_1_method_24_code
def yX8_home : MethodName := ⟨RX8, "home", "(IIII)I"⟩
abbrev cX8_agree : ByteArray := prog_1_method_25_code
def yX8_agree : MethodName := ⟨RX8, "agree", "(I)I"⟩
abbrev cX8_middle : ByteArray := prog_1_method_26_code
def yX8_middle : MethodName := ⟨RX8, "middle", "(I)I"⟩
abbrev cX8_seen : ByteArray := prog_1_method_27_code
def yX8_seen : MethodName := ⟨RX8, "seen", "(III)I"⟩
abbrev cX8_forget : ByteArray := prog_1_method_28_code
def yX8_forget : MethodName := ⟨RX8, "forget", "()I"⟩
abbrev cX8_which : ByteArray := prog_1_method_29_code
def yX8_which : MethodName := ⟨RX8, "which", "()I"⟩
abbrev cX8_season : ByteArray := prog_1_method_30_code
def yX8_season : MethodName := ⟨RX8, "season", "(II)I"⟩
abbrev cX8_sheet : ByteArray := prog_1_method_31_code
def yX8_sheet : MethodName := ⟨RX8, "sheet", "(III)I"⟩
abbrev cX8_lose : ByteArray := prog_1_method_32_code
def yX8_lose : MethodName := ⟨RX8, "lose", "(I)I"⟩
abbrev cX8_lay : ByteArray := prog_1_method_33_code
def yX8_lay : MethodName := ⟨RX8, "lay", "(IIII)I"⟩
abbrev cX8_get : ByteArray := prog_1_method_34_code
def yX8_get : MethodName := ⟨RX8, "get", "(III)I"⟩
abbrev cX8_copy : ByteArray := prog_1_method_35_code
def yX8_copy : MethodName := ⟨RX8, "copy", "(IIIII)I"⟩
abbrev cX8_write : ByteArray := prog_1_method_36_code
def yX8_write : MethodName := ⟨RX8, "write", "(III)I"⟩
abbrev cX8_count : ByteArray := prog_1_method_37_code
def yX8_count : MethodName := ⟨RX8, "count", "(I)I"⟩
abbrev cX8_digest : ByteArray := prog_1_method_38_code
def yX8_digest : MethodName := ⟨RX8, "digest", "()J"⟩
abbrev cX8_digestOfRoads : ByteArray := prog_1_method_39_code
def yX8_digestOfRoads : MethodName := ⟨RX8, "digestOfRoads", "(J)J"⟩
abbrev cX8_digestOfLands : ByteArray := prog_1_method_40_code
def yX8_digestOfLands : MethodName := ⟨RX8, "digestOfLands", "(J)J"⟩
abbrev cX8_digestOfJourneys : ByteArray := prog_1_method_41_code
def yX8_digestOfJourneys : MethodName := ⟨RX8, "digestOfJourneys", "(J)J"⟩
abbrev cX8_digestOfKinds : ByteArray := prog_1_method_42_code
def yX8_digestOfKinds : MethodName := ⟨RX8, "digestOfKinds", "(J)J"⟩
abbrev cX8_digestOfParishes : ByteArray := prog_1_method_43_code
def yX8_digestOfParishes : MethodName := ⟨RX8, "digestOfParishes", "(J)J"⟩
abbrev cX8_found : ByteArray := prog_1_method_44_code
def yX8_found : MethodName := ⟨RX8, "found", "(I)I"⟩
abbrev cX8_wrongItem : ByteArray := prog_1_method_45_code
def yX8_wrongItem : MethodName := ⟨RX8, "wrongItem", "(III)I"⟩
abbrev cX8_upTo : ByteArray := prog_1_method_46_code
def yX8_upTo : MethodName := ⟨RX8, "upTo", "(II)Z"⟩
abbrev cX8_isLand : ByteArray := prog_1_method_47_code
def yX8_isLand : MethodName := ⟨RX8, "isLand", "(I)Z"⟩
abbrev cX8_areTwoLands : ByteArray := prog_1_method_48_code
def yX8_areTwoLands : MethodName := ⟨RX8, "areTwoLands", "(II)Z"⟩
abbrev cX8_isParish : ByteArray := prog_1_method_49_code
def yX8_isParish : MethodName := ⟨RX8, "isParish", "(I)Z"⟩
abbrev cX8_isKind : ByteArray := prog_1_method_50_code
def yX8_isKind : MethodName := ⟨RX8, "isKind", "(I)Z"⟩
abbrev cX8_isHour : ByteArray := prog_1_method_51_code
def yX8_isHour : MethodName := ⟨RX8, "isHour", "(I)Z"⟩
abbrev cX8_isSheet : ByteArray := prog_1_method_52_code
def yX8_isSheet : MethodName := ⟨RX8, "isSheet", "(I)Z"⟩
abbrev cX8_isForm : ByteArray := prog_1_method_53_code
def yX8_isForm : MethodName := ⟨RX8, "isForm", "(I)Z"⟩
abbrev cX8_isSiege : ByteArray := prog_1_method_54_code
def yX8_isSiege : MethodName := ⟨RX8, "isSiege", "(III)Z"⟩
def RX9 : String := "BishopsPeaceModel"
def TX9 : u_T := fun k => match k with
  | 0 => ("BishopsPeaceModel", "forms", "[I", true)
  | 1 => ("BishopsPeaceModel", "sizes", "[I", true)
  | 2 => ("BishopsPeaceModel", "items", "[I", true)
  | 3 => ("BishopsPeaceModel", "moved", "[I", true)
  | 4 => ("BishopsPeaceModel", "latest", "I", false)
  | 5 => ("BishopsPeaceModel", "text", "[I", true)
  | 6 => ("BishopsPeaceModel", "typed", "I", false)
  | 7 => ("BishopsPeaceModel", "at", "I", false)
  | 8 => ("BishopsPeaceModel", "roads", "I", false)
  | 9 => ("BishopsPeaceModel", "road", "[I", true)
  | 10 => ("BishopsPeaceModel", "land", "[I", true)
  | 11 => ("BishopsPeaceModel", "bells", "[I", true)
  | 12 => ("BishopsPeaceModel", "feasts", "I", false)
  | 13 => ("BishopsPeaceModel", "feast", "[I", true)
  | 14 => ("BishopsPeaceModel", "lents", "I", false)
  | 15 => ("BishopsPeaceModel", "settings", "[I", true)
  | 16 => ("BishopsPeaceModel", "far", "[I", true)
  | 17 => ("BishopsPeaceModel", "left", "I", false)
  | 18 => ("BishopsPeaceModel", "tried", "[I", true)
  | 19 => ("BishopsPeaceModel", "step", "[I", true)
  | 20 => ("BishopsPeaceModel", "spent", "[I", true)
  | 21 => ("BishopsPeaceModel", "luck", "[I", true)
  | 22 => ("BishopsPeaceModel", "bestSteps", "I", false)
  | 23 => ("BishopsPeaceModel", "bestLuck", "I", false)
  | 24 => ("BishopsPeaceModel", "bestSpent", "I", false)
  | 25 => ("BishopsPeaceModel", "bestStep", "[I", true)
  | 26 => ("BishopsPeaceModel", "sights", "I", false)
  | 27 => ("BishopsPeaceModel", "sight", "[I", true)
  | _ => ("BishopsPeaceModel", "more", "I", false)
def tyX9 : Nat → FieldType := fun k => match k with
  | 0 => .array .int
  | 1 => .array .int
  | 2 => .array .int
  | 3 => .array .int
  | 4 => .int
  | 5 => .array .int
  | 6 => .int
  | 7 => .int
  | 8 => .int
  | 9 => .array .int
  | 10 => .array .int
  | 11 => .array .int
  | 12 => .int
  | 13 => .array .int
  | 14 => .int
  | 15 => .array .int
  | 16 => .array .int
  | 17 => .int
  | 18 => .array .int
  | 19 => .array .int
  | 20 => .array .int
  | 21 => .array .int
  | 22 => .int
  | 23 => .int
  | 24 => .int
  | 25 => .array .int
  | 26 => .int
  | 27 => .array .int
  | _ => .int
theorem nmX9 : ∀ a, a < 29 → ∀ b, b < 29 → a ≠ b → (TX9 a).2.1 ≠ (TX9 b).2.1 := by decide +kernel
theorem tyX9_ok : ∀ k, k < 29 → parseFieldDescriptor (TX9 k).2.2.1 = some (tyX9 k) := by decide +kernel
abbrev cX9_init : ByteArray := prog_11_method_1_code
def yX9_init : MethodName := ⟨RX9, "<init>", "()V"⟩
abbrev cX9_in : ByteArray := prog_11_method_3_code
def yX9_in : MethodName := ⟨RX9, "in", "(JJJ)Z"⟩
abbrev cX9_isTwo : ByteArray := prog_11_method_4_code
def yX9_isTwo : MethodName := ⟨RX9, "isTwo", "(I)Z"⟩
abbrev cX9_isIn : ByteArray := prog_11_method_5_code
def yX9_isIn : MethodName := ⟨RX9, "isIn", "(II)Z"⟩
abbrev cX9_lesser : ByteArray := prog_11_method_6_code
def yX9_lesser : MethodName := ⟨RX9, "lesser", "(II)I"⟩
abbrev cX9_amount : ByteArray := prog_11_method_7_code
def yX9_amount : MethodName := ⟨RX9, "amount", "(I)I"⟩
abbrev cX9_common : ByteArray := prog_11_method_8_code
def yX9_common : MethodName := ⟨RX9, "common", "(II)I"⟩
abbrev cX9_finds : ByteArray := prog_11_method_9_code
def yX9_finds : MethodName := ⟨RX9, "finds", "(I)I"⟩
abbrev cX9_isSheet : ByteArray := prog_11_method_10_code
def yX9_isSheet : MethodName := ⟨RX9, "isSheet", "(I)Z"⟩
abbrev cX9_sheet : ByteArray := prog_11_method_11_code
def yX9_sheet : MethodName := ⟨RX9, "sheet", "(III)I"⟩
abbrev cX9_lose : ByteArray := prog_11_method_12_code
def yX9_lose : MethodName := ⟨RX9, "lose", "(I)I"⟩
abbrev cX9_lacks : ByteArray := prog_11_method_13_code
def yX9_lacks : MethodName := ⟨RX9, "lacks", "(III)I"⟩
abbrev cX9_cut : ByteArray := prog_11_method_14_code
def yX9_cut : MethodName := ⟨RX9, "cut", "(II)I"⟩
abbrev cX9_lay : ByteArray := prog_11_method_15_code
def yX9_lay : MethodName := ⟨RX9, "lay", "(IIII)I"⟩
abbrev cX9_get : ByteArray := prog_11_method_16_code
def yX9_get : MethodName := ⟨RX9, "get", "(III)I"⟩
abbrev cX9_copy : ByteArray := prog_11_method_17_code
def yX9_copy : MethodName := ⟨RX9, "copy", "(IIIII)I"⟩
abbrev cX9_type : ByteArray := prog_11_method_18_code
def yX9_type : MethodName := ⟨RX9, "type", "(I)I"⟩
abbrev cX9_wipe : ByteArray := prog_11_method_19_code
def yX9_wipe : MethodName := ⟨RX9, "wipe", "()I"⟩
abbrev cX9_undo : ByteArray := prog_11_method_20_code
def yX9_undo : MethodName := ⟨RX9, "undo", "()I"⟩
abbrev cX9_tellsOf : ByteArray := prog_11_method_21_code
def yX9_tellsOf : MethodName := ⟨RX9, "tellsOf", "(II)I"⟩
abbrev cX9_readsRoad : ByteArray := prog_11_method_22_code
def yX9_readsRoad : MethodName := ⟨RX9, "readsRoad", "()Z"⟩
abbrev cX9_reads : ByteArray := prog_11_method_23_code
def yX9_reads : MethodName := ⟨RX9, "reads", "()I"⟩
abbrev cX9_fault : ByteArray := prog_11_method_24_code
def yX9_fault : MethodName := ⟨RX9, "fault", "()I"⟩
abbrev cX9_road : ByteArray := prog_11_method_25_code
def yX9_road : MethodName := ⟨RX9, "road", "(II)I"⟩
abbrev cX9_isLand : ByteArray := prog_11_method_26_code
def yX9_isLand : MethodName := ⟨RX9, "isLand", "(I)Z"⟩
abbrev cX9_isParish : ByteArray := prog_11_method_27_code
def yX9_isParish : MethodName := ⟨RX9, "isParish", "(I)Z"⟩
abbrev cX9_isHour : ByteArray := prog_11_method_28_code
def yX9_isHour : MethodName := ⟨RX9, "isHour", "(I)Z"⟩
abbrev cX9_land : ByteArray := prog_11_method_29_code
def yX9_land : MethodName := ⟨RX9, "land", "(III)I"⟩
abbrev cX9_bell : ByteArray := prog_11_method_30_code
def yX9_bell : MethodName := ⟨RX9, "bell", "(III)I"⟩
abbrev cX9_read : ByteArray := prog_11_method_31_code
def yX9_read : MethodName := ⟨RX9, "read", "(I)I"⟩
abbrev cX9_feast : ByteArray := prog_11_method_32_code
def yX9_feast : MethodName := ⟨RX9, "feast", "(I)I"⟩
abbrev cX9_back : ByteArray := prog_11_method_33_code
def yX9_back : MethodName := ⟨RX9, "back", "()I"⟩
abbrev cX9_lent : ByteArray := prog_11_method_34_code
def yX9_lent : MethodName := ⟨RX9, "lent", "(I)I"⟩
abbrev cX9_isWarBy : ByteArray := prog_11_method_35_code
def yX9_isWarBy : MethodName := ⟨RX9, "isWarBy", "(II)Z"⟩
abbrev cX9_isFeast : ByteArray := prog_11_method_36_code
def yX9_isFeast : MethodName := ⟨RX9, "isFeast", "(I)Z"⟩
abbrev cX9_isWar : ByteArray := prog_11_method_37_code
def yX9_isWar : MethodName := ⟨RX9, "isWar", "(II)Z"⟩
abbrev cX9_war : ByteArray := prog_11_method_38_code
def yX9_war : MethodName := ⟨RX9, "war", "(II)I"⟩
abbrev cX9_strikesNow : ByteArray := prog_11_method_39_code
def yX9_strikesNow : MethodName := ⟨RX9, "strikesNow", "(IIII)Z"⟩
abbrev cX9_strikes : ByteArray := prog_11_method_40_code
def yX9_strikes : MethodName := ⟨RX9, "strikes", "(IIII)I"⟩
abbrev cX9_nextOf : ByteArray := prog_11_method_41_code
def yX9_nextOf : MethodName := ⟨RX9, "nextOf", "(III)I"⟩
abbrev cX9_next : ByteArray := prog_11_method_42_code
def yX9_next : MethodName := ⟨RX9, "next", "(III)I"⟩
abbrev cX9_leftIn : ByteArray := prog_11_method_43_code
def yX9_leftIn : MethodName := ⟨RX9, "leftIn", "(II)I"⟩
abbrev cX9_left : ByteArray := prog_11_method_44_code
def yX9_left : MethodName := ⟨RX9, "left", "(II)I"⟩
abbrev cX9_bestOf : ByteArray := prog_11_method_45_code
def yX9_bestOf : MethodName := ⟨RX9, "bestOf", "(I)I"⟩
abbrev cX9_best : ByteArray := prog_11_method_46_code
def yX9_best : MethodName := ⟨RX9, "best", "(I)I"⟩
abbrev cX9_unlikeOf : ByteArray := prog_11_method_47_code
def yX9_unlikeOf : MethodName := ⟨RX9, "unlikeOf", "(II)I"⟩
abbrev cX9_unlike : ByteArray := prog_11_method_48_code
def yX9_unlike : MethodName := ⟨RX9, "unlike", "(II)I"⟩
abbrev cX9_hoursOf : ByteArray := prog_11_method_49_code
def yX9_hoursOf : MethodName := ⟨RX9, "hoursOf", "(II)I"⟩
abbrev cX9_findFar : ByteArray := prog_11_method_50_code
def yX9_findFar : MethodName := ⟨RX9, "findFar", "(I)V"⟩
abbrev cX9_nextLand : ByteArray := prog_11_method_51_code
def yX9_nextLand : MethodName := ⟨RX9, "nextLand", "(I)I"⟩
abbrev cX9_wayOf : ByteArray := prog_11_method_52_code
def yX9_wayOf : MethodName := ⟨RX9, "wayOf", "(III)I"⟩
abbrev cX9_areTwo : ByteArray := prog_11_method_53_code
def yX9_areTwo : MethodName := ⟨RX9, "areTwo", "(II)Z"⟩
abbrev cX9_way : ByteArray := prog_11_method_54_code
def yX9_way : MethodName := ⟨RX9, "way", "(III)I"⟩
abbrev cX9_goes : ByteArray := prog_11_method_55_code
def yX9_goes : MethodName := ⟨RX9, "goes", "(IIIZ)I"⟩
abbrev cX9_isRaid : ByteArray := prog_11_method_56_code
def yX9_isRaid : MethodName := ⟨RX9, "isRaid", "(IIII)Z"⟩
abbrev cX9_raidOf : ByteArray := prog_11_method_57_code
def yX9_raidOf : MethodName := ⟨RX9, "raidOf", "(IIII)I"⟩
abbrev cX9_raid : ByteArray := prog_11_method_58_code
def yX9_raid : MethodName := ⟨RX9, "raid", "(IIII)I"⟩
abbrev cX9_set : ByteArray := prog_11_method_59_code
def yX9_set : MethodName := ⟨RX9, "set", "(II)I"⟩
abbrev cX9_falls : ByteArray := prog_11_method_60_code
def yX9_falls : MethodName := ⟨RX9, "falls", "(IIII)I"⟩
abbrev cX9_siegeOf : ByteArray := prog_11_method_61_code
def yX9_siegeOf : MethodName := ⟨RX9, "siegeOf", "(IIII)I"⟩
abbrev cX9_siege : ByteArray := prog_11_method_62_code
def yX9_siege : MethodName := ⟨RX9, "siege", "(IIII)I"⟩
abbrev cX9_holdsBy : ByteArray := prog_11_method_63_code
def yX9_holdsBy : MethodName := ⟨RX9, "holdsBy", "(III)I"⟩
abbrev cX9_holds : ByteArray := prog_11_method_64_code
def yX9_holds : MethodName := ⟨RX9, "holds", "(III)I"⟩
abbrev cX9_otherEnd : ByteArray := prog_11_method_65_code
def yX9_otherEnd : MethodName := ⟨RX9, "otherEnd", "(II)I"⟩
abbrev cX9_wasAt : ByteArray := prog_11_method_66_code
def yX9_wasAt : MethodName := ⟨RX9, "wasAt", "(II)Z"⟩
abbrev cX9_isLess : ByteArray := prog_11_method_67_code
def yX9_isLess : MethodName := ⟨RX9, "isLess", "(I)Z"⟩
abbrev cX9_comes : ByteArray := prog_11_method_68_code
def yX9_comes : MethodName := ⟨RX9, "comes", "(I)V"⟩
abbrev cX9_findHome : ByteArray := prog_11_method_69_code
def yX9_findHome : MethodName := ⟨RX9, "findHome", "(III)V"⟩
abbrev cX9_tellsHome : ByteArray := prog_11_method_70_code
def yX9_tellsHome : MethodName := ⟨RX9, "tellsHome", "(I)I"⟩
abbrev cX9_home : ByteArray := prog_11_method_71_code
def yX9_home : MethodName := ⟨RX9, "home", "(IIII)I"⟩
abbrev cX9_pairOf : ByteArray := prog_11_method_72_code
def yX9_pairOf : MethodName := ⟨RX9, "pairOf", "(I)I"⟩
abbrev cX9_agreeOf : ByteArray := prog_11_method_73_code
def yX9_agreeOf : MethodName := ⟨RX9, "agreeOf", "(I)I"⟩
abbrev cX9_agree : ByteArray := prog_11_method_74_code
def yX9_agree : MethodName := ⟨RX9, "agree", "(I)I"⟩
abbrev cX9_changesBy : ByteArray := prog_11_method_75_code
def yX9_changesBy : MethodName := ⟨RX9, "changesBy", "(II)I"⟩
abbrev cX9_middleBell : ByteArray := prog_11_method_76_code
def yX9_middleBell : MethodName := ⟨RX9, "middleBell", "(I)I"⟩
abbrev cX9_middleOf : ByteArray := prog_11_method_77_code
def yX9_middleOf : MethodName := ⟨RX9, "middleOf", "(I)I"⟩
abbrev cX9_middle : ByteArray := prog_11_method_78_code
def yX9_middle : MethodName := ⟨RX9, "middle", "(I)I"⟩
abbrev cX9_seen : ByteArray := prog_11_method_79_code
def yX9_seen : MethodName := ⟨RX9, "seen", "(III)I"⟩
abbrev cX9_forget : ByteArray := prog_11_method_80_code
def yX9_forget : MethodName := ⟨RX9, "forget", "()I"⟩
abbrev cX9_whichNow : ByteArray := prog_11_method_81_code
def yX9_whichNow : MethodName := ⟨RX9, "whichNow", "()I"⟩
abbrev cX9_which : ByteArray := prog_11_method_82_code
def yX9_which : MethodName := ⟨RX9, "which", "()I"⟩
abbrev cX9_seasonOf : ByteArray := prog_11_method_83_code
def yX9_seasonOf : MethodName := ⟨RX9, "seasonOf", "(II)I"⟩
abbrev cX9_season : ByteArray := prog_11_method_84_code
def yX9_season : MethodName := ⟨RX9, "season", "(II)I"⟩
abbrev cX9_write : ByteArray := prog_11_method_85_code
def yX9_write : MethodName := ⟨RX9, "write", "(III)I"⟩
abbrev cX9_count : ByteArray := prog_11_method_86_code
def yX9_count : MethodName := ⟨RX9, "count", "(I)I"⟩
abbrev cX9_tellsLand : ByteArray := prog_11_method_87_code
def yX9_tellsLand : MethodName := ⟨RX9, "tellsLand", "(JI)J"⟩
abbrev cX9_tellsWays : ByteArray := prog_11_method_88_code
def yX9_tellsWays : MethodName := ⟨RX9, "tellsWays", "(JI)J"⟩
abbrev cX9_digest : ByteArray := prog_11_method_89_code
def yX9_digest : MethodName := ⟨RX9, "digest", "()J"⟩
def RJ9 : String := "java/lang/Math"
def TJ9 : u_T := fun k => match k with
  | _ => ("", "", "", false)
def tyJ9 : Nat → FieldType := fun k => match k with
  | _ => .int
theorem nmJ9 : ∀ a, a < 0 → ∀ b, b < 0 → a ≠ b → (TJ9 a).2.1 ≠ (TJ9 b).2.1 := by decide +kernel
theorem tyJ9_ok : ∀ k, k < 0 → parseFieldDescriptor (TJ9 k).2.2.1 = some (tyJ9 k) := by decide +kernel
abbrev cJ9_abs_0f7a4 : ByteArray := prog_12_method_59_code
def yJ9_abs_0f7a4 : MethodName := ⟨RJ9, "abs", "(I)I"⟩
abbrev cJ9_min_7cf53 : ByteArray := prog_12_method_69_code
def yJ9_min_7cf53 : MethodName := ⟨RJ9, "min", "(II)I"⟩
def RJ10 : String := "java/lang/System"
def TJ10 : u_T := fun k => match k with
  | _ => ("", "", "", false)
def tyJ10 : Nat → FieldType := fun k => match k with
  | _ => .int
theorem nmJ10 : ∀ a, a < 0 → ∀ b, b < 0 → a ≠ b → (TJ10 a).2.1 ≠ (TJ10 b).2.1 := by decide +kernel
theorem tyJ10_ok : ∀ k, k < 0 → parseFieldDescriptor (TJ10 k).2.2.1 = some (tyJ10 k) := by decide +kernel
def RJ7 : String := "java/util/Arrays"
def TJ7 : u_T := fun k => match k with
  | _ => ("", "", "", false)
def tyJ7 : Nat → FieldType := fun k => match k with
  | _ => .int
theorem nmJ7 : ∀ a, a < 0 → ∀ b, b < 0 → a ≠ b → (TJ7 a).2.1 ≠ (TJ7 b).2.1 := by decide +kernel
theorem tyJ7_ok : ∀ k, k < 0 → parseFieldDescriptor (TJ7 k).2.2.1 = some (tyJ7 k) := by decide +kernel
abbrev cJ7_fill_53178 : ByteArray := prog_14_method_103_code
def yJ7_fill_53178 : MethodName := ⟨RJ7, "fill", "([II)V"⟩
def RL : String := "BishopsPeaceLaw"
abbrev cL_law : ByteArray := code
def yL_law : MethodName := ⟨RL, "law", "([I)Z"⟩
abbrev vwCl : List vw_C := [(RX0, TX0, 1), (RX1, TX1, 4), (RX2, TX2, 10), (RX3, TX3, 5), (RX4, TX4, 5), (RX5, TX5, 6), (RX6, TX6, 8), (RX7, TX7, 4), (RX8, TX8, 9), (RX9, TX9, 29)]
abbrev MI : Type := MethodName × ByteArray × Nat × Option FieldType
def iX0_init : MI := (yX0_init, cX0_init, 2, none)
def iX0_at : MI := (yX0_at, cX0_at, 3, (some .int))
def iX0_put : MI := (yX0_put, cX0_put, 4, (some .int))
def iX0_hoursUnlike : MI := (yX0_hoursUnlike, cX0_hoursUnlike, 3, (some .int))
def iX0_likeOnes : MI := (yX0_likeOnes, cX0_likeOnes, 4, (some .int))
def iX0_commonest : MI := (yX0_commonest, cX0_commonest, 4, (some .int))
def iX0_rank : MI := (yX0_rank, cX0_rank, 2, (some .int))
def iX0_middleOf : MI := (yX0_middleOf, cX0_middleOf, 4, (some .int))
def iX0_change : MI := (yX0_change, cX0_change, 5, (some .int))
def iX1_init : MI := (yX1_init, cX1_init, 2, none)
def iX1_batter : MI := (yX1_batter, cX1_batter, 7, (some .int))
def iX1_leastMends : MI := (yX1_leastMends, cX1_leastMends, 8, (some .int))
def iX2_init : MI := (yX2_init, cX2_init, 3, none)
def iX2_seek : MI := (yX2_seek, cX2_seek, 4, none)
def iX2_walk : MI := (yX2_walk, cX2_walk, 8, none)
def iX2_freeOf : MI := (yX2_freeOf, cX2_freeOf, 2, (some .int))
def iX2_arrive : MI := (yX2_arrive, cX2_arrive, 4, none)
def iX2_isBetter : MI := (yX2_isBetter, cX2_isBetter, 4, (some .boolean))
def iX2_commonBits : MI := (yX2_commonBits, cX2_commonBits, 2, (some .int))
def iX2_above : MI := (yX2_above, cX2_above, 1, (some .int))
def iX2_below : MI := (yX2_below, cX2_below, 1, (some .int))
def iX2_landAt : MI := (yX2_landAt, cX2_landAt, 2, (some .int))
def iX3_init : MI := (yX3_init, cX3_init, 3, none)
def iX3_firstStart : MI := (yX3_firstStart, cX3_firstStart, 8, (some .int))
def iX3_goBetween : MI := (yX3_goBetween, cX3_goBetween, 7, none)
def iX3_need : MI := (yX3_need, cX3_need, 3, none)
def iX3_isAllowed : MI := (yX3_isAllowed, cX3_isAllowed, 3, (some .boolean))
def iX4_init : MI := (yX4_init, cX4_init, 2, none)
def iX4_keep : MI := (yX4_keep, cX4_keep, 4, (some .boolean))
def iX4_fits : MI := (yX4_fits, cX4_fits, 3, (some .boolean))
def iX5_init : MI := (yX5_init, cX5_init, 3, none)
def iX5_mostOf : MI := (yX5_mostOf, cX5_mostOf, 1, (some .int))
def iX5_at : MI := (yX5_at, cX5_at, 3, (some .int))
def iX5_put : MI := (yX5_put, cX5_put, 5, (some .int))
def iX5_swornLands : MI := (yX5_swornLands, cX5_swornLands, 3, (some .int))
def iX5_addFeast : MI := (yX5_addFeast, cX5_addFeast, 2, (some .boolean))
def iX5_dropFeast : MI := (yX5_dropFeast, cX5_dropFeast, 1, (some .boolean))
def iX5_gatherFeasts : MI := (yX5_gatherFeasts, cX5_gatherFeasts, 2, none)
def iX5_isOpenDay : MI := (yX5_isOpenDay, cX5_isOpenDay, 5, (some .boolean))
def iX5_bellOf : MI := (yX5_bellOf, cX5_bellOf, 3, (some .int))
def iX5_isWar : MI := (yX5_isWar, cX5_isWar, 4, (some .boolean))
def iX5_warInDay : MI := (yX5_warInDay, cX5_warInDay, 3, (some .int))
def iX5_warInWeek : MI := (yX5_warInWeek, cX5_warInWeek, 5, (some .int))
def iX6_init : MI := (yX6_init, cX6_init, 1, none)
def iX6_append : MI := (yX6_append, cX6_append, 2, (some .boolean))
def iX6_shorten : MI := (yX6_shorten, cX6_shorten, 2, none)
def iX6_settle : MI := (yX6_settle, cX6_settle, 2, none)
def iX6_firstFault : MI := (yX6_firstFault, cX6_firstFault, 2, (some .int))
def iX6_goesOn : MI := (yX6_goesOn, cX6_goesOn, 3, (some .boolean))
def iX6_measure : MI := (yX6_measure, cX6_measure, 4, none)
def iX6_shortenWay : MI := (yX6_shortenWay, cX6_shortenWay, 4, none)
def iX6_shortest : MI := (yX6_shortest, cX6_shortest, 3, (some .int))
def iX6_reaches : MI := (yX6_reaches, cX6_reaches, 3, (some .boolean))
def iX6_end : MI := (yX6_end, cX6_end, 3, (some .int))
def iX6_across : MI := (yX6_across, cX6_across, 3, (some .int))
def iX6_nextLand : MI := (yX6_nextLand, cX6_nextLand, 7, (some .int))
def iX6_allHours : MI := (yX6_allHours, cX6_allHours, 3, (some .int))
def iX7_init : MI := (yX7_init, cX7_init, 1, none)
def iX7_renew : MI := (yX7_renew, cX7_renew, 3, none)
def iX7_put : MI := (yX7_put, cX7_put, 3, none)
def iX7_holdsRun : MI := (yX7_holdsRun, cX7_holdsRun, 3, (some .boolean))
def iX8_init : MI := (yX8_init, cX8_init, 2, none)
def iX8_type : MI := (yX8_type, cX8_type, 2, (some .int))
def iX8_wipe : MI := (yX8_wipe, cX8_wipe, 2, (some .int))
def iX8_undo : MI := (yX8_undo, cX8_undo, 1, (some .int))
def iX8_fault : MI := (yX8_fault, cX8_fault, 1, (some .int))
def iX8_road : MI := (yX8_road, cX8_road, 3, (some .int))
def iX8_land : MI := (yX8_land, cX8_land, 4, (some .int))
def iX8_bell : MI := (yX8_bell, cX8_bell, 4, (some .int))
def iX8_read : MI := (yX8_read, cX8_read, 5, (some .int))
def iX8_feast : MI := (yX8_feast, cX8_feast, 2, (some .int))
def iX8_back : MI := (yX8_back, cX8_back, 1, (some .int))
def iX8_lent : MI := (yX8_lent, cX8_lent, 3, (some .int))
def iX8_war : MI := (yX8_war, cX8_war, 3, (some .int))
def iX8_strikes : MI := (yX8_strikes, cX8_strikes, 6, (some .int))
def iX8_next : MI := (yX8_next, cX8_next, 5, (some .int))
def iX8_left : MI := (yX8_left, cX8_left, 3, (some .int))
def iX8_best : MI := (yX8_best, cX8_best, 4, (some .int))
def iX8_unlike : MI := (yX8_unlike, cX8_unlike, 3, (some .int))
def iX8_way : MI := (yX8_way, cX8_way, 4, (some .int))
def iX8_raid : MI := (yX8_raid, cX8_raid, 5, (some .int))
def iX8_set : MI := (yX8_set, cX8_set, 4, (some .int))
def iX8_siege : MI := (yX8_siege, cX8_siege, 6, (some .int))
def iX8_holds : MI := (yX8_holds, cX8_holds, 4, (some .int))
def iX8_home : MI := (yX8_home, cX8_home, 5, (some .int))
def iX8_agree : MI := (yX8_agree, cX8_agree, 3, (some .int))
def iX8_middle : MI := (yX8_middle, cX8_middle, 4, (some .int))
def iX8_seen : MI := (yX8_seen, cX8_seen, 4, (some .int))
def iX8_forget : MI := (yX8_forget, cX8_forget, 2, (some .int))
def iX8_which : MI := (yX8_which, cX8_which, 3, (some .int))
def iX8_season : MI := (yX8_season, cX8_season, 7, (some .int))
def iX8_sheet : MI := (yX8_sheet, cX8_sheet, 4, (some .int))
def iX8_lose : MI := (yX8_lose, cX8_lose, 2, (some .int))
def iX8_lay : MI := (yX8_lay, cX8_lay, 6, (some .int))
def iX8_get : MI := (yX8_get, cX8_get, 5, (some .int))
def iX8_copy : MI := (yX8_copy, cX8_copy, 8, (some .int))
def iX8_write : MI := (yX8_write, cX8_write, 6, (some .int))
def iX8_count : MI := (yX8_count, cX8_count, 2, (some .int))
def iX8_digest : MI := (yX8_digest, cX8_digest, 4, (some .long))
def iX8_digestOfRoads : MI := (yX8_digestOfRoads, cX8_digestOfRoads, 7, (some .long))
def iX8_digestOfLands : MI := (yX8_digestOfLands, cX8_digestOfLands, 6, (some .long))
def iX8_digestOfJourneys : MI := (yX8_digestOfJourneys, cX8_digestOfJourneys, 7, (some .long))
def iX8_digestOfKinds : MI := (yX8_digestOfKinds, cX8_digestOfKinds, 7, (some .long))
def iX8_digestOfParishes : MI := (yX8_digestOfParishes, cX8_digestOfParishes, 6, (some .long))
def iX8_found : MI := (yX8_found, cX8_found, 2, (some .int))
def iX8_wrongItem : MI := (yX8_wrongItem, cX8_wrongItem, 4, (some .int))
def iX8_upTo : MI := (yX8_upTo, cX8_upTo, 2, (some .boolean))
def iX8_isLand : MI := (yX8_isLand, cX8_isLand, 1, (some .boolean))
def iX8_areTwoLands : MI := (yX8_areTwoLands, cX8_areTwoLands, 2, (some .boolean))
def iX8_isParish : MI := (yX8_isParish, cX8_isParish, 1, (some .boolean))
def iX8_isKind : MI := (yX8_isKind, cX8_isKind, 1, (some .boolean))
def iX8_isHour : MI := (yX8_isHour, cX8_isHour, 1, (some .boolean))
def iX8_isSheet : MI := (yX8_isSheet, cX8_isSheet, 1, (some .boolean))
def iX8_isForm : MI := (yX8_isForm, cX8_isForm, 1, (some .boolean))
def iX8_isSiege : MI := (yX8_isSiege, cX8_isSiege, 3, (some .boolean))
def iX9_init : MI := (yX9_init, cX9_init, 2, none)
def iX9_in : MI := (yX9_in, cX9_in, 6, (some .boolean))
def iX9_isTwo : MI := (yX9_isTwo, cX9_isTwo, 1, (some .boolean))
def iX9_isIn : MI := (yX9_isIn, cX9_isIn, 2, (some .boolean))
def iX9_lesser : MI := (yX9_lesser, cX9_lesser, 2, (some .int))
def iX9_amount : MI := (yX9_amount, cX9_amount, 1, (some .int))
def iX9_common : MI := (yX9_common, cX9_common, 5, (some .int))
def iX9_finds : MI := (yX9_finds, cX9_finds, 2, (some .int))
def iX9_isSheet : MI := (yX9_isSheet, cX9_isSheet, 1, (some .boolean))
def iX9_sheet : MI := (yX9_sheet, cX9_sheet, 5, (some .int))
def iX9_lose : MI := (yX9_lose, cX9_lose, 2, (some .int))
def iX9_lacks : MI := (yX9_lacks, cX9_lacks, 4, (some .int))
def iX9_cut : MI := (yX9_cut, cX9_cut, 2, (some .int))
def iX9_lay : MI := (yX9_lay, cX9_lay, 6, (some .int))
def iX9_get : MI := (yX9_get, cX9_get, 4, (some .int))
def iX9_copy : MI := (yX9_copy, cX9_copy, 7, (some .int))
def iX9_type : MI := (yX9_type, cX9_type, 2, (some .int))
def iX9_wipe : MI := (yX9_wipe, cX9_wipe, 2, (some .int))
def iX9_undo : MI := (yX9_undo, cX9_undo, 1, (some .int))
def iX9_tellsOf : MI := (yX9_tellsOf, cX9_tellsOf, 3, (some .int))
def iX9_readsRoad : MI := (yX9_readsRoad, cX9_readsRoad, 3, (some .boolean))
def iX9_reads : MI := (yX9_reads, cX9_reads, 3, (some .int))
def iX9_fault : MI := (yX9_fault, cX9_fault, 1, (some .int))
def iX9_road : MI := (yX9_road, cX9_road, 3, (some .int))
def iX9_isLand : MI := (yX9_isLand, cX9_isLand, 1, (some .boolean))
def iX9_isParish : MI := (yX9_isParish, cX9_isParish, 1, (some .boolean))
def iX9_isHour : MI := (yX9_isHour, cX9_isHour, 1, (some .boolean))
def iX9_land : MI := (yX9_land, cX9_land, 5, (some .int))
def iX9_bell : MI := (yX9_bell, cX9_bell, 5, (some .int))
def iX9_read : MI := (yX9_read, cX9_read, 3, (some .int))
def iX9_feast : MI := (yX9_feast, cX9_feast, 2, (some .int))
def iX9_back : MI := (yX9_back, cX9_back, 1, (some .int))
def iX9_lent : MI := (yX9_lent, cX9_lent, 3, (some .int))
def iX9_isWarBy : MI := (yX9_isWarBy, cX9_isWarBy, 3, (some .boolean))
def iX9_isFeast : MI := (yX9_isFeast, cX9_isFeast, 4, (some .boolean))
def iX9_isWar : MI := (yX9_isWar, cX9_isWar, 4, (some .boolean))
def iX9_war : MI := (yX9_war, cX9_war, 3, (some .int))
def iX9_strikesNow : MI := (yX9_strikesNow, cX9_strikesNow, 6, (some .boolean))
def iX9_strikes : MI := (yX9_strikes, cX9_strikes, 6, (some .int))
def iX9_nextOf : MI := (yX9_nextOf, cX9_nextOf, 5, (some .int))
def iX9_next : MI := (yX9_next, cX9_next, 4, (some .int))
def iX9_leftIn : MI := (yX9_leftIn, cX9_leftIn, 5, (some .int))
def iX9_left : MI := (yX9_left, cX9_left, 3, (some .int))
def iX9_bestOf : MI := (yX9_bestOf, cX9_bestOf, 4, (some .int))
def iX9_best : MI := (yX9_best, cX9_best, 2, (some .int))
def iX9_unlikeOf : MI := (yX9_unlikeOf, cX9_unlikeOf, 5, (some .int))
def iX9_unlike : MI := (yX9_unlike, cX9_unlike, 3, (some .int))
def iX9_hoursOf : MI := (yX9_hoursOf, cX9_hoursOf, 6, (some .int))
def iX9_findFar : MI := (yX9_findFar, cX9_findFar, 6, none)
def iX9_nextLand : MI := (yX9_nextLand, cX9_nextLand, 5, (some .int))
def iX9_wayOf : MI := (yX9_wayOf, cX9_wayOf, 4, (some .int))
def iX9_areTwo : MI := (yX9_areTwo, cX9_areTwo, 2, (some .boolean))
def iX9_way : MI := (yX9_way, cX9_way, 4, (some .int))
def iX9_goes : MI := (yX9_goes, cX9_goes, 9, (some .int))
def iX9_isRaid : MI := (yX9_isRaid, cX9_isRaid, 8, (some .boolean))
def iX9_raidOf : MI := (yX9_raidOf, cX9_raidOf, 6, (some .int))
def iX9_raid : MI := (yX9_raid, cX9_raid, 5, (some .int))
def iX9_set : MI := (yX9_set, cX9_set, 4, (some .int))
def iX9_falls : MI := (yX9_falls, cX9_falls, 6, (some .int))
def iX9_siegeOf : MI := (yX9_siegeOf, cX9_siegeOf, 6, (some .int))
def iX9_siege : MI := (yX9_siege, cX9_siege, 5, (some .int))
def iX9_holdsBy : MI := (yX9_holdsBy, cX9_holdsBy, 5, (some .int))
def iX9_holds : MI := (yX9_holds, cX9_holds, 4, (some .int))
def iX9_otherEnd : MI := (yX9_otherEnd, cX9_otherEnd, 3, (some .int))
def iX9_wasAt : MI := (yX9_wasAt, cX9_wasAt, 5, (some .boolean))
def iX9_isLess : MI := (yX9_isLess, cX9_isLess, 3, (some .boolean))
def iX9_comes : MI := (yX9_comes, cX9_comes, 4, none)
def iX9_findHome : MI := (yX9_findHome, cX9_findHome, 8, none)
def iX9_tellsHome : MI := (yX9_tellsHome, cX9_tellsHome, 4, (some .int))
def iX9_home : MI := (yX9_home, cX9_home, 5, (some .int))
def iX9_pairOf : MI := (yX9_pairOf, cX9_pairOf, 2, (some .int))
def iX9_agreeOf : MI := (yX9_agreeOf, cX9_agreeOf, 7, (some .int))
def iX9_agree : MI := (yX9_agree, cX9_agree, 2, (some .int))
def iX9_changesBy : MI := (yX9_changesBy, cX9_changesBy, 5, (some .int))
def iX9_middleBell : MI := (yX9_middleBell, cX9_middleBell, 4, (some .int))
def iX9_middleOf : MI := (yX9_middleOf, cX9_middleOf, 4, (some .int))
def iX9_middle : MI := (yX9_middle, cX9_middle, 2, (some .int))
def iX9_seen : MI := (yX9_seen, cX9_seen, 4, (some .int))
def iX9_forget : MI := (yX9_forget, cX9_forget, 2, (some .int))
def iX9_whichNow : MI := (yX9_whichNow, cX9_whichNow, 5, (some .int))
def iX9_which : MI := (yX9_which, cX9_which, 1, (some .int))
def iX9_seasonOf : MI := (yX9_seasonOf, cX9_seasonOf, 7, (some .int))
def iX9_season : MI := (yX9_season, cX9_season, 3, (some .int))
def iX9_write : MI := (yX9_write, cX9_write, 6, (some .int))
def iX9_count : MI := (yX9_count, cX9_count, 4, (some .int))
def iX9_tellsLand : MI := (yX9_tellsLand, cX9_tellsLand, 6, (some .long))
def iX9_tellsWays : MI := (yX9_tellsWays, cX9_tellsWays, 7, (some .long))
def iX9_digest : MI := (yX9_digest, cX9_digest, 5, (some .long))
def iJ9_abs_0f7a4 : MI := (yJ9_abs_0f7a4, cJ9_abs_0f7a4, 1, (some .int))
def iJ9_min_7cf53 : MI := (yJ9_min_7cf53, cJ9_min_7cf53, 2, (some .int))
def iJ7_fill_53178 : MI := (yJ7_fill_53178, cJ7_fill_53178, 4, none)
end
section
/-! THE PICTURE OF THE MACHINE: whole numbers for ints and longs, places 0, 1, 2 .. for the cells that the run has made (place k lies at address base + k), a world: what each place holds -/
abbrev AV : Type := Int ⊕ (Int ⊕ Option Nat)
abbrev vI (z : Int) : AV := Sum.inl z
abbrev vL (z : Int) : AV := Sum.inr (Sum.inl z)
abbrev vR (k : Nat) : AV := Sum.inr (Sum.inr (some k))
abbrev vN : AV := Sum.inr (Sum.inr none)
abbrev AC : Type := (Nat × Nat × (Int → Int)) ⊕ ((Nat × (Int → Option Nat)) ⊕ (Nat × List AV))
abbrev cI (n : Nat) (f : Int → Int) : AC := Sum.inl (0, n, f)
abbrev cZ (n : Nat) (f : Int → Int) : AC := Sum.inl (1, n, f)
abbrev cR (n : Nat) (f : Int → Option Nat) : AC := Sum.inr (Sum.inl (n, f))
abbrev cO (ci : Nat) (fs : List AV) : AC := Sum.inr (Sum.inr (ci, fs))
abbrev AW : Type := Nat → AC
def upw (w : AW) (k : Nat) (c : AC) : AW := fun j => if j = k then c else w j
def upf (f : Int → Int) (i v : Int) : Int → Int := fun j => if j = i then v else f j
def upr (f : Int → Option Nat) (i : Int) (v : Option Nat) : Int → Option Nat := fun j => if j = i then v else f j
theorem upw_s {w : AW} {k : Nat} {c : AC} : upw w k c k = c := by simp [upw]
theorem upw_o {w : AW} {k j : Nat} {c c2 : AC} (h : j ≠ k) (e : w j = c2) : upw w k c j = c2 := by simp [upw, h, e]
abbrev Cx : Type := Nat × va_G × (ClassId × ClassId × ClassId)
def iZ (z : Int) : Int32 := Int32.ofInt z
def lZ (z : Int) : Int64 := Int64.ofInt z
abbrev R32 (z : Int) : Prop := -2147483648 ≤ z ∧ z ≤ 2147483647
abbrev R64 (z : Int) : Prop := -9223372036854775808 ≤ z ∧ z ≤ 9223372036854775807
theorem iZ_toInt {z : Int} (h : R32 z) : (iZ z).toInt = z := Int32.toInt_ofInt_of_le (by omega) (by omega)
theorem iZ_of (v : Int32) : iZ v.toInt = v := Int32.ofInt_toInt v
theorem iZ_R (v : Int32) : R32 v.toInt := ⟨by have := v.le_toInt; omega, by have := v.toInt_lt; omega⟩
theorem iZ_add (a b : Int) : iZ a + iZ b = iZ (a + b) := (Int32.ofInt_add a b).symm
theorem iZ_sub (a b : Int) : iZ a - iZ b = iZ (a - b) := (Int32.ofInt_sub a b).symm
theorem iZ_mul (a b : Int) : iZ a * iZ b = iZ (a * b) := (Int32.ofInt_mul a b).symm
theorem iZ_neg (a : Int) : -iZ a = iZ (-a) := (Int32.ofInt_neg a).symm
theorem iZ_lt {a b : Int} (ha : R32 a) (hb : R32 b) : iZ a < iZ b ↔ a < b := by rw [Int32.lt_iff_toInt_lt, iZ_toInt ha, iZ_toInt hb]
theorem iZ_le {a b : Int} (ha : R32 a) (hb : R32 b) : iZ a ≤ iZ b ↔ a ≤ b := by rw [Int32.le_iff_toInt_le, iZ_toInt ha, iZ_toInt hb]
theorem iZ_eq {a b : Int} (ha : R32 a) (hb : R32 b) : iZ a = iZ b ↔ a = b := by rw [← Int32.toInt_inj, iZ_toInt ha, iZ_toInt hb]
theorem iZ_0 : iZ 0 = 0 := by decide
theorem iZ_1 : iZ 1 = 1 := by decide
theorem iZ_clamp {z : Int} (h : R32 z) : (iZ z).toNatClampNeg = z.toNat := by
  show (iZ z).toInt.toNat = _
  rw [iZ_toInt h]
theorem iZ_in {i : Int} {n : Nat} (hi : 0 ≤ i ∧ i < (n : Int)) (hn : Nat.ble n 4096 = true) : vp_in (iZ i) n := by
  have hn := Nat.le_of_ble_eq_true hn
  rw [vp_in_iff, iZ_toInt (by omega)]
  exact hi
theorem lZ_toInt {z : Int} (h : R64 z) : (lZ z).toInt = z := Int64.toInt_ofInt_of_le (by omega) (by omega)
theorem lZ_add (a b : Int) : lZ a + lZ b = lZ (a + b) := (Int64.ofInt_add a b).symm
theorem lZ_mul (a b : Int) : lZ a * lZ b = lZ (a * b) := (Int64.ofInt_mul a b).symm
theorem lZ_i {z : Int} (h : R32 z) : (iZ z).toInt64 = lZ z := by
  rw [← Int64.toInt_inj, Int32.toInt_toInt64, iZ_toInt h, lZ_toInt (by omega)]
theorem lZ_lt {a b : Int} (ha : R64 a) (hb : R64 b) : lZ a < lZ b ↔ a < b := by rw [Int64.lt_iff_toInt_lt, lZ_toInt ha, lZ_toInt hb]
theorem lZ_eq {a b : Int} (ha : R64 a) (hb : R64 b) : lZ a = lZ b ↔ a = b := by rw [← Int64.toInt_inj, lZ_toInt ha, lZ_toInt hb]
theorem iZ_div {a b : Int} (ha : 0 ≤ a ∧ a ≤ 2147483647) (hb : 0 < b ∧ b ≤ 2147483647) : iZ a / iZ b = iZ (a / b) := by
  have hR : R32 (a / b) := ⟨by have := Int.ediv_nonneg ha.1 (Int.le_of_lt hb.1); omega, by have := Int.ediv_le_self b ha.1; omega⟩
  rw [← Int32.toInt_inj, iZ_toInt hR, Int32.toInt_div_of_ne_right _ _ (fun h => by
    have := congrArg Int32.toInt h
    rw [iZ_toInt (by omega)] at this
    have e : (-1 : Int32).toInt = -1 := by decide
    omega), iZ_toInt (by omega), iZ_toInt (by omega), Int.tdiv_eq_ediv_of_nonneg ha.1]
theorem iZ_rem {a b : Int} (ha : 0 ≤ a ∧ a ≤ 2147483647) (hb : 0 < b ∧ b ≤ 2147483647) : iZ a - iZ a / iZ b * iZ b = iZ (a % b) := by
  rw [iZ_div ha hb, iZ_mul, iZ_sub, Int.emod_def, Int.mul_comm]
theorem iZ_b {z : Int} (h : -128 ≤ z ∧ z ≤ 127) : (Int8.ofInt z).toInt32 = iZ z := by
  rw [← Int32.toInt_inj, Int8.toInt_toInt32, iZ_toInt (by omega), Int8.toInt_ofInt_of_le (by omega) (by omega)]
theorem iZ_s {z : Int} (h : -32768 ≤ z ∧ z ≤ 32767) : (Int16.ofInt z).toInt32 = iZ z := by
  rw [← Int32.toInt_inj, Int16.toInt_toInt32, iZ_toInt (by omega), Int16.toInt_ofInt_of_le (by omega) (by omega)]
/-! bits, as the machine has them: whole numbers out of its answers -/
def bAnd (a b : Int) : Int := (iZ a &&& iZ b).toInt
def bOr (a b : Int) : Int := (iZ a ||| iZ b).toInt
def bXor (a b : Int) : Int := (iZ a ^^^ iZ b).toInt
def bShl (a b : Int) : Int := (iZ a <<< (iZ b &&& 31)).toInt
def bShr (a b : Int) : Int := (iZ a >>> (iZ b &&& 31)).toInt
def bUshr (a b : Int) : Int := ((iZ a).toUInt32 >>> ((iZ b).toUInt32 &&& Int32.toUInt32 31)).toInt32.toInt
def bB (a : Int) : Int := (iZ a).toInt8.toInt32.toInt
def bS (a : Int) : Int := (iZ a).toInt16.toInt32.toInt
def bW (a : Int) : Int := (iZ a).toInt
def cmpL (a b : Int) : Int := if b < a then 1 else if a = b then 0 else -1
def b2i (P : Prop) [Decidable P] : Int := if P then 1 else 0
theorem b2i_t {P : Prop} [Decidable P] (h : P) : b2i P = 1 := if_pos h
theorem b2i_f {P : Prop} [Decidable P] (h : ¬ P) : b2i P = 0 := if_neg h
theorem b2i_R (P : Prop) [Decidable P] : b2i P = 0 ∨ b2i P = 1 := by unfold b2i; split <;> simp
/-! from the picture to the machine -/
def cv (b : Nat) (v : AV) : Value := match v with
  | .inl z => .int (iZ z)
  | .inr (.inl z) => .long (lZ z)
  | .inr (.inr o) => va_rf (o.map (fun k => b + k))
def cE (x : Cx) (c : AC) : va_E := match c with
  | .inl (t, n, f) => .inl (if t = 0 then x.2.2.1 else x.2.2.2.1, n, .inl (fun j => iZ (f (j : Int))))
  | .inr (.inl (n, f)) => .inl (x.2.2.2.2, n, .inr (.inr (.inr (.inr (fun j => (f (j : Int)).map (fun k => x.1 + k))))))
  | .inr (.inr (ci, fs)) => .inr (ci, fs.map (cv x.1))
def cw (x : Cx) (n : Nat) (w : AW) : va_W := (List.range n).map (fun k => (x.1 + k, cE x (w k)))
abbrev tysX (x : Cx) : List (ClassId × FieldType) := [(x.2.2.1, .int), (x.2.2.2.1, .boolean), (x.2.2.2.2, .object "BishopsPeace$Sheet")]
abbrev AX (x : Cx) : Nat → Prop := fun q => x.1 ≤ q
theorem cw_at {x : Cx} {n k : Nat} {w : AW} (h : k < n) : (cw x n w)[k]? = some (x.1 + k, cE x (w k)) := by simp [cw, h]
theorem cw_is {x : Cx} {n k : Nat} {w : AW} {q : Nat × va_E} (h : (cw x n w)[k]? = some q) : k < n ∧ q = (x.1 + k, cE x (w k)) := by
  have hl : k < n := by
    have := (List.getElem?_eq_some_iff.mp h).1
    simpa [cw] using this
  rw [cw_at hl] at h
  exact ⟨hl, (Option.some.inj h).symm⟩
theorem cw_len {x : Cx} {n : Nat} {w : AW} : (cw x n w).length = n := by simp [cw]
theorem cw_set {x : Cx} {n k : Nat} {w : AW} {c : AC} (h : k < n) : (cw x n w).set k (x.1 + k, cE x c) = cw x n (upw w k c) := by
  apply List.ext_getElem?
  intro j
  by_cases hj : j < n
  · by_cases hk : j = k
    · subst hk
      rw [List.getElem?_set_self (by rw [cw_len]; exact hj), cw_at hj, upw_s]
    · rw [List.getElem?_set_ne (Ne.symm hk), cw_at hj, cw_at hj, upw_o hk rfl]
  · rw [List.getElem?_eq_none (by rw [List.length_set, cw_len]; omega), List.getElem?_eq_none (by rw [cw_len]; omega)]
theorem cw_push {x : Cx} {n : Nat} {w : AW} {c : AC} : cw x n w ++ [(x.1 + n, cE x c)] = cw x (n + 1) (upw w n c) := by
  unfold cw
  rw [List.range_succ, List.map_append]
  congr 1
  · apply List.map_congr_left
    intro k hk
    rw [upw_o (Nat.ne_of_lt (List.mem_range.mp hk)) rfl]
  · simp [upw_s]
theorem cw_D (x : Cx) (n : Nat) (w : AW) : va_D (AX x) (cw x n w) := by
  refine ⟨fun i j p q hp hq he => ?_, fun k q hq => ?_⟩
  · obtain ⟨-, rfl⟩ := cw_is hp
    obtain ⟨-, rfl⟩ := cw_is hq
    have : x.1 + i = x.1 + j := he
    omega
  · obtain ⟨-, rfl⟩ := cw_is hq
    exact Nat.le_add_right _ _
theorem upf_c (f : Int → Int) {i v : Int} (hi : R32 i ∧ 0 ≤ i) : upd (fun j => iZ (f (j : Int))) (iZ i).toNatClampNeg (iZ v) = fun j : Nat => iZ (upf f i v (j : Int)) := by
  funext j
  rw [iZ_clamp hi.1]
  unfold upd upf
  by_cases h : j = i.toNat
  · rw [if_pos h, if_pos (by omega)]
  · rw [if_neg h, if_neg (by omega)]
theorem upr_c (f : Int → Option Nat) {b k : Nat} {i : Int} (hi : R32 i ∧ 0 ≤ i) : va_up (fun j => (f (j : Int)).map (fun k => b + k)) (iZ i).toNatClampNeg (some (b + k)) = fun j : Nat => (upr f i (some k) (j : Int)).map (fun k => b + k) := by
  funext j
  rw [iZ_clamp hi.1]
  unfold va_up upr
  by_cases h : j = i.toNat
  · rw [if_pos h, if_pos (by omega)]; rfl
  · rw [if_neg h, if_neg (by omega)]
/-! locals: the list of what each slot holds, where it is known -/
def lvL (b : Nat) : Nat → List (Option AV) → List (Nat × Value)
  | _, [] => []
  | k, none :: t => lvL b (k + 1) t
  | k, some v :: t => (k, cv b v) :: lvL b (k + 1) t
def lk : List (Option AV) → Nat → Option AV
  | [], _ => none
  | a :: _, 0 => a
  | _ :: t, i + 1 => lk t i
def sv : List (Option AV) → Nat → Option AV → List (Option AV)
  | [], _, _ => []
  | _ :: t, 0, v => v :: t
  | a :: t, i + 1, v => a :: sv t i v
theorem lvL_mem {b : Nat} : ∀ (L : List (Option AV)) (k : Nat) (q : Nat × Value), q ∈ lvL b k L ↔ ∃ i v, lk L i = some v ∧ q = (k + i, cv b v)
  | [], k, q => by
    simp only [lvL, List.not_mem_nil, false_iff]
    rintro ⟨i, v, h, -⟩
    simp [lk] at h
  | none :: t, k, q => by
    rw [lvL, lvL_mem t (k + 1) q]
    constructor
    · rintro ⟨i, v, h, rfl⟩
      exact ⟨i + 1, v, h, by rw [Nat.add_assoc, Nat.add_comm 1 i]⟩
    · rintro ⟨i, v, h, rfl⟩
      cases i with
      | zero => simp [lk] at h
      | succ i => exact ⟨i, v, h, by rw [Nat.add_assoc, Nat.add_comm 1 i]⟩
  | some a :: t, k, q => by
    rw [lvL, List.mem_cons, lvL_mem t (k + 1) q]
    constructor
    · rintro (rfl | ⟨i, v, h, rfl⟩)
      · exact ⟨0, a, rfl, rfl⟩
      · exact ⟨i + 1, v, h, by rw [Nat.add_assoc, Nat.add_comm 1 i]⟩
    · rintro ⟨i, v, h, rfl⟩
      cases i with
      | zero =>
        simp [lk] at h
        subst h
        exact Or.inl rfl
      | succ i => exact Or.inr ⟨i, v, h, by rw [Nat.add_assoc, Nat.add_comm 1 i]⟩
abbrev LH (b : Nat) (ls : Array Slot) (nL : Nat) (L : List (Option AV)) : Prop := lv_has ls nL (lvL b 0 L)
theorem LH.at {b : Nat} {ls : Array Slot} {nL : Nat} {L : List (Option AV)} (h : LH b ls nL L) {i : Nat} {v : AV} (hi : lk L i = some v) : ls[i]? = some (.val (cv b v)) :=
  h.2.2 (i, cv b v) ((lvL_mem L 0 _).mpr ⟨i, v, hi, by rw [Nat.zero_add]⟩)
theorem sv_lk : ∀ (L : List (Option AV)) (i j : Nat) (v : Option AV) (u : AV), lk (sv L i v) j = some u → (j = i ∧ v = some u) ∨ (j ≠ i ∧ lk L j = some u)
  | [], i, j, v, u, h => by simp [sv, lk] at h
  | a :: t, 0, 0, v, u, h => Or.inl ⟨rfl, h⟩
  | a :: t, 0, j + 1, v, u, h => Or.inr ⟨by omega, h⟩
  | a :: t, i + 1, 0, v, u, h => Or.inr ⟨by omega, h⟩
  | a :: t, i + 1, j + 1, v, u, h => by
    rcases sv_lk t i j v u h with ⟨h1, h2⟩ | ⟨h1, h2⟩
    · exact Or.inl ⟨by omega, h2⟩
    · exact Or.inr ⟨by omega, h2⟩
/-- no long stands just below slot i -/
def okS (L : List (Option AV)) (i : Nat) : Bool := match i with
  | 0 => true
  | j + 1 => match lk L j with
    | some (.inr (.inl _)) => false
    | _ => true
theorem cv_cat (b : Nat) (v : AV) : (cv b v).category = 2 → ∃ z, v = .inr (.inl z) := by
  intro h
  rcases v with z | z | o
  · simp [cv, Value.category] at h
  · exact ⟨z, rfl⟩
  · cases o <;> simp [cv, va_rf, Value.category] at h
theorem LH.weak {b : Nat} {ls : Array Slot} {nL : Nat} {L L' : List (Option AV)} (h : LH b ls nL L) (hw : ∀ i v, lk L' i = some v → lk L i = some v) : LH b ls nL L' := by
  refine ⟨h.1, h.2.1, fun q hq => ?_⟩
  obtain ⟨i, v, h1, rfl⟩ := (lvL_mem L' 0 q).mp hq
  rw [Nat.zero_add]
  exact h.at (hw i v h1)
theorem LH.st1 {b : Nat} {ls' : Array Slot} {nL i : Nat} {L : List (Option AV)} {v : AV} (hok : okS L i = true)
    (h : lv_has ls' nL ((i, cv b v) :: (lvL b 0 L).filter (fun q => !(q.1 == i) && !(q.1 + 1 == i && q.2.category == 2)))) : LH b ls' nL (sv L i (some v)) := by
  refine ⟨h.1, h.2.1, fun q hq => h.2.2 q ?_⟩
  obtain ⟨j, u, h1, rfl⟩ := (lvL_mem _ 0 q).mp hq
  rcases sv_lk L i j _ u h1 with ⟨rfl, h2⟩ | ⟨h2, h3⟩
  · cases h2
    rw [Nat.zero_add]
    exact List.mem_cons_self
  · refine List.mem_cons_of_mem _ (List.mem_filter.mpr ⟨(lvL_mem L 0 _).mpr ⟨j, u, h3, rfl⟩, ?_⟩)
    simp only [Nat.zero_add, Bool.and_eq_true, Bool.not_eq_true', beq_eq_false_iff_ne, Bool.and_eq_false_iff]
    refine ⟨h2, ?_⟩
    by_cases hc : (cv b u).category = 2
    · left
      intro he
      obtain ⟨z, rfl⟩ := cv_cat b u hc
      subst he
      simp [okS, h3] at hok
    · exact Or.inr hc
theorem LH.st2 {b : Nat} {ls' : Array Slot} {nL i : Nat} {L : List (Option AV)} {v : AV} (hok : okS L i = true)
    (h : lv_has ls' nL ((i, cv b v) :: (lvL b 0 L).filter (fun q => !(q.1 == i) && (!(q.1 == i + 1) && !(q.1 + 1 == i && q.2.category == 2))))) : LH b ls' nL (sv (sv L i (some v)) (i + 1) none) := by
  refine ⟨h.1, h.2.1, fun q hq => h.2.2 q ?_⟩
  obtain ⟨j, u, h1, rfl⟩ := (lvL_mem _ 0 q).mp hq
  rcases sv_lk _ (i + 1) j _ u h1 with ⟨rfl, h2⟩ | ⟨h5, h1⟩
  · cases h2
  rcases sv_lk L i j _ u h1 with ⟨rfl, h2⟩ | ⟨h2, h3⟩
  · cases h2
    rw [Nat.zero_add]
    exact List.mem_cons_self
  · refine List.mem_cons_of_mem _ (List.mem_filter.mpr ⟨(lvL_mem L 0 _).mpr ⟨j, u, h3, rfl⟩, ?_⟩)
    simp only [Nat.zero_add, Bool.and_eq_true, Bool.not_eq_true', beq_eq_false_iff_ne, Bool.and_eq_false_iff]
    refine ⟨h2, h5, ?_⟩
    by_cases hc : (cv b u).category = 2
    · left
      intro he
      obtain ⟨z, rfl⟩ := cv_cat b u hc
      subst he
      simp [okS, h3] at hok
    · exact Or.inr hc
/-- a method's first locals -/
def entA : List AV → List (Option AV)
  | [] => []
  | (.inr (.inl z)) :: t => some (vL z) :: none :: entA t
  | v :: t => some v :: entA t
def entL (As : List AV) (nL : Nat) : List (Option AV) := entA As ++ List.replicate (nL - (entA As).length) none
end
section
/-! THE JUDGEMENT Gj: the machine, in method y at pc, with locals L, stack S, world w of n places, comes back to its caller with an answer and a world of which Q holds; and its rows, one an instruction -/
abbrev rmX (d mc ms : Nat) : Room := { frames := d, cells := mc, slots := ms, locals := 40 * d }
def FX (y : MI) (p : Program) (s : State) (m : MethodId) (args : Array Value) (meth : Method) (c : Code) : Prop :=
  p.tables.exec = Jvm.exec ∧ c.code = y.2.1 ∧ meth.sig.returnType = y.2.2.2 ∧ c.maxLocals = y.2.2.1 ∧ s.vm.findClass y.1.cls = some m.cls ∧ (∀ t ∈ lw_tbl, t.before args s = true) ∧ meth.locks = false ∧ meth.name = y.1.name
def HX (x : Cx) (n : Nat) (w : AW) (s : State) (H : Heap) (locs : List Loc) : Prop :=
  va_K x.2.1 vwCl (tysX x) s ∧ va_P x.2.1 vwCl (cw x n w) H ∧ H.size = x.1 + n ∧ va_S (AX x) s.heap H locs ∧ x.1 ≤ s.heap.size
abbrev QT : Type := Nat → Option AV → AW → Prop
def QcA (x : Cx) (Q : QT) : Array Value → State → Outcome → State → Prop := fun _ st oc t =>
  (∃ (n : Nat) (v : Option AV) (w : AW), oc = .returned (v.map (cv x.1)) ∧ Q n v w ∧ va_K x.2.1 vwCl (tysX x) t ∧ va_P x.2.1 vwCl (cw x n w) t.heap ∧ t.heap.size = x.1 + n) ∧ va_F (AX x) st t
def Gj (l : Launch) (x : Cx) (y : MI) (d mc ms : Nat) (Q : QT) (kc ks n : Nat) (w : AW) (pc : Nat) (L : List (Option AV)) (S : List AV) : Prop :=
  ∀ (p : Program) (e : Env) (s : State) (m : MethodId) (args : Array Value) (below : List Frame) (meth : Method) (c : Code) (H : Heap) (locs : List Loc) (cells slots : Nat) (ls : Array Slot),
    FX y p s m args meth c → HX x n w s H locs → cells + kc ≤ mc → slots + ks ≤ ms → LH x.1 ls y.2.2.1 L →
    W p l e (rmX d mc ms) s m args below meth c H locs cells slots (MQ below (QcA x Q) args s mc ms (AX x)) (F0 m pc ls (S.map (cv x.1)))
def AtI (y : MI) (pc : Nat) (i : Instr) (k nx : Nat) : Prop := decode y.2.1 pc = .ok (i, k) ∧ pc + k = nx
def AtJ (y : MI) (pc : Nat) (i : Instr) (off : Int) (nx tg : Nat) : Prop := decode y.2.1 pc = .ok (i, 3) ∧ pc + 3 = nx ∧ (pc : Int) + off = (tg : Int)
section GJ
variable {l : Launch} {x : Cx} {y : MI} {d mc ms : Nat} {Q : QT} {kc ks n : Nat} {w : AW} {pc nx tg : Nat} {L : List (Option AV)} {S : List AV}
theorem gj_iconst {z : Int} (dg : AtI y pc (.iconst z) 1 nx)  (k : Gj l x y d mc ms Q kc ks n w nx L (vI z :: S)) : Gj l x y d mc ms Q kc ks n w pc L S := by
  intro p e s m args below meth c H locs cells slots ls F X h1 h2 hl
  have kk := k p e s m args below meth c H locs cells slots ls F X h1 h2 hl
  rw [← dg.2] at kk
  exact lv_iconst F.1 F.2.1 dg.1 rfl kk
theorem gj_bipush {z : Int} (dg : AtI y pc (.bipush z) 2 nx) (hz : decide (-128 ≤ z ∧ z ≤ 127) = true := by rfl) (k : Gj l x y d mc ms Q kc ks n w nx L (vI z :: S)) : Gj l x y d mc ms Q kc ks n w pc L S := by
  intro p e s m args below meth c H locs cells slots ls F X h1 h2 hl
  have kk := k p e s m args below meth c H locs cells slots ls F X h1 h2 hl
  rw [← dg.2] at kk
  exact lv_bipush F.1 F.2.1 dg.1 (iZ_b (of_decide_eq_true hz)) kk
theorem gj_sipush {z : Int} (dg : AtI y pc (.sipush z) 3 nx) (hz : decide (-32768 ≤ z ∧ z ≤ 32767) = true := by rfl) (k : Gj l x y d mc ms Q kc ks n w nx L (vI z :: S)) : Gj l x y d mc ms Q kc ks n w pc L S := by
  intro p e s m args below meth c H locs cells slots ls F X h1 h2 hl
  have kk := k p e s m args below meth c H locs cells slots ls F X h1 h2 hl
  rw [← dg.2] at kk
  exact lv_sipush F.1 F.2.1 dg.1 (iZ_s (of_decide_eq_true hz)) kk
theorem gj_lconst0  (dg : AtI y pc (.lconst 0) 1 nx)  (k : Gj l x y d mc ms Q kc ks n w nx L (vL 0 :: S)) : Gj l x y d mc ms Q kc ks n w pc L S := by
  intro p e s m args below meth c H locs cells slots ls F X h1 h2 hl
  have kk := k p e s m args below meth c H locs cells slots ls F X h1 h2 hl
  rw [← dg.2] at kk
  exact lv_lconst F.1 F.2.1 dg.1 (show Int64.ofNat _ = lZ 0 by decide) kk
theorem gj_lconst1  (dg : AtI y pc (.lconst 1) 1 nx)  (k : Gj l x y d mc ms Q kc ks n w nx L (vL 1 :: S)) : Gj l x y d mc ms Q kc ks n w pc L S := by
  intro p e s m args below meth c H locs cells slots ls F X h1 h2 hl
  have kk := k p e s m args below meth c H locs cells slots ls F X h1 h2 hl
  rw [← dg.2] at kk
  exact lv_lconst F.1 F.2.1 dg.1 (show Int64.ofNat _ = lZ 1 by decide) kk
theorem gj_ldc {z : Int} {j : Nat} (dg : AtI y pc (.ldc j) 2 nx) (hc : Cond.constant y.1.cls j (iZ z) ∈ lw_tbl) (k : Gj l x y d mc ms Q kc ks n w nx L (vI z :: S)) : Gj l x y d mc ms Q kc ks n w pc L S := by
  intro p e s m args below meth c H locs cells slots ls F X h1 h2 hl
  have kk := k p e s m args below meth c H locs cells slots ls F X h1 h2 hl
  rw [← dg.2] at kk
  exact lv_ldc F.1 F.2.1 F.2.2.2.2.1 (F.2.2.2.2.2.1 _ hc) dg.1 kk
theorem gj_ldcw {z : Int} {j : Nat} (dg : AtI y pc (.ldc_w j) 3 nx) (hc : Cond.constant y.1.cls j (iZ z) ∈ lw_tbl) (k : Gj l x y d mc ms Q kc ks n w nx L (vI z :: S)) : Gj l x y d mc ms Q kc ks n w pc L S := by
  intro p e s m args below meth c H locs cells slots ls F X h1 h2 hl
  have kk := k p e s m args below meth c H locs cells slots ls F X h1 h2 hl
  rw [← dg.2] at kk
  exact lv_ldcw F.1 F.2.1 F.2.2.2.2.1 (F.2.2.2.2.2.1 _ hc) dg.1 kk
theorem gj_ldc2 {z : Int} {j : Nat} (dg : AtI y pc (.ldc2_w j) 3 nx) (hc : Cond.constantLong y.1.cls j (lZ z) ∈ lw_tbl) (k : Gj l x y d mc ms Q kc ks n w nx L (vL z :: S)) : Gj l x y d mc ms Q kc ks n w pc L S := by
  intro p e s m args below meth c H locs cells slots ls F X h1 h2 hl
  have kk := k p e s m args below meth c H locs cells slots ls F X h1 h2 hl
  rw [← dg.2] at kk
  exact lv_ldc2 F.1 F.2.1 F.2.2.2.2.1 (F.2.2.2.2.2.1 _ hc) dg.1 kk
theorem gj_iload {i : Nat} {z : Int} (dg : AtI y pc (.iload i) 2 nx) (hL : lk L i = some (vI z)) (k : Gj l x y d mc ms Q kc ks n w nx L (vI z :: S)) : Gj l x y d mc ms Q kc ks n w pc L S := by
  intro p e s m args below meth c H locs cells slots ls F X h1 h2 hl
  have kk := k p e s m args below meth c H locs cells slots ls F X h1 h2 hl
  rw [← dg.2] at kk
  exact lv_iload F.1 F.2.1 dg.1 (hl.at hL) kk
theorem gj_iload_n {i : Fin 4} {z : Int} (dg : AtI y pc (.iload_n i) 1 nx) (hL : lk L (i : Nat) = some (vI z)) (k : Gj l x y d mc ms Q kc ks n w nx L (vI z :: S)) : Gj l x y d mc ms Q kc ks n w pc L S := by
  intro p e s m args below meth c H locs cells slots ls F X h1 h2 hl
  have kk := k p e s m args below meth c H locs cells slots ls F X h1 h2 hl
  rw [← dg.2] at kk
  exact lv_iload_n F.1 F.2.1 dg.1 rfl (hl.at hL) kk
theorem gj_lload {i : Nat} {z : Int} (dg : AtI y pc (.lload i) 2 nx) (hL : lk L i = some (vL z)) (k : Gj l x y d mc ms Q kc ks n w nx L (vL z :: S)) : Gj l x y d mc ms Q kc ks n w pc L S := by
  intro p e s m args below meth c H locs cells slots ls F X h1 h2 hl
  have kk := k p e s m args below meth c H locs cells slots ls F X h1 h2 hl
  rw [← dg.2] at kk
  exact lv_lload F.1 F.2.1 dg.1 (hl.at hL) kk
theorem gj_lload_n {i : Fin 4} {z : Int} (dg : AtI y pc (.lload_n i) 1 nx) (hL : lk L (i : Nat) = some (vL z)) (k : Gj l x y d mc ms Q kc ks n w nx L (vL z :: S)) : Gj l x y d mc ms Q kc ks n w pc L S := by
  intro p e s m args below meth c H locs cells slots ls F X h1 h2 hl
  have kk := k p e s m args below meth c H locs cells slots ls F X h1 h2 hl
  rw [← dg.2] at kk
  exact lv_lload_n F.1 F.2.1 dg.1 rfl (hl.at hL) kk
theorem gj_aload {i : Nat} {z : Nat} (dg : AtI y pc (.aload i) 2 nx) (hL : lk L i = some (vR z)) (k : Gj l x y d mc ms Q kc ks n w nx L (vR z :: S)) : Gj l x y d mc ms Q kc ks n w pc L S := by
  intro p e s m args below meth c H locs cells slots ls F X h1 h2 hl
  have kk := k p e s m args below meth c H locs cells slots ls F X h1 h2 hl
  rw [← dg.2] at kk
  exact lv_aload F.1 F.2.1 dg.1 (hl.at hL) kk
theorem gj_aload_n {i : Fin 4} {z : Nat} (dg : AtI y pc (.aload_n i) 1 nx) (hL : lk L (i : Nat) = some (vR z)) (k : Gj l x y d mc ms Q kc ks n w nx L (vR z :: S)) : Gj l x y d mc ms Q kc ks n w pc L S := by
  intro p e s m args below meth c H locs cells slots ls F X h1 h2 hl
  have kk := k p e s m args below meth c H locs cells slots ls F X h1 h2 hl
  rw [← dg.2] at kk
  exact lv_aload_n F.1 F.2.1 dg.1 rfl (hl.at hL) kk
theorem gj_istore {i : Nat} {z : Int} (dg : AtI y pc (.istore i) 2 nx) (hn : Nat.blt i y.2.2.1 = true) (hok : okS L i = true) (k : Gj l x y d mc ms Q kc ks n w nx (sv L i (some (vI z))) S) : Gj l x y d mc ms Q kc ks n w pc L (vI z :: S) := by
  intro p e s m args below meth c H locs cells slots ls F X h1 h2 hl
  refine lv_istore F.1 F.2.1 dg.1 hl (Nat.le_of_ble_eq_true hn) rfl (fun ls' hl' => ?_)
  have kk := k p e s m args below meth c H locs cells slots ls' F X h1 h2 (LH.st1 hok hl')
  rw [← dg.2] at kk
  exact kk
theorem gj_istore_n {i : Fin 4} {z : Int} (dg : AtI y pc (.istore_n i) 1 nx) (hn : Nat.blt (i : Nat) y.2.2.1 = true) (hok : okS L (i : Nat) = true) (k : Gj l x y d mc ms Q kc ks n w nx (sv L (i : Nat) (some (vI z))) S) : Gj l x y d mc ms Q kc ks n w pc L (vI z :: S) := by
  intro p e s m args below meth c H locs cells slots ls F X h1 h2 hl
  refine lv_istore_n F.1 F.2.1 dg.1 rfl hl (Nat.le_of_ble_eq_true hn) rfl (fun ls' hl' => ?_)
  have kk := k p e s m args below meth c H locs cells slots ls' F X h1 h2 (LH.st1 hok hl')
  rw [← dg.2] at kk
  exact kk
theorem gj_astore {i : Nat} {z : Nat} (dg : AtI y pc (.astore i) 2 nx) (hn : Nat.blt i y.2.2.1 = true) (hok : okS L i = true) (k : Gj l x y d mc ms Q kc ks n w nx (sv L i (some (vR z))) S) : Gj l x y d mc ms Q kc ks n w pc L (vR z :: S) := by
  intro p e s m args below meth c H locs cells slots ls F X h1 h2 hl
  refine lv_astore F.1 F.2.1 dg.1 hl (Nat.le_of_ble_eq_true hn) rfl (fun ls' hl' => ?_)
  have kk := k p e s m args below meth c H locs cells slots ls' F X h1 h2 (LH.st1 hok hl')
  rw [← dg.2] at kk
  exact kk
theorem gj_astore_n {i : Fin 4} {z : Nat} (dg : AtI y pc (.astore_n i) 1 nx) (hn : Nat.blt (i : Nat) y.2.2.1 = true) (hok : okS L (i : Nat) = true) (k : Gj l x y d mc ms Q kc ks n w nx (sv L (i : Nat) (some (vR z))) S) : Gj l x y d mc ms Q kc ks n w pc L (vR z :: S) := by
  intro p e s m args below meth c H locs cells slots ls F X h1 h2 hl
  refine lv_astore_n F.1 F.2.1 dg.1 rfl hl (Nat.le_of_ble_eq_true hn) rfl (fun ls' hl' => ?_)
  have kk := k p e s m args below meth c H locs cells slots ls' F X h1 h2 (LH.st1 hok hl')
  rw [← dg.2] at kk
  exact kk
theorem gj_lstore {i : Nat} {z : Int} (dg : AtI y pc (.lstore i) 2 nx) (hn : Nat.blt (i + 1) y.2.2.1 = true) (hok : okS L i = true) (k : Gj l x y d mc ms Q kc ks n w nx (sv (sv L i (some (vL z))) (i + 1) none) S) : Gj l x y d mc ms Q kc ks n w pc L (vL z :: S) := by
  intro p e s m args below meth c H locs cells slots ls F X h1 h2 hl
  refine lv_lstore F.1 F.2.1 dg.1 hl (Nat.le_of_ble_eq_true hn) rfl (fun ls' hl' => ?_)
  have kk := k p e s m args below meth c H locs cells slots ls' F X h1 h2 (LH.st2 hok hl')
  rw [← dg.2] at kk
  exact kk
theorem gj_lstore_n {i : Fin 4} {z : Int} (dg : AtI y pc (.lstore_n i) 1 nx) (hn : Nat.blt ((i : Nat) + 1) y.2.2.1 = true) (hok : okS L (i : Nat) = true) (k : Gj l x y d mc ms Q kc ks n w nx (sv (sv L (i : Nat) (some (vL z))) ((i : Nat) + 1) none) S) : Gj l x y d mc ms Q kc ks n w pc L (vL z :: S) := by
  intro p e s m args below meth c H locs cells slots ls F X h1 h2 hl
  refine lv_lstore_n F.1 F.2.1 dg.1 rfl hl (Nat.le_of_ble_eq_true hn) rfl (fun ls' hl' => ?_)
  have kk := k p e s m args below meth c H locs cells slots ls' F X h1 h2 (LH.st2 hok hl')
  rw [← dg.2] at kk
  exact kk
theorem gj_iinc {i : Nat} {z a : Int} (dg : AtI y pc (.iinc i z) 3 nx) (hn : Nat.blt i y.2.2.1 = true) (hok : okS L i = true) (hL : lk L i = some (vI a)) (k : Gj l x y d mc ms Q kc ks n w nx (sv L i (some (vI (a + z)))) S) : Gj l x y d mc ms Q kc ks n w pc L S := by
  intro p e s m args below meth c H locs cells slots ls F X h1 h2 hl
  have hm : (i, Value.int (iZ a)) ∈ lvL x.1 0 L := (lvL_mem L 0 _).mpr ⟨i, vI a, hL, by rw [Nat.zero_add]; rfl⟩
  obtain ⟨q, hq⟩ := List.getElem?_of_mem hm
  refine lv_iinc F.1 F.2.1 dg.1 hl (k := q) (v := iZ (a + z)) hq (iZ_add a z) (Nat.le_of_ble_eq_true hn) rfl (fun ls' hl' => ?_)
  have kk := k p e s m args below meth c H locs cells slots ls' F X h1 h2 (LH.st1 (v := vI (a + z)) hok hl')
  rw [← dg.2] at kk
  exact kk
theorem gj_iadd {a b : Int} (dg : AtI y pc .iadd 1 nx)  (k : Gj l x y d mc ms Q kc ks n w nx L (vI (a + b) :: S)) : Gj l x y d mc ms Q kc ks n w pc L (vI b :: vI a :: S) := by
  intro p e s m args below meth c H locs cells slots ls F X h1 h2 hl
  have kk := k p e s m args below meth c H locs cells slots ls F X h1 h2 hl
  rw [← dg.2] at kk
  exact lv_iadd F.1 F.2.1 dg.1 (by rw [iZ_add a b]; exact kk)
theorem gj_isub {a b : Int} (dg : AtI y pc .isub 1 nx)  (k : Gj l x y d mc ms Q kc ks n w nx L (vI (a - b) :: S)) : Gj l x y d mc ms Q kc ks n w pc L (vI b :: vI a :: S) := by
  intro p e s m args below meth c H locs cells slots ls F X h1 h2 hl
  have kk := k p e s m args below meth c H locs cells slots ls F X h1 h2 hl
  rw [← dg.2] at kk
  exact lv_isub F.1 F.2.1 dg.1 (by rw [iZ_sub a b]; exact kk)
theorem gj_imul {a b : Int} (dg : AtI y pc .imul 1 nx)  (k : Gj l x y d mc ms Q kc ks n w nx L (vI (a * b) :: S)) : Gj l x y d mc ms Q kc ks n w pc L (vI b :: vI a :: S) := by
  intro p e s m args below meth c H locs cells slots ls F X h1 h2 hl
  have kk := k p e s m args below meth c H locs cells slots ls F X h1 h2 hl
  rw [← dg.2] at kk
  exact lv_imul F.1 F.2.1 dg.1 (by rw [iZ_mul a b]; exact kk)
theorem gj_ineg {a : Int} (dg : AtI y pc .ineg 1 nx)  (k : Gj l x y d mc ms Q kc ks n w nx L (vI (-a) :: S)) : Gj l x y d mc ms Q kc ks n w pc L (vI a :: S) := by
  intro p e s m args below meth c H locs cells slots ls F X h1 h2 hl
  have kk := k p e s m args below meth c H locs cells slots ls F X h1 h2 hl
  rw [← dg.2] at kk
  exact lv_ineg F.1 F.2.1 dg.1 (by rw [iZ_neg a]; exact kk)
theorem gj_idiv {a b : Int} (dg : AtI y pc .idiv 1 nx) (ha : 0 ≤ a ∧ a ≤ 2147483647) (hb : 0 < b ∧ b ≤ 2147483647) (k : Gj l x y d mc ms Q kc ks n w nx L (vI (a / b) :: S)) : Gj l x y d mc ms Q kc ks n w pc L (vI b :: vI a :: S) := by
  intro p e s m args below meth c H locs cells slots ls F X h1 h2 hl
  have kk := k p e s m args below meth c H locs cells slots ls F X h1 h2 hl
  rw [← dg.2] at kk
  exact lv_idiv F.1 F.2.1 dg.1 (fun h => absurd ((iZ_eq (b := 0) (by omega) (by omega)).mp (h.trans iZ_0.symm)) (by omega)) (by rw [iZ_div ha hb]; exact kk)
theorem gj_irem {a b : Int} (dg : AtI y pc .irem 1 nx) (ha : 0 ≤ a ∧ a ≤ 2147483647) (hb : 0 < b ∧ b ≤ 2147483647) (k : Gj l x y d mc ms Q kc ks n w nx L (vI (a % b) :: S)) : Gj l x y d mc ms Q kc ks n w pc L (vI b :: vI a :: S) := by
  intro p e s m args below meth c H locs cells slots ls F X h1 h2 hl
  have kk := k p e s m args below meth c H locs cells slots ls F X h1 h2 hl
  rw [← dg.2] at kk
  exact lv_irem F.1 F.2.1 dg.1 (fun h => absurd ((iZ_eq (b := 0) (by omega) (by omega)).mp (h.trans iZ_0.symm)) (by omega)) (by rw [iZ_rem ha hb]; exact kk)
theorem gj_iand {a b : Int} (dg : AtI y pc .iand 1 nx)  (k : Gj l x y d mc ms Q kc ks n w nx L (vI (bAnd a b) :: S)) : Gj l x y d mc ms Q kc ks n w pc L (vI b :: vI a :: S) := by
  intro p e s m args below meth c H locs cells slots ls F X h1 h2 hl
  have kk := k p e s m args below meth c H locs cells slots ls F X h1 h2 hl
  rw [← dg.2] at kk
  exact lv_iand F.1 F.2.1 dg.1 (cast (congrArg (fun v => W p l e (rmX d mc ms) s m args below meth c H locs cells slots (MQ below (QcA x Q) args s mc ms (AX x)) (F0 m (pc + 1) ls (Value.int v :: S.map (cv x.1)))) (iZ_of _)) kk)
theorem gj_ior {a b : Int} (dg : AtI y pc .ior 1 nx)  (k : Gj l x y d mc ms Q kc ks n w nx L (vI (bOr a b) :: S)) : Gj l x y d mc ms Q kc ks n w pc L (vI b :: vI a :: S) := by
  intro p e s m args below meth c H locs cells slots ls F X h1 h2 hl
  have kk := k p e s m args below meth c H locs cells slots ls F X h1 h2 hl
  rw [← dg.2] at kk
  exact lv_ior F.1 F.2.1 dg.1 (cast (congrArg (fun v => W p l e (rmX d mc ms) s m args below meth c H locs cells slots (MQ below (QcA x Q) args s mc ms (AX x)) (F0 m (pc + 1) ls (Value.int v :: S.map (cv x.1)))) (iZ_of _)) kk)
theorem gj_ixor {a b : Int} (dg : AtI y pc .ixor 1 nx)  (k : Gj l x y d mc ms Q kc ks n w nx L (vI (bXor a b) :: S)) : Gj l x y d mc ms Q kc ks n w pc L (vI b :: vI a :: S) := by
  intro p e s m args below meth c H locs cells slots ls F X h1 h2 hl
  have kk := k p e s m args below meth c H locs cells slots ls F X h1 h2 hl
  rw [← dg.2] at kk
  exact lv_ixor F.1 F.2.1 dg.1 (cast (congrArg (fun v => W p l e (rmX d mc ms) s m args below meth c H locs cells slots (MQ below (QcA x Q) args s mc ms (AX x)) (F0 m (pc + 1) ls (Value.int v :: S.map (cv x.1)))) (iZ_of _)) kk)
theorem gj_ishl {a b : Int} (dg : AtI y pc .ishl 1 nx)  (k : Gj l x y d mc ms Q kc ks n w nx L (vI (bShl a b) :: S)) : Gj l x y d mc ms Q kc ks n w pc L (vI b :: vI a :: S) := by
  intro p e s m args below meth c H locs cells slots ls F X h1 h2 hl
  have kk := k p e s m args below meth c H locs cells slots ls F X h1 h2 hl
  rw [← dg.2] at kk
  exact lv_ishl F.1 F.2.1 dg.1 (cast (congrArg (fun v => W p l e (rmX d mc ms) s m args below meth c H locs cells slots (MQ below (QcA x Q) args s mc ms (AX x)) (F0 m (pc + 1) ls (Value.int v :: S.map (cv x.1)))) (iZ_of _)) kk)
theorem gj_ishr {a b : Int} (dg : AtI y pc .ishr 1 nx)  (k : Gj l x y d mc ms Q kc ks n w nx L (vI (bShr a b) :: S)) : Gj l x y d mc ms Q kc ks n w pc L (vI b :: vI a :: S) := by
  intro p e s m args below meth c H locs cells slots ls F X h1 h2 hl
  have kk := k p e s m args below meth c H locs cells slots ls F X h1 h2 hl
  rw [← dg.2] at kk
  exact lv_ishr F.1 F.2.1 dg.1 (cast (congrArg (fun v => W p l e (rmX d mc ms) s m args below meth c H locs cells slots (MQ below (QcA x Q) args s mc ms (AX x)) (F0 m (pc + 1) ls (Value.int v :: S.map (cv x.1)))) (iZ_of _)) kk)
theorem gj_iushr {a b : Int} (dg : AtI y pc .iushr 1 nx)  (k : Gj l x y d mc ms Q kc ks n w nx L (vI (bUshr a b) :: S)) : Gj l x y d mc ms Q kc ks n w pc L (vI b :: vI a :: S) := by
  intro p e s m args below meth c H locs cells slots ls F X h1 h2 hl
  have kk := k p e s m args below meth c H locs cells slots ls F X h1 h2 hl
  rw [← dg.2] at kk
  exact lv_iushr F.1 F.2.1 dg.1 (iZ_of _).symm kk
theorem gj_i2b {a : Int} (dg : AtI y pc .i2b 1 nx)  (k : Gj l x y d mc ms Q kc ks n w nx L (vI (bB a) :: S)) : Gj l x y d mc ms Q kc ks n w pc L (vI a :: S) := by
  intro p e s m args below meth c H locs cells slots ls F X h1 h2 hl
  have kk := k p e s m args below meth c H locs cells slots ls F X h1 h2 hl
  rw [← dg.2] at kk
  exact lv_i2b F.1 F.2.1 dg.1 (iZ_of _).symm kk
theorem gj_i2s {a : Int} (dg : AtI y pc .i2s 1 nx)  (k : Gj l x y d mc ms Q kc ks n w nx L (vI (bS a) :: S)) : Gj l x y d mc ms Q kc ks n w pc L (vI a :: S) := by
  intro p e s m args below meth c H locs cells slots ls F X h1 h2 hl
  have kk := k p e s m args below meth c H locs cells slots ls F X h1 h2 hl
  rw [← dg.2] at kk
  exact lv_i2s F.1 F.2.1 dg.1 (iZ_of _).symm kk
theorem gj_i2l {a : Int} (dg : AtI y pc .i2l 1 nx) (ha : R32 a) (k : Gj l x y d mc ms Q kc ks n w nx L (vL a :: S)) : Gj l x y d mc ms Q kc ks n w pc L (vI a :: S) := by
  intro p e s m args below meth c H locs cells slots ls F X h1 h2 hl
  have kk := k p e s m args below meth c H locs cells slots ls F X h1 h2 hl
  rw [← dg.2] at kk
  exact lv_i2l F.1 F.2.1 dg.1 (lZ_i ha) kk
theorem gj_ladd {a b : Int} (dg : AtI y pc .ladd 1 nx)  (k : Gj l x y d mc ms Q kc ks n w nx L (vL (a + b) :: S)) : Gj l x y d mc ms Q kc ks n w pc L (vL b :: vL a :: S) := by
  intro p e s m args below meth c H locs cells slots ls F X h1 h2 hl
  have kk := k p e s m args below meth c H locs cells slots ls F X h1 h2 hl
  rw [← dg.2] at kk
  exact lv_ladd F.1 F.2.1 dg.1 (by rw [lZ_add a b]; exact kk)
theorem gj_lmul {a b : Int} (dg : AtI y pc .lmul 1 nx)  (k : Gj l x y d mc ms Q kc ks n w nx L (vL (a * b) :: S)) : Gj l x y d mc ms Q kc ks n w pc L (vL b :: vL a :: S) := by
  intro p e s m args below meth c H locs cells slots ls F X h1 h2 hl
  have kk := k p e s m args below meth c H locs cells slots ls F X h1 h2 hl
  rw [← dg.2] at kk
  exact lv_lmul F.1 F.2.1 dg.1 (by rw [lZ_mul a b]; exact kk)
theorem cmpL_c {a b : Int} (ha : R64 a) (hb : R64 b) : lg_cmp (lZ a) (lZ b) = iZ (cmpL a b) := by
  unfold lg_cmp cmpL
  simp only [gt_iff_lt, lZ_lt hb ha, lZ_eq ha hb]
  split
  · decide
  · split <;> decide
theorem gj_lcmp {a b : Int} (dg : AtI y pc .lcmp 1 nx) (ha : R64 a) (hb : R64 b) (k : Gj l x y d mc ms Q kc ks n w nx L (vI (cmpL a b) :: S)) : Gj l x y d mc ms Q kc ks n w pc L (vL b :: vL a :: S) := by
  intro p e s m args below meth c H locs cells slots ls F X h1 h2 hl
  have kk := k p e s m args below meth c H locs cells slots ls F X h1 h2 hl
  rw [← dg.2] at kk
  exact W.lcmp F.1 F.2.1 dg.1 (by rw [cmpL_c ha hb]; exact kk)
theorem gj_dupI {z : Int} (dg : AtI y pc .dup 1 nx)  (k : Gj l x y d mc ms Q kc ks n w nx L (vI z :: vI z :: S)) : Gj l x y d mc ms Q kc ks n w pc L (vI z :: S) := by
  intro p e s m args below meth c H locs cells slots ls F X h1 h2 hl
  have kk := k p e s m args below meth c H locs cells slots ls F X h1 h2 hl
  rw [← dg.2] at kk
  exact lv_dup F.1 F.2.1 dg.1 rfl kk
theorem gj_dupR {z : Nat} (dg : AtI y pc .dup 1 nx)  (k : Gj l x y d mc ms Q kc ks n w nx L (vR z :: vR z :: S)) : Gj l x y d mc ms Q kc ks n w pc L (vR z :: S) := by
  intro p e s m args below meth c H locs cells slots ls F X h1 h2 hl
  have kk := k p e s m args below meth c H locs cells slots ls F X h1 h2 hl
  rw [← dg.2] at kk
  exact lv_dup F.1 F.2.1 dg.1 rfl kk
theorem gj_popI {z : Int} (dg : AtI y pc .pop 1 nx)  (k : Gj l x y d mc ms Q kc ks n w nx L S) : Gj l x y d mc ms Q kc ks n w pc L (vI z :: S) := by
  intro p e s m args below meth c H locs cells slots ls F X h1 h2 hl
  have kk := k p e s m args below meth c H locs cells slots ls F X h1 h2 hl
  rw [← dg.2] at kk
  exact lv_pop F.1 F.2.1 dg.1 rfl kk
theorem gj_dup2 {z : Int} {k1 : Nat} (dg : AtI y pc .dup2 1 nx)  (k : Gj l x y d mc ms Q kc ks n w nx L (vI z :: vR k1 :: vI z :: vR k1 :: S)) : Gj l x y d mc ms Q kc ks n w pc L (vI z :: vR k1 :: S) := by
  intro p e s m args below meth c H locs cells slots ls F X h1 h2 hl
  have kk := k p e s m args below meth c H locs cells slots ls F X h1 h2 hl
  rw [← dg.2] at kk
  exact lv_dup2_11 F.1 F.2.1 dg.1 rfl rfl kk
theorem gj_goto {off : Int} (dg : AtJ y pc (.goto off) off nx tg) (k : Gj l x y d mc ms Q kc ks n w tg L S) : Gj l x y d mc ms Q kc ks n w pc L S := by
  intro p e s m args below meth c H locs cells slots ls F X h1 h2 hl
  exact lv_goto F.1 F.2.1 dg.1 dg.2.2 (k p e s m args below meth c H locs cells slots ls F X h1 h2 hl)
theorem gj_icmp_eq {a b off : Int} (dg : AtJ y pc (.if_icmp .eq off) off nx tg) (hr : R32 a ∧ R32 b) (kt : a = b → Gj l x y d mc ms Q kc ks n w tg L S) (kf : ¬ (a = b) → Gj l x y d mc ms Q kc ks n w nx L S) : Gj l x y d mc ms Q kc ks n w pc L (vI b :: vI a :: S) := by
  intro p e s m args below meth c H locs cells slots ls F X h1 h2 hl
  have hi := iZ_eq hr.1 hr.2
  refine lv_icmp_eq F.1 F.2.1 dg.1 dg.2.2 (fun h => kt ?_ p e s m args below meth c H locs cells slots ls F X h1 h2 hl) (fun h => ?_)
  · exact hi.mp h
  · have kk := kf (fun e => h (hi.mpr e)) p e s m args below meth c H locs cells slots ls F X h1 h2 hl
    rw [← dg.2.1] at kk
    exact kk
theorem gj_if_eq {a off : Int} (dg : AtJ y pc (.ifCond .eq off) off nx tg) (hr : R32 a) (kt : a = 0 → Gj l x y d mc ms Q kc ks n w tg L S) (kf : ¬ (a = 0) → Gj l x y d mc ms Q kc ks n w nx L S) : Gj l x y d mc ms Q kc ks n w pc L (vI a :: S) := by
  intro p e s m args below meth c H locs cells slots ls F X h1 h2 hl
  have hz : R32 0 := by omega
  have hi := iZ_eq hr hz
  rw [iZ_0] at hi
  refine lv_if_eq F.1 F.2.1 dg.1 dg.2.2 (fun h => kt ?_ p e s m args below meth c H locs cells slots ls F X h1 h2 hl) (fun h => ?_)
  · exact hi.mp h
  · have kk := kf (fun e => h (hi.mpr e)) p e s m args below meth c H locs cells slots ls F X h1 h2 hl
    rw [← dg.2.1] at kk
    exact kk
theorem gj_icmp_ne {a b off : Int} (dg : AtJ y pc (.if_icmp .ne off) off nx tg) (hr : R32 a ∧ R32 b) (kt : a ≠ b → Gj l x y d mc ms Q kc ks n w tg L S) (kf : a = b → Gj l x y d mc ms Q kc ks n w nx L S) : Gj l x y d mc ms Q kc ks n w pc L (vI b :: vI a :: S) := by
  intro p e s m args below meth c H locs cells slots ls F X h1 h2 hl
  have hi := iZ_eq hr.1 hr.2
  refine lv_icmp_ne F.1 F.2.1 dg.1 dg.2.2 (fun h => kt ?_ p e s m args below meth c H locs cells slots ls F X h1 h2 hl) (fun h => ?_)
  · exact fun e => h (hi.mpr e)
  · have kk := kf (hi.mp h) p e s m args below meth c H locs cells slots ls F X h1 h2 hl
    rw [← dg.2.1] at kk
    exact kk
theorem gj_if_ne {a off : Int} (dg : AtJ y pc (.ifCond .ne off) off nx tg) (hr : R32 a) (kt : a ≠ 0 → Gj l x y d mc ms Q kc ks n w tg L S) (kf : a = 0 → Gj l x y d mc ms Q kc ks n w nx L S) : Gj l x y d mc ms Q kc ks n w pc L (vI a :: S) := by
  intro p e s m args below meth c H locs cells slots ls F X h1 h2 hl
  have hz : R32 0 := by omega
  have hi := iZ_eq hr hz
  rw [iZ_0] at hi
  refine lv_if_ne F.1 F.2.1 dg.1 dg.2.2 (fun h => kt ?_ p e s m args below meth c H locs cells slots ls F X h1 h2 hl) (fun h => ?_)
  · exact fun e => h (hi.mpr e)
  · have kk := kf (hi.mp h) p e s m args below meth c H locs cells slots ls F X h1 h2 hl
    rw [← dg.2.1] at kk
    exact kk
theorem gj_icmp_lt {a b off : Int} (dg : AtJ y pc (.if_icmp .lt off) off nx tg) (hr : R32 a ∧ R32 b) (kt : a < b → Gj l x y d mc ms Q kc ks n w tg L S) (kf : ¬ (a < b) → Gj l x y d mc ms Q kc ks n w nx L S) : Gj l x y d mc ms Q kc ks n w pc L (vI b :: vI a :: S) := by
  intro p e s m args below meth c H locs cells slots ls F X h1 h2 hl
  have hi := iZ_lt hr.1 hr.2
  refine lv_icmp_lt F.1 F.2.1 dg.1 dg.2.2 (fun h => kt ?_ p e s m args below meth c H locs cells slots ls F X h1 h2 hl) (fun h => ?_)
  · exact hi.mp h
  · have kk := kf (fun e => h (hi.mpr e)) p e s m args below meth c H locs cells slots ls F X h1 h2 hl
    rw [← dg.2.1] at kk
    exact kk
theorem gj_if_lt {a off : Int} (dg : AtJ y pc (.ifCond .lt off) off nx tg) (hr : R32 a) (kt : a < 0 → Gj l x y d mc ms Q kc ks n w tg L S) (kf : ¬ (a < 0) → Gj l x y d mc ms Q kc ks n w nx L S) : Gj l x y d mc ms Q kc ks n w pc L (vI a :: S) := by
  intro p e s m args below meth c H locs cells slots ls F X h1 h2 hl
  have hz : R32 0 := by omega
  have hi := iZ_lt hr hz
  rw [iZ_0] at hi
  refine lv_if_lt F.1 F.2.1 dg.1 dg.2.2 (fun h => kt ?_ p e s m args below meth c H locs cells slots ls F X h1 h2 hl) (fun h => ?_)
  · exact hi.mp h
  · have kk := kf (fun e => h (hi.mpr e)) p e s m args below meth c H locs cells slots ls F X h1 h2 hl
    rw [← dg.2.1] at kk
    exact kk
theorem gj_icmp_ge {a b off : Int} (dg : AtJ y pc (.if_icmp .ge off) off nx tg) (hr : R32 a ∧ R32 b) (kt : b ≤ a → Gj l x y d mc ms Q kc ks n w tg L S) (kf : ¬ (b ≤ a) → Gj l x y d mc ms Q kc ks n w nx L S) : Gj l x y d mc ms Q kc ks n w pc L (vI b :: vI a :: S) := by
  intro p e s m args below meth c H locs cells slots ls F X h1 h2 hl
  have hi := iZ_le hr.2 hr.1
  refine lv_icmp_ge F.1 F.2.1 dg.1 dg.2.2 (fun h => kt ?_ p e s m args below meth c H locs cells slots ls F X h1 h2 hl) (fun h => ?_)
  · exact hi.mp h
  · have kk := kf (fun e => h (hi.mpr e)) p e s m args below meth c H locs cells slots ls F X h1 h2 hl
    rw [← dg.2.1] at kk
    exact kk
theorem gj_if_ge {a off : Int} (dg : AtJ y pc (.ifCond .ge off) off nx tg) (hr : R32 a) (kt : 0 ≤ a → Gj l x y d mc ms Q kc ks n w tg L S) (kf : ¬ (0 ≤ a) → Gj l x y d mc ms Q kc ks n w nx L S) : Gj l x y d mc ms Q kc ks n w pc L (vI a :: S) := by
  intro p e s m args below meth c H locs cells slots ls F X h1 h2 hl
  have hz : R32 0 := by omega
  have hi := iZ_le hz hr
  rw [iZ_0] at hi
  refine lv_if_ge F.1 F.2.1 dg.1 dg.2.2 (fun h => kt ?_ p e s m args below meth c H locs cells slots ls F X h1 h2 hl) (fun h => ?_)
  · exact hi.mp h
  · have kk := kf (fun e => h (hi.mpr e)) p e s m args below meth c H locs cells slots ls F X h1 h2 hl
    rw [← dg.2.1] at kk
    exact kk
theorem gj_icmp_gt {a b off : Int} (dg : AtJ y pc (.if_icmp .gt off) off nx tg) (hr : R32 a ∧ R32 b) (kt : b < a → Gj l x y d mc ms Q kc ks n w tg L S) (kf : ¬ (b < a) → Gj l x y d mc ms Q kc ks n w nx L S) : Gj l x y d mc ms Q kc ks n w pc L (vI b :: vI a :: S) := by
  intro p e s m args below meth c H locs cells slots ls F X h1 h2 hl
  have hi := iZ_lt hr.2 hr.1
  refine lv_icmp_gt F.1 F.2.1 dg.1 dg.2.2 (fun h => kt ?_ p e s m args below meth c H locs cells slots ls F X h1 h2 hl) (fun h => ?_)
  · exact hi.mp h
  · have kk := kf (fun e => h (hi.mpr e)) p e s m args below meth c H locs cells slots ls F X h1 h2 hl
    rw [← dg.2.1] at kk
    exact kk
theorem gj_if_gt {a off : Int} (dg : AtJ y pc (.ifCond .gt off) off nx tg) (hr : R32 a) (kt : 0 < a → Gj l x y d mc ms Q kc ks n w tg L S) (kf : ¬ (0 < a) → Gj l x y d mc ms Q kc ks n w nx L S) : Gj l x y d mc ms Q kc ks n w pc L (vI a :: S) := by
  intro p e s m args below meth c H locs cells slots ls F X h1 h2 hl
  have hz : R32 0 := by omega
  have hi := iZ_lt hz hr
  rw [iZ_0] at hi
  refine lv_if_gt F.1 F.2.1 dg.1 dg.2.2 (fun h => kt ?_ p e s m args below meth c H locs cells slots ls F X h1 h2 hl) (fun h => ?_)
  · exact hi.mp h
  · have kk := kf (fun e => h (hi.mpr e)) p e s m args below meth c H locs cells slots ls F X h1 h2 hl
    rw [← dg.2.1] at kk
    exact kk
theorem gj_icmp_le {a b off : Int} (dg : AtJ y pc (.if_icmp .le off) off nx tg) (hr : R32 a ∧ R32 b) (kt : a ≤ b → Gj l x y d mc ms Q kc ks n w tg L S) (kf : ¬ (a ≤ b) → Gj l x y d mc ms Q kc ks n w nx L S) : Gj l x y d mc ms Q kc ks n w pc L (vI b :: vI a :: S) := by
  intro p e s m args below meth c H locs cells slots ls F X h1 h2 hl
  have hi := iZ_le hr.1 hr.2
  refine lv_icmp_le F.1 F.2.1 dg.1 dg.2.2 (fun h => kt ?_ p e s m args below meth c H locs cells slots ls F X h1 h2 hl) (fun h => ?_)
  · exact hi.mp h
  · have kk := kf (fun e => h (hi.mpr e)) p e s m args below meth c H locs cells slots ls F X h1 h2 hl
    rw [← dg.2.1] at kk
    exact kk
theorem gj_if_le {a off : Int} (dg : AtJ y pc (.ifCond .le off) off nx tg) (hr : R32 a) (kt : a ≤ 0 → Gj l x y d mc ms Q kc ks n w tg L S) (kf : ¬ (a ≤ 0) → Gj l x y d mc ms Q kc ks n w nx L S) : Gj l x y d mc ms Q kc ks n w pc L (vI a :: S) := by
  intro p e s m args below meth c H locs cells slots ls F X h1 h2 hl
  have hz : R32 0 := by omega
  have hi := iZ_le hr hz
  rw [iZ_0] at hi
  refine lv_if_le F.1 F.2.1 dg.1 dg.2.2 (fun h => kt ?_ p e s m args below meth c H locs cells slots ls F X h1 h2 hl) (fun h => ?_)
  · exact hi.mp h
  · have kk := kf (fun e => h (hi.mpr e)) p e s m args below meth c H locs cells slots ls F X h1 h2 hl
    rw [← dg.2.1] at kk
    exact kk
theorem gj_ifB_eq {P : Prop} [Decidable P] {off : Int} (dg : AtJ y pc (.ifCond .eq off) off nx tg) (kt : ¬ P → Gj l x y d mc ms Q kc ks n w tg L S) (kf : P → Gj l x y d mc ms Q kc ks n w nx L S) : Gj l x y d mc ms Q kc ks n w pc L (vI (b2i P) :: S) :=
  gj_if_eq dg (by rcases b2i_R P with h | h <;> rw [h] <;> omega) (fun h => kt (fun hp => by rw [b2i_t hp] at h; omega)) (fun h => kf (Decidable.byContradiction fun hp => h (b2i_f hp)))
theorem gj_ifB_ne {P : Prop} [Decidable P] {off : Int} (dg : AtJ y pc (.ifCond .ne off) off nx tg) (kt : P → Gj l x y d mc ms Q kc ks n w tg L S) (kf : ¬ P → Gj l x y d mc ms Q kc ks n w nx L S) : Gj l x y d mc ms Q kc ks n w pc L (vI (b2i P) :: S) :=
  gj_if_ne dg (by rcases b2i_R P with h | h <;> rw [h] <;> omega) (fun h => kt (Decidable.byContradiction fun hp => h (b2i_f hp))) (fun h => kf (fun hp => by rw [b2i_t hp] at h; omega))
theorem gj_same_eq {a b off : Int} (dg : AtJ y pc (.if_icmp .eq off) off nx tg) (h : a = b) (kt : Gj l x y d mc ms Q kc ks n w tg L S) : Gj l x y d mc ms Q kc ks n w pc L (vI b :: vI a :: S) := by
  subst h
  intro p e s m args below meth c H locs cells slots ls F X h1 h2 hl
  exact lv_icmp_eq F.1 F.2.1 dg.1 dg.2.2 (fun _ => kt p e s m args below meth c H locs cells slots ls F X h1 h2 hl) (fun h => absurd rfl h)
theorem gj_tswI {z dflt lo hi off : Int} {offs : Array Int} {len : Nat} (dg : decode y.2.1 pc = .ok (.tableswitch dflt lo hi offs, len)) (j : Nat) (hr : R32 z) (hz : z = lo + j) (hh : lo + j ≤ hi) (ho : offs[j]? = some off) (ht : (pc : Int) + off = (tg : Int)) (k : Gj l x y d mc ms Q kc ks n w tg L S) : Gj l x y d mc ms Q kc ks n w pc L (vI z :: S) := by
  intro p e s m args below meth c H locs cells slots ls F X h1 h2 hl
  exact lv_tableIn F.1 F.2.1 dg (by rw [iZ_toInt hr]; omega) (by rw [iZ_toInt hr]; omega) (by rw [iZ_toInt hr, show (z - lo).toNat = j by omega]; exact ho) ht (k p e s m args below meth c H locs cells slots ls F X h1 h2 hl)
theorem gj_tswO {z dflt lo hi : Int} {offs : Array Int} {len : Nat} (dg : decode y.2.1 pc = .ok (.tableswitch dflt lo hi offs, len)) (hr : R32 z) (hz : z < lo ∨ hi < z) (ht : (pc : Int) + dflt = (tg : Int)) (k : Gj l x y d mc ms Q kc ks n w tg L S) : Gj l x y d mc ms Q kc ks n w pc L (vI z :: S) := by
  intro p e s m args below meth c H locs cells slots ls F X h1 h2 hl
  exact lv_tableOut F.1 F.2.1 dg (by rw [iZ_toInt hr]; exact hz) ht (k p e s m args below meth c H locs cells slots ls F X h1 h2 hl)
theorem gj_loc {L2 : List (Option AV)} (h : ∀ i v, lk L2 i = some v → lk L i = some v) (k : Gj l x y d mc ms Q kc ks n w pc L2 S) : Gj l x y d mc ms Q kc ks n w pc L S := by
  intro p e s m args below meth c H locs cells slots ls F X h1 h2 hl
  exact k p e s m args below meth c H locs cells slots ls F X h1 h2 (hl.weak h)
theorem gj_eq {L2 : List (Option AV)} {S2 : List AV} {w2 : AW} (hL : L = L2) (hS : S = S2) (hw : w = w2) (k : Gj l x y d mc ms Q kc ks n w2 pc L2 S2) : Gj l x y d mc ms Q kc ks n w pc L S := by
  subst hL; subst hS; subst hw; exact k
end GJ
end
