section
-- ===== PART A: goes FIRST, ahead of the names: the tables' words, and 'selects' of the private methods out of them =====
/-- a private method of a class that the tables say can be made, by its rows of tables_1 -/
def lw_okq (q : MethodName × Nat) : Prop := (q.1.cls ≠ "java/lang/invoke/MethodHandle" ∧ q.1.cls ≠ "java/lang/invoke/VarHandle") ∧ Cond.instantiable q.1.cls q.2 ∈ tables_1 ∧ Cond.privateMethod q.1 ∈ tables_1 ∧ Cond.instanceMethod q.1 ∈ tables_1
theorem lw_p0 : lw_okq (⟨"OtherCoins$Law", "readLetter", "(I)Z"⟩, 6) := ⟨⟨by decide +kernel, by decide +kernel⟩, List.mem_of_getElem? (i := 148) (by decide +kernel), List.mem_of_getElem? (i := 269) (by decide +kernel), List.mem_of_getElem? (i := 270) (by decide +kernel)⟩
theorem lw_p1 : lw_okq (⟨"OtherCoins$Law", "endTakes", "()Z"⟩, 6) := ⟨⟨by decide +kernel, by decide +kernel⟩, List.mem_of_getElem? (i := 148) (by decide +kernel), List.mem_of_getElem? (i := 273) (by decide +kernel), List.mem_of_getElem? (i := 274) (by decide +kernel)⟩
theorem lw_p2 : lw_okq (⟨"OtherCoins$Law", "readTaken", "(I)Z"⟩, 6) := ⟨⟨by decide +kernel, by decide +kernel⟩, List.mem_of_getElem? (i := 148) (by decide +kernel), List.mem_of_getElem? (i := 277) (by decide +kernel), List.mem_of_getElem? (i := 278) (by decide +kernel)⟩
theorem lw_p3 : lw_okq (⟨"OtherCoins$Law", "isForeign", "(I)Z"⟩, 6) := ⟨⟨by decide +kernel, by decide +kernel⟩, List.mem_of_getElem? (i := 148) (by decide +kernel), List.mem_of_getElem? (i := 281) (by decide +kernel), List.mem_of_getElem? (i := 282) (by decide +kernel)⟩
theorem lw_p4 : lw_okq (⟨"OtherCoins$Law", "put", "([II)Z"⟩, 6) := ⟨⟨by decide +kernel, by decide +kernel⟩, List.mem_of_getElem? (i := 148) (by decide +kernel), List.mem_of_getElem? (i := 288) (by decide +kernel), List.mem_of_getElem? (i := 289) (by decide +kernel)⟩
theorem lw_p5 : lw_okq (⟨"OtherCoins$Law", "nextPart", "()Z"⟩, 6) := ⟨⟨by decide +kernel, by decide +kernel⟩, List.mem_of_getElem? (i := 148) (by decide +kernel), List.mem_of_getElem? (i := 295) (by decide +kernel), List.mem_of_getElem? (i := 296) (by decide +kernel)⟩
theorem lw_p6 : lw_okq (⟨"OtherCoins", "isLawless", "()Z"⟩, 12) := ⟨⟨by decide +kernel, by decide +kernel⟩, List.mem_of_getElem? (i := 17) (by decide +kernel), List.mem_of_getElem? (i := 324) (by decide +kernel), List.mem_of_getElem? (i := 325) (by decide +kernel)⟩
theorem lw_p7 : lw_okq (⟨"OtherCoins", "peopleIn", "(I)I"⟩, 12) := ⟨⟨by decide +kernel, by decide +kernel⟩, List.mem_of_getElem? (i := 17) (by decide +kernel), List.mem_of_getElem? (i := 328) (by decide +kernel), List.mem_of_getElem? (i := 329) (by decide +kernel)⟩
theorem lw_p8 : lw_okq (⟨"OtherCoins", "isPerson", "(I)Z"⟩, 12) := ⟨⟨by decide +kernel, by decide +kernel⟩, List.mem_of_getElem? (i := 17) (by decide +kernel), List.mem_of_getElem? (i := 353) (by decide +kernel), List.mem_of_getElem? (i := 354) (by decide +kernel)⟩
theorem lw_p9 : lw_okq (⟨"OtherCoins", "dealFor", "(I)LOtherCoins$Deal;"⟩, 12) := ⟨⟨by decide +kernel, by decide +kernel⟩, List.mem_of_getElem? (i := 17) (by decide +kernel), List.mem_of_getElem? (i := 408) (by decide +kernel), List.mem_of_getElem? (i := 409) (by decide +kernel)⟩
theorem lw_p10 : lw_okq (⟨"OtherCoins$Deal", "afterBuying", "(II)I"⟩, 4) := ⟨⟨by decide +kernel, by decide +kernel⟩, List.mem_of_getElem? (i := 45) (by decide +kernel), List.mem_of_getElem? (i := 429) (by decide +kernel), List.mem_of_getElem? (i := 430) (by decide +kernel)⟩
theorem lw_p11 : lw_okq (⟨"OtherCoins$Deal", "afterSelling", "(II)I"⟩, 4) := ⟨⟨by decide +kernel, by decide +kernel⟩, List.mem_of_getElem? (i := 45) (by decide +kernel), List.mem_of_getElem? (i := 445) (by decide +kernel), List.mem_of_getElem? (i := 446) (by decide +kernel)⟩
theorem lw_p12 : lw_okq (⟨"OtherCoins$Search", "begin", "(I)V"⟩, 6) := ⟨⟨by decide +kernel, by decide +kernel⟩, List.mem_of_getElem? (i := 65) (by decide +kernel), List.mem_of_getElem? (i := 476) (by decide +kernel), List.mem_of_getElem? (i := 477) (by decide +kernel)⟩
theorem lw_p13 : lw_okq (⟨"OtherCoins$Search", "find", "(II)V"⟩, 6) := ⟨⟨by decide +kernel, by decide +kernel⟩, List.mem_of_getElem? (i := 65) (by decide +kernel), List.mem_of_getElem? (i := 481) (by decide +kernel), List.mem_of_getElem? (i := 482) (by decide +kernel)⟩
theorem lw_p14 : lw_okq (⟨"OtherCoins$Search", "firstToBuy", "(LOtherCoins$Deal;II)I"⟩, 6) := ⟨⟨by decide +kernel, by decide +kernel⟩, List.mem_of_getElem? (i := 65) (by decide +kernel), List.mem_of_getElem? (i := 485) (by decide +kernel), List.mem_of_getElem? (i := 486) (by decide +kernel)⟩
theorem lw_p15 : lw_okq (⟨"OtherCoins$Search", "standingAt", "(I)I"⟩, 6) := ⟨⟨by decide +kernel, by decide +kernel⟩, List.mem_of_getElem? (i := 65) (by decide +kernel), List.mem_of_getElem? (i := 489) (by decide +kernel), List.mem_of_getElem? (i := 490) (by decide +kernel)⟩
def lw_privs_1 : List (MethodName × Nat) := [(⟨"OtherCoins$Law", "readLetter", "(I)Z"⟩, 6), (⟨"OtherCoins$Law", "endTakes", "()Z"⟩, 6), (⟨"OtherCoins$Law", "readTaken", "(I)Z"⟩, 6), (⟨"OtherCoins$Law", "isForeign", "(I)Z"⟩, 6), (⟨"OtherCoins$Law", "put", "([II)Z"⟩, 6), (⟨"OtherCoins$Law", "nextPart", "()Z"⟩, 6), (⟨"OtherCoins", "isLawless", "()Z"⟩, 12), (⟨"OtherCoins", "peopleIn", "(I)I"⟩, 12), (⟨"OtherCoins", "isPerson", "(I)Z"⟩, 12), (⟨"OtherCoins", "dealFor", "(I)LOtherCoins$Deal;"⟩, 12), (⟨"OtherCoins$Deal", "afterBuying", "(II)I"⟩, 4), (⟨"OtherCoins$Deal", "afterSelling", "(II)I"⟩, 4), (⟨"OtherCoins$Search", "begin", "(I)V"⟩, 6), (⟨"OtherCoins$Search", "find", "(II)V"⟩, 6), (⟨"OtherCoins$Search", "firstToBuy", "(LOtherCoins$Deal;II)I"⟩, 6), (⟨"OtherCoins$Search", "standingAt", "(I)I"⟩, 6)]
theorem lw_r1 : ∀ q ∈ lw_privs_1, lw_okq q := List.forall_mem_cons.mpr ⟨lw_p0, List.forall_mem_cons.mpr ⟨lw_p1, List.forall_mem_cons.mpr ⟨lw_p2, List.forall_mem_cons.mpr ⟨lw_p3, List.forall_mem_cons.mpr ⟨lw_p4, List.forall_mem_cons.mpr ⟨lw_p5, List.forall_mem_cons.mpr ⟨lw_p6, List.forall_mem_cons.mpr ⟨lw_p7, List.forall_mem_cons.mpr ⟨lw_p8, List.forall_mem_cons.mpr ⟨lw_p9, List.forall_mem_cons.mpr ⟨lw_p10, List.forall_mem_cons.mpr ⟨lw_p11, List.forall_mem_cons.mpr ⟨lw_p12, List.forall_mem_cons.mpr ⟨lw_p13, List.forall_mem_cons.mpr ⟨lw_p14, List.forall_mem_cons.mpr ⟨lw_p15, fun _ h => absurd h List.not_mem_nil⟩⟩⟩⟩⟩⟩⟩⟩⟩⟩⟩⟩⟩⟩⟩⟩
theorem lw_p16 : lw_okq (⟨"OtherCoins$Search", "firstActTo", "(II)I"⟩, 6) := ⟨⟨by decide +kernel, by decide +kernel⟩, List.mem_of_getElem? (i := 65) (by decide +kernel), List.mem_of_getElem? (i := 497) (by decide +kernel), List.mem_of_getElem? (i := 498) (by decide +kernel)⟩
theorem lw_p17 : lw_okq (⟨"OtherCoins$Search", "deepen", "(LOtherCoins$Deal;)V"⟩, 6) := ⟨⟨by decide +kernel, by decide +kernel⟩, List.mem_of_getElem? (i := 65) (by decide +kernel), List.mem_of_getElem? (i := 501) (by decide +kernel), List.mem_of_getElem? (i := 502) (by decide +kernel)⟩
theorem lw_p18 : lw_okq (⟨"OtherCoins$Trail", "followAct", "(LOtherCoins$Deal;II)V"⟩, 7) := ⟨⟨by decide +kernel, by decide +kernel⟩, List.mem_of_getElem? (i := 92) (by decide +kernel), List.mem_of_getElem? (i := 573) (by decide +kernel), List.mem_of_getElem? (i := 574) (by decide +kernel)⟩
theorem lw_p19 : lw_okq (⟨"OtherCoins", "coinsOfAll", "()I"⟩, 12) := ⟨⟨by decide +kernel, by decide +kernel⟩, List.mem_of_getElem? (i := 17) (by decide +kernel), List.mem_of_getElem? (i := 625) (by decide +kernel), List.mem_of_getElem? (i := 626) (by decide +kernel)⟩
theorem lw_p20 : lw_okq (⟨"OtherCoins", "goodsOfAll", "()I"⟩, 12) := ⟨⟨by decide +kernel, by decide +kernel⟩, List.mem_of_getElem? (i := 17) (by decide +kernel), List.mem_of_getElem? (i := 629) (by decide +kernel), List.mem_of_getElem? (i := 630) (by decide +kernel)⟩
theorem lw_p21 : lw_okq (⟨"OtherCoins", "foldPerson", "(JI)J"⟩, 12) := ⟨⟨by decide +kernel, by decide +kernel⟩, List.mem_of_getElem? (i := 17) (by decide +kernel), List.mem_of_getElem? (i := 644) (by decide +kernel), List.mem_of_getElem? (i := 645) (by decide +kernel)⟩
theorem lw_p22 : lw_okq (⟨"OtherCoinsModel", "readLaw", "()V"⟩, 38) := ⟨⟨by decide +kernel, by decide +kernel⟩, List.mem_of_getElem? (i := 654) (by decide +kernel), List.mem_of_getElem? (i := 790) (by decide +kernel), List.mem_of_getElem? (i := 791) (by decide +kernel)⟩
theorem lw_p23 : lw_okq (⟨"OtherCoinsModel", "nextState", "(II)I"⟩, 38) := ⟨⟨by decide +kernel, by decide +kernel⟩, List.mem_of_getElem? (i := 654) (by decide +kernel), List.mem_of_getElem? (i := 794) (by decide +kernel), List.mem_of_getElem? (i := 795) (by decide +kernel)⟩
theorem lw_p24 : lw_okq (⟨"OtherCoinsModel", "townNow", "(II)I"⟩, 38) := ⟨⟨by decide +kernel, by decide +kernel⟩, List.mem_of_getElem? (i := 654) (by decide +kernel), List.mem_of_getElem? (i := 818) (by decide +kernel), List.mem_of_getElem? (i := 819) (by decide +kernel)⟩
theorem lw_p25 : lw_okq (⟨"OtherCoinsModel", "isPerson", "(I)Z"⟩, 38) := ⟨⟨by decide +kernel, by decide +kernel⟩, List.mem_of_getElem? (i := 654) (by decide +kernel), List.mem_of_getElem? (i := 837) (by decide +kernel), List.mem_of_getElem? (i := 838) (by decide +kernel)⟩
theorem lw_p26 : lw_okq (⟨"OtherCoinsModel", "personNow", "(II)I"⟩, 38) := ⟨⟨by decide +kernel, by decide +kernel⟩, List.mem_of_getElem? (i := 654) (by decide +kernel), List.mem_of_getElem? (i := 841) (by decide +kernel), List.mem_of_getElem? (i := 842) (by decide +kernel)⟩
theorem lw_p27 : lw_okq (⟨"OtherCoinsModel", "costs", "(II)I"⟩, 38) := ⟨⟨by decide +kernel, by decide +kernel⟩, List.mem_of_getElem? (i := 654) (by decide +kernel), List.mem_of_getElem? (i := 860) (by decide +kernel), List.mem_of_getElem? (i := 861) (by decide +kernel)⟩
theorem lw_p28 : lw_okq (⟨"OtherCoinsModel", "gets", "(II)I"⟩, 38) := ⟨⟨by decide +kernel, by decide +kernel⟩, List.mem_of_getElem? (i := 654) (by decide +kernel), List.mem_of_getElem? (i := 864) (by decide +kernel), List.mem_of_getElem? (i := 865) (by decide +kernel)⟩
theorem lw_p29 : lw_okq (⟨"OtherCoinsModel", "behind", "(III)I"⟩, 38) := ⟨⟨by decide +kernel, by decide +kernel⟩, List.mem_of_getElem? (i := 654) (by decide +kernel), List.mem_of_getElem? (i := 886) (by decide +kernel), List.mem_of_getElem? (i := 887) (by decide +kernel)⟩
theorem lw_p30 : lw_okq (⟨"OtherCoinsModel", "mayPay", "(III)Z"⟩, 38) := ⟨⟨by decide +kernel, by decide +kernel⟩, List.mem_of_getElem? (i := 654) (by decide +kernel), List.mem_of_getElem? (i := 890) (by decide +kernel), List.mem_of_getElem? (i := 891) (by decide +kernel)⟩
theorem lw_p31 : lw_okq (⟨"OtherCoinsModel", "fewestOf", "(II)I"⟩, 38) := ⟨⟨by decide +kernel, by decide +kernel⟩, List.mem_of_getElem? (i := 654) (by decide +kernel), List.mem_of_getElem? (i := 906) (by decide +kernel), List.mem_of_getElem? (i := 907) (by decide +kernel)⟩
def lw_privs_2 : List (MethodName × Nat) := [(⟨"OtherCoins$Search", "firstActTo", "(II)I"⟩, 6), (⟨"OtherCoins$Search", "deepen", "(LOtherCoins$Deal;)V"⟩, 6), (⟨"OtherCoins$Trail", "followAct", "(LOtherCoins$Deal;II)V"⟩, 7), (⟨"OtherCoins", "coinsOfAll", "()I"⟩, 12), (⟨"OtherCoins", "goodsOfAll", "()I"⟩, 12), (⟨"OtherCoins", "foldPerson", "(JI)J"⟩, 12), (⟨"OtherCoinsModel", "readLaw", "()V"⟩, 38), (⟨"OtherCoinsModel", "nextState", "(II)I"⟩, 38), (⟨"OtherCoinsModel", "townNow", "(II)I"⟩, 38), (⟨"OtherCoinsModel", "isPerson", "(I)Z"⟩, 38), (⟨"OtherCoinsModel", "personNow", "(II)I"⟩, 38), (⟨"OtherCoinsModel", "costs", "(II)I"⟩, 38), (⟨"OtherCoinsModel", "gets", "(II)I"⟩, 38), (⟨"OtherCoinsModel", "behind", "(III)I"⟩, 38), (⟨"OtherCoinsModel", "mayPay", "(III)Z"⟩, 38), (⟨"OtherCoinsModel", "fewestOf", "(II)I"⟩, 38)]
theorem lw_r2 : ∀ q ∈ lw_privs_2, lw_okq q := List.forall_mem_cons.mpr ⟨lw_p16, List.forall_mem_cons.mpr ⟨lw_p17, List.forall_mem_cons.mpr ⟨lw_p18, List.forall_mem_cons.mpr ⟨lw_p19, List.forall_mem_cons.mpr ⟨lw_p20, List.forall_mem_cons.mpr ⟨lw_p21, List.forall_mem_cons.mpr ⟨lw_p22, List.forall_mem_cons.mpr ⟨lw_p23, List.forall_mem_cons.mpr ⟨lw_p24, List.forall_mem_cons.mpr ⟨lw_p25, List.forall_mem_cons.mpr ⟨lw_p26, List.forall_mem_cons.mpr ⟨lw_p27, List.forall_mem_cons.mpr ⟨lw_p28, List.forall_mem_cons.mpr ⟨lw_p29, List.forall_mem_cons.mpr ⟨lw_p30, List.forall_mem_cons.mpr ⟨lw_p31, fun _ h => absurd h List.not_mem_nil⟩⟩⟩⟩⟩⟩⟩⟩⟩⟩⟩⟩⟩⟩⟩⟩
theorem lw_p32 : lw_okq (⟨"OtherCoinsModel", "layQueue", "(I)V"⟩, 38) := ⟨⟨by decide +kernel, by decide +kernel⟩, List.mem_of_getElem? (i := 654) (by decide +kernel), List.mem_of_getElem? (i := 910) (by decide +kernel), List.mem_of_getElem? (i := 911) (by decide +kernel)⟩
theorem lw_p33 : lw_okq (⟨"OtherCoinsModel", "goFrom", "(II)V"⟩, 38) := ⟨⟨by decide +kernel, by decide +kernel⟩, List.mem_of_getElem? (i := 654) (by decide +kernel), List.mem_of_getElem? (i := 914) (by decide +kernel), List.mem_of_getElem? (i := 915) (by decide +kernel)⟩
theorem lw_p34 : lw_okq (⟨"OtherCoinsModel", "richestOf", "(II)I"⟩, 38) := ⟨⟨by decide +kernel, by decide +kernel⟩, List.mem_of_getElem? (i := 654) (by decide +kernel), List.mem_of_getElem? (i := 922) (by decide +kernel), List.mem_of_getElem? (i := 923) (by decide +kernel)⟩
theorem lw_p35 : lw_okq (⟨"OtherCoinsModel", "deadNow", "(I)I"⟩, 38) := ⟨⟨by decide +kernel, by decide +kernel⟩, List.mem_of_getElem? (i := 654) (by decide +kernel), List.mem_of_getElem? (i := 930) (by decide +kernel), List.mem_of_getElem? (i := 931) (by decide +kernel)⟩
theorem lw_p36 : lw_okq (⟨"OtherCoinsModel", "gainsNow", "(II)I"⟩, 38) := ⟨⟨by decide +kernel, by decide +kernel⟩, List.mem_of_getElem? (i := 654) (by decide +kernel), List.mem_of_getElem? (i := 938) (by decide +kernel), List.mem_of_getElem? (i := 939) (by decide +kernel)⟩
theorem lw_p37 : lw_okq (⟨"OtherCoinsModel", "waysNow", "()I"⟩, 38) := ⟨⟨by decide +kernel, by decide +kernel⟩, List.mem_of_getElem? (i := 654) (by decide +kernel), List.mem_of_getElem? (i := 954) (by decide +kernel), List.mem_of_getElem? (i := 955) (by decide +kernel)⟩
theorem lw_p38 : lw_okq (⟨"OtherCoinsModel", "layTrail", "()V"⟩, 38) := ⟨⟨by decide +kernel, by decide +kernel⟩, List.mem_of_getElem? (i := 654) (by decide +kernel), List.mem_of_getElem? (i := 958) (by decide +kernel), List.mem_of_getElem? (i := 959) (by decide +kernel)⟩
theorem lw_p39 : lw_okq (⟨"OtherCoinsModel", "goTrail", "(II)V"⟩, 38) := ⟨⟨by decide +kernel, by decide +kernel⟩, List.mem_of_getElem? (i := 654) (by decide +kernel), List.mem_of_getElem? (i := 962) (by decide +kernel), List.mem_of_getElem? (i := 963) (by decide +kernel)⟩
theorem lw_p40 : lw_okq (⟨"OtherCoinsModel", "endsNow", "()I"⟩, 38) := ⟨⟨by decide +kernel, by decide +kernel⟩, List.mem_of_getElem? (i := 654) (by decide +kernel), List.mem_of_getElem? (i := 970) (by decide +kernel), List.mem_of_getElem? (i := 971) (by decide +kernel)⟩
theorem lw_p41 : lw_okq (⟨"OtherCoinsModel", "walkNow", "(IIII)I"⟩, 38) := ⟨⟨by decide +kernel, by decide +kernel⟩, List.mem_of_getElem? (i := 654) (by decide +kernel), List.mem_of_getElem? (i := 978) (by decide +kernel), List.mem_of_getElem? (i := 979) (by decide +kernel)⟩
theorem lw_p42 : lw_okq (⟨"OtherCoinsModel", "mayMany", "(II)I"⟩, 38) := ⟨⟨by decide +kernel, by decide +kernel⟩, List.mem_of_getElem? (i := 654) (by decide +kernel), List.mem_of_getElem? (i := 982) (by decide +kernel), List.mem_of_getElem? (i := 983) (by decide +kernel)⟩
theorem lw_p43 : lw_okq (⟨"OtherCoinsModel", "draw", "(I)I"⟩, 38) := ⟨⟨by decide +kernel, by decide +kernel⟩, List.mem_of_getElem? (i := 654) (by decide +kernel), List.mem_of_getElem? (i := 986) (by decide +kernel), List.mem_of_getElem? (i := 987) (by decide +kernel)⟩
theorem lw_p44 : lw_okq (⟨"OtherCoinsModel", "actBy", "(III)I"⟩, 38) := ⟨⟨by decide +kernel, by decide +kernel⟩, List.mem_of_getElem? (i := 654) (by decide +kernel), List.mem_of_getElem? (i := 994) (by decide +kernel), List.mem_of_getElem? (i := 995) (by decide +kernel)⟩
theorem lw_p45 : lw_okq (⟨"OtherCoinsModel", "howMany", "(I)I"⟩, 38) := ⟨⟨by decide +kernel, by decide +kernel⟩, List.mem_of_getElem? (i := 654) (by decide +kernel), List.mem_of_getElem? (i := 1010) (by decide +kernel), List.mem_of_getElem? (i := 1011) (by decide +kernel)⟩
theorem lw_p46 : lw_okq (⟨"OtherCoinsModel", "mix", "(J)V"⟩, 38) := ⟨⟨by decide +kernel, by decide +kernel⟩, List.mem_of_getElem? (i := 654) (by decide +kernel), List.mem_of_getElem? (i := 1019) (by decide +kernel), List.mem_of_getElem? (i := 1020) (by decide +kernel)⟩
theorem lw_p47 : lw_okq (⟨"OtherCoinsModel", "mixPerson", "(I)V"⟩, 38) := ⟨⟨by decide +kernel, by decide +kernel⟩, List.mem_of_getElem? (i := 654) (by decide +kernel), List.mem_of_getElem? (i := 1024) (by decide +kernel), List.mem_of_getElem? (i := 1025) (by decide +kernel)⟩
def lw_privs_3 : List (MethodName × Nat) := [(⟨"OtherCoinsModel", "layQueue", "(I)V"⟩, 38), (⟨"OtherCoinsModel", "goFrom", "(II)V"⟩, 38), (⟨"OtherCoinsModel", "richestOf", "(II)I"⟩, 38), (⟨"OtherCoinsModel", "deadNow", "(I)I"⟩, 38), (⟨"OtherCoinsModel", "gainsNow", "(II)I"⟩, 38), (⟨"OtherCoinsModel", "waysNow", "()I"⟩, 38), (⟨"OtherCoinsModel", "layTrail", "()V"⟩, 38), (⟨"OtherCoinsModel", "goTrail", "(II)V"⟩, 38), (⟨"OtherCoinsModel", "endsNow", "()I"⟩, 38), (⟨"OtherCoinsModel", "walkNow", "(IIII)I"⟩, 38), (⟨"OtherCoinsModel", "mayMany", "(II)I"⟩, 38), (⟨"OtherCoinsModel", "draw", "(I)I"⟩, 38), (⟨"OtherCoinsModel", "actBy", "(III)I"⟩, 38), (⟨"OtherCoinsModel", "howMany", "(I)I"⟩, 38), (⟨"OtherCoinsModel", "mix", "(J)V"⟩, 38), (⟨"OtherCoinsModel", "mixPerson", "(I)V"⟩, 38)]
theorem lw_r3 : ∀ q ∈ lw_privs_3, lw_okq q := List.forall_mem_cons.mpr ⟨lw_p32, List.forall_mem_cons.mpr ⟨lw_p33, List.forall_mem_cons.mpr ⟨lw_p34, List.forall_mem_cons.mpr ⟨lw_p35, List.forall_mem_cons.mpr ⟨lw_p36, List.forall_mem_cons.mpr ⟨lw_p37, List.forall_mem_cons.mpr ⟨lw_p38, List.forall_mem_cons.mpr ⟨lw_p39, List.forall_mem_cons.mpr ⟨lw_p40, List.forall_mem_cons.mpr ⟨lw_p41, List.forall_mem_cons.mpr ⟨lw_p42, List.forall_mem_cons.mpr ⟨lw_p43, List.forall_mem_cons.mpr ⟨lw_p44, List.forall_mem_cons.mpr ⟨lw_p45, List.forall_mem_cons.mpr ⟨lw_p46, List.forall_mem_cons.mpr ⟨lw_p47, fun _ h => absurd h List.not_mem_nil⟩⟩⟩⟩⟩⟩⟩⟩⟩⟩⟩⟩⟩⟩⟩⟩
def lw_privs : List (MethodName × Nat) := lw_privs_1 ++ (lw_privs_2 ++ (lw_privs_3))
def lw_tbl : List Cond := k2_sels lw_privs ++ tables_1
theorem lw_privs_ok : ∀ q ∈ lw_privs, lw_okq q := by
  show ∀ q ∈ lw_privs_1 ++ (lw_privs_2 ++ (lw_privs_3)), lw_okq q
  exact List.forall_mem_append.mpr ⟨lw_r1, List.forall_mem_append.mpr ⟨lw_r2, lw_r3⟩⟩
-- ===== end of PART A; then your names; then what follows =====
end
section
/-! ===== BEGIN words of one list among another's, by their places ===== -/
theorem goodIn_r {big : List Cond} (ws : List Cond) (ps : List Nat) (hp : ws = ps.filterMap (fun i => big[i]?)) (h : ws.all goodWord = true) : GoodIn big ws := by
  intro w hw
  have h1 := List.all_eq_true.mp h w hw
  rw [hp] at hw
  obtain ⟨i, -, hi⟩ := List.mem_filterMap.mp hw
  have hm : w ∈ big := by first | exact List.mem_of_getElem? hi | exact List.getElem?_mem hi
  exact ⟨hm, good_of_word h1⟩
theorem goodIn_app {big a b : List Cond} (ha : GoodIn big a) (hb : GoodIn big b) : GoodIn big (a ++ b) := fun w h => (List.mem_append.mp h).elim (ha w) (hb w)
theorem goodIn_ca {big a b : List Cond} {c : Cond} (ha : GoodIn big (c :: a)) (hb : GoodIn big b) : GoodIn big (c :: (a ++ b)) := fun w h => (List.mem_cons.mp h).elim (fun e => ha w (List.mem_cons.mpr (Or.inl e))) (fun h => (List.mem_append.mp h).elim (fun h => ha w (List.mem_cons.mpr (Or.inr h))) (hb w))
theorem goodIn_sub {big ws : List Cond} (hm : ∀ w ∈ ws, w ∈ big) (h : ws.all goodWord = true) : GoodIn big ws := fun w hw => ⟨hm w hw, good_of_word (List.all_eq_true.mp h w hw)⟩
/-! ===== END ===== -/

/-! ===== BEGIN printed: names, fields, word lists, decode rows ===== -/
def RX0 : String := "OtherCoins$Deal"
def TX0 : u_T := fun k => match k with
  | 0 => ("OtherCoins$Deal", "cost", "[I", true)
  | 1 => ("OtherCoins$Deal", "gets", "[I", true)
  | 2 => ("OtherCoins$Deal", "gives", "[I", true)
  | _ => ("OtherCoins$Deal", "payable", "[I", true)
def tyX0 : Nat → FieldType := fun k => match k with
  | 0 => .array .int
  | 1 => .array .int
  | 2 => .array .int
  | _ => .array .int
abbrev wsX00 : List Cond := u_ws RX0 TX0 4
theorem nmX0 : ∀ a, a < 4 → ∀ b, b < 4 → a ≠ b → (TX0 a).2.1 ≠ (TX0 b).2.1 := by decide +kernel
theorem tyX0_ok : ∀ k, k < 4 → parseFieldDescriptor (TX0 k).2.2.1 = some (tyX0 k) := by decide +kernel
abbrev cX0_init : ByteArray := prog_2_method_1_code
def yX0_init : MethodName := ⟨RX0, "<init>", "()V"⟩
abbrev cX0_set : ByteArray := prog_2_method_2_code
def yX0_set : MethodName := ⟨RX0, "set", "(LOtherCoins$Law;LOtherCoins$Kind;)LOtherCoins$Deal;"⟩
abbrev cX0_paysAnywhere : ByteArray := prog_2_method_3_code
def yX0_paysAnywhere : MethodName := ⟨RX0, "paysAnywhere", "(I)Z"⟩
abbrev cX0_after : ByteArray := prog_2_method_4_code
def yX0_after : MethodName := ⟨RX0, "after", "(II)I"⟩
abbrev cX0_actsOpen : ByteArray := prog_2_method_5_code
def yX0_actsOpen : MethodName := ⟨RX0, "actsOpen", "(I)I"⟩
abbrev cX0_afterDraw : ByteArray := prog_2_method_6_code
def yX0_afterDraw : MethodName := ⟨RX0, "afterDraw", "(II)I"⟩
abbrev cX0_canPay : ByteArray := prog_2_method_7_code
def yX0_canPay : MethodName := ⟨RX0, "canPay", "(IIII)Z"⟩
abbrev cX0_afterGoing : ByteArray := prog_2_method_8_code
def yX0_afterGoing : MethodName := ⟨RX0, "afterGoing", "(II)I"⟩
abbrev cX0_afterBuying : ByteArray := prog_2_method_9_code
def yX0_afterBuying : MethodName := ⟨RX0, "afterBuying", "(II)I"⟩
abbrev cX0_afterSelling : ByteArray := prog_2_method_10_code
def yX0_afterSelling : MethodName := ⟨RX0, "afterSelling", "(II)I"⟩
def RX1 : String := "OtherCoins$Image"
def TX1 : u_T := fun k => match k with
  | 0 => ("OtherCoins$Image", "standing", "[I", true)
  | 1 => ("OtherCoins$Image", "price", "[I", true)
  | 2 => ("OtherCoins$Image", "kept", "Z", false)
  | 3 => ("OtherCoins$Image", "peopleCount", "I", false)
  | _ => ("OtherCoins$Image", "actsDone", "I", false)
def tyX1 : Nat → FieldType := fun k => match k with
  | 0 => .array .int
  | 1 => .array .int
  | 2 => .boolean
  | 3 => .int
  | _ => .int
abbrev wsX10 : List Cond := u_ws RX1 TX1 5
theorem nmX1 : ∀ a, a < 5 → ∀ b, b < 5 → a ≠ b → (TX1 a).2.1 ≠ (TX1 b).2.1 := by decide +kernel
theorem tyX1_ok : ∀ k, k < 5 → parseFieldDescriptor (TX1 k).2.2.1 = some (tyX1 k) := by decide +kernel
abbrev cX1_init : ByteArray := prog_3_method_1_code
def yX1_init : MethodName := ⟨RX1, "<init>", "()V"⟩
def RX2 : String := "OtherCoins$Kind"
def TX2 : u_T := fun k => match k with
  | _ => ("", "", "", false)
def tyX2 : Nat → FieldType := fun k => match k with
  | _ => .int
abbrev wsX20 : List Cond := u_ws RX2 TX2 0
theorem nmX2 : ∀ a, a < 0 → ∀ b, b < 0 → a ≠ b → (TX2 a).2.1 ≠ (TX2 b).2.1 := by decide +kernel
theorem tyX2_ok : ∀ k, k < 0 → parseFieldDescriptor (TX2 k).2.2.1 = some (tyX2 k) := by decide +kernel
abbrev cX2_cost : ByteArray := prog_4_method_4_code
def yX2_cost : MethodName := ⟨RX2, "cost", "(I)I"⟩
abbrev cX2_gain : ByteArray := prog_4_method_5_code
def yX2_gain : MethodName := ⟨RX2, "gain", "(I)I"⟩
abbrev cX2_isAlso : ByteArray := prog_4_method_6_code
def yX2_isAlso : MethodName := ⟨RX2, "isAlso", "(LOtherCoins$Kind;)Z"⟩
def RX3 : String := "OtherCoins$Law"
def TX3 : u_T := fun k => match k with
  | 0 => ("OtherCoins$Law", "takes", "[I", true)
  | 1 => ("OtherCoins$Law", "gives", "[I", true)
  | 2 => ("OtherCoins$Law", "price", "[I", true)
  | 3 => ("OtherCoins$Law", "pay", "[I", true)
  | 4 => ("OtherCoins$Law", "part", "I", false)
  | _ => ("OtherCoins$Law", "due", "I", false)
def tyX3 : Nat → FieldType := fun k => match k with
  | 0 => .array .int
  | 1 => .array .int
  | 2 => .array .int
  | 3 => .array .int
  | 4 => .int
  | _ => .int
abbrev wsX30 : List Cond := u_ws RX3 TX3 6
theorem nmX3 : ∀ a, a < 6 → ∀ b, b < 6 → a ≠ b → (TX3 a).2.1 ≠ (TX3 b).2.1 := by decide +kernel
theorem tyX3_ok : ∀ k, k < 6 → parseFieldDescriptor (TX3 k).2.2.1 = some (tyX3 k) := by decide +kernel
abbrev cX3_init : ByteArray := prog_5_method_1_code
def yX3_init : MethodName := ⟨RX3, "<init>", "()V"⟩
abbrev cX3_read : ByteArray := prog_5_method_2_code
def yX3_read : MethodName := ⟨RX3, "read", "(LOtherCoins$Page;)I"⟩
abbrev cX3_isWhole : ByteArray := prog_5_method_3_code
def yX3_isWhole : MethodName := ⟨RX3, "isWhole", "()Z"⟩
abbrev cX3_coinsTaken : ByteArray := prog_5_method_4_code
def yX3_coinsTaken : MethodName := ⟨RX3, "coinsTaken", "()I"⟩
abbrev cX3_readLetter : ByteArray := prog_5_method_5_code
def yX3_readLetter : MethodName := ⟨RX3, "readLetter", "(I)Z"⟩
abbrev cX3_isForeign : ByteArray := prog_5_method_6_code
def yX3_isForeign : MethodName := ⟨RX3, "isForeign", "(I)Z"⟩
abbrev cX3_endTakes : ByteArray := prog_5_method_7_code
def yX3_endTakes : MethodName := ⟨RX3, "endTakes", "()Z"⟩
abbrev cX3_readTaken : ByteArray := prog_5_method_8_code
def yX3_readTaken : MethodName := ⟨RX3, "readTaken", "(I)Z"⟩
abbrev cX3_put : ByteArray := prog_5_method_9_code
def yX3_put : MethodName := ⟨RX3, "put", "([II)Z"⟩
abbrev cX3_nextPart : ByteArray := prog_5_method_10_code
def yX3_nextPart : MethodName := ⟨RX3, "nextPart", "()Z"⟩
def RX4 : String := "OtherCoins$Page"
def TX4 : u_T := fun k => match k with
  | 0 => ("OtherCoins$Page", "codes", "[I", true)
  | _ => ("OtherCoins$Page", "size", "I", false)
def tyX4 : Nat → FieldType := fun k => match k with
  | 0 => .array .int
  | _ => .int
abbrev wsX40 : List Cond := u_ws RX4 TX4 2
theorem nmX4 : ∀ a, a < 2 → ∀ b, b < 2 → a ≠ b → (TX4 a).2.1 ≠ (TX4 b).2.1 := by decide +kernel
theorem tyX4_ok : ∀ k, k < 2 → parseFieldDescriptor (TX4 k).2.2.1 = some (tyX4 k) := by decide +kernel
abbrev cX4_init : ByteArray := prog_6_method_1_code
def yX4_init : MethodName := ⟨RX4, "<init>", "()V"⟩
abbrev cX4_add : ByteArray := prog_6_method_2_code
def yX4_add : MethodName := ⟨RX4, "add", "(J)I"⟩
abbrev cX4_clear : ByteArray := prog_6_method_3_code
def yX4_clear : MethodName := ⟨RX4, "clear", "()I"⟩
abbrev cX4_codeAt : ByteArray := prog_6_method_4_code
def yX4_codeAt : MethodName := ⟨RX4, "codeAt", "(JI)I"⟩
abbrev cX4_lettersIn : ByteArray := prog_6_method_5_code
def yX4_lettersIn : MethodName := ⟨RX4, "lettersIn", "(J)I"⟩
def RX5 : String := "OtherCoins$Person"
def TX5 : u_T := fun k => match k with
  | 0 => ("OtherCoins$Person", "kind", "LOtherCoins$Kind;", false)
  | _ => ("OtherCoins$Person", "standing", "I", false)
def tyX5 : Nat → FieldType := fun k => match k with
  | 0 => .object "OtherCoins$Kind"
  | _ => .int
abbrev wsX50 : List Cond := u_ws RX5 TX5 2
theorem nmX5 : ∀ a, a < 2 → ∀ b, b < 2 → a ≠ b → (TX5 a).2.1 ≠ (TX5 b).2.1 := by decide +kernel
theorem tyX5_ok : ∀ k, k < 2 → parseFieldDescriptor (TX5 k).2.2.1 = some (tyX5 k) := by decide +kernel
abbrev cX5_init : ByteArray := prog_7_method_1_code
def yX5_init : MethodName := ⟨RX5, "<init>", "()V"⟩
abbrev cX5_canSwap : ByteArray := prog_7_method_2_code
def yX5_canSwap : MethodName := ⟨RX5, "canSwap", "(II)Z"⟩
abbrev cX5_swap : ByteArray := prog_7_method_3_code
def yX5_swap : MethodName := ⟨RX5, "swap", "(II)V"⟩
def RX6 : String := "OtherCoins$Search"
def TX6 : u_T := fun k => match k with
  | 0 => ("OtherCoins$Search", "seen", "[I", true)
  | 1 => ("OtherCoins$Search", "found", "[I", true)
  | 2 => ("OtherCoins$Search", "foundCount", "I", false)
  | 3 => ("OtherCoins$Search", "levelStart", "I", false)
  | 4 => ("OtherCoins$Search", "levelEnd", "I", false)
  | _ => ("OtherCoins$Search", "depth", "I", false)
def tyX6 : Nat → FieldType := fun k => match k with
  | 0 => .array .int
  | 1 => .array .int
  | 2 => .int
  | 3 => .int
  | 4 => .int
  | _ => .int
abbrev wsX60 : List Cond := u_ws RX6 TX6 6
theorem nmX6 : ∀ a, a < 6 → ∀ b, b < 6 → a ≠ b → (TX6 a).2.1 ≠ (TX6 b).2.1 := by decide +kernel
theorem tyX6_ok : ∀ k, k < 6 → parseFieldDescriptor (TX6 k).2.2.1 = some (tyX6 k) := by decide +kernel
abbrev cX6_init : ByteArray := prog_8_method_1_code
def yX6_init : MethodName := ⟨RX6, "<init>", "()V"⟩
abbrev cX6_firstToward : ByteArray := prog_8_method_2_code
def yX6_firstToward : MethodName := ⟨RX6, "firstToward", "(LOtherCoins$Deal;II)I"⟩
abbrev cX6_isSooner : ByteArray := prog_8_method_3_code
def yX6_isSooner : MethodName := ⟨RX6, "isSooner", "(LOtherCoins$Deal;III)Z"⟩
abbrev cX6_mostCoins : ByteArray := prog_8_method_4_code
def yX6_mostCoins : MethodName := ⟨RX6, "mostCoins", "(LOtherCoins$Deal;II)I"⟩
abbrev cX6_begin : ByteArray := prog_8_method_5_code
def yX6_begin : MethodName := ⟨RX6, "begin", "(I)V"⟩
abbrev cX6_deepen : ByteArray := prog_8_method_6_code
def yX6_deepen : MethodName := ⟨RX6, "deepen", "(LOtherCoins$Deal;)V"⟩
abbrev cX6_find : ByteArray := prog_8_method_7_code
def yX6_find : MethodName := ⟨RX6, "find", "(II)V"⟩
abbrev cX6_firstToBuy : ByteArray := prog_8_method_8_code
def yX6_firstToBuy : MethodName := ⟨RX6, "firstToBuy", "(LOtherCoins$Deal;II)I"⟩
abbrev cX6_standingAt : ByteArray := prog_8_method_9_code
def yX6_standingAt : MethodName := ⟨RX6, "standingAt", "(I)I"⟩
abbrev cX6_firstActTo : ByteArray := prog_8_method_10_code
def yX6_firstActTo : MethodName := ⟨RX6, "firstActTo", "(II)I"⟩
def RX7 : String := "OtherCoins$Standing"
def TX7 : u_T := fun k => match k with
  | _ => ("", "", "", false)
def tyX7 : Nat → FieldType := fun k => match k with
  | _ => .int
abbrev wsX70 : List Cond := u_ws RX7 TX7 0
theorem nmX7 : ∀ a, a < 0 → ∀ b, b < 0 → a ≠ b → (TX7 a).2.1 ≠ (TX7 b).2.1 := by decide +kernel
theorem tyX7_ok : ∀ k, k < 0 → parseFieldDescriptor (TX7 k).2.2.1 = some (tyX7 k) := by decide +kernel
abbrev cX7_townOf : ByteArray := prog_9_method_2_code
def yX7_townOf : MethodName := ⟨RX7, "townOf", "(I)I"⟩
abbrev cX7_goodsOf : ByteArray := prog_9_method_3_code
def yX7_goodsOf : MethodName := ⟨RX7, "goodsOf", "(I)I"⟩
abbrev cX7_hasGood : ByteArray := prog_9_method_4_code
def yX7_hasGood : MethodName := ⟨RX7, "hasGood", "(II)Z"⟩
abbrev cX7_coinsOf : ByteArray := prog_9_method_5_code
def yX7_coinsOf : MethodName := ⟨RX7, "coinsOf", "(II)I"⟩
abbrev cX7_coinsTogether : ByteArray := prog_9_method_6_code
def yX7_coinsTogether : MethodName := ⟨RX7, "coinsTogether", "(I)I"⟩
abbrev cX7_withMore : ByteArray := prog_9_method_7_code
def yX7_withMore : MethodName := ⟨RX7, "withMore", "(III)I"⟩
abbrev cX7_withTown : ByteArray := prog_9_method_8_code
def yX7_withTown : MethodName := ⟨RX7, "withTown", "(II)I"⟩
abbrev cX7_withOtherGood : ByteArray := prog_9_method_9_code
def yX7_withOtherGood : MethodName := ⟨RX7, "withOtherGood", "(II)I"⟩
abbrev cX7_placeOf : ByteArray := prog_9_method_10_code
def yX7_placeOf : MethodName := ⟨RX7, "placeOf", "(I)I"⟩
abbrev cX7_withoutPlace : ByteArray := prog_9_method_11_code
def yX7_withoutPlace : MethodName := ⟨RX7, "withoutPlace", "(I)I"⟩
abbrev cX7_purseOf : ByteArray := prog_9_method_12_code
def yX7_purseOf : MethodName := ⟨RX7, "purseOf", "(I)I"⟩
def RX8 : String := "OtherCoins$Trail"
def TX8 : u_T := fun k => match k with
  | 0 => ("OtherCoins$Trail", "purses", "[I", true)
  | 1 => ("OtherCoins$Trail", "rowsTo", "[I", false)
  | 2 => ("OtherCoins$Trail", "rowsBehind", "[I", false)
  | 3 => ("OtherCoins$Trail", "begun", "Z", false)
  | 4 => ("OtherCoins$Trail", "kind", "LOtherCoins$Kind;", false)
  | 5 => ("OtherCoins$Trail", "start", "I", false)
  | _ => ("OtherCoins$Trail", "size", "I", false)
def tyX8 : Nat → FieldType := fun k => match k with
  | 0 => .array .int
  | 1 => .array .int
  | 2 => .array .int
  | 3 => .boolean
  | 4 => .object "OtherCoins$Kind"
  | 5 => .int
  | _ => .int
abbrev wsX80 : List Cond := u_ws RX8 TX8 7
theorem nmX8 : ∀ a, a < 7 → ∀ b, b < 7 → a ≠ b → (TX8 a).2.1 ≠ (TX8 b).2.1 := by decide +kernel
theorem tyX8_ok : ∀ k, k < 7 → parseFieldDescriptor (TX8 k).2.2.1 = some (tyX8 k) := by decide +kernel
abbrev cX8_init : ByteArray := prog_10_method_1_code
def yX8_init : MethodName := ⟨RX8, "<init>", "()V"⟩
abbrev cX8_begin : ByteArray := prog_10_method_2_code
def yX8_begin : MethodName := ⟨RX8, "begin", "(LOtherCoins$Person;)V"⟩
abbrev cX8_add : ByteArray := prog_10_method_3_code
def yX8_add : MethodName := ⟨RX8, "add", "(I)I"⟩
abbrev cX8_pursesTold : ByteArray := prog_10_method_4_code
def yX8_pursesTold : MethodName := ⟨RX8, "pursesTold", "()I"⟩
abbrev cX8_follow : ByteArray := prog_10_method_5_code
def yX8_follow : MethodName := ⟨RX8, "follow", "(LOtherCoins$Deal;)V"⟩
abbrev cX8_rows : ByteArray := prog_10_method_6_code
def yX8_rows : MethodName := ⟨RX8, "rows", "()I"⟩
abbrev cX8_towns : ByteArray := prog_10_method_7_code
def yX8_towns : MethodName := ⟨RX8, "towns", "()I"⟩
abbrev cX8_followAct : ByteArray := prog_10_method_8_code
def yX8_followAct : MethodName := ⟨RX8, "followAct", "(LOtherCoins$Deal;II)V"⟩
def RX9 : String := "OtherCoins"
def TX9 : u_T := fun k => match k with
  | 0 => ("OtherCoins", "page", "LOtherCoins$Page;", true)
  | 1 => ("OtherCoins", "people", "[LOtherCoins$Person;", true)
  | 2 => ("OtherCoins", "deal", "LOtherCoins$Deal;", true)
  | 3 => ("OtherCoins", "search", "LOtherCoins$Search;", true)
  | 4 => ("OtherCoins", "trail", "LOtherCoins$Trail;", true)
  | 5 => ("OtherCoins", "image", "LOtherCoins$Image;", true)
  | 6 => ("OtherCoins", "law", "LOtherCoins$Law;", false)
  | 7 => ("OtherCoins", "draft", "LOtherCoins$Law;", false)
  | 8 => ("OtherCoins", "peopleCount", "I", false)
  | 9 => ("OtherCoins", "actsDone", "I", false)
  | 10 => ("OtherCoins", "lawsRead", "I", false)
  | _ => ("OtherCoins", "searchesDone", "I", false)
def tyX9 : Nat → FieldType := fun k => match k with
  | 0 => .object "OtherCoins$Page"
  | 1 => .array (.object "OtherCoins$Person")
  | 2 => .object "OtherCoins$Deal"
  | 3 => .object "OtherCoins$Search"
  | 4 => .object "OtherCoins$Trail"
  | 5 => .object "OtherCoins$Image"
  | 6 => .object "OtherCoins$Law"
  | 7 => .object "OtherCoins$Law"
  | 8 => .int
  | 9 => .int
  | 10 => .int
  | _ => .int
abbrev wsX90 : List Cond := u_ws RX9 TX9 12
theorem nmX9 : ∀ a, a < 12 → ∀ b, b < 12 → a ≠ b → (TX9 a).2.1 ≠ (TX9 b).2.1 := by decide +kernel
theorem tyX9_ok : ∀ k, k < 12 → parseFieldDescriptor (TX9 k).2.2.1 = some (tyX9 k) := by decide +kernel
abbrev cX9_init : ByteArray := prog_1_method_1_code
def yX9_init : MethodName := ⟨RX9, "<init>", "()V"⟩
abbrev cX9_letters : ByteArray := prog_1_method_2_code
def yX9_letters : MethodName := ⟨RX9, "letters", "(J)I"⟩
abbrev cX9_blank : ByteArray := prog_1_method_3_code
def yX9_blank : MethodName := ⟨RX9, "blank", "()I"⟩
abbrev cX9_fault : ByteArray := prog_1_method_4_code
def yX9_fault : MethodName := ⟨RX9, "fault", "()I"⟩
abbrev cX9_law : ByteArray := prog_1_method_5_code
def yX9_law : MethodName := ⟨RX9, "law", "()I"⟩
abbrev cX9_town : ByteArray := prog_1_method_6_code
def yX9_town : MethodName := ⟨RX9, "town", "(II)I"⟩
abbrev cX9_price : ByteArray := prog_1_method_7_code
def yX9_price : MethodName := ⟨RX9, "price", "(II)I"⟩
abbrev cX9_person : ByteArray := prog_1_method_8_code
def yX9_person : MethodName := ⟨RX9, "person", "(II)I"⟩
abbrev cX9_about : ByteArray := prog_1_method_9_code
def yX9_about : MethodName := ⟨RX9, "about", "(II)I"⟩
abbrev cX9_as : ByteArray := prog_1_method_10_code
def yX9_as : MethodName := ⟨RX9, "as", "(II)I"⟩
abbrev cX9_purse : ByteArray := prog_1_method_11_code
def yX9_purse : MethodName := ⟨RX9, "purse", "(III)I"⟩
abbrev cX9_may : ByteArray := prog_1_method_12_code
def yX9_may : MethodName := ⟨RX9, "may", "(II)I"⟩
abbrev cX9_act : ByteArray := prog_1_method_13_code
def yX9_act : MethodName := ⟨RX9, "act", "(II)I"⟩
abbrev cX9_change : ByteArray := prog_1_method_14_code
def yX9_change : MethodName := ⟨RX9, "change", "(IIII)I"⟩
abbrev cX9_fewest : ByteArray := prog_1_method_15_code
def yX9_fewest : MethodName := ⟨RX9, "fewest", "(III)I"⟩
abbrev cX9_richest : ByteArray := prog_1_method_16_code
def yX9_richest : MethodName := ⟨RX9, "richest", "(II)I"⟩
abbrev cX9_dead : ByteArray := prog_1_method_17_code
def yX9_dead : MethodName := ⟨RX9, "dead", "(I)I"⟩
abbrev cX9_gains : ByteArray := prog_1_method_18_code
def yX9_gains : MethodName := ⟨RX9, "gains", "(II)I"⟩
abbrev cX9_trail : ByteArray := prog_1_method_19_code
def yX9_trail : MethodName := ⟨RX9, "trail", "(I)I"⟩
abbrev cX9_next : ByteArray := prog_1_method_20_code
def yX9_next : MethodName := ⟨RX9, "next", "(I)I"⟩
abbrev cX9_ways : ByteArray := prog_1_method_21_code
def yX9_ways : MethodName := ⟨RX9, "ways", "()I"⟩
abbrev cX9_ends : ByteArray := prog_1_method_22_code
def yX9_ends : MethodName := ⟨RX9, "ends", "()I"⟩
abbrev cX9_walk : ByteArray := prog_1_method_23_code
def yX9_walk : MethodName := ⟨RX9, "walk", "(IIII)I"⟩
abbrev cX9_image : ByteArray := prog_1_method_24_code
def yX9_image : MethodName := ⟨RX9, "image", "()I"⟩
abbrev cX9_restore : ByteArray := prog_1_method_25_code
def yX9_restore : MethodName := ⟨RX9, "restore", "()I"⟩
abbrev cX9_count : ByteArray := prog_1_method_26_code
def yX9_count : MethodName := ⟨RX9, "count", "(I)I"⟩
abbrev cX9_digest : ByteArray := prog_1_method_27_code
def yX9_digest : MethodName := ⟨RX9, "digest", "()J"⟩
abbrev cX9_fold : ByteArray := prog_1_method_28_code
def yX9_fold : MethodName := ⟨RX9, "fold", "(JJ)J"⟩
abbrev cX9_foldPerson : ByteArray := prog_1_method_29_code
def yX9_foldPerson : MethodName := ⟨RX9, "foldPerson", "(JI)J"⟩
abbrev cX9_isTown : ByteArray := prog_1_method_30_code
def yX9_isTown : MethodName := ⟨RX9, "isTown", "(I)Z"⟩
abbrev cX9_isCoin : ByteArray := prog_1_method_31_code
def yX9_isCoin : MethodName := ⟨RX9, "isCoin", "(I)Z"⟩
abbrev cX9_isKind : ByteArray := prog_1_method_32_code
def yX9_isKind : MethodName := ⟨RX9, "isKind", "(I)Z"⟩
abbrev cX9_isPrice : ByteArray := prog_1_method_33_code
def yX9_isPrice : MethodName := ⟨RX9, "isPrice", "(I)Z"⟩
abbrev cX9_isAct : ByteArray := prog_1_method_34_code
def yX9_isAct : MethodName := ⟨RX9, "isAct", "(I)Z"⟩
abbrev cX9_seedBehind : ByteArray := prog_1_method_35_code
def yX9_seedBehind : MethodName := ⟨RX9, "seedBehind", "(I)I"⟩
abbrev cX9_isPerson : ByteArray := prog_1_method_36_code
def yX9_isPerson : MethodName := ⟨RX9, "isPerson", "(I)Z"⟩
abbrev cX9_isLawless : ByteArray := prog_1_method_37_code
def yX9_isLawless : MethodName := ⟨RX9, "isLawless", "()Z"⟩
abbrev cX9_dealFor : ByteArray := prog_1_method_38_code
def yX9_dealFor : MethodName := ⟨RX9, "dealFor", "(I)LOtherCoins$Deal;"⟩
abbrev cX9_peopleIn : ByteArray := prog_1_method_39_code
def yX9_peopleIn : MethodName := ⟨RX9, "peopleIn", "(I)I"⟩
abbrev cX9_coinsOfAll : ByteArray := prog_1_method_40_code
def yX9_coinsOfAll : MethodName := ⟨RX9, "coinsOfAll", "()I"⟩
abbrev cX9_goodsOfAll : ByteArray := prog_1_method_41_code
def yX9_goodsOfAll : MethodName := ⟨RX9, "goodsOfAll", "()I"⟩
def RX10 : String := "OtherCoinsModel"
def TX10 : u_T := fun k => match k with
  | 0 => ("OtherCoinsModel", "isLaw", "Z", false)
  | 1 => ("OtherCoinsModel", "laws", "I", false)
  | 2 => ("OtherCoinsModel", "takesOf", "[I", true)
  | 3 => ("OtherCoinsModel", "givesOf", "[I", true)
  | 4 => ("OtherCoinsModel", "priceOf", "[I", true)
  | 5 => ("OtherCoinsModel", "payOf", "[I", true)
  | 6 => ("OtherCoinsModel", "people", "I", false)
  | 7 => ("OtherCoinsModel", "kindOf", "[I", true)
  | 8 => ("OtherCoinsModel", "standsOf", "[I", true)
  | 9 => ("OtherCoinsModel", "acts", "I", false)
  | 10 => ("OtherCoinsModel", "asks", "I", false)
  | 11 => ("OtherCoinsModel", "trailOf", "I", false)
  | 12 => ("OtherCoinsModel", "trailFrom", "I", false)
  | 13 => ("OtherCoinsModel", "trailMany", "I", false)
  | 14 => ("OtherCoinsModel", "trailPurse", "[I", true)
  | 15 => ("OtherCoinsModel", "pageLength", "I", false)
  | 16 => ("OtherCoinsModel", "page", "[B", true)
  | 17 => ("OtherCoinsModel", "faultAt", "I", false)
  | 18 => ("OtherCoinsModel", "isWhole", "Z", false)
  | 19 => ("OtherCoinsModel", "newTown", "I", false)
  | 20 => ("OtherCoinsModel", "newTakes", "[I", true)
  | 21 => ("OtherCoinsModel", "newGives", "[I", true)
  | 22 => ("OtherCoinsModel", "newPrice", "[I", true)
  | 23 => ("OtherCoinsModel", "newPay", "[I", true)
  | 24 => ("OtherCoinsModel", "firstOf", "[B", true)
  | 25 => ("OtherCoinsModel", "queue", "[I", true)
  | 26 => ("OtherCoinsModel", "queueEnd", "I", false)
  | 27 => ("OtherCoinsModel", "fewestFirst", "I", false)
  | 28 => ("OtherCoinsModel", "waysOf", "[I", true)
  | 29 => ("OtherCoinsModel", "waysThen", "[I", true)
  | 30 => ("OtherCoinsModel", "seedNow", "J", false)
  | 31 => ("OtherCoinsModel", "isKept", "Z", false)
  | 32 => ("OtherCoinsModel", "keptLaw", "I", false)
  | 33 => ("OtherCoinsModel", "keptPeople", "I", false)
  | 34 => ("OtherCoinsModel", "keptActs", "I", false)
  | 35 => ("OtherCoinsModel", "keptStands", "[I", true)
  | 36 => ("OtherCoinsModel", "keptPrice", "[I", true)
  | _ => ("OtherCoinsModel", "h", "J", false)
def tyX10 : Nat → FieldType := fun k => match k with
  | 0 => .boolean
  | 1 => .int
  | 2 => .array .int
  | 3 => .array .int
  | 4 => .array .int
  | 5 => .array .int
  | 6 => .int
  | 7 => .array .int
  | 8 => .array .int
  | 9 => .int
  | 10 => .int
  | 11 => .int
  | 12 => .int
  | 13 => .int
  | 14 => .array .int
  | 15 => .int
  | 16 => .array .byte
  | 17 => .int
  | 18 => .boolean
  | 19 => .int
  | 20 => .array .int
  | 21 => .array .int
  | 22 => .array .int
  | 23 => .array .int
  | 24 => .array .byte
  | 25 => .array .int
  | 26 => .int
  | 27 => .int
  | 28 => .array .int
  | 29 => .array .int
  | 30 => .long
  | 31 => .boolean
  | 32 => .int
  | 33 => .int
  | 34 => .int
  | 35 => .array .int
  | 36 => .array .int
  | _ => .long
abbrev wsX100 : List Cond := u_ws RX10 TX10 38
theorem nmX10 : ∀ a, a < 38 → ∀ b, b < 38 → a ≠ b → (TX10 a).2.1 ≠ (TX10 b).2.1 := by decide +kernel
theorem tyX10_ok : ∀ k, k < 38 → parseFieldDescriptor (TX10 k).2.2.1 = some (tyX10 k) := by decide +kernel
abbrev cX10_init : ByteArray := prog_12_method_1_code
def yX10_init : MethodName := ⟨RX10, "<init>", "()V"⟩
abbrev cX10_within : ByteArray := prog_12_method_3_code
def yX10_within : MethodName := ⟨RX10, "within", "(III)Z"⟩
abbrev cX10_has : ByteArray := prog_12_method_4_code
def yX10_has : MethodName := ⟨RX10, "has", "(II)Z"⟩
abbrev cX10_size : ByteArray := prog_12_method_5_code
def yX10_size : MethodName := ⟨RX10, "size", "(I)I"⟩
abbrev cX10_letters : ByteArray := prog_12_method_6_code
def yX10_letters : MethodName := ⟨RX10, "letters", "(J)I"⟩
abbrev cX10_blank : ByteArray := prog_12_method_7_code
def yX10_blank : MethodName := ⟨RX10, "blank", "()I"⟩
abbrev cX10_nextState : ByteArray := prog_12_method_8_code
def yX10_nextState : MethodName := ⟨RX10, "nextState", "(II)I"⟩
abbrev cX10_readLaw : ByteArray := prog_12_method_9_code
def yX10_readLaw : MethodName := ⟨RX10, "readLaw", "()V"⟩
abbrev cX10_fault : ByteArray := prog_12_method_10_code
def yX10_fault : MethodName := ⟨RX10, "fault", "()I"⟩
abbrev cX10_law : ByteArray := prog_12_method_11_code
def yX10_law : MethodName := ⟨RX10, "law", "()I"⟩
abbrev cX10_isTown : ByteArray := prog_12_method_12_code
def yX10_isTown : MethodName := ⟨RX10, "isTown", "(I)Z"⟩
abbrev cX10_townNow : ByteArray := prog_12_method_13_code
def yX10_townNow : MethodName := ⟨RX10, "townNow", "(II)I"⟩
abbrev cX10_town : ByteArray := prog_12_method_14_code
def yX10_town : MethodName := ⟨RX10, "town", "(II)I"⟩
abbrev cX10_price : ByteArray := prog_12_method_15_code
def yX10_price : MethodName := ⟨RX10, "price", "(II)I"⟩
abbrev cX10_townIn : ByteArray := prog_12_method_16_code
def yX10_townIn : MethodName := ⟨RX10, "townIn", "(I)I"⟩
abbrev cX10_purseIn : ByteArray := prog_12_method_17_code
def yX10_purseIn : MethodName := ⟨RX10, "purseIn", "(I)I"⟩
abbrev cX10_goodsIn : ByteArray := prog_12_method_18_code
def yX10_goodsIn : MethodName := ⟨RX10, "goodsIn", "(I)I"⟩
abbrev cX10_weight : ByteArray := prog_12_method_19_code
def yX10_weight : MethodName := ⟨RX10, "weight", "(I)I"⟩
abbrev cX10_coins : ByteArray := prog_12_method_20_code
def yX10_coins : MethodName := ⟨RX10, "coins", "(II)I"⟩
abbrev cX10_coinsAll : ByteArray := prog_12_method_21_code
def yX10_coinsAll : MethodName := ⟨RX10, "coinsAll", "(I)I"⟩
abbrev cX10_withCoins : ByteArray := prog_12_method_22_code
def yX10_withCoins : MethodName := ⟨RX10, "withCoins", "(III)I"⟩
abbrev cX10_costs : ByteArray := prog_12_method_23_code
def yX10_costs : MethodName := ⟨RX10, "costs", "(II)I"⟩
abbrev cX10_gets : ByteArray := prog_12_method_24_code
def yX10_gets : MethodName := ⟨RX10, "gets", "(II)I"⟩
abbrev cX10_mayPay : ByteArray := prog_12_method_25_code
def yX10_mayPay : MethodName := ⟨RX10, "mayPay", "(III)Z"⟩
abbrev cX10_behind : ByteArray := prog_12_method_26_code
def yX10_behind : MethodName := ⟨RX10, "behind", "(III)I"⟩
abbrev cX10_isAct : ByteArray := prog_12_method_27_code
def yX10_isAct : MethodName := ⟨RX10, "isAct", "(I)Z"⟩
abbrev cX10_isPerson : ByteArray := prog_12_method_28_code
def yX10_isPerson : MethodName := ⟨RX10, "isPerson", "(I)Z"⟩
abbrev cX10_person : ByteArray := prog_12_method_29_code
def yX10_person : MethodName := ⟨RX10, "person", "(II)I"⟩
abbrev cX10_personNow : ByteArray := prog_12_method_30_code
def yX10_personNow : MethodName := ⟨RX10, "personNow", "(II)I"⟩
abbrev cX10_about : ByteArray := prog_12_method_31_code
def yX10_about : MethodName := ⟨RX10, "about", "(II)I"⟩
abbrev cX10_as : ByteArray := prog_12_method_32_code
def yX10_as : MethodName := ⟨RX10, "as", "(II)I"⟩
abbrev cX10_purse : ByteArray := prog_12_method_33_code
def yX10_purse : MethodName := ⟨RX10, "purse", "(III)I"⟩
abbrev cX10_may : ByteArray := prog_12_method_34_code
def yX10_may : MethodName := ⟨RX10, "may", "(II)I"⟩
abbrev cX10_act : ByteArray := prog_12_method_35_code
def yX10_act : MethodName := ⟨RX10, "act", "(II)I"⟩
abbrev cX10_change : ByteArray := prog_12_method_36_code
def yX10_change : MethodName := ⟨RX10, "change", "(IIII)I"⟩
abbrev cX10_layQueue : ByteArray := prog_12_method_37_code
def yX10_layQueue : MethodName := ⟨RX10, "layQueue", "(I)V"⟩
abbrev cX10_goFrom : ByteArray := prog_12_method_38_code
def yX10_goFrom : MethodName := ⟨RX10, "goFrom", "(II)V"⟩
abbrev cX10_fewestOf : ByteArray := prog_12_method_39_code
def yX10_fewestOf : MethodName := ⟨RX10, "fewestOf", "(II)I"⟩
abbrev cX10_fewest : ByteArray := prog_12_method_40_code
def yX10_fewest : MethodName := ⟨RX10, "fewest", "(III)I"⟩
abbrev cX10_richestOf : ByteArray := prog_12_method_41_code
def yX10_richestOf : MethodName := ⟨RX10, "richestOf", "(II)I"⟩
abbrev cX10_richest : ByteArray := prog_12_method_42_code
def yX10_richest : MethodName := ⟨RX10, "richest", "(II)I"⟩
abbrev cX10_deadNow : ByteArray := prog_12_method_43_code
def yX10_deadNow : MethodName := ⟨RX10, "deadNow", "(I)I"⟩
abbrev cX10_dead : ByteArray := prog_12_method_44_code
def yX10_dead : MethodName := ⟨RX10, "dead", "(I)I"⟩
abbrev cX10_gainsNow : ByteArray := prog_12_method_45_code
def yX10_gainsNow : MethodName := ⟨RX10, "gainsNow", "(II)I"⟩
abbrev cX10_gains : ByteArray := prog_12_method_46_code
def yX10_gains : MethodName := ⟨RX10, "gains", "(II)I"⟩
abbrev cX10_trail : ByteArray := prog_12_method_47_code
def yX10_trail : MethodName := ⟨RX10, "trail", "(I)I"⟩
abbrev cX10_next : ByteArray := prog_12_method_48_code
def yX10_next : MethodName := ⟨RX10, "next", "(I)I"⟩
abbrev cX10_goTrail : ByteArray := prog_12_method_49_code
def yX10_goTrail : MethodName := ⟨RX10, "goTrail", "(II)V"⟩
abbrev cX10_layTrail : ByteArray := prog_12_method_50_code
def yX10_layTrail : MethodName := ⟨RX10, "layTrail", "()V"⟩
abbrev cX10_waysNow : ByteArray := prog_12_method_51_code
def yX10_waysNow : MethodName := ⟨RX10, "waysNow", "()I"⟩
abbrev cX10_endsNow : ByteArray := prog_12_method_52_code
def yX10_endsNow : MethodName := ⟨RX10, "endsNow", "()I"⟩
abbrev cX10_ways : ByteArray := prog_12_method_53_code
def yX10_ways : MethodName := ⟨RX10, "ways", "()I"⟩
abbrev cX10_ends : ByteArray := prog_12_method_54_code
def yX10_ends : MethodName := ⟨RX10, "ends", "()I"⟩
abbrev cX10_draw : ByteArray := prog_12_method_55_code
def yX10_draw : MethodName := ⟨RX10, "draw", "(I)I"⟩
abbrev cX10_mayMany : ByteArray := prog_12_method_56_code
def yX10_mayMany : MethodName := ⟨RX10, "mayMany", "(II)I"⟩
abbrev cX10_actBy : ByteArray := prog_12_method_57_code
def yX10_actBy : MethodName := ⟨RX10, "actBy", "(III)I"⟩
abbrev cX10_walkNow : ByteArray := prog_12_method_58_code
def yX10_walkNow : MethodName := ⟨RX10, "walkNow", "(IIII)I"⟩
abbrev cX10_walk : ByteArray := prog_12_method_59_code
def yX10_walk : MethodName := ⟨RX10, "walk", "(IIII)I"⟩
abbrev cX10_image : ByteArray := prog_12_method_60_code
def yX10_image : MethodName := ⟨RX10, "image", "()I"⟩
abbrev cX10_restore : ByteArray := prog_12_method_61_code
def yX10_restore : MethodName := ⟨RX10, "restore", "()I"⟩
abbrev cX10_howMany : ByteArray := prog_12_method_62_code
def yX10_howMany : MethodName := ⟨RX10, "howMany", "(I)I"⟩
abbrev cX10_count : ByteArray := prog_12_method_63_code
def yX10_count : MethodName := ⟨RX10, "count", "(I)I"⟩
abbrev cX10_mix : ByteArray := prog_12_method_64_code
def yX10_mix : MethodName := ⟨RX10, "mix", "(J)V"⟩
abbrev cX10_mixPerson : ByteArray := prog_12_method_65_code
def yX10_mixPerson : MethodName := ⟨RX10, "mixPerson", "(I)V"⟩
abbrev cX10_digest : ByteArray := prog_12_method_66_code
def yX10_digest : MethodName := ⟨RX10, "digest", "()J"⟩
def RJx29ce0 : String := "java/lang/Enum"
def TJx29ce0 : u_T := fun k => match k with
  | _ => ("", "", "", false)
def tyJx29ce0 : Nat → FieldType := fun k => match k with
  | _ => .int
abbrev wsJx29ce00 : List Cond := u_ws RJx29ce0 TJx29ce0 0
theorem nmJx29ce0 : ∀ a, a < 0 → ∀ b, b < 0 → a ≠ b → (TJx29ce0 a).2.1 ≠ (TJx29ce0 b).2.1 := by decide +kernel
theorem tyJx29ce0_ok : ∀ k, k < 0 → parseFieldDescriptor (TJx29ce0 k).2.2.1 = some (tyJx29ce0 k) := by decide +kernel
def RJ6 : String := "java/lang/Integer"
def TJ6 : u_T := fun k => match k with
  | _ => ("", "", "", false)
def tyJ6 : Nat → FieldType := fun k => match k with
  | _ => .int
abbrev wsJ60 : List Cond := u_ws RJ6 TJ6 0
theorem nmJ6 : ∀ a, a < 0 → ∀ b, b < 0 → a ≠ b → (TJ6 a).2.1 ≠ (TJ6 b).2.1 := by decide +kernel
theorem tyJ6_ok : ∀ k, k < 0 → parseFieldDescriptor (TJ6 k).2.2.1 = some (tyJ6 k) := by decide +kernel
abbrev cJ6_bitCount_0f7a4 : ByteArray := prog_14_method_49_code
def yJ6_bitCount_0f7a4 : MethodName := ⟨RJ6, "bitCount", "(I)I"⟩
def RJ9 : String := "java/lang/Math"
def TJ9 : u_T := fun k => match k with
  | _ => ("", "", "", false)
def tyJ9 : Nat → FieldType := fun k => match k with
  | _ => .int
abbrev wsJ90 : List Cond := u_ws RJ9 TJ9 0
theorem nmJ9 : ∀ a, a < 0 → ∀ b, b < 0 → a ≠ b → (TJ9 a).2.1 ≠ (TJ9 b).2.1 := by decide +kernel
theorem tyJ9_ok : ∀ k, k < 0 → parseFieldDescriptor (TJ9 k).2.2.1 = some (tyJ9 k) := by decide +kernel
abbrev cJ9_max_7cf53 : ByteArray := prog_15_method_65_code
def yJ9_max_7cf53 : MethodName := ⟨RJ9, "max", "(II)I"⟩
def RJ7 : String := "java/util/Arrays"
def TJ7 : u_T := fun k => match k with
  | _ => ("", "", "", false)
def tyJ7 : Nat → FieldType := fun k => match k with
  | _ => .int
abbrev wsJ70 : List Cond := u_ws RJ7 TJ7 0
theorem nmJ7 : ∀ a, a < 0 → ∀ b, b < 0 → a ≠ b → (TJ7 a).2.1 ≠ (TJ7 b).2.1 := by decide +kernel
theorem tyJ7_ok : ∀ k, k < 0 → parseFieldDescriptor (TJ7 k).2.2.1 = some (tyJ7 k) := by decide +kernel
abbrev cJ7_fill_53178 : ByteArray := prog_16_method_103_code
def yJ7_fill_53178 : MethodName := ⟨RJ7, "fill", "([II)V"⟩
def RL : String := "OtherCoinsLaw"
abbrev cL_law : ByteArray := code
def yL_law : MethodName := ⟨RL, "law", "([I)Z"⟩
def wsX0_init : List Cond := .code yX0_init cX0_init 1 none :: ([.methodLink RX0 3 objectInit, .instanceMethod objectInit, .code objectInit ⟨#[0xb1]⟩ 1 none, .arrayClass .int, .fieldLink RX0 9 "OtherCoins$Deal" "cost" "[I", .fieldLink RX0 15 "OtherCoins$Deal" "gets" "[I", .fieldLink RX0 18 "OtherCoins$Deal" "gives" "[I", .fieldLink RX0 21 "OtherCoins$Deal" "payable" "[I"] ++ wsX00)
def wsX2_cost : List Cond := .code yX2_cost cX2_cost 2 (some .int) :: ([.fieldLink RX2 42 "OtherCoins$Kind" "costsLess" "I", .methodLink RX2 52 Lib.Math.max.name, .static Lib.Math.max.name, .initialized "java/lang/Math", .code Lib.Math.max.name Lib.Math.max.code 2 (some .int)])
def wsX2_gain : List Cond := .code yX2_gain cX2_gain 2 (some .int) :: ([.fieldLink RX2 45 "OtherCoins$Kind" "getsMore" "I"])
def wsX0_set : List Cond := .code yX0_set cX0_set 4 (some (.object "OtherCoins$Deal")) :: ([.fieldLink RX0 9 "OtherCoins$Deal" "cost" "[I", .fieldLink RX0 24 "OtherCoins$Law" "price" "[I", .fieldLink RX0 15 "OtherCoins$Deal" "gets" "[I", .fieldLink RX0 34 "OtherCoins$Law" "pay" "[I", .fieldLink RX0 18 "OtherCoins$Deal" "gives" "[I", .fieldLink RX0 40 "OtherCoins$Law" "gives" "[I", .fieldLink RX0 21 "OtherCoins$Deal" "payable" "[I", .fieldLink RX0 41 "OtherCoins$Kind" "paysWithAny" "Z", .fieldLink RX0 45 "OtherCoins$Law" "takes" "[I", .methodLink RX0 29 yX2_cost, .instanceMethod yX2_cost, .selects RX2 yX2_cost yX2_cost, .initialized RX2, .code yX2_cost cX2_cost 2 (some .int), .fieldLink RX2 42 "OtherCoins$Kind" "costsLess" "I", .methodLink RX2 52 Lib.Math.max.name, .static Lib.Math.max.name, .initialized "java/lang/Math", .code Lib.Math.max.name Lib.Math.max.code 2 (some .int), .methodLink RX0 37 yX2_gain, .instanceMethod yX2_gain, .selects RX2 yX2_gain yX2_gain, .code yX2_gain cX2_gain 2 (some .int), .fieldLink RX2 45 "OtherCoins$Kind" "getsMore" "I"] ++ wsX00 ++ wsX30)
def wsX0_paysAnywhere : List Cond := .code yX0_paysAnywhere cX0_paysAnywhere 2 (some .boolean) :: ([.fieldLink RX0 21 "OtherCoins$Deal" "payable" "[I"] ++ wsX00)
def wsX7_townOf : List Cond := .code yX7_townOf cX7_townOf 1 (some .int) :: ([])
def wsX7_withTown : List Cond := .code yX7_withTown cX7_withTown 2 (some .int) :: ([])
def wsX0_afterGoing : List Cond := .code yX0_afterGoing cX0_afterGoing 3 (some .int) :: ([.methodLink RX0 67 yX7_townOf, .static yX7_townOf, .initialized RX7, .code yX7_townOf cX7_townOf 1 (some .int), .methodLink RX0 72 yX7_withTown, .static yX7_withTown, .code yX7_withTown cX7_withTown 2 (some .int)])
def wsX7_hasGood : List Cond := .code yX7_hasGood cX7_hasGood 2 (some .boolean) :: ([])
def wsX7_coinsOf : List Cond := .code yX7_coinsOf cX7_coinsOf 2 (some .int) :: ([])
def wsX0_canPay : List Cond := .code yX0_canPay cX0_canPay 5 (some .boolean) :: ([.fieldLink RX0 21 "OtherCoins$Deal" "payable" "[I"] ++ wsX00)
def wsX7_withMore : List Cond := .code yX7_withMore cX7_withMore 3 (some .int) :: ([])
def wsX7_withOtherGood : List Cond := .code yX7_withOtherGood cX7_withOtherGood 2 (some .int) :: ([])
def wsX0_afterBuying : List Cond := .code yX0_afterBuying cX0_afterBuying 4 (some .int) :: ([.fieldLink RX0 9 "OtherCoins$Deal" "cost" "[I", .methodLink RX0 67 yX7_townOf, .static yX7_townOf, .initialized RX7, .code yX7_townOf cX7_townOf 1 (some .int), .methodLink RX0 75 yX7_hasGood, .static yX7_hasGood, .code yX7_hasGood cX7_hasGood 2 (some .boolean), .methodLink RX0 79 yX7_coinsOf, .static yX7_coinsOf, .code yX7_coinsOf cX7_coinsOf 2 (some .int), .methodLink RX0 82 yX0_canPay, .instanceMethod yX0_canPay, .selects RX0 yX0_canPay yX0_canPay, .initialized RX0, .code yX0_canPay cX0_canPay 5 (some .boolean), .fieldLink RX0 21 "OtherCoins$Deal" "payable" "[I", .methodLink RX0 86 yX7_withMore, .static yX7_withMore, .code yX7_withMore cX7_withMore 3 (some .int), .methodLink RX0 90 yX7_withOtherGood, .static yX7_withOtherGood, .code yX7_withOtherGood cX7_withOtherGood 2 (some .int)] ++ wsX00)
def wsX0_afterSelling : List Cond := .code yX0_afterSelling cX0_afterSelling 4 (some .int) :: ([.fieldLink RX0 18 "OtherCoins$Deal" "gives" "[I", .fieldLink RX0 15 "OtherCoins$Deal" "gets" "[I", .methodLink RX0 67 yX7_townOf, .static yX7_townOf, .initialized RX7, .code yX7_townOf cX7_townOf 1 (some .int), .methodLink RX0 75 yX7_hasGood, .static yX7_hasGood, .code yX7_hasGood cX7_hasGood 2 (some .boolean), .methodLink RX0 79 yX7_coinsOf, .static yX7_coinsOf, .code yX7_coinsOf cX7_coinsOf 2 (some .int), .methodLink RX0 86 yX7_withMore, .static yX7_withMore, .code yX7_withMore cX7_withMore 3 (some .int), .methodLink RX0 90 yX7_withOtherGood, .static yX7_withOtherGood, .code yX7_withOtherGood cX7_withOtherGood 2 (some .int)] ++ wsX00)
def wsX0_after_r1 : List Cond := [Cond.methodLink RX0 48 yX0_afterGoing, Cond.static yX0_afterGoing, Cond.initialized RX0, Cond.code yX0_afterGoing cX0_afterGoing 3 (some .int), Cond.methodLink RX0 67 yX7_townOf, Cond.static yX7_townOf, Cond.initialized RX7, Cond.code yX7_townOf cX7_townOf 1 (some .int), Cond.methodLink RX0 72 yX7_withTown, Cond.static yX7_withTown, Cond.code yX7_withTown cX7_withTown 2 (some .int), Cond.methodLink RX0 52 yX0_afterBuying, Cond.instanceMethod yX0_afterBuying, Cond.selects RX0 yX0_afterBuying yX0_afterBuying, Cond.code yX0_afterBuying cX0_afterBuying 4 (some .int), Cond.fieldLink RX0 9 "OtherCoins$Deal" "cost" "[I", Cond.methodLink RX0 75 yX7_hasGood, Cond.static yX7_hasGood, Cond.code yX7_hasGood cX7_hasGood 2 (some .boolean), Cond.methodLink RX0 79 yX7_coinsOf, Cond.static yX7_coinsOf, Cond.code yX7_coinsOf cX7_coinsOf 2 (some .int), Cond.methodLink RX0 82 yX0_canPay, Cond.instanceMethod yX0_canPay]
def wsX0_after_r2 : List Cond := [Cond.selects RX0 yX0_canPay yX0_canPay, Cond.code yX0_canPay cX0_canPay 5 (some .boolean), Cond.fieldLink RX0 21 "OtherCoins$Deal" "payable" "[I", Cond.methodLink RX0 86 yX7_withMore, Cond.static yX7_withMore, Cond.code yX7_withMore cX7_withMore 3 (some .int), Cond.methodLink RX0 90 yX7_withOtherGood, Cond.static yX7_withOtherGood, Cond.code yX7_withOtherGood cX7_withOtherGood 2 (some .int), Cond.methodLink RX0 55 yX0_afterSelling, Cond.instanceMethod yX0_afterSelling, Cond.selects RX0 yX0_afterSelling yX0_afterSelling, Cond.code yX0_afterSelling cX0_afterSelling 4 (some .int), Cond.fieldLink RX0 18 "OtherCoins$Deal" "gives" "[I", Cond.fieldLink RX0 15 "OtherCoins$Deal" "gets" "[I"]
def wsX0_after : List Cond := .code yX0_after cX0_after 3 (some .int) :: ((wsX0_after_r1 ++ wsX0_after_r2) ++ wsX00)
def wsX0_actsOpen_r1 : List Cond := [Cond.methodLink RX0 61 yX0_after, Cond.instanceMethod yX0_after, Cond.selects RX0 yX0_after yX0_after, Cond.initialized RX0, Cond.code yX0_after cX0_after 3 (some .int), Cond.methodLink RX0 48 yX0_afterGoing, Cond.static yX0_afterGoing, Cond.code yX0_afterGoing cX0_afterGoing 3 (some .int), Cond.methodLink RX0 67 yX7_townOf, Cond.static yX7_townOf, Cond.initialized RX7, Cond.code yX7_townOf cX7_townOf 1 (some .int), Cond.methodLink RX0 72 yX7_withTown, Cond.static yX7_withTown, Cond.code yX7_withTown cX7_withTown 2 (some .int), Cond.methodLink RX0 52 yX0_afterBuying, Cond.instanceMethod yX0_afterBuying, Cond.selects RX0 yX0_afterBuying yX0_afterBuying, Cond.code yX0_afterBuying cX0_afterBuying 4 (some .int), Cond.fieldLink RX0 9 "OtherCoins$Deal" "cost" "[I", Cond.methodLink RX0 75 yX7_hasGood, Cond.static yX7_hasGood, Cond.code yX7_hasGood cX7_hasGood 2 (some .boolean), Cond.methodLink RX0 79 yX7_coinsOf]
def wsX0_actsOpen_r2 : List Cond := [Cond.static yX7_coinsOf, Cond.code yX7_coinsOf cX7_coinsOf 2 (some .int), Cond.methodLink RX0 82 yX0_canPay, Cond.instanceMethod yX0_canPay, Cond.selects RX0 yX0_canPay yX0_canPay, Cond.code yX0_canPay cX0_canPay 5 (some .boolean), Cond.fieldLink RX0 21 "OtherCoins$Deal" "payable" "[I", Cond.methodLink RX0 86 yX7_withMore, Cond.static yX7_withMore, Cond.code yX7_withMore cX7_withMore 3 (some .int), Cond.methodLink RX0 90 yX7_withOtherGood, Cond.static yX7_withOtherGood, Cond.code yX7_withOtherGood cX7_withOtherGood 2 (some .int), Cond.methodLink RX0 55 yX0_afterSelling, Cond.instanceMethod yX0_afterSelling, Cond.selects RX0 yX0_afterSelling yX0_afterSelling, Cond.code yX0_afterSelling cX0_afterSelling 4 (some .int), Cond.fieldLink RX0 18 "OtherCoins$Deal" "gives" "[I", Cond.fieldLink RX0 15 "OtherCoins$Deal" "gets" "[I"]
def wsX0_actsOpen : List Cond := .code yX0_actsOpen cX0_actsOpen 7 (some .int) :: ((wsX0_actsOpen_r1 ++ wsX0_actsOpen_r2) ++ wsX00)
def wsX0_afterDraw_r1 : List Cond := [Cond.methodLink RX0 64 yX0_actsOpen, Cond.instanceMethod yX0_actsOpen, Cond.selects RX0 yX0_actsOpen yX0_actsOpen, Cond.initialized RX0, Cond.code yX0_actsOpen cX0_actsOpen 7 (some .int), Cond.methodLink RX0 61 yX0_after, Cond.instanceMethod yX0_after, Cond.selects RX0 yX0_after yX0_after, Cond.code yX0_after cX0_after 3 (some .int), Cond.methodLink RX0 48 yX0_afterGoing, Cond.static yX0_afterGoing, Cond.code yX0_afterGoing cX0_afterGoing 3 (some .int), Cond.methodLink RX0 67 yX7_townOf, Cond.static yX7_townOf, Cond.initialized RX7, Cond.code yX7_townOf cX7_townOf 1 (some .int), Cond.methodLink RX0 72 yX7_withTown, Cond.static yX7_withTown, Cond.code yX7_withTown cX7_withTown 2 (some .int), Cond.methodLink RX0 52 yX0_afterBuying, Cond.instanceMethod yX0_afterBuying, Cond.selects RX0 yX0_afterBuying yX0_afterBuying, Cond.code yX0_afterBuying cX0_afterBuying 4 (some .int), Cond.fieldLink RX0 9 "OtherCoins$Deal" "cost" "[I"]
def wsX0_afterDraw_r2 : List Cond := [Cond.methodLink RX0 75 yX7_hasGood, Cond.static yX7_hasGood, Cond.code yX7_hasGood cX7_hasGood 2 (some .boolean), Cond.methodLink RX0 79 yX7_coinsOf, Cond.static yX7_coinsOf, Cond.code yX7_coinsOf cX7_coinsOf 2 (some .int), Cond.methodLink RX0 82 yX0_canPay, Cond.instanceMethod yX0_canPay, Cond.selects RX0 yX0_canPay yX0_canPay, Cond.code yX0_canPay cX0_canPay 5 (some .boolean), Cond.fieldLink RX0 21 "OtherCoins$Deal" "payable" "[I", Cond.methodLink RX0 86 yX7_withMore, Cond.static yX7_withMore, Cond.code yX7_withMore cX7_withMore 3 (some .int), Cond.methodLink RX0 90 yX7_withOtherGood, Cond.static yX7_withOtherGood, Cond.code yX7_withOtherGood cX7_withOtherGood 2 (some .int), Cond.methodLink RX0 55 yX0_afterSelling, Cond.instanceMethod yX0_afterSelling, Cond.selects RX0 yX0_afterSelling yX0_afterSelling, Cond.code yX0_afterSelling cX0_afterSelling 4 (some .int), Cond.fieldLink RX0 18 "OtherCoins$Deal" "gives" "[I", Cond.fieldLink RX0 15 "OtherCoins$Deal" "gets" "[I"]
def wsX0_afterDraw : List Cond := .code yX0_afterDraw cX0_afterDraw 10 (some .int) :: ((wsX0_afterDraw_r1 ++ wsX0_afterDraw_r2) ++ wsX00)
def wsX1_init : List Cond := .code yX1_init cX1_init 1 none :: ([.methodLink RX1 3 objectInit, .instanceMethod objectInit, .code objectInit ⟨#[0xb1]⟩ 1 none, .arrayClass .int, .fieldLink RX1 9 "OtherCoins$Image" "standing" "[I", .fieldLink RX1 15 "OtherCoins$Image" "price" "[I"] ++ wsX10)
def wsX2_isAlso : List Cond := .code yX2_isAlso cX2_isAlso 2 (some .boolean) :: ([.fieldLink RX2 3 "OtherCoins$Kind" "PERSON" "LOtherCoins$Kind;", .fieldLink RX2 16 "OtherCoins$Kind" "SMUGGLER" "LOtherCoins$Kind;", .fieldLink RX2 13 "OtherCoins$Kind" "MERCHANT" "LOtherCoins$Kind;"])
def wsX3_init : List Cond := .code yX3_init cX3_init 1 none :: ([.methodLink RX3 3 objectInit, .instanceMethod objectInit, .code objectInit ⟨#[0xb1]⟩ 1 none, .arrayClass .int, .fieldLink RX3 9 "OtherCoins$Law" "takes" "[I", .fieldLink RX3 15 "OtherCoins$Law" "gives" "[I", .fieldLink RX3 18 "OtherCoins$Law" "price" "[I", .fieldLink RX3 21 "OtherCoins$Law" "pay" "[I"] ++ wsX30)
def wsJ7_fill_53178 : List Cond := .code yJ7_fill_53178 cJ7_fill_53178 4 none :: ([])
def wsX3_endTakes : List Cond := .code yX3_endTakes cX3_endTakes 1 (some .boolean) :: ([.fieldLink RX3 9 "OtherCoins$Law" "takes" "[I", .fieldLink RX3 30 "OtherCoins$Law" "part" "I", .fieldLink RX3 34 "OtherCoins$Law" "due" "I"] ++ wsX30)
def wsX9_isCoin : List Cond := .code yX9_isCoin cX9_isCoin 1 (some .boolean) :: ([])
def wsX3_isForeign : List Cond := .code yX3_isForeign cX3_isForeign 2 (some .boolean) :: ([.fieldLink RX3 30 "OtherCoins$Law" "part" "I", .static yX9_isCoin, .initialized RX9, .code yX9_isCoin cX9_isCoin 1 (some .boolean)] ++ wsX30)
def wsX3_readTaken : List Cond := .code yX3_readTaken cX3_readTaken 2 (some .boolean) :: ([.fieldLink RX3 9 "OtherCoins$Law" "takes" "[I", .fieldLink RX3 30 "OtherCoins$Law" "part" "I", .methodLink RX3 62 yX3_isForeign, .instanceMethod yX3_isForeign, .selects RX3 yX3_isForeign yX3_isForeign, .initialized RX3, .code yX3_isForeign cX3_isForeign 2 (some .boolean), .static yX9_isCoin, .initialized RX9, .code yX9_isCoin cX9_isCoin 1 (some .boolean)] ++ wsX30)
def wsX3_put : List Cond := .code yX3_put cX3_put 3 (some .boolean) :: ([.fieldLink RX3 30 "OtherCoins$Law" "part" "I", .fieldLink RX3 34 "OtherCoins$Law" "due" "I"] ++ wsX30)
def wsX9_isPrice : List Cond := .code yX9_isPrice cX9_isPrice 1 (some .boolean) :: ([])
def wsX3_nextPart : List Cond := .code yX3_nextPart cX3_nextPart 1 (some .boolean) :: ([.fieldLink RX3 30 "OtherCoins$Law" "part" "I", .fieldLink RX3 34 "OtherCoins$Law" "due" "I"] ++ wsX30)
def wsX3_readLetter_r1 : List Cond := [Cond.fieldLink RX3 34 "OtherCoins$Law" "due" "I", Cond.fieldLink RX3 15 "OtherCoins$Law" "gives" "[I", Cond.fieldLink RX3 18 "OtherCoins$Law" "price" "[I", Cond.fieldLink RX3 21 "OtherCoins$Law" "pay" "[I", Cond.methodLink RX3 55 yX3_endTakes, Cond.instanceMethod yX3_endTakes, Cond.selects RX3 yX3_endTakes yX3_endTakes, Cond.initialized RX3, Cond.code yX3_endTakes cX3_endTakes 1 (some .boolean), Cond.fieldLink RX3 9 "OtherCoins$Law" "takes" "[I", Cond.fieldLink RX3 30 "OtherCoins$Law" "part" "I", Cond.methodLink RX3 59 yX3_readTaken, Cond.instanceMethod yX3_readTaken, Cond.selects RX3 yX3_readTaken yX3_readTaken, Cond.code yX3_readTaken cX3_readTaken 2 (some .boolean), Cond.methodLink RX3 62 yX3_isForeign, Cond.instanceMethod yX3_isForeign, Cond.selects RX3 yX3_isForeign yX3_isForeign, Cond.code yX3_isForeign cX3_isForeign 2 (some .boolean), Cond.static yX9_isCoin, Cond.initialized RX9, Cond.code yX9_isCoin cX9_isCoin 1 (some .boolean), Cond.methodLink RX3 65 yX3_put, Cond.instanceMethod yX3_put]
def wsX3_readLetter_r2 : List Cond := [Cond.selects RX3 yX3_put yX3_put, Cond.code yX3_put cX3_put 3 (some .boolean), Cond.static yX9_isPrice, Cond.code yX9_isPrice cX9_isPrice 1 (some .boolean), Cond.methodLink RX3 72 yX3_nextPart, Cond.instanceMethod yX3_nextPart, Cond.selects RX3 yX3_nextPart yX3_nextPart, Cond.code yX3_nextPart cX3_nextPart 1 (some .boolean)]
def wsX3_readLetter : List Cond := .code yX3_readLetter cX3_readLetter 3 (some .boolean) :: ((wsX3_readLetter_r1 ++ wsX3_readLetter_r2) ++ wsX30)
def wsX3_read_r1 : List Cond := [Cond.fieldLink RX3 9 "OtherCoins$Law" "takes" "[I", Cond.fieldLink RX3 30 "OtherCoins$Law" "part" "I", Cond.fieldLink RX3 34 "OtherCoins$Law" "due" "I", Cond.fieldLink RX3 37 "OtherCoins$Page" "size" "I", Cond.fieldLink RX3 42 "OtherCoins$Page" "codes" "[I", Cond.methodLink RX3 24 yJ7_fill_53178, Cond.static yJ7_fill_53178, Cond.initialized RJ7, Cond.code yJ7_fill_53178 cJ7_fill_53178 4 none, Cond.methodLink RX3 45 yX3_readLetter, Cond.instanceMethod yX3_readLetter, Cond.selects RX3 yX3_readLetter yX3_readLetter, Cond.initialized RX3, Cond.code yX3_readLetter cX3_readLetter 3 (some .boolean), Cond.fieldLink RX3 15 "OtherCoins$Law" "gives" "[I", Cond.fieldLink RX3 18 "OtherCoins$Law" "price" "[I", Cond.fieldLink RX3 21 "OtherCoins$Law" "pay" "[I", Cond.methodLink RX3 55 yX3_endTakes, Cond.instanceMethod yX3_endTakes, Cond.selects RX3 yX3_endTakes yX3_endTakes, Cond.code yX3_endTakes cX3_endTakes 1 (some .boolean), Cond.methodLink RX3 59 yX3_readTaken, Cond.instanceMethod yX3_readTaken, Cond.selects RX3 yX3_readTaken yX3_readTaken]
def wsX3_read_r2 : List Cond := [Cond.code yX3_readTaken cX3_readTaken 2 (some .boolean), Cond.methodLink RX3 62 yX3_isForeign, Cond.instanceMethod yX3_isForeign, Cond.selects RX3 yX3_isForeign yX3_isForeign, Cond.code yX3_isForeign cX3_isForeign 2 (some .boolean), Cond.static yX9_isCoin, Cond.initialized RX9, Cond.code yX9_isCoin cX9_isCoin 1 (some .boolean), Cond.methodLink RX3 65 yX3_put, Cond.instanceMethod yX3_put, Cond.selects RX3 yX3_put yX3_put, Cond.code yX3_put cX3_put 3 (some .boolean), Cond.static yX9_isPrice, Cond.code yX9_isPrice cX9_isPrice 1 (some .boolean), Cond.methodLink RX3 72 yX3_nextPart, Cond.instanceMethod yX3_nextPart, Cond.selects RX3 yX3_nextPart yX3_nextPart, Cond.code yX3_nextPart cX3_nextPart 1 (some .boolean)]
def wsX3_read : List Cond := .code yX3_read cX3_read 3 (some .int) :: ((wsX3_read_r1 ++ wsX3_read_r2) ++ wsX30 ++ wsX40)
def wsX3_isWhole : List Cond := .code yX3_isWhole cX3_isWhole 1 (some .boolean) :: ([.fieldLink RX3 30 "OtherCoins$Law" "part" "I", .fieldLink RX3 34 "OtherCoins$Law" "due" "I"] ++ wsX30)
def wsJ6_bitCount_0f7a4 : List Cond := .code yJ6_bitCount_0f7a4 cJ6_bitCount_0f7a4 1 (some .int) :: ([.constant RJ6 265 (1431655765), .constant RJ6 266 (858993459), .constant RJ6 267 (252645135)])
def wsX3_coinsTaken : List Cond := .code yX3_coinsTaken cX3_coinsTaken 3 (some .int) :: ([.fieldLink RX3 9 "OtherCoins$Law" "takes" "[I", .methodLink RX3 49 yJ6_bitCount_0f7a4, .static yJ6_bitCount_0f7a4, .initialized RJ6, .code yJ6_bitCount_0f7a4 cJ6_bitCount_0f7a4 1 (some .int), .constant RJ6 265 (1431655765), .constant RJ6 266 (858993459), .constant RJ6 267 (252645135)] ++ wsX30)
def wsX4_init : List Cond := .code yX4_init cX4_init 1 none :: ([.methodLink RX4 3 objectInit, .instanceMethod objectInit, .code objectInit ⟨#[0xb1]⟩ 1 none, .arrayClass .int, .fieldLink RX4 9 "OtherCoins$Page" "codes" "[I"] ++ wsX40)
def wsX4_codeAt : List Cond := .code yX4_codeAt cX4_codeAt 3 (some .int) :: ([.constantLong RX4 27 (255)])
def wsX4_lettersIn : List Cond := .code yX4_lettersIn cX4_lettersIn 6 (some .int) :: ([.methodLink RX4 23 yX4_codeAt, .static yX4_codeAt, .initialized RX4, .code yX4_codeAt cX4_codeAt 3 (some .int), .constantLong RX4 27 (255)])
def wsX4_add : List Cond := .code yX4_add cX4_add 5 (some .int) :: ([.fieldLink RX4 19 "OtherCoins$Page" "size" "I", .fieldLink RX4 9 "OtherCoins$Page" "codes" "[I", .methodLink RX4 15 yX4_lettersIn, .static yX4_lettersIn, .initialized RX4, .code yX4_lettersIn cX4_lettersIn 6 (some .int), .methodLink RX4 23 yX4_codeAt, .static yX4_codeAt, .code yX4_codeAt cX4_codeAt 3 (some .int), .constantLong RX4 27 (255)] ++ wsX40)
def wsX4_clear : List Cond := .code yX4_clear cX4_clear 2 (some .int) :: ([.fieldLink RX4 19 "OtherCoins$Page" "size" "I"] ++ wsX40)
def wsX5_init : List Cond := .code yX5_init cX5_init 1 none :: ([.methodLink RX5 3 objectInit, .instanceMethod objectInit, .code objectInit ⟨#[0xb1]⟩ 1 none, .fieldLink RX5 9 "OtherCoins$Kind" "PERSON" "LOtherCoins$Kind;", .fieldLink RX5 15 "OtherCoins$Person" "kind" "LOtherCoins$Kind;"] ++ wsX50)
def wsX5_canSwap : List Cond := .code yX5_canSwap cX5_canSwap 3 (some .boolean) :: ([.fieldLink RX5 20 "OtherCoins$Person" "standing" "I", .methodLink RX5 24 yX7_coinsOf, .static yX7_coinsOf, .initialized RX7, .code yX7_coinsOf cX7_coinsOf 2 (some .int)] ++ wsX50)
def wsX5_swap : List Cond := .code yX5_swap cX5_swap 3 none :: ([.fieldLink RX5 20 "OtherCoins$Person" "standing" "I", .methodLink RX5 30 yX7_withMore, .static yX7_withMore, .initialized RX7, .code yX7_withMore cX7_withMore 3 (some .int)] ++ wsX50)
def wsX6_init : List Cond := .code yX6_init cX6_init 1 none :: ([.methodLink RX6 3 objectInit, .instanceMethod objectInit, .code objectInit ⟨#[0xb1]⟩ 1 none, .arrayClass .int, .fieldLink RX6 11 "OtherCoins$Search" "seen" "[I", .constant RX6 17 (40000), .fieldLink RX6 18 "OtherCoins$Search" "found" "[I"] ++ wsX60)
def wsX6_find : List Cond := .code yX6_find cX6_find 5 none :: ([.fieldLink RX6 11 "OtherCoins$Search" "seen" "[I", .fieldLink RX6 49 "OtherCoins$Search" "foundCount" "I", .fieldLink RX6 18 "OtherCoins$Search" "found" "[I"] ++ wsX60)
def wsX6_begin : List Cond := .code yX6_begin cX6_begin 2 none :: ([.fieldLink RX6 11 "OtherCoins$Search" "seen" "[I", .fieldLink RX6 49 "OtherCoins$Search" "foundCount" "I", .fieldLink RX6 68 "OtherCoins$Search" "depth" "I", .fieldLink RX6 25 "OtherCoins$Search" "levelStart" "I", .fieldLink RX6 29 "OtherCoins$Search" "levelEnd" "I", .methodLink RX6 62 yJ7_fill_53178, .static yJ7_fill_53178, .initialized RJ7, .code yJ7_fill_53178 cJ7_fill_53178 4 none, .methodLink RX6 71 yX6_find, .instanceMethod yX6_find, .selects RX6 yX6_find yX6_find, .initialized RX6, .code yX6_find cX6_find 5 none, .fieldLink RX6 18 "OtherCoins$Search" "found" "[I"] ++ wsX60)
def wsX6_standingAt : List Cond := .code yX6_standingAt cX6_standingAt 2 (some .int) :: ([.fieldLink RX6 18 "OtherCoins$Search" "found" "[I", .constant RX6 97 (262143)] ++ wsX60)
def wsX6_firstActTo : List Cond := .code yX6_firstActTo cX6_firstActTo 3 (some .int) :: ([.fieldLink RX6 68 "OtherCoins$Search" "depth" "I", .fieldLink RX6 18 "OtherCoins$Search" "found" "[I"] ++ wsX60)
def wsX6_firstToBuy_r1 : List Cond := [Cond.fieldLink RX6 25 "OtherCoins$Search" "levelStart" "I", Cond.fieldLink RX6 29 "OtherCoins$Search" "levelEnd" "I", Cond.methodLink RX6 75 yX6_standingAt, Cond.instanceMethod yX6_standingAt, Cond.selects RX6 yX6_standingAt yX6_standingAt, Cond.initialized RX6, Cond.code yX6_standingAt cX6_standingAt 2 (some .int), Cond.fieldLink RX6 18 "OtherCoins$Search" "found" "[I", Cond.constant RX6 97 (262143), Cond.methodLink RX6 87 yX7_townOf, Cond.static yX7_townOf, Cond.initialized RX7, Cond.code yX7_townOf cX7_townOf 1 (some .int), Cond.methodLink RX6 90 yX7_coinsOf, Cond.static yX7_coinsOf, Cond.code yX7_coinsOf cX7_coinsOf 2 (some .int), Cond.methodLink RX6 93 yX0_canPay, Cond.instanceMethod yX0_canPay, Cond.selects RX0 yX0_canPay yX0_canPay, Cond.initialized RX0, Cond.code yX0_canPay cX0_canPay 5 (some .boolean), Cond.fieldLink RX0 21 "OtherCoins$Deal" "payable" "[I", Cond.methodLink RX6 84 yX6_firstActTo, Cond.instanceMethod yX6_firstActTo]
def wsX6_firstToBuy_r2 : List Cond := [Cond.selects RX6 yX6_firstActTo yX6_firstActTo, Cond.code yX6_firstActTo cX6_firstActTo 3 (some .int), Cond.fieldLink RX6 68 "OtherCoins$Search" "depth" "I"]
def wsX6_firstToBuy : List Cond := .code yX6_firstToBuy cX6_firstToBuy 7 (some .int) :: ((wsX6_firstToBuy_r1 ++ wsX6_firstToBuy_r2) ++ wsX60 ++ wsX00)
def wsX6_deepen_r1 : List Cond := [Cond.fieldLink RX6 25 "OtherCoins$Search" "levelStart" "I", Cond.fieldLink RX6 29 "OtherCoins$Search" "levelEnd" "I", Cond.fieldLink RX6 49 "OtherCoins$Search" "foundCount" "I", Cond.fieldLink RX6 68 "OtherCoins$Search" "depth" "I", Cond.methodLink RX6 75 yX6_standingAt, Cond.instanceMethod yX6_standingAt, Cond.selects RX6 yX6_standingAt yX6_standingAt, Cond.initialized RX6, Cond.code yX6_standingAt cX6_standingAt 2 (some .int), Cond.fieldLink RX6 18 "OtherCoins$Search" "found" "[I", Cond.constant RX6 97 (262143), Cond.methodLink RX6 81 yX0_after, Cond.instanceMethod yX0_after, Cond.selects RX0 yX0_after yX0_after, Cond.initialized RX0, Cond.code yX0_after cX0_after 3 (some .int), Cond.methodLink RX0 48 yX0_afterGoing, Cond.static yX0_afterGoing, Cond.code yX0_afterGoing cX0_afterGoing 3 (some .int), Cond.methodLink RX0 67 yX7_townOf, Cond.static yX7_townOf, Cond.initialized RX7, Cond.code yX7_townOf cX7_townOf 1 (some .int), Cond.methodLink RX0 72 yX7_withTown]
def wsX6_deepen_r2 : List Cond := [Cond.static yX7_withTown, Cond.code yX7_withTown cX7_withTown 2 (some .int), Cond.methodLink RX0 52 yX0_afterBuying, Cond.instanceMethod yX0_afterBuying, Cond.selects RX0 yX0_afterBuying yX0_afterBuying, Cond.code yX0_afterBuying cX0_afterBuying 4 (some .int), Cond.fieldLink RX0 9 "OtherCoins$Deal" "cost" "[I", Cond.methodLink RX0 75 yX7_hasGood, Cond.static yX7_hasGood, Cond.code yX7_hasGood cX7_hasGood 2 (some .boolean), Cond.methodLink RX0 79 yX7_coinsOf, Cond.static yX7_coinsOf, Cond.code yX7_coinsOf cX7_coinsOf 2 (some .int), Cond.methodLink RX0 82 yX0_canPay, Cond.instanceMethod yX0_canPay, Cond.selects RX0 yX0_canPay yX0_canPay, Cond.code yX0_canPay cX0_canPay 5 (some .boolean), Cond.fieldLink RX0 21 "OtherCoins$Deal" "payable" "[I", Cond.methodLink RX0 86 yX7_withMore, Cond.static yX7_withMore, Cond.code yX7_withMore cX7_withMore 3 (some .int), Cond.methodLink RX0 90 yX7_withOtherGood, Cond.static yX7_withOtherGood, Cond.code yX7_withOtherGood cX7_withOtherGood 2 (some .int)]
def wsX6_deepen_r3 : List Cond := [Cond.methodLink RX0 55 yX0_afterSelling, Cond.instanceMethod yX0_afterSelling, Cond.selects RX0 yX0_afterSelling yX0_afterSelling, Cond.code yX0_afterSelling cX0_afterSelling 4 (some .int), Cond.fieldLink RX0 18 "OtherCoins$Deal" "gives" "[I", Cond.fieldLink RX0 15 "OtherCoins$Deal" "gets" "[I", Cond.methodLink RX6 84 yX6_firstActTo, Cond.instanceMethod yX6_firstActTo, Cond.selects RX6 yX6_firstActTo yX6_firstActTo, Cond.code yX6_firstActTo cX6_firstActTo 3 (some .int), Cond.methodLink RX6 71 yX6_find, Cond.instanceMethod yX6_find, Cond.selects RX6 yX6_find yX6_find, Cond.code yX6_find cX6_find 5 none, Cond.fieldLink RX6 11 "OtherCoins$Search" "seen" "[I"]
def wsX6_deepen : List Cond := .code yX6_deepen cX6_deepen 9 none :: ((wsX6_deepen_r1 ++ (wsX6_deepen_r2 ++ wsX6_deepen_r3)) ++ wsX60 ++ wsX00)
def wsX6_firstToward_r1 : List Cond := [Cond.constant RX6 17 (40000), Cond.fieldLink RX6 25 "OtherCoins$Search" "levelStart" "I", Cond.fieldLink RX6 29 "OtherCoins$Search" "levelEnd" "I", Cond.fieldLink RX6 32 "OtherCoins$Deal" "cost" "[I", Cond.methodLink RX6 21 yX6_begin, Cond.instanceMethod yX6_begin, Cond.selects RX6 yX6_begin yX6_begin, Cond.initialized RX6, Cond.code yX6_begin cX6_begin 2 none, Cond.fieldLink RX6 11 "OtherCoins$Search" "seen" "[I", Cond.fieldLink RX6 49 "OtherCoins$Search" "foundCount" "I", Cond.fieldLink RX6 68 "OtherCoins$Search" "depth" "I", Cond.methodLink RX6 62 yJ7_fill_53178, Cond.static yJ7_fill_53178, Cond.initialized RJ7, Cond.code yJ7_fill_53178 cJ7_fill_53178 4 none, Cond.methodLink RX6 71 yX6_find, Cond.instanceMethod yX6_find, Cond.selects RX6 yX6_find yX6_find, Cond.code yX6_find cX6_find 5 none, Cond.fieldLink RX6 18 "OtherCoins$Search" "found" "[I", Cond.methodLink RX6 37 yX6_firstToBuy, Cond.instanceMethod yX6_firstToBuy, Cond.selects RX6 yX6_firstToBuy yX6_firstToBuy]
def wsX6_firstToward_r2 : List Cond := [Cond.code yX6_firstToBuy cX6_firstToBuy 7 (some .int), Cond.methodLink RX6 75 yX6_standingAt, Cond.instanceMethod yX6_standingAt, Cond.selects RX6 yX6_standingAt yX6_standingAt, Cond.code yX6_standingAt cX6_standingAt 2 (some .int), Cond.constant RX6 97 (262143), Cond.methodLink RX6 87 yX7_townOf, Cond.static yX7_townOf, Cond.initialized RX7, Cond.code yX7_townOf cX7_townOf 1 (some .int), Cond.methodLink RX6 90 yX7_coinsOf, Cond.static yX7_coinsOf, Cond.code yX7_coinsOf cX7_coinsOf 2 (some .int), Cond.methodLink RX6 93 yX0_canPay, Cond.instanceMethod yX0_canPay, Cond.selects RX0 yX0_canPay yX0_canPay, Cond.initialized RX0, Cond.code yX0_canPay cX0_canPay 5 (some .boolean), Cond.fieldLink RX0 21 "OtherCoins$Deal" "payable" "[I", Cond.methodLink RX6 84 yX6_firstActTo, Cond.instanceMethod yX6_firstActTo, Cond.selects RX6 yX6_firstActTo yX6_firstActTo, Cond.code yX6_firstActTo cX6_firstActTo 3 (some .int), Cond.methodLink RX6 41 yX6_deepen]
def wsX6_firstToward_r3 : List Cond := [Cond.instanceMethod yX6_deepen, Cond.selects RX6 yX6_deepen yX6_deepen, Cond.code yX6_deepen cX6_deepen 9 none, Cond.methodLink RX6 81 yX0_after, Cond.instanceMethod yX0_after, Cond.selects RX0 yX0_after yX0_after, Cond.code yX0_after cX0_after 3 (some .int), Cond.methodLink RX0 48 yX0_afterGoing, Cond.static yX0_afterGoing, Cond.code yX0_afterGoing cX0_afterGoing 3 (some .int), Cond.methodLink RX0 67 yX7_townOf, Cond.methodLink RX0 72 yX7_withTown, Cond.static yX7_withTown, Cond.code yX7_withTown cX7_withTown 2 (some .int), Cond.methodLink RX0 52 yX0_afterBuying, Cond.instanceMethod yX0_afterBuying, Cond.selects RX0 yX0_afterBuying yX0_afterBuying, Cond.code yX0_afterBuying cX0_afterBuying 4 (some .int), Cond.fieldLink RX0 9 "OtherCoins$Deal" "cost" "[I", Cond.methodLink RX0 75 yX7_hasGood, Cond.static yX7_hasGood, Cond.code yX7_hasGood cX7_hasGood 2 (some .boolean), Cond.methodLink RX0 79 yX7_coinsOf, Cond.methodLink RX0 82 yX0_canPay]
def wsX6_firstToward_r4 : List Cond := [Cond.methodLink RX0 86 yX7_withMore, Cond.static yX7_withMore, Cond.code yX7_withMore cX7_withMore 3 (some .int), Cond.methodLink RX0 90 yX7_withOtherGood, Cond.static yX7_withOtherGood, Cond.code yX7_withOtherGood cX7_withOtherGood 2 (some .int), Cond.methodLink RX0 55 yX0_afterSelling, Cond.instanceMethod yX0_afterSelling, Cond.selects RX0 yX0_afterSelling yX0_afterSelling, Cond.code yX0_afterSelling cX0_afterSelling 4 (some .int), Cond.fieldLink RX0 18 "OtherCoins$Deal" "gives" "[I", Cond.fieldLink RX0 15 "OtherCoins$Deal" "gets" "[I"]
def wsX6_firstToward : List Cond := .code yX6_firstToward cX6_firstToward 6 (some .int) :: ((wsX6_firstToward_r1 ++ (wsX6_firstToward_r2 ++ (wsX6_firstToward_r3 ++ wsX6_firstToward_r4))) ++ wsX60 ++ wsX00)
def wsX6_isSooner_r1 : List Cond := [Cond.fieldLink RX6 32 "OtherCoins$Deal" "cost" "[I", Cond.constant RX6 17 (40000), Cond.fieldLink RX6 25 "OtherCoins$Search" "levelStart" "I", Cond.fieldLink RX6 29 "OtherCoins$Search" "levelEnd" "I", Cond.methodLink RX6 45 yX7_hasGood, Cond.static yX7_hasGood, Cond.initialized RX7, Cond.code yX7_hasGood cX7_hasGood 2 (some .boolean), Cond.methodLink RX6 21 yX6_begin, Cond.instanceMethod yX6_begin, Cond.selects RX6 yX6_begin yX6_begin, Cond.initialized RX6, Cond.code yX6_begin cX6_begin 2 none, Cond.fieldLink RX6 11 "OtherCoins$Search" "seen" "[I", Cond.fieldLink RX6 49 "OtherCoins$Search" "foundCount" "I", Cond.fieldLink RX6 68 "OtherCoins$Search" "depth" "I", Cond.methodLink RX6 62 yJ7_fill_53178, Cond.static yJ7_fill_53178, Cond.initialized RJ7, Cond.code yJ7_fill_53178 cJ7_fill_53178 4 none, Cond.methodLink RX6 71 yX6_find, Cond.instanceMethod yX6_find, Cond.selects RX6 yX6_find yX6_find, Cond.code yX6_find cX6_find 5 none]
def wsX6_isSooner_r2 : List Cond := [Cond.fieldLink RX6 18 "OtherCoins$Search" "found" "[I", Cond.methodLink RX6 37 yX6_firstToBuy, Cond.instanceMethod yX6_firstToBuy, Cond.selects RX6 yX6_firstToBuy yX6_firstToBuy, Cond.code yX6_firstToBuy cX6_firstToBuy 7 (some .int), Cond.methodLink RX6 75 yX6_standingAt, Cond.instanceMethod yX6_standingAt, Cond.selects RX6 yX6_standingAt yX6_standingAt, Cond.code yX6_standingAt cX6_standingAt 2 (some .int), Cond.constant RX6 97 (262143), Cond.methodLink RX6 87 yX7_townOf, Cond.static yX7_townOf, Cond.code yX7_townOf cX7_townOf 1 (some .int), Cond.methodLink RX6 90 yX7_coinsOf, Cond.static yX7_coinsOf, Cond.code yX7_coinsOf cX7_coinsOf 2 (some .int), Cond.methodLink RX6 93 yX0_canPay, Cond.instanceMethod yX0_canPay, Cond.selects RX0 yX0_canPay yX0_canPay, Cond.initialized RX0, Cond.code yX0_canPay cX0_canPay 5 (some .boolean), Cond.fieldLink RX0 21 "OtherCoins$Deal" "payable" "[I", Cond.methodLink RX6 84 yX6_firstActTo, Cond.instanceMethod yX6_firstActTo]
def wsX6_isSooner_r3 : List Cond := [Cond.selects RX6 yX6_firstActTo yX6_firstActTo, Cond.code yX6_firstActTo cX6_firstActTo 3 (some .int), Cond.methodLink RX6 41 yX6_deepen, Cond.instanceMethod yX6_deepen, Cond.selects RX6 yX6_deepen yX6_deepen, Cond.code yX6_deepen cX6_deepen 9 none, Cond.methodLink RX6 81 yX0_after, Cond.instanceMethod yX0_after, Cond.selects RX0 yX0_after yX0_after, Cond.code yX0_after cX0_after 3 (some .int), Cond.methodLink RX0 48 yX0_afterGoing, Cond.static yX0_afterGoing, Cond.code yX0_afterGoing cX0_afterGoing 3 (some .int), Cond.methodLink RX0 67 yX7_townOf, Cond.methodLink RX0 72 yX7_withTown, Cond.static yX7_withTown, Cond.code yX7_withTown cX7_withTown 2 (some .int), Cond.methodLink RX0 52 yX0_afterBuying, Cond.instanceMethod yX0_afterBuying, Cond.selects RX0 yX0_afterBuying yX0_afterBuying, Cond.code yX0_afterBuying cX0_afterBuying 4 (some .int), Cond.fieldLink RX0 9 "OtherCoins$Deal" "cost" "[I", Cond.methodLink RX0 75 yX7_hasGood, Cond.methodLink RX0 79 yX7_coinsOf]
def wsX6_isSooner_r4 : List Cond := [Cond.methodLink RX0 82 yX0_canPay, Cond.methodLink RX0 86 yX7_withMore, Cond.static yX7_withMore, Cond.code yX7_withMore cX7_withMore 3 (some .int), Cond.methodLink RX0 90 yX7_withOtherGood, Cond.static yX7_withOtherGood, Cond.code yX7_withOtherGood cX7_withOtherGood 2 (some .int), Cond.methodLink RX0 55 yX0_afterSelling, Cond.instanceMethod yX0_afterSelling, Cond.selects RX0 yX0_afterSelling yX0_afterSelling, Cond.code yX0_afterSelling cX0_afterSelling 4 (some .int), Cond.fieldLink RX0 18 "OtherCoins$Deal" "gives" "[I", Cond.fieldLink RX0 15 "OtherCoins$Deal" "gets" "[I"]
def wsX6_isSooner : List Cond := .code yX6_isSooner cX6_isSooner 6 (some .boolean) :: ((wsX6_isSooner_r1 ++ (wsX6_isSooner_r2 ++ (wsX6_isSooner_r3 ++ wsX6_isSooner_r4))) ++ wsX00 ++ wsX60)
def wsX7_coinsTogether : List Cond := .code yX7_coinsTogether cX7_coinsTogether 1 (some .int) :: ([.methodLink RX7 11 yX7_coinsOf, .static yX7_coinsOf, .initialized RX7, .code yX7_coinsOf cX7_coinsOf 2 (some .int)])
def wsX6_mostCoins_r1 : List Cond := [Cond.fieldLink RX6 49 "OtherCoins$Search" "foundCount" "I", Cond.fieldLink RX6 18 "OtherCoins$Search" "found" "[I", Cond.methodLink RX6 56 Lib.Math.max.name, Cond.static Lib.Math.max.name, Cond.initialized "java/lang/Math", Cond.code Lib.Math.max.name Lib.Math.max.code 2 (some .int), Cond.methodLink RX6 21 yX6_begin, Cond.instanceMethod yX6_begin, Cond.selects RX6 yX6_begin yX6_begin, Cond.initialized RX6, Cond.code yX6_begin cX6_begin 2 none, Cond.fieldLink RX6 11 "OtherCoins$Search" "seen" "[I", Cond.fieldLink RX6 68 "OtherCoins$Search" "depth" "I", Cond.fieldLink RX6 25 "OtherCoins$Search" "levelStart" "I", Cond.fieldLink RX6 29 "OtherCoins$Search" "levelEnd" "I", Cond.methodLink RX6 62 yJ7_fill_53178, Cond.static yJ7_fill_53178, Cond.initialized RJ7, Cond.code yJ7_fill_53178 cJ7_fill_53178 4 none, Cond.methodLink RX6 71 yX6_find, Cond.instanceMethod yX6_find, Cond.selects RX6 yX6_find yX6_find, Cond.code yX6_find cX6_find 5 none, Cond.methodLink RX6 41 yX6_deepen]
def wsX6_mostCoins_r2 : List Cond := [Cond.instanceMethod yX6_deepen, Cond.selects RX6 yX6_deepen yX6_deepen, Cond.code yX6_deepen cX6_deepen 9 none, Cond.methodLink RX6 75 yX6_standingAt, Cond.instanceMethod yX6_standingAt, Cond.selects RX6 yX6_standingAt yX6_standingAt, Cond.code yX6_standingAt cX6_standingAt 2 (some .int), Cond.constant RX6 97 (262143), Cond.methodLink RX6 81 yX0_after, Cond.instanceMethod yX0_after, Cond.selects RX0 yX0_after yX0_after, Cond.initialized RX0, Cond.code yX0_after cX0_after 3 (some .int), Cond.methodLink RX0 48 yX0_afterGoing, Cond.static yX0_afterGoing, Cond.code yX0_afterGoing cX0_afterGoing 3 (some .int), Cond.methodLink RX0 67 yX7_townOf, Cond.static yX7_townOf, Cond.initialized RX7, Cond.code yX7_townOf cX7_townOf 1 (some .int), Cond.methodLink RX0 72 yX7_withTown, Cond.static yX7_withTown, Cond.code yX7_withTown cX7_withTown 2 (some .int), Cond.methodLink RX0 52 yX0_afterBuying]
def wsX6_mostCoins_r3 : List Cond := [Cond.instanceMethod yX0_afterBuying, Cond.selects RX0 yX0_afterBuying yX0_afterBuying, Cond.code yX0_afterBuying cX0_afterBuying 4 (some .int), Cond.fieldLink RX0 9 "OtherCoins$Deal" "cost" "[I", Cond.methodLink RX0 75 yX7_hasGood, Cond.static yX7_hasGood, Cond.code yX7_hasGood cX7_hasGood 2 (some .boolean), Cond.methodLink RX0 79 yX7_coinsOf, Cond.static yX7_coinsOf, Cond.code yX7_coinsOf cX7_coinsOf 2 (some .int), Cond.methodLink RX0 82 yX0_canPay, Cond.instanceMethod yX0_canPay, Cond.selects RX0 yX0_canPay yX0_canPay, Cond.code yX0_canPay cX0_canPay 5 (some .boolean), Cond.fieldLink RX0 21 "OtherCoins$Deal" "payable" "[I", Cond.methodLink RX0 86 yX7_withMore, Cond.static yX7_withMore, Cond.code yX7_withMore cX7_withMore 3 (some .int), Cond.methodLink RX0 90 yX7_withOtherGood, Cond.static yX7_withOtherGood, Cond.code yX7_withOtherGood cX7_withOtherGood 2 (some .int), Cond.methodLink RX0 55 yX0_afterSelling, Cond.instanceMethod yX0_afterSelling, Cond.selects RX0 yX0_afterSelling yX0_afterSelling]
def wsX6_mostCoins_r4 : List Cond := [Cond.code yX0_afterSelling cX0_afterSelling 4 (some .int), Cond.fieldLink RX0 18 "OtherCoins$Deal" "gives" "[I", Cond.fieldLink RX0 15 "OtherCoins$Deal" "gets" "[I", Cond.methodLink RX6 84 yX6_firstActTo, Cond.instanceMethod yX6_firstActTo, Cond.selects RX6 yX6_firstActTo yX6_firstActTo, Cond.code yX6_firstActTo cX6_firstActTo 3 (some .int), Cond.methodLink RX6 52 yX7_coinsTogether, Cond.static yX7_coinsTogether, Cond.code yX7_coinsTogether cX7_coinsTogether 1 (some .int), Cond.methodLink RX7 11 yX7_coinsOf]
def wsX6_mostCoins : List Cond := .code yX6_mostCoins cX6_mostCoins 6 (some .int) :: ((wsX6_mostCoins_r1 ++ (wsX6_mostCoins_r2 ++ (wsX6_mostCoins_r3 ++ wsX6_mostCoins_r4))) ++ wsX60 ++ wsX00)
def wsX7_goodsOf : List Cond := .code yX7_goodsOf cX7_goodsOf 1 (some .int) :: ([])
def wsX7_placeOf : List Cond := .code yX7_placeOf cX7_placeOf 1 (some .int) :: ([])
def wsX7_withoutPlace : List Cond := .code yX7_withoutPlace cX7_withoutPlace 1 (some .int) :: ([])
def wsX7_purseOf : List Cond := .code yX7_purseOf cX7_purseOf 4 (some .int) :: ([.methodLink RX7 15 yX7_withMore, .static yX7_withMore, .initialized RX7, .code yX7_withMore cX7_withMore 3 (some .int)])
def wsX8_init : List Cond := .code yX8_init cX8_init 1 none :: ([.methodLink RX8 3 objectInit, .instanceMethod objectInit, .code objectInit ⟨#[0xb1]⟩ 1 none, .arrayClass .int, .fieldLink RX8 9 "OtherCoins$Trail" "purses" "[I", .fieldLink RX8 17 "OtherCoins$Trail" "rowsTo" "[I", .fieldLink RX8 20 "OtherCoins$Trail" "rowsBehind" "[I", .fieldLink RX8 23 "OtherCoins$Kind" "PERSON" "LOtherCoins$Kind;", .fieldLink RX8 29 "OtherCoins$Trail" "kind" "LOtherCoins$Kind;"] ++ wsX80)
def wsX8_begin : List Cond := .code yX8_begin cX8_begin 2 none :: ([.fieldLink RX8 32 "OtherCoins$Trail" "begun" "Z", .fieldLink RX8 36 "OtherCoins$Person" "kind" "LOtherCoins$Kind;", .fieldLink RX8 29 "OtherCoins$Trail" "kind" "LOtherCoins$Kind;", .fieldLink RX8 39 "OtherCoins$Person" "standing" "I", .fieldLink RX8 43 "OtherCoins$Trail" "start" "I", .fieldLink RX8 46 "OtherCoins$Trail" "size" "I"] ++ wsX80 ++ wsX50)
def wsX8_add : List Cond := .code yX8_add cX8_add 2 (some .int) :: ([.fieldLink RX8 46 "OtherCoins$Trail" "size" "I", .fieldLink RX8 9 "OtherCoins$Trail" "purses" "[I"] ++ wsX80)
def wsX8_pursesTold : List Cond := .code yX8_pursesTold cX8_pursesTold 1 (some .int) :: ([.fieldLink RX8 32 "OtherCoins$Trail" "begun" "Z", .fieldLink RX8 46 "OtherCoins$Trail" "size" "I"] ++ wsX80)
def wsX8_followAct_r1 : List Cond := [Cond.fieldLink RX8 20 "OtherCoins$Trail" "rowsBehind" "[I", Cond.fieldLink RX8 17 "OtherCoins$Trail" "rowsTo" "[I", Cond.methodLink RX8 49 yJ7_fill_53178, Cond.static yJ7_fill_53178, Cond.initialized RJ7, Cond.code yJ7_fill_53178 cJ7_fill_53178 4 none, Cond.methodLink RX8 74 yX0_after, Cond.instanceMethod yX0_after, Cond.selects RX0 yX0_after yX0_after, Cond.initialized RX0, Cond.code yX0_after cX0_after 3 (some .int), Cond.methodLink RX0 48 yX0_afterGoing, Cond.static yX0_afterGoing, Cond.code yX0_afterGoing cX0_afterGoing 3 (some .int), Cond.methodLink RX0 67 yX7_townOf, Cond.static yX7_townOf, Cond.initialized RX7, Cond.code yX7_townOf cX7_townOf 1 (some .int), Cond.methodLink RX0 72 yX7_withTown, Cond.static yX7_withTown, Cond.code yX7_withTown cX7_withTown 2 (some .int), Cond.methodLink RX0 52 yX0_afterBuying, Cond.instanceMethod yX0_afterBuying, Cond.selects RX0 yX0_afterBuying yX0_afterBuying]
def wsX8_followAct_r2 : List Cond := [Cond.code yX0_afterBuying cX0_afterBuying 4 (some .int), Cond.fieldLink RX0 9 "OtherCoins$Deal" "cost" "[I", Cond.methodLink RX0 75 yX7_hasGood, Cond.static yX7_hasGood, Cond.code yX7_hasGood cX7_hasGood 2 (some .boolean), Cond.methodLink RX0 79 yX7_coinsOf, Cond.static yX7_coinsOf, Cond.code yX7_coinsOf cX7_coinsOf 2 (some .int), Cond.methodLink RX0 82 yX0_canPay, Cond.instanceMethod yX0_canPay, Cond.selects RX0 yX0_canPay yX0_canPay, Cond.code yX0_canPay cX0_canPay 5 (some .boolean), Cond.fieldLink RX0 21 "OtherCoins$Deal" "payable" "[I", Cond.methodLink RX0 86 yX7_withMore, Cond.static yX7_withMore, Cond.code yX7_withMore cX7_withMore 3 (some .int), Cond.methodLink RX0 90 yX7_withOtherGood, Cond.static yX7_withOtherGood, Cond.code yX7_withOtherGood cX7_withOtherGood 2 (some .int), Cond.methodLink RX0 55 yX0_afterSelling, Cond.instanceMethod yX0_afterSelling, Cond.selects RX0 yX0_afterSelling yX0_afterSelling, Cond.code yX0_afterSelling cX0_afterSelling 4 (some .int), Cond.fieldLink RX0 18 "OtherCoins$Deal" "gives" "[I"]
def wsX8_followAct_r3 : List Cond := [Cond.fieldLink RX0 15 "OtherCoins$Deal" "gets" "[I", Cond.methodLink RX8 59 yX7_withoutPlace, Cond.static yX7_withoutPlace, Cond.code yX7_withoutPlace cX7_withoutPlace 1 (some .int), Cond.methodLink RX8 55 yX7_placeOf, Cond.static yX7_placeOf, Cond.code yX7_placeOf cX7_placeOf 1 (some .int)]
def wsX8_followAct : List Cond := .code yX8_followAct cX8_followAct 10 none :: ((wsX8_followAct_r1 ++ (wsX8_followAct_r2 ++ wsX8_followAct_r3)) ++ wsX80 ++ wsX00)
def wsX8_follow_r1 : List Cond := [Cond.fieldLink RX8 17 "OtherCoins$Trail" "rowsTo" "[I", Cond.fieldLink RX8 43 "OtherCoins$Trail" "start" "I", Cond.fieldLink RX8 46 "OtherCoins$Trail" "size" "I", Cond.fieldLink RX8 9 "OtherCoins$Trail" "purses" "[I", Cond.methodLink RX8 49 yJ7_fill_53178, Cond.static yJ7_fill_53178, Cond.initialized RJ7, Cond.code yJ7_fill_53178 cJ7_fill_53178 4 none, Cond.methodLink RX8 55 yX7_placeOf, Cond.static yX7_placeOf, Cond.initialized RX7, Cond.code yX7_placeOf cX7_placeOf 1 (some .int), Cond.methodLink RX8 59 yX7_withoutPlace, Cond.static yX7_withoutPlace, Cond.code yX7_withoutPlace cX7_withoutPlace 1 (some .int), Cond.methodLink RX8 62 yX8_followAct, Cond.instanceMethod yX8_followAct, Cond.selects RX8 yX8_followAct yX8_followAct, Cond.initialized RX8, Cond.code yX8_followAct cX8_followAct 10 none, Cond.fieldLink RX8 20 "OtherCoins$Trail" "rowsBehind" "[I", Cond.methodLink RX8 74 yX0_after, Cond.instanceMethod yX0_after, Cond.selects RX0 yX0_after yX0_after]
def wsX8_follow_r2 : List Cond := [Cond.initialized RX0, Cond.code yX0_after cX0_after 3 (some .int), Cond.methodLink RX0 48 yX0_afterGoing, Cond.static yX0_afterGoing, Cond.code yX0_afterGoing cX0_afterGoing 3 (some .int), Cond.methodLink RX0 67 yX7_townOf, Cond.static yX7_townOf, Cond.code yX7_townOf cX7_townOf 1 (some .int), Cond.methodLink RX0 72 yX7_withTown, Cond.static yX7_withTown, Cond.code yX7_withTown cX7_withTown 2 (some .int), Cond.methodLink RX0 52 yX0_afterBuying, Cond.instanceMethod yX0_afterBuying, Cond.selects RX0 yX0_afterBuying yX0_afterBuying, Cond.code yX0_afterBuying cX0_afterBuying 4 (some .int), Cond.fieldLink RX0 9 "OtherCoins$Deal" "cost" "[I", Cond.methodLink RX0 75 yX7_hasGood, Cond.static yX7_hasGood, Cond.code yX7_hasGood cX7_hasGood 2 (some .boolean), Cond.methodLink RX0 79 yX7_coinsOf, Cond.static yX7_coinsOf, Cond.code yX7_coinsOf cX7_coinsOf 2 (some .int), Cond.methodLink RX0 82 yX0_canPay, Cond.instanceMethod yX0_canPay]
def wsX8_follow_r3 : List Cond := [Cond.selects RX0 yX0_canPay yX0_canPay, Cond.code yX0_canPay cX0_canPay 5 (some .boolean), Cond.fieldLink RX0 21 "OtherCoins$Deal" "payable" "[I", Cond.methodLink RX0 86 yX7_withMore, Cond.static yX7_withMore, Cond.code yX7_withMore cX7_withMore 3 (some .int), Cond.methodLink RX0 90 yX7_withOtherGood, Cond.static yX7_withOtherGood, Cond.code yX7_withOtherGood cX7_withOtherGood 2 (some .int), Cond.methodLink RX0 55 yX0_afterSelling, Cond.instanceMethod yX0_afterSelling, Cond.selects RX0 yX0_afterSelling yX0_afterSelling, Cond.code yX0_afterSelling cX0_afterSelling 4 (some .int), Cond.fieldLink RX0 18 "OtherCoins$Deal" "gives" "[I", Cond.fieldLink RX0 15 "OtherCoins$Deal" "gets" "[I"]
def wsX8_follow : List Cond := .code yX8_follow cX8_follow 4 none :: ((wsX8_follow_r1 ++ (wsX8_follow_r2 ++ wsX8_follow_r3)) ++ wsX80 ++ wsX00)
def wsX8_rows : List Cond := .code yX8_rows cX8_rows 3 (some .int) :: ([.fieldLink RX8 17 "OtherCoins$Trail" "rowsTo" "[I"] ++ wsX80)
def wsX8_towns : List Cond := .code yX8_towns cX8_towns 3 (some .int) :: ([.fieldLink RX8 17 "OtherCoins$Trail" "rowsTo" "[I", .methodLink RX8 66 yX7_townOf, .static yX7_townOf, .initialized RX7, .code yX7_townOf cX7_townOf 1 (some .int)] ++ wsX80)
def wsX9_init_r1 : List Cond := [Cond.methodLink RX9 1 objectInit, Cond.instanceMethod objectInit, Cond.code objectInit ⟨#[0xb1]⟩ 1 none, Cond.classLink RX9 7 RX4, Cond.instantiable RX4 2, Cond.initialized RX4, Cond.fieldLink RX9 10 "OtherCoins" "page" "LOtherCoins$Page;", Cond.classLink RX9 16 RX5, Cond.fieldLink RX9 18 "OtherCoins" "people" "[LOtherCoins$Person;", Cond.classLink RX9 22 RX0, Cond.instantiable RX0 4, Cond.initialized RX0, Cond.fieldLink RX9 25 "OtherCoins" "deal" "LOtherCoins$Deal;", Cond.classLink RX9 29 RX6, Cond.instantiable RX6 6, Cond.initialized RX6, Cond.fieldLink RX9 32 "OtherCoins" "search" "LOtherCoins$Search;", Cond.classLink RX9 36 RX8, Cond.instantiable RX8 7, Cond.initialized RX8, Cond.fieldLink RX9 39 "OtherCoins" "trail" "LOtherCoins$Trail;", Cond.classLink RX9 43 RX1, Cond.instantiable RX1 5, Cond.initialized RX1]
def wsX9_init_r2 : List Cond := [Cond.fieldLink RX9 46 "OtherCoins" "image" "LOtherCoins$Image;", Cond.classLink RX9 50 RX3, Cond.instantiable RX3 6, Cond.initialized RX3, Cond.fieldLink RX9 53 "OtherCoins" "law" "LOtherCoins$Law;", Cond.fieldLink RX9 57 "OtherCoins" "draft" "LOtherCoins$Law;", Cond.instantiable RX5 2, Cond.initialized RX5, Cond.instanceMethod yX4_init, Cond.code yX4_init cX4_init 1 none, Cond.methodLink RX4 3 objectInit, Cond.arrayClass .int, Cond.fieldLink RX4 9 "OtherCoins$Page" "codes" "[I", Cond.instanceMethod yX0_init, Cond.code yX0_init cX0_init 1 none, Cond.methodLink RX0 3 objectInit, Cond.fieldLink RX0 9 "OtherCoins$Deal" "cost" "[I", Cond.fieldLink RX0 15 "OtherCoins$Deal" "gets" "[I", Cond.fieldLink RX0 18 "OtherCoins$Deal" "gives" "[I", Cond.fieldLink RX0 21 "OtherCoins$Deal" "payable" "[I", Cond.instanceMethod yX6_init, Cond.code yX6_init cX6_init 1 none, Cond.methodLink RX6 3 objectInit, Cond.fieldLink RX6 11 "OtherCoins$Search" "seen" "[I"]
def wsX9_init_r3 : List Cond := [Cond.constant RX6 17 (40000), Cond.fieldLink RX6 18 "OtherCoins$Search" "found" "[I", Cond.instanceMethod yX8_init, Cond.code yX8_init cX8_init 1 none, Cond.methodLink RX8 3 objectInit, Cond.fieldLink RX8 9 "OtherCoins$Trail" "purses" "[I", Cond.fieldLink RX8 17 "OtherCoins$Trail" "rowsTo" "[I", Cond.fieldLink RX8 20 "OtherCoins$Trail" "rowsBehind" "[I", Cond.fieldLink RX8 23 "OtherCoins$Kind" "PERSON" "LOtherCoins$Kind;", Cond.fieldLink RX8 29 "OtherCoins$Trail" "kind" "LOtherCoins$Kind;", Cond.instanceMethod yX1_init, Cond.code yX1_init cX1_init 1 none, Cond.methodLink RX1 3 objectInit, Cond.fieldLink RX1 9 "OtherCoins$Image" "standing" "[I", Cond.fieldLink RX1 15 "OtherCoins$Image" "price" "[I", Cond.instanceMethod yX3_init, Cond.code yX3_init cX3_init 1 none, Cond.methodLink RX3 3 objectInit, Cond.fieldLink RX3 9 "OtherCoins$Law" "takes" "[I", Cond.fieldLink RX3 15 "OtherCoins$Law" "gives" "[I", Cond.fieldLink RX3 18 "OtherCoins$Law" "price" "[I", Cond.fieldLink RX3 21 "OtherCoins$Law" "pay" "[I", Cond.instanceMethod yX5_init, Cond.code yX5_init cX5_init 1 none]
def wsX9_init_r4 : List Cond := [Cond.methodLink RX5 3 objectInit, Cond.fieldLink RX5 9 "OtherCoins$Kind" "PERSON" "LOtherCoins$Kind;", Cond.fieldLink RX5 15 "OtherCoins$Person" "kind" "LOtherCoins$Kind;"]
def wsX9_init : List Cond := .code yX9_init cX9_init 2 none :: ((wsX9_init_r1 ++ (wsX9_init_r2 ++ (wsX9_init_r3 ++ wsX9_init_r4))) ++ wsX40 ++ wsX90 ++ wsX00 ++ wsX60 ++ wsX80 ++ wsX10 ++ wsX30 ++ wsX50)
def wsX9_letters : List Cond := .code yX9_letters cX9_letters 3 (some .int) :: ([.fieldLink RX9 10 "OtherCoins" "page" "LOtherCoins$Page;", .methodLink RX9 61 yX4_add, .instanceMethod yX4_add, .selects RX4 yX4_add yX4_add, .initialized RX4, .code yX4_add cX4_add 5 (some .int), .fieldLink RX4 19 "OtherCoins$Page" "size" "I", .fieldLink RX4 9 "OtherCoins$Page" "codes" "[I", .methodLink RX4 15 yX4_lettersIn, .static yX4_lettersIn, .code yX4_lettersIn cX4_lettersIn 6 (some .int), .methodLink RX4 23 yX4_codeAt, .static yX4_codeAt, .code yX4_codeAt cX4_codeAt 3 (some .int), .constantLong RX4 27 (255)] ++ wsX90 ++ wsX40)
def wsX9_blank : List Cond := .code yX9_blank cX9_blank 1 (some .int) :: ([.fieldLink RX9 10 "OtherCoins" "page" "LOtherCoins$Page;", .methodLink RX9 65 yX4_clear, .instanceMethod yX4_clear, .selects RX4 yX4_clear yX4_clear, .initialized RX4, .code yX4_clear cX4_clear 2 (some .int), .fieldLink RX4 19 "OtherCoins$Page" "size" "I"] ++ wsX90 ++ wsX40)
def wsX9_fault_r1 : List Cond := [Cond.fieldLink RX9 57 "OtherCoins" "draft" "LOtherCoins$Law;", Cond.fieldLink RX9 10 "OtherCoins" "page" "LOtherCoins$Page;", Cond.methodLink RX9 69 yX3_read, Cond.instanceMethod yX3_read, Cond.selects RX3 yX3_read yX3_read, Cond.initialized RX3, Cond.code yX3_read cX3_read 3 (some .int), Cond.fieldLink RX3 9 "OtherCoins$Law" "takes" "[I", Cond.fieldLink RX3 30 "OtherCoins$Law" "part" "I", Cond.fieldLink RX3 34 "OtherCoins$Law" "due" "I", Cond.fieldLink RX3 37 "OtherCoins$Page" "size" "I", Cond.fieldLink RX3 42 "OtherCoins$Page" "codes" "[I", Cond.methodLink RX3 24 yJ7_fill_53178, Cond.static yJ7_fill_53178, Cond.initialized RJ7, Cond.code yJ7_fill_53178 cJ7_fill_53178 4 none, Cond.methodLink RX3 45 yX3_readLetter, Cond.instanceMethod yX3_readLetter, Cond.selects RX3 yX3_readLetter yX3_readLetter, Cond.code yX3_readLetter cX3_readLetter 3 (some .boolean), Cond.fieldLink RX3 15 "OtherCoins$Law" "gives" "[I", Cond.fieldLink RX3 18 "OtherCoins$Law" "price" "[I", Cond.fieldLink RX3 21 "OtherCoins$Law" "pay" "[I", Cond.methodLink RX3 55 yX3_endTakes]
def wsX9_fault_r2 : List Cond := [Cond.instanceMethod yX3_endTakes, Cond.selects RX3 yX3_endTakes yX3_endTakes, Cond.code yX3_endTakes cX3_endTakes 1 (some .boolean), Cond.methodLink RX3 59 yX3_readTaken, Cond.instanceMethod yX3_readTaken, Cond.selects RX3 yX3_readTaken yX3_readTaken, Cond.code yX3_readTaken cX3_readTaken 2 (some .boolean), Cond.methodLink RX3 62 yX3_isForeign, Cond.instanceMethod yX3_isForeign, Cond.selects RX3 yX3_isForeign yX3_isForeign, Cond.code yX3_isForeign cX3_isForeign 2 (some .boolean), Cond.static yX9_isCoin, Cond.initialized RX9, Cond.code yX9_isCoin cX9_isCoin 1 (some .boolean), Cond.methodLink RX3 65 yX3_put, Cond.instanceMethod yX3_put, Cond.selects RX3 yX3_put yX3_put, Cond.code yX3_put cX3_put 3 (some .boolean), Cond.static yX9_isPrice, Cond.code yX9_isPrice cX9_isPrice 1 (some .boolean), Cond.methodLink RX3 72 yX3_nextPart, Cond.instanceMethod yX3_nextPart, Cond.selects RX3 yX3_nextPart yX3_nextPart, Cond.code yX3_nextPart cX3_nextPart 1 (some .boolean)]
def wsX9_fault : List Cond := .code yX9_fault cX9_fault 1 (some .int) :: ((wsX9_fault_r1 ++ wsX9_fault_r2) ++ wsX90 ++ wsX30 ++ wsX40)
def wsX9_law_r1 : List Cond := [Cond.fieldLink RX9 57 "OtherCoins" "draft" "LOtherCoins$Law;", Cond.fieldLink RX9 10 "OtherCoins" "page" "LOtherCoins$Page;", Cond.fieldLink RX9 73 "OtherCoins$Page" "size" "I", Cond.fieldLink RX9 53 "OtherCoins" "law" "LOtherCoins$Law;", Cond.fieldLink RX9 39 "OtherCoins" "trail" "LOtherCoins$Trail;", Cond.fieldLink RX9 81 "OtherCoins$Trail" "begun" "Z", Cond.fieldLink RX9 46 "OtherCoins" "image" "LOtherCoins$Image;", Cond.fieldLink RX9 85 "OtherCoins$Image" "kept" "Z", Cond.fieldLink RX9 88 "OtherCoins" "peopleCount" "I", Cond.fieldLink RX9 91 "OtherCoins" "actsDone" "I", Cond.fieldLink RX9 94 "OtherCoins" "lawsRead" "I", Cond.methodLink RX9 69 yX3_read, Cond.instanceMethod yX3_read, Cond.selects RX3 yX3_read yX3_read, Cond.initialized RX3, Cond.code yX3_read cX3_read 3 (some .int), Cond.fieldLink RX3 9 "OtherCoins$Law" "takes" "[I", Cond.fieldLink RX3 30 "OtherCoins$Law" "part" "I", Cond.fieldLink RX3 34 "OtherCoins$Law" "due" "I", Cond.fieldLink RX3 37 "OtherCoins$Page" "size" "I", Cond.fieldLink RX3 42 "OtherCoins$Page" "codes" "[I", Cond.methodLink RX3 24 yJ7_fill_53178, Cond.static yJ7_fill_53178, Cond.initialized RJ7]
def wsX9_law_r2 : List Cond := [Cond.code yJ7_fill_53178 cJ7_fill_53178 4 none, Cond.methodLink RX3 45 yX3_readLetter, Cond.instanceMethod yX3_readLetter, Cond.selects RX3 yX3_readLetter yX3_readLetter, Cond.code yX3_readLetter cX3_readLetter 3 (some .boolean), Cond.fieldLink RX3 15 "OtherCoins$Law" "gives" "[I", Cond.fieldLink RX3 18 "OtherCoins$Law" "price" "[I", Cond.fieldLink RX3 21 "OtherCoins$Law" "pay" "[I", Cond.methodLink RX3 55 yX3_endTakes, Cond.instanceMethod yX3_endTakes, Cond.selects RX3 yX3_endTakes yX3_endTakes, Cond.code yX3_endTakes cX3_endTakes 1 (some .boolean), Cond.methodLink RX3 59 yX3_readTaken, Cond.instanceMethod yX3_readTaken, Cond.selects RX3 yX3_readTaken yX3_readTaken, Cond.code yX3_readTaken cX3_readTaken 2 (some .boolean), Cond.methodLink RX3 62 yX3_isForeign, Cond.instanceMethod yX3_isForeign, Cond.selects RX3 yX3_isForeign yX3_isForeign, Cond.code yX3_isForeign cX3_isForeign 2 (some .boolean), Cond.static yX9_isCoin, Cond.initialized RX9, Cond.code yX9_isCoin cX9_isCoin 1 (some .boolean), Cond.methodLink RX3 65 yX3_put]
def wsX9_law_r3 : List Cond := [Cond.instanceMethod yX3_put, Cond.selects RX3 yX3_put yX3_put, Cond.code yX3_put cX3_put 3 (some .boolean), Cond.static yX9_isPrice, Cond.code yX9_isPrice cX9_isPrice 1 (some .boolean), Cond.methodLink RX3 72 yX3_nextPart, Cond.instanceMethod yX3_nextPart, Cond.selects RX3 yX3_nextPart yX3_nextPart, Cond.code yX3_nextPart cX3_nextPart 1 (some .boolean), Cond.methodLink RX9 77 yX3_isWhole, Cond.instanceMethod yX3_isWhole, Cond.selects RX3 yX3_isWhole yX3_isWhole, Cond.code yX3_isWhole cX3_isWhole 1 (some .boolean), Cond.methodLink RX9 65 yX4_clear, Cond.instanceMethod yX4_clear, Cond.selects RX4 yX4_clear yX4_clear, Cond.initialized RX4, Cond.code yX4_clear cX4_clear 2 (some .int), Cond.fieldLink RX4 19 "OtherCoins$Page" "size" "I", Cond.methodLink RX9 97 yX3_coinsTaken, Cond.instanceMethod yX3_coinsTaken, Cond.selects RX3 yX3_coinsTaken yX3_coinsTaken, Cond.code yX3_coinsTaken cX3_coinsTaken 3 (some .int), Cond.methodLink RX3 49 yJ6_bitCount_0f7a4]
def wsX9_law_r4 : List Cond := [Cond.static yJ6_bitCount_0f7a4, Cond.initialized RJ6, Cond.code yJ6_bitCount_0f7a4 cJ6_bitCount_0f7a4 1 (some .int), Cond.constant RJ6 265 (1431655765), Cond.constant RJ6 266 (858993459), Cond.constant RJ6 267 (252645135)]
def wsX9_law : List Cond := .code yX9_law cX9_law 2 (some .int) :: ((wsX9_law_r1 ++ (wsX9_law_r2 ++ (wsX9_law_r3 ++ wsX9_law_r4))) ++ wsX90 ++ wsX40 ++ wsX80 ++ wsX10 ++ wsX30)
def wsX9_isTown : List Cond := .code yX9_isTown cX9_isTown 1 (some .boolean) :: ([])
def wsX9_isLawless : List Cond := .code yX9_isLawless cX9_isLawless 1 (some .boolean) :: ([.fieldLink RX9 94 "OtherCoins" "lawsRead" "I"] ++ wsX90)
def wsX9_peopleIn : List Cond := .code yX9_peopleIn cX9_peopleIn 4 (some .int) :: ([.fieldLink RX9 88 "OtherCoins" "peopleCount" "I", .fieldLink RX9 18 "OtherCoins" "people" "[LOtherCoins$Person;", .fieldLink RX9 138 "OtherCoins$Person" "standing" "I", .methodLink RX9 144 yX7_townOf, .static yX7_townOf, .initialized RX7, .code yX7_townOf cX7_townOf 1 (some .int)] ++ wsX90 ++ wsX50)
def wsX9_town_r1 : List Cond := [Cond.fieldLink RX9 53 "OtherCoins" "law" "LOtherCoins$Law;", Cond.fieldLink RX9 107 "OtherCoins$Law" "takes" "[I", Cond.fieldLink RX9 111 "OtherCoins$Law" "gives" "[I", Cond.fieldLink RX9 114 "OtherCoins$Law" "price" "[I", Cond.fieldLink RX9 117 "OtherCoins$Law" "pay" "[I", Cond.methodLink RX9 100 yX9_isTown, Cond.static yX9_isTown, Cond.initialized RX9, Cond.code yX9_isTown cX9_isTown 1 (some .boolean), Cond.methodLink RX9 104 yX9_isLawless, Cond.instanceMethod yX9_isLawless, Cond.selects RX9 yX9_isLawless yX9_isLawless, Cond.code yX9_isLawless cX9_isLawless 1 (some .boolean), Cond.fieldLink RX9 94 "OtherCoins" "lawsRead" "I", Cond.methodLink RX9 120 yX9_peopleIn, Cond.instanceMethod yX9_peopleIn, Cond.selects RX9 yX9_peopleIn yX9_peopleIn, Cond.code yX9_peopleIn cX9_peopleIn 4 (some .int), Cond.fieldLink RX9 88 "OtherCoins" "peopleCount" "I", Cond.fieldLink RX9 18 "OtherCoins" "people" "[LOtherCoins$Person;", Cond.fieldLink RX9 138 "OtherCoins$Person" "standing" "I", Cond.methodLink RX9 144 yX7_townOf, Cond.static yX7_townOf, Cond.initialized RX7]
def wsX9_town_r2 : List Cond := [Cond.code yX7_townOf cX7_townOf 1 (some .int)]
def wsX9_town : List Cond := .code yX9_town cX9_town 3 (some .int) :: ((wsX9_town_r1 ++ wsX9_town_r2) ++ wsX90 ++ wsX30 ++ wsX50)
def wsX9_price : List Cond := .code yX9_price cX9_price 4 (some .int) :: ([.fieldLink RX9 53 "OtherCoins" "law" "LOtherCoins$Law;", .fieldLink RX9 114 "OtherCoins$Law" "price" "[I", .methodLink RX9 100 yX9_isTown, .static yX9_isTown, .initialized RX9, .code yX9_isTown cX9_isTown 1 (some .boolean), .methodLink RX9 124 yX9_isPrice, .static yX9_isPrice, .code yX9_isPrice cX9_isPrice 1 (some .boolean), .methodLink RX9 104 yX9_isLawless, .instanceMethod yX9_isLawless, .selects RX9 yX9_isLawless yX9_isLawless, .code yX9_isLawless cX9_isLawless 1 (some .boolean), .fieldLink RX9 94 "OtherCoins" "lawsRead" "I"] ++ wsX90 ++ wsX30)
def wsX9_isKind : List Cond := .code yX9_isKind cX9_isKind 1 (some .boolean) :: ([.fieldLink RX9 130 "OtherCoins" "KINDS" "[LOtherCoins$Kind;"])
def wsX9_person : List Cond := .code yX9_person cX9_person 4 (some .int) :: ([.fieldLink RX9 88 "OtherCoins" "peopleCount" "I", .fieldLink RX9 18 "OtherCoins" "people" "[LOtherCoins$Person;", .fieldLink RX9 130 "OtherCoins" "KINDS" "[LOtherCoins$Kind;", .fieldLink RX9 134 "OtherCoins$Person" "kind" "LOtherCoins$Kind;", .fieldLink RX9 138 "OtherCoins$Person" "standing" "I", .methodLink RX9 100 yX9_isTown, .static yX9_isTown, .initialized RX9, .code yX9_isTown cX9_isTown 1 (some .boolean), .methodLink RX9 127 yX9_isKind, .static yX9_isKind, .code yX9_isKind cX9_isKind 1 (some .boolean), .methodLink RX9 104 yX9_isLawless, .instanceMethod yX9_isLawless, .selects RX9 yX9_isLawless yX9_isLawless, .code yX9_isLawless cX9_isLawless 1 (some .boolean), .fieldLink RX9 94 "OtherCoins" "lawsRead" "I"] ++ wsX90 ++ wsX50)
def wsX9_isPerson : List Cond := .code yX9_isPerson cX9_isPerson 2 (some .boolean) :: ([.fieldLink RX9 88 "OtherCoins" "peopleCount" "I"] ++ wsX90)
def wsX9_about_r1 : List Cond := [Cond.fieldLink RX9 18 "OtherCoins" "people" "[LOtherCoins$Person;", Cond.fieldLink RX9 138 "OtherCoins$Person" "standing" "I", Cond.fieldLink RX9 134 "OtherCoins$Person" "kind" "LOtherCoins$Kind;", Cond.fieldLink RX9 149 "OtherCoins$Kind" "number" "I", Cond.fieldLink RX9 53 "OtherCoins" "law" "LOtherCoins$Law;", Cond.fieldLink RX9 114 "OtherCoins$Law" "price" "[I", Cond.fieldLink RX9 117 "OtherCoins$Law" "pay" "[I", Cond.methodLink RX9 141 yX9_isPerson, Cond.instanceMethod yX9_isPerson, Cond.selects RX9 yX9_isPerson yX9_isPerson, Cond.initialized RX9, Cond.code yX9_isPerson cX9_isPerson 2 (some .boolean), Cond.fieldLink RX9 88 "OtherCoins" "peopleCount" "I", Cond.methodLink RX9 144 yX7_townOf, Cond.static yX7_townOf, Cond.initialized RX7, Cond.code yX7_townOf cX7_townOf 1 (some .int), Cond.methodLink RX9 154 yX7_goodsOf, Cond.static yX7_goodsOf, Cond.code yX7_goodsOf cX7_goodsOf 1 (some .int), Cond.methodLink RX9 157 yX7_coinsTogether, Cond.static yX7_coinsTogether, Cond.code yX7_coinsTogether cX7_coinsTogether 1 (some .int), Cond.methodLink RX7 11 yX7_coinsOf]
def wsX9_about_r2 : List Cond := [Cond.static yX7_coinsOf, Cond.code yX7_coinsOf cX7_coinsOf 2 (some .int), Cond.methodLink RX9 160 yX2_cost, Cond.instanceMethod yX2_cost, Cond.selects RX2 yX2_cost yX2_cost, Cond.initialized RX2, Cond.code yX2_cost cX2_cost 2 (some .int), Cond.fieldLink RX2 42 "OtherCoins$Kind" "costsLess" "I", Cond.methodLink RX2 52 Lib.Math.max.name, Cond.static Lib.Math.max.name, Cond.initialized "java/lang/Math", Cond.code Lib.Math.max.name Lib.Math.max.code 2 (some .int), Cond.methodLink RX9 163 yX2_gain, Cond.instanceMethod yX2_gain, Cond.selects RX2 yX2_gain yX2_gain, Cond.code yX2_gain cX2_gain 2 (some .int), Cond.fieldLink RX2 45 "OtherCoins$Kind" "getsMore" "I", Cond.methodLink RX9 166 yX9_isCoin, Cond.static yX9_isCoin, Cond.code yX9_isCoin cX9_isCoin 1 (some .boolean), Cond.methodLink RX9 169 yX7_coinsOf]
def wsX9_about : List Cond := .code yX9_about cX9_about 5 (some .int) :: ((wsX9_about_r1 ++ wsX9_about_r2) ++ wsX90 ++ wsX50 ++ wsX30)
def wsX9_as : List Cond := .code yX9_as cX9_as 3 (some .int) :: ([.fieldLink RX9 18 "OtherCoins" "people" "[LOtherCoins$Person;", .fieldLink RX9 134 "OtherCoins$Person" "kind" "LOtherCoins$Kind;", .fieldLink RX9 130 "OtherCoins" "KINDS" "[LOtherCoins$Kind;", .methodLink RX9 141 yX9_isPerson, .instanceMethod yX9_isPerson, .selects RX9 yX9_isPerson yX9_isPerson, .initialized RX9, .code yX9_isPerson cX9_isPerson 2 (some .boolean), .fieldLink RX9 88 "OtherCoins" "peopleCount" "I", .methodLink RX9 127 yX9_isKind, .static yX9_isKind, .code yX9_isKind cX9_isKind 1 (some .boolean), .methodLink RX9 173 yX2_isAlso, .instanceMethod yX2_isAlso, .selects RX2 yX2_isAlso yX2_isAlso, .initialized RX2, .code yX2_isAlso cX2_isAlso 2 (some .boolean), .fieldLink RX2 3 "OtherCoins$Kind" "PERSON" "LOtherCoins$Kind;", .fieldLink RX2 16 "OtherCoins$Kind" "SMUGGLER" "LOtherCoins$Kind;", .fieldLink RX2 13 "OtherCoins$Kind" "MERCHANT" "LOtherCoins$Kind;"] ++ wsX90 ++ wsX50)
def wsX9_purse : List Cond := .code yX9_purse cX9_purse 6 (some .int) :: ([.fieldLink RX9 18 "OtherCoins" "people" "[LOtherCoins$Person;", .fieldLink RX9 138 "OtherCoins$Person" "standing" "I", .methodLink RX9 141 yX9_isPerson, .instanceMethod yX9_isPerson, .selects RX9 yX9_isPerson yX9_isPerson, .initialized RX9, .code yX9_isPerson cX9_isPerson 2 (some .boolean), .fieldLink RX9 88 "OtherCoins" "peopleCount" "I", .methodLink RX9 166 yX9_isCoin, .static yX9_isCoin, .code yX9_isCoin cX9_isCoin 1 (some .boolean), .methodLink RX9 169 yX7_coinsOf, .static yX7_coinsOf, .initialized RX7, .code yX7_coinsOf cX7_coinsOf 2 (some .int), .methodLink RX9 177 yX7_withMore, .static yX7_withMore, .code yX7_withMore cX7_withMore 3 (some .int)] ++ wsX90 ++ wsX50)
def wsX9_isAct : List Cond := .code yX9_isAct cX9_isAct 5 (some .boolean) :: ([.fieldLink RX9 303 "OtherCoins" "ACTS" "[I"])
def wsX9_dealFor_r1 : List Cond := [Cond.fieldLink RX9 25 "OtherCoins" "deal" "LOtherCoins$Deal;", Cond.fieldLink RX9 53 "OtherCoins" "law" "LOtherCoins$Law;", Cond.fieldLink RX9 18 "OtherCoins" "people" "[LOtherCoins$Person;", Cond.fieldLink RX9 134 "OtherCoins$Person" "kind" "LOtherCoins$Kind;", Cond.methodLink RX9 235 yX0_set, Cond.instanceMethod yX0_set, Cond.selects RX0 yX0_set yX0_set, Cond.initialized RX0, Cond.code yX0_set cX0_set 4 (some (.object "OtherCoins$Deal")), Cond.fieldLink RX0 9 "OtherCoins$Deal" "cost" "[I", Cond.fieldLink RX0 24 "OtherCoins$Law" "price" "[I", Cond.fieldLink RX0 15 "OtherCoins$Deal" "gets" "[I", Cond.fieldLink RX0 34 "OtherCoins$Law" "pay" "[I", Cond.fieldLink RX0 18 "OtherCoins$Deal" "gives" "[I", Cond.fieldLink RX0 40 "OtherCoins$Law" "gives" "[I", Cond.fieldLink RX0 21 "OtherCoins$Deal" "payable" "[I", Cond.fieldLink RX0 41 "OtherCoins$Kind" "paysWithAny" "Z", Cond.fieldLink RX0 45 "OtherCoins$Law" "takes" "[I", Cond.methodLink RX0 29 yX2_cost, Cond.instanceMethod yX2_cost, Cond.selects RX2 yX2_cost yX2_cost, Cond.initialized RX2, Cond.code yX2_cost cX2_cost 2 (some .int), Cond.fieldLink RX2 42 "OtherCoins$Kind" "costsLess" "I"]
def wsX9_dealFor_r2 : List Cond := [Cond.methodLink RX2 52 Lib.Math.max.name, Cond.static Lib.Math.max.name, Cond.initialized "java/lang/Math", Cond.code Lib.Math.max.name Lib.Math.max.code 2 (some .int), Cond.methodLink RX0 37 yX2_gain, Cond.instanceMethod yX2_gain, Cond.selects RX2 yX2_gain yX2_gain, Cond.code yX2_gain cX2_gain 2 (some .int), Cond.fieldLink RX2 45 "OtherCoins$Kind" "getsMore" "I"]
def wsX9_dealFor : List Cond := .code yX9_dealFor cX9_dealFor 2 (some (.object "OtherCoins$Deal")) :: ((wsX9_dealFor_r1 ++ wsX9_dealFor_r2) ++ wsX90 ++ wsX50 ++ wsX00 ++ wsX30)
def wsX9_may_r1 : List Cond := [Cond.fieldLink RX9 18 "OtherCoins" "people" "[LOtherCoins$Person;", Cond.fieldLink RX9 138 "OtherCoins$Person" "standing" "I", Cond.methodLink RX9 141 yX9_isPerson, Cond.instanceMethod yX9_isPerson, Cond.selects RX9 yX9_isPerson yX9_isPerson, Cond.initialized RX9, Cond.code yX9_isPerson cX9_isPerson 2 (some .boolean), Cond.fieldLink RX9 88 "OtherCoins" "peopleCount" "I", Cond.methodLink RX9 181 yX9_isAct, Cond.static yX9_isAct, Cond.code yX9_isAct cX9_isAct 5 (some .boolean), Cond.fieldLink RX9 303 "OtherCoins" "ACTS" "[I", Cond.methodLink RX9 184 yX9_dealFor, Cond.instanceMethod yX9_dealFor, Cond.selects RX9 yX9_dealFor yX9_dealFor, Cond.code yX9_dealFor cX9_dealFor 2 (some (.object "OtherCoins$Deal")), Cond.fieldLink RX9 25 "OtherCoins" "deal" "LOtherCoins$Deal;", Cond.fieldLink RX9 53 "OtherCoins" "law" "LOtherCoins$Law;", Cond.fieldLink RX9 134 "OtherCoins$Person" "kind" "LOtherCoins$Kind;", Cond.methodLink RX9 235 yX0_set, Cond.instanceMethod yX0_set, Cond.selects RX0 yX0_set yX0_set, Cond.initialized RX0, Cond.code yX0_set cX0_set 4 (some (.object "OtherCoins$Deal"))]
def wsX9_may_r2 : List Cond := [Cond.fieldLink RX0 9 "OtherCoins$Deal" "cost" "[I", Cond.fieldLink RX0 24 "OtherCoins$Law" "price" "[I", Cond.fieldLink RX0 15 "OtherCoins$Deal" "gets" "[I", Cond.fieldLink RX0 34 "OtherCoins$Law" "pay" "[I", Cond.fieldLink RX0 18 "OtherCoins$Deal" "gives" "[I", Cond.fieldLink RX0 40 "OtherCoins$Law" "gives" "[I", Cond.fieldLink RX0 21 "OtherCoins$Deal" "payable" "[I", Cond.fieldLink RX0 41 "OtherCoins$Kind" "paysWithAny" "Z", Cond.fieldLink RX0 45 "OtherCoins$Law" "takes" "[I", Cond.methodLink RX0 29 yX2_cost, Cond.instanceMethod yX2_cost, Cond.selects RX2 yX2_cost yX2_cost, Cond.initialized RX2, Cond.code yX2_cost cX2_cost 2 (some .int), Cond.fieldLink RX2 42 "OtherCoins$Kind" "costsLess" "I", Cond.methodLink RX2 52 Lib.Math.max.name, Cond.static Lib.Math.max.name, Cond.initialized "java/lang/Math", Cond.code Lib.Math.max.name Lib.Math.max.code 2 (some .int), Cond.methodLink RX0 37 yX2_gain, Cond.instanceMethod yX2_gain, Cond.selects RX2 yX2_gain yX2_gain, Cond.code yX2_gain cX2_gain 2 (some .int), Cond.fieldLink RX2 45 "OtherCoins$Kind" "getsMore" "I"]
def wsX9_may_r3 : List Cond := [Cond.methodLink RX9 188 yX0_after, Cond.instanceMethod yX0_after, Cond.selects RX0 yX0_after yX0_after, Cond.code yX0_after cX0_after 3 (some .int), Cond.methodLink RX0 48 yX0_afterGoing, Cond.static yX0_afterGoing, Cond.code yX0_afterGoing cX0_afterGoing 3 (some .int), Cond.methodLink RX0 67 yX7_townOf, Cond.static yX7_townOf, Cond.initialized RX7, Cond.code yX7_townOf cX7_townOf 1 (some .int), Cond.methodLink RX0 72 yX7_withTown, Cond.static yX7_withTown, Cond.code yX7_withTown cX7_withTown 2 (some .int), Cond.methodLink RX0 52 yX0_afterBuying, Cond.instanceMethod yX0_afterBuying, Cond.selects RX0 yX0_afterBuying yX0_afterBuying, Cond.code yX0_afterBuying cX0_afterBuying 4 (some .int), Cond.methodLink RX0 75 yX7_hasGood, Cond.static yX7_hasGood, Cond.code yX7_hasGood cX7_hasGood 2 (some .boolean), Cond.methodLink RX0 79 yX7_coinsOf, Cond.static yX7_coinsOf, Cond.code yX7_coinsOf cX7_coinsOf 2 (some .int)]
def wsX9_may_r4 : List Cond := [Cond.methodLink RX0 82 yX0_canPay, Cond.instanceMethod yX0_canPay, Cond.selects RX0 yX0_canPay yX0_canPay, Cond.code yX0_canPay cX0_canPay 5 (some .boolean), Cond.methodLink RX0 86 yX7_withMore, Cond.static yX7_withMore, Cond.code yX7_withMore cX7_withMore 3 (some .int), Cond.methodLink RX0 90 yX7_withOtherGood, Cond.static yX7_withOtherGood, Cond.code yX7_withOtherGood cX7_withOtherGood 2 (some .int), Cond.methodLink RX0 55 yX0_afterSelling, Cond.instanceMethod yX0_afterSelling, Cond.selects RX0 yX0_afterSelling yX0_afterSelling, Cond.code yX0_afterSelling cX0_afterSelling 4 (some .int)]
def wsX9_may : List Cond := .code yX9_may cX9_may 3 (some .int) :: ((wsX9_may_r1 ++ (wsX9_may_r2 ++ (wsX9_may_r3 ++ wsX9_may_r4))) ++ wsX90 ++ wsX50 ++ wsX00 ++ wsX30)
def wsX9_act_r1 : List Cond := [Cond.fieldLink RX9 18 "OtherCoins" "people" "[LOtherCoins$Person;", Cond.fieldLink RX9 138 "OtherCoins$Person" "standing" "I", Cond.fieldLink RX9 91 "OtherCoins" "actsDone" "I", Cond.methodLink RX9 141 yX9_isPerson, Cond.instanceMethod yX9_isPerson, Cond.selects RX9 yX9_isPerson yX9_isPerson, Cond.initialized RX9, Cond.code yX9_isPerson cX9_isPerson 2 (some .boolean), Cond.fieldLink RX9 88 "OtherCoins" "peopleCount" "I", Cond.methodLink RX9 181 yX9_isAct, Cond.static yX9_isAct, Cond.code yX9_isAct cX9_isAct 5 (some .boolean), Cond.fieldLink RX9 303 "OtherCoins" "ACTS" "[I", Cond.methodLink RX9 184 yX9_dealFor, Cond.instanceMethod yX9_dealFor, Cond.selects RX9 yX9_dealFor yX9_dealFor, Cond.code yX9_dealFor cX9_dealFor 2 (some (.object "OtherCoins$Deal")), Cond.fieldLink RX9 25 "OtherCoins" "deal" "LOtherCoins$Deal;", Cond.fieldLink RX9 53 "OtherCoins" "law" "LOtherCoins$Law;", Cond.fieldLink RX9 134 "OtherCoins$Person" "kind" "LOtherCoins$Kind;", Cond.methodLink RX9 235 yX0_set, Cond.instanceMethod yX0_set, Cond.selects RX0 yX0_set yX0_set, Cond.initialized RX0]
def wsX9_act_r2 : List Cond := [Cond.code yX0_set cX0_set 4 (some (.object "OtherCoins$Deal")), Cond.fieldLink RX0 9 "OtherCoins$Deal" "cost" "[I", Cond.fieldLink RX0 24 "OtherCoins$Law" "price" "[I", Cond.fieldLink RX0 15 "OtherCoins$Deal" "gets" "[I", Cond.fieldLink RX0 34 "OtherCoins$Law" "pay" "[I", Cond.fieldLink RX0 18 "OtherCoins$Deal" "gives" "[I", Cond.fieldLink RX0 40 "OtherCoins$Law" "gives" "[I", Cond.fieldLink RX0 21 "OtherCoins$Deal" "payable" "[I", Cond.fieldLink RX0 41 "OtherCoins$Kind" "paysWithAny" "Z", Cond.fieldLink RX0 45 "OtherCoins$Law" "takes" "[I", Cond.methodLink RX0 29 yX2_cost, Cond.instanceMethod yX2_cost, Cond.selects RX2 yX2_cost yX2_cost, Cond.initialized RX2, Cond.code yX2_cost cX2_cost 2 (some .int), Cond.fieldLink RX2 42 "OtherCoins$Kind" "costsLess" "I", Cond.methodLink RX2 52 Lib.Math.max.name, Cond.static Lib.Math.max.name, Cond.initialized "java/lang/Math", Cond.code Lib.Math.max.name Lib.Math.max.code 2 (some .int), Cond.methodLink RX0 37 yX2_gain, Cond.instanceMethod yX2_gain, Cond.selects RX2 yX2_gain yX2_gain, Cond.code yX2_gain cX2_gain 2 (some .int)]
def wsX9_act_r3 : List Cond := [Cond.fieldLink RX2 45 "OtherCoins$Kind" "getsMore" "I", Cond.methodLink RX9 188 yX0_after, Cond.instanceMethod yX0_after, Cond.selects RX0 yX0_after yX0_after, Cond.code yX0_after cX0_after 3 (some .int), Cond.methodLink RX0 48 yX0_afterGoing, Cond.static yX0_afterGoing, Cond.code yX0_afterGoing cX0_afterGoing 3 (some .int), Cond.methodLink RX0 67 yX7_townOf, Cond.static yX7_townOf, Cond.initialized RX7, Cond.code yX7_townOf cX7_townOf 1 (some .int), Cond.methodLink RX0 72 yX7_withTown, Cond.static yX7_withTown, Cond.code yX7_withTown cX7_withTown 2 (some .int), Cond.methodLink RX0 52 yX0_afterBuying, Cond.instanceMethod yX0_afterBuying, Cond.selects RX0 yX0_afterBuying yX0_afterBuying, Cond.code yX0_afterBuying cX0_afterBuying 4 (some .int), Cond.methodLink RX0 75 yX7_hasGood, Cond.static yX7_hasGood, Cond.code yX7_hasGood cX7_hasGood 2 (some .boolean), Cond.methodLink RX0 79 yX7_coinsOf, Cond.static yX7_coinsOf]
def wsX9_act_r4 : List Cond := [Cond.code yX7_coinsOf cX7_coinsOf 2 (some .int), Cond.methodLink RX0 82 yX0_canPay, Cond.instanceMethod yX0_canPay, Cond.selects RX0 yX0_canPay yX0_canPay, Cond.code yX0_canPay cX0_canPay 5 (some .boolean), Cond.methodLink RX0 86 yX7_withMore, Cond.static yX7_withMore, Cond.code yX7_withMore cX7_withMore 3 (some .int), Cond.methodLink RX0 90 yX7_withOtherGood, Cond.static yX7_withOtherGood, Cond.code yX7_withOtherGood cX7_withOtherGood 2 (some .int), Cond.methodLink RX0 55 yX0_afterSelling, Cond.instanceMethod yX0_afterSelling, Cond.selects RX0 yX0_afterSelling yX0_afterSelling, Cond.code yX0_afterSelling cX0_afterSelling 4 (some .int), Cond.methodLink RX9 157 yX7_coinsTogether, Cond.static yX7_coinsTogether, Cond.code yX7_coinsTogether cX7_coinsTogether 1 (some .int), Cond.methodLink RX7 11 yX7_coinsOf]
def wsX9_act : List Cond := .code yX9_act cX9_act 5 (some .int) :: ((wsX9_act_r1 ++ (wsX9_act_r2 ++ (wsX9_act_r3 ++ wsX9_act_r4))) ++ wsX90 ++ wsX50 ++ wsX00 ++ wsX30)
def wsX9_change_r1 : List Cond := [Cond.fieldLink RX9 18 "OtherCoins" "people" "[LOtherCoins$Person;", Cond.fieldLink RX9 138 "OtherCoins$Person" "standing" "I", Cond.methodLink RX9 141 yX9_isPerson, Cond.instanceMethod yX9_isPerson, Cond.selects RX9 yX9_isPerson yX9_isPerson, Cond.initialized RX9, Cond.code yX9_isPerson cX9_isPerson 2 (some .boolean), Cond.fieldLink RX9 88 "OtherCoins" "peopleCount" "I", Cond.methodLink RX9 166 yX9_isCoin, Cond.static yX9_isCoin, Cond.code yX9_isCoin cX9_isCoin 1 (some .boolean), Cond.methodLink RX9 144 yX7_townOf, Cond.static yX7_townOf, Cond.initialized RX7, Cond.code yX7_townOf cX7_townOf 1 (some .int), Cond.methodLink RX9 191 yX5_canSwap, Cond.instanceMethod yX5_canSwap, Cond.selects RX5 yX5_canSwap yX5_canSwap, Cond.initialized RX5, Cond.code yX5_canSwap cX5_canSwap 3 (some .boolean), Cond.fieldLink RX5 20 "OtherCoins$Person" "standing" "I", Cond.methodLink RX5 24 yX7_coinsOf, Cond.static yX7_coinsOf, Cond.code yX7_coinsOf cX7_coinsOf 2 (some .int)]
def wsX9_change_r2 : List Cond := [Cond.methodLink RX9 195 yX5_swap, Cond.instanceMethod yX5_swap, Cond.selects RX5 yX5_swap yX5_swap, Cond.code yX5_swap cX5_swap 3 none, Cond.methodLink RX5 30 yX7_withMore, Cond.static yX7_withMore, Cond.code yX7_withMore cX7_withMore 3 (some .int), Cond.methodLink RX9 169 yX7_coinsOf]
def wsX9_change : List Cond := .code yX9_change cX9_change 7 (some .int) :: ((wsX9_change_r1 ++ wsX9_change_r2) ++ wsX90 ++ wsX50)
def wsX9_fewest_r1 : List Cond := [Cond.fieldLink RX9 199 "OtherCoins" "searchesDone" "I", Cond.fieldLink RX9 18 "OtherCoins" "people" "[LOtherCoins$Person;", Cond.fieldLink RX9 138 "OtherCoins$Person" "standing" "I", Cond.fieldLink RX9 32 "OtherCoins" "search" "LOtherCoins$Search;", Cond.fieldLink RX9 209 "OtherCoins$Search" "depth" "I", Cond.methodLink RX9 141 yX9_isPerson, Cond.instanceMethod yX9_isPerson, Cond.selects RX9 yX9_isPerson yX9_isPerson, Cond.initialized RX9, Cond.code yX9_isPerson cX9_isPerson 2 (some .boolean), Cond.fieldLink RX9 88 "OtherCoins" "peopleCount" "I", Cond.methodLink RX9 100 yX9_isTown, Cond.static yX9_isTown, Cond.code yX9_isTown cX9_isTown 1 (some .boolean), Cond.methodLink RX9 202 yX7_hasGood, Cond.static yX7_hasGood, Cond.initialized RX7, Cond.code yX7_hasGood cX7_hasGood 2 (some .boolean), Cond.methodLink RX9 184 yX9_dealFor, Cond.instanceMethod yX9_dealFor, Cond.selects RX9 yX9_dealFor yX9_dealFor, Cond.code yX9_dealFor cX9_dealFor 2 (some (.object "OtherCoins$Deal")), Cond.fieldLink RX9 25 "OtherCoins" "deal" "LOtherCoins$Deal;", Cond.fieldLink RX9 53 "OtherCoins" "law" "LOtherCoins$Law;"]
def wsX9_fewest_r2 : List Cond := [Cond.fieldLink RX9 134 "OtherCoins$Person" "kind" "LOtherCoins$Kind;", Cond.methodLink RX9 235 yX0_set, Cond.instanceMethod yX0_set, Cond.selects RX0 yX0_set yX0_set, Cond.initialized RX0, Cond.code yX0_set cX0_set 4 (some (.object "OtherCoins$Deal")), Cond.fieldLink RX0 9 "OtherCoins$Deal" "cost" "[I", Cond.fieldLink RX0 24 "OtherCoins$Law" "price" "[I", Cond.fieldLink RX0 15 "OtherCoins$Deal" "gets" "[I", Cond.fieldLink RX0 34 "OtherCoins$Law" "pay" "[I", Cond.fieldLink RX0 18 "OtherCoins$Deal" "gives" "[I", Cond.fieldLink RX0 40 "OtherCoins$Law" "gives" "[I", Cond.fieldLink RX0 21 "OtherCoins$Deal" "payable" "[I", Cond.fieldLink RX0 41 "OtherCoins$Kind" "paysWithAny" "Z", Cond.fieldLink RX0 45 "OtherCoins$Law" "takes" "[I", Cond.methodLink RX0 29 yX2_cost, Cond.instanceMethod yX2_cost, Cond.selects RX2 yX2_cost yX2_cost, Cond.initialized RX2, Cond.code yX2_cost cX2_cost 2 (some .int), Cond.fieldLink RX2 42 "OtherCoins$Kind" "costsLess" "I", Cond.methodLink RX2 52 Lib.Math.max.name, Cond.static Lib.Math.max.name, Cond.initialized "java/lang/Math"]
def wsX9_fewest_r3 : List Cond := [Cond.code Lib.Math.max.name Lib.Math.max.code 2 (some .int), Cond.methodLink RX0 37 yX2_gain, Cond.instanceMethod yX2_gain, Cond.selects RX2 yX2_gain yX2_gain, Cond.code yX2_gain cX2_gain 2 (some .int), Cond.fieldLink RX2 45 "OtherCoins$Kind" "getsMore" "I", Cond.methodLink RX9 205 yX6_firstToward, Cond.instanceMethod yX6_firstToward, Cond.selects RX6 yX6_firstToward yX6_firstToward, Cond.initialized RX6, Cond.code yX6_firstToward cX6_firstToward 6 (some .int), Cond.constant RX6 17 (40000), Cond.fieldLink RX6 25 "OtherCoins$Search" "levelStart" "I", Cond.fieldLink RX6 29 "OtherCoins$Search" "levelEnd" "I", Cond.fieldLink RX6 32 "OtherCoins$Deal" "cost" "[I", Cond.methodLink RX6 21 yX6_begin, Cond.instanceMethod yX6_begin, Cond.selects RX6 yX6_begin yX6_begin, Cond.code yX6_begin cX6_begin 2 none, Cond.fieldLink RX6 11 "OtherCoins$Search" "seen" "[I", Cond.fieldLink RX6 49 "OtherCoins$Search" "foundCount" "I", Cond.fieldLink RX6 68 "OtherCoins$Search" "depth" "I", Cond.methodLink RX6 62 yJ7_fill_53178, Cond.static yJ7_fill_53178]
def wsX9_fewest_r4 : List Cond := [Cond.initialized RJ7, Cond.code yJ7_fill_53178 cJ7_fill_53178 4 none, Cond.methodLink RX6 71 yX6_find, Cond.instanceMethod yX6_find, Cond.selects RX6 yX6_find yX6_find, Cond.code yX6_find cX6_find 5 none, Cond.fieldLink RX6 18 "OtherCoins$Search" "found" "[I", Cond.methodLink RX6 37 yX6_firstToBuy, Cond.instanceMethod yX6_firstToBuy, Cond.selects RX6 yX6_firstToBuy yX6_firstToBuy, Cond.code yX6_firstToBuy cX6_firstToBuy 7 (some .int), Cond.methodLink RX6 75 yX6_standingAt, Cond.instanceMethod yX6_standingAt, Cond.selects RX6 yX6_standingAt yX6_standingAt, Cond.code yX6_standingAt cX6_standingAt 2 (some .int), Cond.constant RX6 97 (262143), Cond.methodLink RX6 87 yX7_townOf, Cond.static yX7_townOf, Cond.code yX7_townOf cX7_townOf 1 (some .int), Cond.methodLink RX6 90 yX7_coinsOf, Cond.static yX7_coinsOf, Cond.code yX7_coinsOf cX7_coinsOf 2 (some .int), Cond.methodLink RX6 93 yX0_canPay, Cond.instanceMethod yX0_canPay]
def wsX9_fewest_r5 : List Cond := [Cond.selects RX0 yX0_canPay yX0_canPay, Cond.code yX0_canPay cX0_canPay 5 (some .boolean), Cond.methodLink RX6 84 yX6_firstActTo, Cond.instanceMethod yX6_firstActTo, Cond.selects RX6 yX6_firstActTo yX6_firstActTo, Cond.code yX6_firstActTo cX6_firstActTo 3 (some .int), Cond.methodLink RX6 41 yX6_deepen, Cond.instanceMethod yX6_deepen, Cond.selects RX6 yX6_deepen yX6_deepen, Cond.code yX6_deepen cX6_deepen 9 none, Cond.methodLink RX6 81 yX0_after, Cond.instanceMethod yX0_after, Cond.selects RX0 yX0_after yX0_after, Cond.code yX0_after cX0_after 3 (some .int), Cond.methodLink RX0 48 yX0_afterGoing, Cond.static yX0_afterGoing, Cond.code yX0_afterGoing cX0_afterGoing 3 (some .int), Cond.methodLink RX0 67 yX7_townOf, Cond.methodLink RX0 72 yX7_withTown, Cond.static yX7_withTown, Cond.code yX7_withTown cX7_withTown 2 (some .int), Cond.methodLink RX0 52 yX0_afterBuying, Cond.instanceMethod yX0_afterBuying, Cond.selects RX0 yX0_afterBuying yX0_afterBuying]
def wsX9_fewest_r6 : List Cond := [Cond.code yX0_afterBuying cX0_afterBuying 4 (some .int), Cond.methodLink RX0 75 yX7_hasGood, Cond.methodLink RX0 79 yX7_coinsOf, Cond.methodLink RX0 82 yX0_canPay, Cond.methodLink RX0 86 yX7_withMore, Cond.static yX7_withMore, Cond.code yX7_withMore cX7_withMore 3 (some .int), Cond.methodLink RX0 90 yX7_withOtherGood, Cond.static yX7_withOtherGood, Cond.code yX7_withOtherGood cX7_withOtherGood 2 (some .int), Cond.methodLink RX0 55 yX0_afterSelling, Cond.instanceMethod yX0_afterSelling, Cond.selects RX0 yX0_afterSelling yX0_afterSelling, Cond.code yX0_afterSelling cX0_afterSelling 4 (some .int)]
def wsX9_fewest : List Cond := .code yX9_fewest cX9_fewest 6 (some .int) :: ((wsX9_fewest_r1 ++ (wsX9_fewest_r2 ++ (wsX9_fewest_r3 ++ (wsX9_fewest_r4 ++ (wsX9_fewest_r5 ++ wsX9_fewest_r6))))) ++ wsX90 ++ wsX50 ++ wsX60 ++ wsX00 ++ wsX30)
def wsX9_richest_r1 : List Cond := [Cond.fieldLink RX9 199 "OtherCoins" "searchesDone" "I", Cond.fieldLink RX9 32 "OtherCoins" "search" "LOtherCoins$Search;", Cond.fieldLink RX9 18 "OtherCoins" "people" "[LOtherCoins$Person;", Cond.fieldLink RX9 138 "OtherCoins$Person" "standing" "I", Cond.methodLink RX9 141 yX9_isPerson, Cond.instanceMethod yX9_isPerson, Cond.selects RX9 yX9_isPerson yX9_isPerson, Cond.initialized RX9, Cond.code yX9_isPerson cX9_isPerson 2 (some .boolean), Cond.fieldLink RX9 88 "OtherCoins" "peopleCount" "I", Cond.methodLink RX9 184 yX9_dealFor, Cond.instanceMethod yX9_dealFor, Cond.selects RX9 yX9_dealFor yX9_dealFor, Cond.code yX9_dealFor cX9_dealFor 2 (some (.object "OtherCoins$Deal")), Cond.fieldLink RX9 25 "OtherCoins" "deal" "LOtherCoins$Deal;", Cond.fieldLink RX9 53 "OtherCoins" "law" "LOtherCoins$Law;", Cond.fieldLink RX9 134 "OtherCoins$Person" "kind" "LOtherCoins$Kind;", Cond.methodLink RX9 235 yX0_set, Cond.instanceMethod yX0_set, Cond.selects RX0 yX0_set yX0_set, Cond.initialized RX0, Cond.code yX0_set cX0_set 4 (some (.object "OtherCoins$Deal")), Cond.fieldLink RX0 9 "OtherCoins$Deal" "cost" "[I", Cond.fieldLink RX0 24 "OtherCoins$Law" "price" "[I"]
def wsX9_richest_r2 : List Cond := [Cond.fieldLink RX0 15 "OtherCoins$Deal" "gets" "[I", Cond.fieldLink RX0 34 "OtherCoins$Law" "pay" "[I", Cond.fieldLink RX0 18 "OtherCoins$Deal" "gives" "[I", Cond.fieldLink RX0 40 "OtherCoins$Law" "gives" "[I", Cond.fieldLink RX0 21 "OtherCoins$Deal" "payable" "[I", Cond.fieldLink RX0 41 "OtherCoins$Kind" "paysWithAny" "Z", Cond.fieldLink RX0 45 "OtherCoins$Law" "takes" "[I", Cond.methodLink RX0 29 yX2_cost, Cond.instanceMethod yX2_cost, Cond.selects RX2 yX2_cost yX2_cost, Cond.initialized RX2, Cond.code yX2_cost cX2_cost 2 (some .int), Cond.fieldLink RX2 42 "OtherCoins$Kind" "costsLess" "I", Cond.methodLink RX2 52 Lib.Math.max.name, Cond.static Lib.Math.max.name, Cond.initialized "java/lang/Math", Cond.code Lib.Math.max.name Lib.Math.max.code 2 (some .int), Cond.methodLink RX0 37 yX2_gain, Cond.instanceMethod yX2_gain, Cond.selects RX2 yX2_gain yX2_gain, Cond.code yX2_gain cX2_gain 2 (some .int), Cond.fieldLink RX2 45 "OtherCoins$Kind" "getsMore" "I", Cond.methodLink RX9 212 yX6_mostCoins, Cond.instanceMethod yX6_mostCoins]
def wsX9_richest_r3 : List Cond := [Cond.selects RX6 yX6_mostCoins yX6_mostCoins, Cond.initialized RX6, Cond.code yX6_mostCoins cX6_mostCoins 6 (some .int), Cond.fieldLink RX6 49 "OtherCoins$Search" "foundCount" "I", Cond.fieldLink RX6 18 "OtherCoins$Search" "found" "[I", Cond.methodLink RX6 56 Lib.Math.max.name, Cond.methodLink RX6 21 yX6_begin, Cond.instanceMethod yX6_begin, Cond.selects RX6 yX6_begin yX6_begin, Cond.code yX6_begin cX6_begin 2 none, Cond.fieldLink RX6 11 "OtherCoins$Search" "seen" "[I", Cond.fieldLink RX6 68 "OtherCoins$Search" "depth" "I", Cond.fieldLink RX6 25 "OtherCoins$Search" "levelStart" "I", Cond.fieldLink RX6 29 "OtherCoins$Search" "levelEnd" "I", Cond.methodLink RX6 62 yJ7_fill_53178, Cond.static yJ7_fill_53178, Cond.initialized RJ7, Cond.code yJ7_fill_53178 cJ7_fill_53178 4 none, Cond.methodLink RX6 71 yX6_find, Cond.instanceMethod yX6_find, Cond.selects RX6 yX6_find yX6_find, Cond.code yX6_find cX6_find 5 none, Cond.methodLink RX6 41 yX6_deepen, Cond.instanceMethod yX6_deepen]
def wsX9_richest_r4 : List Cond := [Cond.selects RX6 yX6_deepen yX6_deepen, Cond.code yX6_deepen cX6_deepen 9 none, Cond.methodLink RX6 75 yX6_standingAt, Cond.instanceMethod yX6_standingAt, Cond.selects RX6 yX6_standingAt yX6_standingAt, Cond.code yX6_standingAt cX6_standingAt 2 (some .int), Cond.constant RX6 97 (262143), Cond.methodLink RX6 81 yX0_after, Cond.instanceMethod yX0_after, Cond.selects RX0 yX0_after yX0_after, Cond.code yX0_after cX0_after 3 (some .int), Cond.methodLink RX0 48 yX0_afterGoing, Cond.static yX0_afterGoing, Cond.code yX0_afterGoing cX0_afterGoing 3 (some .int), Cond.methodLink RX0 67 yX7_townOf, Cond.static yX7_townOf, Cond.initialized RX7, Cond.code yX7_townOf cX7_townOf 1 (some .int), Cond.methodLink RX0 72 yX7_withTown, Cond.static yX7_withTown, Cond.code yX7_withTown cX7_withTown 2 (some .int), Cond.methodLink RX0 52 yX0_afterBuying, Cond.instanceMethod yX0_afterBuying, Cond.selects RX0 yX0_afterBuying yX0_afterBuying]
def wsX9_richest_r5 : List Cond := [Cond.code yX0_afterBuying cX0_afterBuying 4 (some .int), Cond.methodLink RX0 75 yX7_hasGood, Cond.static yX7_hasGood, Cond.code yX7_hasGood cX7_hasGood 2 (some .boolean), Cond.methodLink RX0 79 yX7_coinsOf, Cond.static yX7_coinsOf, Cond.code yX7_coinsOf cX7_coinsOf 2 (some .int), Cond.methodLink RX0 82 yX0_canPay, Cond.instanceMethod yX0_canPay, Cond.selects RX0 yX0_canPay yX0_canPay, Cond.code yX0_canPay cX0_canPay 5 (some .boolean), Cond.methodLink RX0 86 yX7_withMore, Cond.static yX7_withMore, Cond.code yX7_withMore cX7_withMore 3 (some .int), Cond.methodLink RX0 90 yX7_withOtherGood, Cond.static yX7_withOtherGood, Cond.code yX7_withOtherGood cX7_withOtherGood 2 (some .int), Cond.methodLink RX0 55 yX0_afterSelling, Cond.instanceMethod yX0_afterSelling, Cond.selects RX0 yX0_afterSelling yX0_afterSelling, Cond.code yX0_afterSelling cX0_afterSelling 4 (some .int), Cond.methodLink RX6 84 yX6_firstActTo, Cond.instanceMethod yX6_firstActTo, Cond.selects RX6 yX6_firstActTo yX6_firstActTo]
def wsX9_richest_r6 : List Cond := [Cond.code yX6_firstActTo cX6_firstActTo 3 (some .int), Cond.methodLink RX6 52 yX7_coinsTogether, Cond.static yX7_coinsTogether, Cond.code yX7_coinsTogether cX7_coinsTogether 1 (some .int), Cond.methodLink RX7 11 yX7_coinsOf]
def wsX9_richest : List Cond := .code yX9_richest cX9_richest 3 (some .int) :: ((wsX9_richest_r1 ++ (wsX9_richest_r2 ++ (wsX9_richest_r3 ++ (wsX9_richest_r4 ++ (wsX9_richest_r5 ++ wsX9_richest_r6))))) ++ wsX90 ++ wsX50 ++ wsX00 ++ wsX30 ++ wsX60)
def wsX9_dead_r1 : List Cond := [Cond.fieldLink RX9 18 "OtherCoins" "people" "[LOtherCoins$Person;", Cond.fieldLink RX9 138 "OtherCoins$Person" "standing" "I", Cond.methodLink RX9 141 yX9_isPerson, Cond.instanceMethod yX9_isPerson, Cond.selects RX9 yX9_isPerson yX9_isPerson, Cond.initialized RX9, Cond.code yX9_isPerson cX9_isPerson 2 (some .boolean), Cond.fieldLink RX9 88 "OtherCoins" "peopleCount" "I", Cond.methodLink RX9 184 yX9_dealFor, Cond.instanceMethod yX9_dealFor, Cond.selects RX9 yX9_dealFor yX9_dealFor, Cond.code yX9_dealFor cX9_dealFor 2 (some (.object "OtherCoins$Deal")), Cond.fieldLink RX9 25 "OtherCoins" "deal" "LOtherCoins$Deal;", Cond.fieldLink RX9 53 "OtherCoins" "law" "LOtherCoins$Law;", Cond.fieldLink RX9 134 "OtherCoins$Person" "kind" "LOtherCoins$Kind;", Cond.methodLink RX9 235 yX0_set, Cond.instanceMethod yX0_set, Cond.selects RX0 yX0_set yX0_set, Cond.initialized RX0, Cond.code yX0_set cX0_set 4 (some (.object "OtherCoins$Deal")), Cond.fieldLink RX0 9 "OtherCoins$Deal" "cost" "[I", Cond.fieldLink RX0 24 "OtherCoins$Law" "price" "[I", Cond.fieldLink RX0 15 "OtherCoins$Deal" "gets" "[I", Cond.fieldLink RX0 34 "OtherCoins$Law" "pay" "[I"]
def wsX9_dead_r2 : List Cond := [Cond.fieldLink RX0 18 "OtherCoins$Deal" "gives" "[I", Cond.fieldLink RX0 40 "OtherCoins$Law" "gives" "[I", Cond.fieldLink RX0 21 "OtherCoins$Deal" "payable" "[I", Cond.fieldLink RX0 41 "OtherCoins$Kind" "paysWithAny" "Z", Cond.fieldLink RX0 45 "OtherCoins$Law" "takes" "[I", Cond.methodLink RX0 29 yX2_cost, Cond.instanceMethod yX2_cost, Cond.selects RX2 yX2_cost yX2_cost, Cond.initialized RX2, Cond.code yX2_cost cX2_cost 2 (some .int), Cond.fieldLink RX2 42 "OtherCoins$Kind" "costsLess" "I", Cond.methodLink RX2 52 Lib.Math.max.name, Cond.static Lib.Math.max.name, Cond.initialized "java/lang/Math", Cond.code Lib.Math.max.name Lib.Math.max.code 2 (some .int), Cond.methodLink RX0 37 yX2_gain, Cond.instanceMethod yX2_gain, Cond.selects RX2 yX2_gain yX2_gain, Cond.code yX2_gain cX2_gain 2 (some .int), Cond.fieldLink RX2 45 "OtherCoins$Kind" "getsMore" "I", Cond.methodLink RX9 215 yX0_paysAnywhere, Cond.instanceMethod yX0_paysAnywhere, Cond.selects RX0 yX0_paysAnywhere yX0_paysAnywhere, Cond.code yX0_paysAnywhere cX0_paysAnywhere 2 (some .boolean)]
def wsX9_dead_r3 : List Cond := [Cond.methodLink RX9 169 yX7_coinsOf, Cond.static yX7_coinsOf, Cond.initialized RX7, Cond.code yX7_coinsOf cX7_coinsOf 2 (some .int)]
def wsX9_dead : List Cond := .code yX9_dead cX9_dead 5 (some .int) :: ((wsX9_dead_r1 ++ (wsX9_dead_r2 ++ wsX9_dead_r3)) ++ wsX90 ++ wsX50 ++ wsX00 ++ wsX30)
def wsX9_gains_r1 : List Cond := [Cond.fieldLink RX9 88 "OtherCoins" "peopleCount" "I", Cond.fieldLink RX9 18 "OtherCoins" "people" "[LOtherCoins$Person;", Cond.fieldLink RX9 32 "OtherCoins" "search" "LOtherCoins$Search;", Cond.fieldLink RX9 138 "OtherCoins$Person" "standing" "I", Cond.fieldLink RX9 134 "OtherCoins$Person" "kind" "LOtherCoins$Kind;", Cond.methodLink RX9 100 yX9_isTown, Cond.static yX9_isTown, Cond.initialized RX9, Cond.code yX9_isTown cX9_isTown 1 (some .boolean), Cond.methodLink RX9 124 yX9_isPrice, Cond.static yX9_isPrice, Cond.code yX9_isPrice cX9_isPrice 1 (some .boolean), Cond.methodLink RX9 104 yX9_isLawless, Cond.instanceMethod yX9_isLawless, Cond.selects RX9 yX9_isLawless yX9_isLawless, Cond.code yX9_isLawless cX9_isLawless 1 (some .boolean), Cond.fieldLink RX9 94 "OtherCoins" "lawsRead" "I", Cond.methodLink RX9 184 yX9_dealFor, Cond.instanceMethod yX9_dealFor, Cond.selects RX9 yX9_dealFor yX9_dealFor, Cond.code yX9_dealFor cX9_dealFor 2 (some (.object "OtherCoins$Deal")), Cond.fieldLink RX9 25 "OtherCoins" "deal" "LOtherCoins$Deal;", Cond.fieldLink RX9 53 "OtherCoins" "law" "LOtherCoins$Law;", Cond.methodLink RX9 235 yX0_set]
def wsX9_gains_r2 : List Cond := [Cond.instanceMethod yX0_set, Cond.selects RX0 yX0_set yX0_set, Cond.initialized RX0, Cond.code yX0_set cX0_set 4 (some (.object "OtherCoins$Deal")), Cond.fieldLink RX0 9 "OtherCoins$Deal" "cost" "[I", Cond.fieldLink RX0 24 "OtherCoins$Law" "price" "[I", Cond.fieldLink RX0 15 "OtherCoins$Deal" "gets" "[I", Cond.fieldLink RX0 34 "OtherCoins$Law" "pay" "[I", Cond.fieldLink RX0 18 "OtherCoins$Deal" "gives" "[I", Cond.fieldLink RX0 40 "OtherCoins$Law" "gives" "[I", Cond.fieldLink RX0 21 "OtherCoins$Deal" "payable" "[I", Cond.fieldLink RX0 41 "OtherCoins$Kind" "paysWithAny" "Z", Cond.fieldLink RX0 45 "OtherCoins$Law" "takes" "[I", Cond.methodLink RX0 29 yX2_cost, Cond.instanceMethod yX2_cost, Cond.selects RX2 yX2_cost yX2_cost, Cond.initialized RX2, Cond.code yX2_cost cX2_cost 2 (some .int), Cond.fieldLink RX2 42 "OtherCoins$Kind" "costsLess" "I", Cond.methodLink RX2 52 Lib.Math.max.name, Cond.static Lib.Math.max.name, Cond.initialized "java/lang/Math", Cond.code Lib.Math.max.name Lib.Math.max.code 2 (some .int), Cond.methodLink RX0 37 yX2_gain]
def wsX9_gains_r3 : List Cond := [Cond.instanceMethod yX2_gain, Cond.selects RX2 yX2_gain yX2_gain, Cond.code yX2_gain cX2_gain 2 (some .int), Cond.fieldLink RX2 45 "OtherCoins$Kind" "getsMore" "I", Cond.methodLink RX9 160 yX2_cost, Cond.methodLink RX9 218 yX6_isSooner, Cond.instanceMethod yX6_isSooner, Cond.selects RX6 yX6_isSooner yX6_isSooner, Cond.initialized RX6, Cond.code yX6_isSooner cX6_isSooner 6 (some .boolean), Cond.fieldLink RX6 32 "OtherCoins$Deal" "cost" "[I", Cond.constant RX6 17 (40000), Cond.fieldLink RX6 25 "OtherCoins$Search" "levelStart" "I", Cond.fieldLink RX6 29 "OtherCoins$Search" "levelEnd" "I", Cond.methodLink RX6 45 yX7_hasGood, Cond.static yX7_hasGood, Cond.initialized RX7, Cond.code yX7_hasGood cX7_hasGood 2 (some .boolean), Cond.methodLink RX6 21 yX6_begin, Cond.instanceMethod yX6_begin, Cond.selects RX6 yX6_begin yX6_begin, Cond.code yX6_begin cX6_begin 2 none, Cond.fieldLink RX6 11 "OtherCoins$Search" "seen" "[I", Cond.fieldLink RX6 49 "OtherCoins$Search" "foundCount" "I"]
def wsX9_gains_r4 : List Cond := [Cond.fieldLink RX6 68 "OtherCoins$Search" "depth" "I", Cond.methodLink RX6 62 yJ7_fill_53178, Cond.static yJ7_fill_53178, Cond.initialized RJ7, Cond.code yJ7_fill_53178 cJ7_fill_53178 4 none, Cond.methodLink RX6 71 yX6_find, Cond.instanceMethod yX6_find, Cond.selects RX6 yX6_find yX6_find, Cond.code yX6_find cX6_find 5 none, Cond.fieldLink RX6 18 "OtherCoins$Search" "found" "[I", Cond.methodLink RX6 37 yX6_firstToBuy, Cond.instanceMethod yX6_firstToBuy, Cond.selects RX6 yX6_firstToBuy yX6_firstToBuy, Cond.code yX6_firstToBuy cX6_firstToBuy 7 (some .int), Cond.methodLink RX6 75 yX6_standingAt, Cond.instanceMethod yX6_standingAt, Cond.selects RX6 yX6_standingAt yX6_standingAt, Cond.code yX6_standingAt cX6_standingAt 2 (some .int), Cond.constant RX6 97 (262143), Cond.methodLink RX6 87 yX7_townOf, Cond.static yX7_townOf, Cond.code yX7_townOf cX7_townOf 1 (some .int), Cond.methodLink RX6 90 yX7_coinsOf, Cond.static yX7_coinsOf]
def wsX9_gains_r5 : List Cond := [Cond.code yX7_coinsOf cX7_coinsOf 2 (some .int), Cond.methodLink RX6 93 yX0_canPay, Cond.instanceMethod yX0_canPay, Cond.selects RX0 yX0_canPay yX0_canPay, Cond.code yX0_canPay cX0_canPay 5 (some .boolean), Cond.methodLink RX6 84 yX6_firstActTo, Cond.instanceMethod yX6_firstActTo, Cond.selects RX6 yX6_firstActTo yX6_firstActTo, Cond.code yX6_firstActTo cX6_firstActTo 3 (some .int), Cond.methodLink RX6 41 yX6_deepen, Cond.instanceMethod yX6_deepen, Cond.selects RX6 yX6_deepen yX6_deepen, Cond.code yX6_deepen cX6_deepen 9 none, Cond.methodLink RX6 81 yX0_after, Cond.instanceMethod yX0_after, Cond.selects RX0 yX0_after yX0_after, Cond.code yX0_after cX0_after 3 (some .int), Cond.methodLink RX0 48 yX0_afterGoing, Cond.static yX0_afterGoing, Cond.code yX0_afterGoing cX0_afterGoing 3 (some .int), Cond.methodLink RX0 67 yX7_townOf, Cond.methodLink RX0 72 yX7_withTown, Cond.static yX7_withTown, Cond.code yX7_withTown cX7_withTown 2 (some .int)]
def wsX9_gains_r6 : List Cond := [Cond.methodLink RX0 52 yX0_afterBuying, Cond.instanceMethod yX0_afterBuying, Cond.selects RX0 yX0_afterBuying yX0_afterBuying, Cond.code yX0_afterBuying cX0_afterBuying 4 (some .int), Cond.methodLink RX0 75 yX7_hasGood, Cond.methodLink RX0 79 yX7_coinsOf, Cond.methodLink RX0 82 yX0_canPay, Cond.methodLink RX0 86 yX7_withMore, Cond.static yX7_withMore, Cond.code yX7_withMore cX7_withMore 3 (some .int), Cond.methodLink RX0 90 yX7_withOtherGood, Cond.static yX7_withOtherGood, Cond.code yX7_withOtherGood cX7_withOtherGood 2 (some .int), Cond.methodLink RX0 55 yX0_afterSelling, Cond.instanceMethod yX0_afterSelling, Cond.selects RX0 yX0_afterSelling yX0_afterSelling, Cond.code yX0_afterSelling cX0_afterSelling 4 (some .int)]
def wsX9_gains : List Cond := .code yX9_gains cX9_gains 6 (some .int) :: ((wsX9_gains_r1 ++ (wsX9_gains_r2 ++ (wsX9_gains_r3 ++ (wsX9_gains_r4 ++ (wsX9_gains_r5 ++ wsX9_gains_r6))))) ++ wsX90 ++ wsX50 ++ wsX00 ++ wsX30 ++ wsX60)
def wsX9_trail : List Cond := .code yX9_trail cX9_trail 3 (some .int) :: ([.fieldLink RX9 39 "OtherCoins" "trail" "LOtherCoins$Trail;", .fieldLink RX9 18 "OtherCoins" "people" "[LOtherCoins$Person;", .methodLink RX9 141 yX9_isPerson, .instanceMethod yX9_isPerson, .selects RX9 yX9_isPerson yX9_isPerson, .initialized RX9, .code yX9_isPerson cX9_isPerson 2 (some .boolean), .fieldLink RX9 88 "OtherCoins" "peopleCount" "I", .methodLink RX9 222 yX8_pursesTold, .instanceMethod yX8_pursesTold, .selects RX8 yX8_pursesTold yX8_pursesTold, .initialized RX8, .code yX8_pursesTold cX8_pursesTold 1 (some .int), .fieldLink RX8 32 "OtherCoins$Trail" "begun" "Z", .fieldLink RX8 46 "OtherCoins$Trail" "size" "I", .methodLink RX9 225 yX8_begin, .instanceMethod yX8_begin, .selects RX8 yX8_begin yX8_begin, .code yX8_begin cX8_begin 2 none, .fieldLink RX8 36 "OtherCoins$Person" "kind" "LOtherCoins$Kind;", .fieldLink RX8 29 "OtherCoins$Trail" "kind" "LOtherCoins$Kind;", .fieldLink RX8 39 "OtherCoins$Person" "standing" "I", .fieldLink RX8 43 "OtherCoins$Trail" "start" "I"] ++ wsX90 ++ wsX80 ++ wsX50)
def wsX9_next : List Cond := .code yX9_next cX9_next 2 (some .int) :: ([.fieldLink RX9 39 "OtherCoins" "trail" "LOtherCoins$Trail;", .fieldLink RX9 81 "OtherCoins$Trail" "begun" "Z", .methodLink RX9 229 yX7_purseOf, .static yX7_purseOf, .initialized RX7, .code yX7_purseOf cX7_purseOf 4 (some .int), .methodLink RX7 15 yX7_withMore, .static yX7_withMore, .code yX7_withMore cX7_withMore 3 (some .int), .methodLink RX9 232 yX8_add, .instanceMethod yX8_add, .selects RX8 yX8_add yX8_add, .initialized RX8, .code yX8_add cX8_add 2 (some .int), .fieldLink RX8 46 "OtherCoins$Trail" "size" "I", .fieldLink RX8 9 "OtherCoins$Trail" "purses" "[I"] ++ wsX90 ++ wsX80)
def wsX9_ways_r1 : List Cond := [Cond.fieldLink RX9 39 "OtherCoins" "trail" "LOtherCoins$Trail;", Cond.fieldLink RX9 81 "OtherCoins$Trail" "begun" "Z", Cond.fieldLink RX9 25 "OtherCoins" "deal" "LOtherCoins$Deal;", Cond.fieldLink RX9 53 "OtherCoins" "law" "LOtherCoins$Law;", Cond.fieldLink RX9 234 "OtherCoins$Trail" "kind" "LOtherCoins$Kind;", Cond.methodLink RX9 235 yX0_set, Cond.instanceMethod yX0_set, Cond.selects RX0 yX0_set yX0_set, Cond.initialized RX0, Cond.code yX0_set cX0_set 4 (some (.object "OtherCoins$Deal")), Cond.fieldLink RX0 9 "OtherCoins$Deal" "cost" "[I", Cond.fieldLink RX0 24 "OtherCoins$Law" "price" "[I", Cond.fieldLink RX0 15 "OtherCoins$Deal" "gets" "[I", Cond.fieldLink RX0 34 "OtherCoins$Law" "pay" "[I", Cond.fieldLink RX0 18 "OtherCoins$Deal" "gives" "[I", Cond.fieldLink RX0 40 "OtherCoins$Law" "gives" "[I", Cond.fieldLink RX0 21 "OtherCoins$Deal" "payable" "[I", Cond.fieldLink RX0 41 "OtherCoins$Kind" "paysWithAny" "Z", Cond.fieldLink RX0 45 "OtherCoins$Law" "takes" "[I", Cond.methodLink RX0 29 yX2_cost, Cond.instanceMethod yX2_cost, Cond.selects RX2 yX2_cost yX2_cost, Cond.initialized RX2, Cond.code yX2_cost cX2_cost 2 (some .int)]
def wsX9_ways_r2 : List Cond := [Cond.fieldLink RX2 42 "OtherCoins$Kind" "costsLess" "I", Cond.methodLink RX2 52 Lib.Math.max.name, Cond.static Lib.Math.max.name, Cond.initialized "java/lang/Math", Cond.code Lib.Math.max.name Lib.Math.max.code 2 (some .int), Cond.methodLink RX0 37 yX2_gain, Cond.instanceMethod yX2_gain, Cond.selects RX2 yX2_gain yX2_gain, Cond.code yX2_gain cX2_gain 2 (some .int), Cond.fieldLink RX2 45 "OtherCoins$Kind" "getsMore" "I", Cond.methodLink RX9 239 yX8_follow, Cond.instanceMethod yX8_follow, Cond.selects RX8 yX8_follow yX8_follow, Cond.initialized RX8, Cond.code yX8_follow cX8_follow 4 none, Cond.fieldLink RX8 17 "OtherCoins$Trail" "rowsTo" "[I", Cond.fieldLink RX8 43 "OtherCoins$Trail" "start" "I", Cond.fieldLink RX8 46 "OtherCoins$Trail" "size" "I", Cond.fieldLink RX8 9 "OtherCoins$Trail" "purses" "[I", Cond.methodLink RX8 49 yJ7_fill_53178, Cond.static yJ7_fill_53178, Cond.initialized RJ7, Cond.code yJ7_fill_53178 cJ7_fill_53178 4 none, Cond.methodLink RX8 55 yX7_placeOf]
def wsX9_ways_r3 : List Cond := [Cond.static yX7_placeOf, Cond.initialized RX7, Cond.code yX7_placeOf cX7_placeOf 1 (some .int), Cond.methodLink RX8 59 yX7_withoutPlace, Cond.static yX7_withoutPlace, Cond.code yX7_withoutPlace cX7_withoutPlace 1 (some .int), Cond.methodLink RX8 62 yX8_followAct, Cond.instanceMethod yX8_followAct, Cond.selects RX8 yX8_followAct yX8_followAct, Cond.code yX8_followAct cX8_followAct 10 none, Cond.fieldLink RX8 20 "OtherCoins$Trail" "rowsBehind" "[I", Cond.methodLink RX8 74 yX0_after, Cond.instanceMethod yX0_after, Cond.selects RX0 yX0_after yX0_after, Cond.code yX0_after cX0_after 3 (some .int), Cond.methodLink RX0 48 yX0_afterGoing, Cond.static yX0_afterGoing, Cond.code yX0_afterGoing cX0_afterGoing 3 (some .int), Cond.methodLink RX0 67 yX7_townOf, Cond.static yX7_townOf, Cond.code yX7_townOf cX7_townOf 1 (some .int), Cond.methodLink RX0 72 yX7_withTown, Cond.static yX7_withTown, Cond.code yX7_withTown cX7_withTown 2 (some .int)]
def wsX9_ways_r4 : List Cond := [Cond.methodLink RX0 52 yX0_afterBuying, Cond.instanceMethod yX0_afterBuying, Cond.selects RX0 yX0_afterBuying yX0_afterBuying, Cond.code yX0_afterBuying cX0_afterBuying 4 (some .int), Cond.methodLink RX0 75 yX7_hasGood, Cond.static yX7_hasGood, Cond.code yX7_hasGood cX7_hasGood 2 (some .boolean), Cond.methodLink RX0 79 yX7_coinsOf, Cond.static yX7_coinsOf, Cond.code yX7_coinsOf cX7_coinsOf 2 (some .int), Cond.methodLink RX0 82 yX0_canPay, Cond.instanceMethod yX0_canPay, Cond.selects RX0 yX0_canPay yX0_canPay, Cond.code yX0_canPay cX0_canPay 5 (some .boolean), Cond.methodLink RX0 86 yX7_withMore, Cond.static yX7_withMore, Cond.code yX7_withMore cX7_withMore 3 (some .int), Cond.methodLink RX0 90 yX7_withOtherGood, Cond.static yX7_withOtherGood, Cond.code yX7_withOtherGood cX7_withOtherGood 2 (some .int), Cond.methodLink RX0 55 yX0_afterSelling, Cond.instanceMethod yX0_afterSelling, Cond.selects RX0 yX0_afterSelling yX0_afterSelling, Cond.code yX0_afterSelling cX0_afterSelling 4 (some .int)]
def wsX9_ways_r5 : List Cond := [Cond.methodLink RX9 243 yX8_rows, Cond.instanceMethod yX8_rows, Cond.selects RX8 yX8_rows yX8_rows, Cond.code yX8_rows cX8_rows 3 (some .int)]
def wsX9_ways : List Cond := .code yX9_ways cX9_ways 1 (some .int) :: ((wsX9_ways_r1 ++ (wsX9_ways_r2 ++ (wsX9_ways_r3 ++ (wsX9_ways_r4 ++ wsX9_ways_r5)))) ++ wsX90 ++ wsX80 ++ wsX00 ++ wsX30)
def wsX9_ends_r1 : List Cond := [Cond.fieldLink RX9 39 "OtherCoins" "trail" "LOtherCoins$Trail;", Cond.fieldLink RX9 81 "OtherCoins$Trail" "begun" "Z", Cond.fieldLink RX9 25 "OtherCoins" "deal" "LOtherCoins$Deal;", Cond.fieldLink RX9 53 "OtherCoins" "law" "LOtherCoins$Law;", Cond.fieldLink RX9 234 "OtherCoins$Trail" "kind" "LOtherCoins$Kind;", Cond.methodLink RX9 235 yX0_set, Cond.instanceMethod yX0_set, Cond.selects RX0 yX0_set yX0_set, Cond.initialized RX0, Cond.code yX0_set cX0_set 4 (some (.object "OtherCoins$Deal")), Cond.fieldLink RX0 9 "OtherCoins$Deal" "cost" "[I", Cond.fieldLink RX0 24 "OtherCoins$Law" "price" "[I", Cond.fieldLink RX0 15 "OtherCoins$Deal" "gets" "[I", Cond.fieldLink RX0 34 "OtherCoins$Law" "pay" "[I", Cond.fieldLink RX0 18 "OtherCoins$Deal" "gives" "[I", Cond.fieldLink RX0 40 "OtherCoins$Law" "gives" "[I", Cond.fieldLink RX0 21 "OtherCoins$Deal" "payable" "[I", Cond.fieldLink RX0 41 "OtherCoins$Kind" "paysWithAny" "Z", Cond.fieldLink RX0 45 "OtherCoins$Law" "takes" "[I", Cond.methodLink RX0 29 yX2_cost, Cond.instanceMethod yX2_cost, Cond.selects RX2 yX2_cost yX2_cost, Cond.initialized RX2, Cond.code yX2_cost cX2_cost 2 (some .int)]
def wsX9_ends_r2 : List Cond := [Cond.fieldLink RX2 42 "OtherCoins$Kind" "costsLess" "I", Cond.methodLink RX2 52 Lib.Math.max.name, Cond.static Lib.Math.max.name, Cond.initialized "java/lang/Math", Cond.code Lib.Math.max.name Lib.Math.max.code 2 (some .int), Cond.methodLink RX0 37 yX2_gain, Cond.instanceMethod yX2_gain, Cond.selects RX2 yX2_gain yX2_gain, Cond.code yX2_gain cX2_gain 2 (some .int), Cond.fieldLink RX2 45 "OtherCoins$Kind" "getsMore" "I", Cond.methodLink RX9 239 yX8_follow, Cond.instanceMethod yX8_follow, Cond.selects RX8 yX8_follow yX8_follow, Cond.initialized RX8, Cond.code yX8_follow cX8_follow 4 none, Cond.fieldLink RX8 17 "OtherCoins$Trail" "rowsTo" "[I", Cond.fieldLink RX8 43 "OtherCoins$Trail" "start" "I", Cond.fieldLink RX8 46 "OtherCoins$Trail" "size" "I", Cond.fieldLink RX8 9 "OtherCoins$Trail" "purses" "[I", Cond.methodLink RX8 49 yJ7_fill_53178, Cond.static yJ7_fill_53178, Cond.initialized RJ7, Cond.code yJ7_fill_53178 cJ7_fill_53178 4 none, Cond.methodLink RX8 55 yX7_placeOf]
def wsX9_ends_r3 : List Cond := [Cond.static yX7_placeOf, Cond.initialized RX7, Cond.code yX7_placeOf cX7_placeOf 1 (some .int), Cond.methodLink RX8 59 yX7_withoutPlace, Cond.static yX7_withoutPlace, Cond.code yX7_withoutPlace cX7_withoutPlace 1 (some .int), Cond.methodLink RX8 62 yX8_followAct, Cond.instanceMethod yX8_followAct, Cond.selects RX8 yX8_followAct yX8_followAct, Cond.code yX8_followAct cX8_followAct 10 none, Cond.fieldLink RX8 20 "OtherCoins$Trail" "rowsBehind" "[I", Cond.methodLink RX8 74 yX0_after, Cond.instanceMethod yX0_after, Cond.selects RX0 yX0_after yX0_after, Cond.code yX0_after cX0_after 3 (some .int), Cond.methodLink RX0 48 yX0_afterGoing, Cond.static yX0_afterGoing, Cond.code yX0_afterGoing cX0_afterGoing 3 (some .int), Cond.methodLink RX0 67 yX7_townOf, Cond.static yX7_townOf, Cond.code yX7_townOf cX7_townOf 1 (some .int), Cond.methodLink RX0 72 yX7_withTown, Cond.static yX7_withTown, Cond.code yX7_withTown cX7_withTown 2 (some .int)]
def wsX9_ends_r4 : List Cond := [Cond.methodLink RX0 52 yX0_afterBuying, Cond.instanceMethod yX0_afterBuying, Cond.selects RX0 yX0_afterBuying yX0_afterBuying, Cond.code yX0_afterBuying cX0_afterBuying 4 (some .int), Cond.methodLink RX0 75 yX7_hasGood, Cond.static yX7_hasGood, Cond.code yX7_hasGood cX7_hasGood 2 (some .boolean), Cond.methodLink RX0 79 yX7_coinsOf, Cond.static yX7_coinsOf, Cond.code yX7_coinsOf cX7_coinsOf 2 (some .int), Cond.methodLink RX0 82 yX0_canPay, Cond.instanceMethod yX0_canPay, Cond.selects RX0 yX0_canPay yX0_canPay, Cond.code yX0_canPay cX0_canPay 5 (some .boolean), Cond.methodLink RX0 86 yX7_withMore, Cond.static yX7_withMore, Cond.code yX7_withMore cX7_withMore 3 (some .int), Cond.methodLink RX0 90 yX7_withOtherGood, Cond.static yX7_withOtherGood, Cond.code yX7_withOtherGood cX7_withOtherGood 2 (some .int), Cond.methodLink RX0 55 yX0_afterSelling, Cond.instanceMethod yX0_afterSelling, Cond.selects RX0 yX0_afterSelling yX0_afterSelling, Cond.code yX0_afterSelling cX0_afterSelling 4 (some .int)]
def wsX9_ends_r5 : List Cond := [Cond.methodLink RX9 246 yX8_towns, Cond.instanceMethod yX8_towns, Cond.selects RX8 yX8_towns yX8_towns, Cond.code yX8_towns cX8_towns 3 (some .int), Cond.methodLink RX8 66 yX7_townOf]
def wsX9_ends : List Cond := .code yX9_ends cX9_ends 1 (some .int) :: ((wsX9_ends_r1 ++ (wsX9_ends_r2 ++ (wsX9_ends_r3 ++ (wsX9_ends_r4 ++ wsX9_ends_r5)))) ++ wsX90 ++ wsX80 ++ wsX00 ++ wsX30)
def wsX9_seedBehind : List Cond := .code yX9_seedBehind cX9_seedBehind 1 (some .int) :: ([.constantLong RX9 306 (1103515245), .constantLong RX9 308 (12345), .constantLong RX9 310 (2147483648)])
def wsX9_walk_r1 : List Cond := [Cond.fieldLink RX9 18 "OtherCoins" "people" "[LOtherCoins$Person;", Cond.fieldLink RX9 138 "OtherCoins$Person" "standing" "I", Cond.constant RX9 252 (65536), Cond.methodLink RX9 141 yX9_isPerson, Cond.instanceMethod yX9_isPerson, Cond.selects RX9 yX9_isPerson yX9_isPerson, Cond.initialized RX9, Cond.code yX9_isPerson cX9_isPerson 2 (some .boolean), Cond.fieldLink RX9 88 "OtherCoins" "peopleCount" "I", Cond.methodLink RX9 184 yX9_dealFor, Cond.instanceMethod yX9_dealFor, Cond.selects RX9 yX9_dealFor yX9_dealFor, Cond.code yX9_dealFor cX9_dealFor 2 (some (.object "OtherCoins$Deal")), Cond.fieldLink RX9 25 "OtherCoins" "deal" "LOtherCoins$Deal;", Cond.fieldLink RX9 53 "OtherCoins" "law" "LOtherCoins$Law;", Cond.fieldLink RX9 134 "OtherCoins$Person" "kind" "LOtherCoins$Kind;", Cond.methodLink RX9 235 yX0_set, Cond.instanceMethod yX0_set, Cond.selects RX0 yX0_set yX0_set, Cond.initialized RX0, Cond.code yX0_set cX0_set 4 (some (.object "OtherCoins$Deal")), Cond.fieldLink RX0 9 "OtherCoins$Deal" "cost" "[I", Cond.fieldLink RX0 24 "OtherCoins$Law" "price" "[I", Cond.fieldLink RX0 15 "OtherCoins$Deal" "gets" "[I"]
def wsX9_walk_r2 : List Cond := [Cond.fieldLink RX0 34 "OtherCoins$Law" "pay" "[I", Cond.fieldLink RX0 18 "OtherCoins$Deal" "gives" "[I", Cond.fieldLink RX0 40 "OtherCoins$Law" "gives" "[I", Cond.fieldLink RX0 21 "OtherCoins$Deal" "payable" "[I", Cond.fieldLink RX0 41 "OtherCoins$Kind" "paysWithAny" "Z", Cond.fieldLink RX0 45 "OtherCoins$Law" "takes" "[I", Cond.methodLink RX0 29 yX2_cost, Cond.instanceMethod yX2_cost, Cond.selects RX2 yX2_cost yX2_cost, Cond.initialized RX2, Cond.code yX2_cost cX2_cost 2 (some .int), Cond.fieldLink RX2 42 "OtherCoins$Kind" "costsLess" "I", Cond.methodLink RX2 52 Lib.Math.max.name, Cond.static Lib.Math.max.name, Cond.initialized "java/lang/Math", Cond.code Lib.Math.max.name Lib.Math.max.code 2 (some .int), Cond.methodLink RX0 37 yX2_gain, Cond.instanceMethod yX2_gain, Cond.selects RX2 yX2_gain yX2_gain, Cond.code yX2_gain cX2_gain 2 (some .int), Cond.fieldLink RX2 45 "OtherCoins$Kind" "getsMore" "I", Cond.methodLink RX9 249 yX9_seedBehind, Cond.static yX9_seedBehind, Cond.code yX9_seedBehind cX9_seedBehind 1 (some .int)]
def wsX9_walk_r3 : List Cond := [Cond.constantLong RX9 306 (1103515245), Cond.constantLong RX9 308 (12345), Cond.constantLong RX9 310 (2147483648), Cond.methodLink RX9 253 yX0_afterDraw, Cond.instanceMethod yX0_afterDraw, Cond.selects RX0 yX0_afterDraw yX0_afterDraw, Cond.code yX0_afterDraw cX0_afterDraw 10 (some .int), Cond.methodLink RX0 64 yX0_actsOpen, Cond.instanceMethod yX0_actsOpen, Cond.selects RX0 yX0_actsOpen yX0_actsOpen, Cond.code yX0_actsOpen cX0_actsOpen 7 (some .int), Cond.methodLink RX0 61 yX0_after, Cond.instanceMethod yX0_after, Cond.selects RX0 yX0_after yX0_after, Cond.code yX0_after cX0_after 3 (some .int), Cond.methodLink RX0 48 yX0_afterGoing, Cond.static yX0_afterGoing, Cond.code yX0_afterGoing cX0_afterGoing 3 (some .int), Cond.methodLink RX0 67 yX7_townOf, Cond.static yX7_townOf, Cond.initialized RX7, Cond.code yX7_townOf cX7_townOf 1 (some .int), Cond.methodLink RX0 72 yX7_withTown, Cond.static yX7_withTown]
def wsX9_walk_r4 : List Cond := [Cond.code yX7_withTown cX7_withTown 2 (some .int), Cond.methodLink RX0 52 yX0_afterBuying, Cond.instanceMethod yX0_afterBuying, Cond.selects RX0 yX0_afterBuying yX0_afterBuying, Cond.code yX0_afterBuying cX0_afterBuying 4 (some .int), Cond.methodLink RX0 75 yX7_hasGood, Cond.static yX7_hasGood, Cond.code yX7_hasGood cX7_hasGood 2 (some .boolean), Cond.methodLink RX0 79 yX7_coinsOf, Cond.static yX7_coinsOf, Cond.code yX7_coinsOf cX7_coinsOf 2 (some .int), Cond.methodLink RX0 82 yX0_canPay, Cond.instanceMethod yX0_canPay, Cond.selects RX0 yX0_canPay yX0_canPay, Cond.code yX0_canPay cX0_canPay 5 (some .boolean), Cond.methodLink RX0 86 yX7_withMore, Cond.static yX7_withMore, Cond.code yX7_withMore cX7_withMore 3 (some .int), Cond.methodLink RX0 90 yX7_withOtherGood, Cond.static yX7_withOtherGood, Cond.code yX7_withOtherGood cX7_withOtherGood 2 (some .int), Cond.methodLink RX0 55 yX0_afterSelling, Cond.instanceMethod yX0_afterSelling, Cond.selects RX0 yX0_afterSelling yX0_afterSelling]
def wsX9_walk_r5 : List Cond := [Cond.code yX0_afterSelling cX0_afterSelling 4 (some .int), Cond.methodLink RX9 144 yX7_townOf, Cond.methodLink RX9 157 yX7_coinsTogether, Cond.static yX7_coinsTogether, Cond.code yX7_coinsTogether cX7_coinsTogether 1 (some .int), Cond.methodLink RX7 11 yX7_coinsOf, Cond.methodLink RX9 154 yX7_goodsOf, Cond.static yX7_goodsOf, Cond.code yX7_goodsOf cX7_goodsOf 1 (some .int)]
def wsX9_walk : List Cond := .code yX9_walk cX9_walk 9 (some .int) :: ((wsX9_walk_r1 ++ (wsX9_walk_r2 ++ (wsX9_walk_r3 ++ (wsX9_walk_r4 ++ wsX9_walk_r5)))) ++ wsX90 ++ wsX50 ++ wsX00 ++ wsX30)
def wsX9_image : List Cond := .code yX9_image cX9_image 2 (some .int) :: ([.fieldLink RX9 46 "OtherCoins" "image" "LOtherCoins$Image;", .fieldLink RX9 85 "OtherCoins$Image" "kept" "Z", .fieldLink RX9 88 "OtherCoins" "peopleCount" "I", .fieldLink RX9 256 "OtherCoins$Image" "peopleCount" "I", .fieldLink RX9 91 "OtherCoins" "actsDone" "I", .fieldLink RX9 257 "OtherCoins$Image" "actsDone" "I", .fieldLink RX9 258 "OtherCoins$Image" "standing" "[I", .fieldLink RX9 18 "OtherCoins" "people" "[LOtherCoins$Person;", .fieldLink RX9 138 "OtherCoins$Person" "standing" "I", .fieldLink RX9 260 "OtherCoins$Image" "price" "[I", .fieldLink RX9 53 "OtherCoins" "law" "LOtherCoins$Law;", .fieldLink RX9 114 "OtherCoins$Law" "price" "[I", .methodLink RX9 104 yX9_isLawless, .instanceMethod yX9_isLawless, .selects RX9 yX9_isLawless yX9_isLawless, .initialized RX9, .code yX9_isLawless cX9_isLawless 1 (some .boolean), .fieldLink RX9 94 "OtherCoins" "lawsRead" "I"] ++ wsX90 ++ wsX10 ++ wsX50 ++ wsX30)
def wsX9_restore : List Cond := .code yX9_restore cX9_restore 2 (some .int) :: ([.fieldLink RX9 46 "OtherCoins" "image" "LOtherCoins$Image;", .fieldLink RX9 85 "OtherCoins$Image" "kept" "Z", .fieldLink RX9 39 "OtherCoins" "trail" "LOtherCoins$Trail;", .fieldLink RX9 81 "OtherCoins$Trail" "begun" "Z", .fieldLink RX9 256 "OtherCoins$Image" "peopleCount" "I", .fieldLink RX9 88 "OtherCoins" "peopleCount" "I", .fieldLink RX9 257 "OtherCoins$Image" "actsDone" "I", .fieldLink RX9 91 "OtherCoins" "actsDone" "I", .fieldLink RX9 18 "OtherCoins" "people" "[LOtherCoins$Person;", .fieldLink RX9 258 "OtherCoins$Image" "standing" "[I", .fieldLink RX9 138 "OtherCoins$Person" "standing" "I", .fieldLink RX9 53 "OtherCoins" "law" "LOtherCoins$Law;", .fieldLink RX9 114 "OtherCoins$Law" "price" "[I", .fieldLink RX9 260 "OtherCoins$Image" "price" "[I"] ++ wsX90 ++ wsX10 ++ wsX80 ++ wsX50 ++ wsX30)
def wsX9_coinsOfAll : List Cond := .code yX9_coinsOfAll cX9_coinsOfAll 3 (some .int) :: ([.fieldLink RX9 88 "OtherCoins" "peopleCount" "I", .fieldLink RX9 18 "OtherCoins" "people" "[LOtherCoins$Person;", .fieldLink RX9 138 "OtherCoins$Person" "standing" "I", .methodLink RX9 157 yX7_coinsTogether, .static yX7_coinsTogether, .initialized RX7, .code yX7_coinsTogether cX7_coinsTogether 1 (some .int), .methodLink RX7 11 yX7_coinsOf, .static yX7_coinsOf, .code yX7_coinsOf cX7_coinsOf 2 (some .int)] ++ wsX90 ++ wsX50)
def wsX9_goodsOfAll : List Cond := .code yX9_goodsOfAll cX9_goodsOfAll 3 (some .int) :: ([.fieldLink RX9 88 "OtherCoins" "peopleCount" "I", .fieldLink RX9 18 "OtherCoins" "people" "[LOtherCoins$Person;", .fieldLink RX9 138 "OtherCoins$Person" "standing" "I", .methodLink RX9 154 yX7_goodsOf, .static yX7_goodsOf, .initialized RX7, .code yX7_goodsOf cX7_goodsOf 1 (some .int), .methodLink RX9 312 yJ6_bitCount_0f7a4, .static yJ6_bitCount_0f7a4, .initialized RJ6, .code yJ6_bitCount_0f7a4 cJ6_bitCount_0f7a4 1 (some .int), .constant RJ6 265 (1431655765), .constant RJ6 266 (858993459), .constant RJ6 267 (252645135)] ++ wsX90 ++ wsX50)
def wsX9_count_r1 : List Cond := [Cond.fieldLink RX9 88 "OtherCoins" "peopleCount" "I", Cond.fieldLink RX9 91 "OtherCoins" "actsDone" "I", Cond.fieldLink RX9 39 "OtherCoins" "trail" "LOtherCoins$Trail;", Cond.fieldLink RX9 10 "OtherCoins" "page" "LOtherCoins$Page;", Cond.fieldLink RX9 73 "OtherCoins$Page" "size" "I", Cond.fieldLink RX9 94 "OtherCoins" "lawsRead" "I", Cond.fieldLink RX9 199 "OtherCoins" "searchesDone" "I", Cond.methodLink RX9 261 yX9_coinsOfAll, Cond.instanceMethod yX9_coinsOfAll, Cond.selects RX9 yX9_coinsOfAll yX9_coinsOfAll, Cond.initialized RX9, Cond.code yX9_coinsOfAll cX9_coinsOfAll 3 (some .int), Cond.fieldLink RX9 18 "OtherCoins" "people" "[LOtherCoins$Person;", Cond.fieldLink RX9 138 "OtherCoins$Person" "standing" "I", Cond.methodLink RX9 157 yX7_coinsTogether, Cond.static yX7_coinsTogether, Cond.initialized RX7, Cond.code yX7_coinsTogether cX7_coinsTogether 1 (some .int), Cond.methodLink RX7 11 yX7_coinsOf, Cond.static yX7_coinsOf, Cond.code yX7_coinsOf cX7_coinsOf 2 (some .int), Cond.methodLink RX9 264 yX9_goodsOfAll, Cond.instanceMethod yX9_goodsOfAll, Cond.selects RX9 yX9_goodsOfAll yX9_goodsOfAll]
def wsX9_count_r2 : List Cond := [Cond.code yX9_goodsOfAll cX9_goodsOfAll 3 (some .int), Cond.methodLink RX9 154 yX7_goodsOf, Cond.static yX7_goodsOf, Cond.code yX7_goodsOf cX7_goodsOf 1 (some .int), Cond.methodLink RX9 312 yJ6_bitCount_0f7a4, Cond.static yJ6_bitCount_0f7a4, Cond.initialized RJ6, Cond.code yJ6_bitCount_0f7a4 cJ6_bitCount_0f7a4 1 (some .int), Cond.constant RJ6 265 (1431655765), Cond.constant RJ6 266 (858993459), Cond.constant RJ6 267 (252645135), Cond.methodLink RX9 222 yX8_pursesTold, Cond.instanceMethod yX8_pursesTold, Cond.selects RX8 yX8_pursesTold yX8_pursesTold, Cond.initialized RX8, Cond.code yX8_pursesTold cX8_pursesTold 1 (some .int), Cond.fieldLink RX8 32 "OtherCoins$Trail" "begun" "Z", Cond.fieldLink RX8 46 "OtherCoins$Trail" "size" "I"]
def wsX9_count : List Cond := .code yX9_count cX9_count 2 (some .int) :: ((wsX9_count_r1 ++ wsX9_count_r2) ++ wsX90 ++ wsX40 ++ wsX50 ++ wsX80)
def wsX9_fold : List Cond := .code yX9_fold cX9_fold 4 (some .long) :: ([.constantLong RX9 292 (31)])
def wsX9_foldPerson_r1 : List Cond := [Cond.fieldLink RX9 18 "OtherCoins" "people" "[LOtherCoins$Person;", Cond.fieldLink RX9 138 "OtherCoins$Person" "standing" "I", Cond.methodLink RX9 294 yX9_about, Cond.instanceMethod yX9_about, Cond.selects RX9 yX9_about yX9_about, Cond.initialized RX9, Cond.code yX9_about cX9_about 5 (some .int), Cond.fieldLink RX9 134 "OtherCoins$Person" "kind" "LOtherCoins$Kind;", Cond.fieldLink RX9 149 "OtherCoins$Kind" "number" "I", Cond.fieldLink RX9 53 "OtherCoins" "law" "LOtherCoins$Law;", Cond.fieldLink RX9 114 "OtherCoins$Law" "price" "[I", Cond.fieldLink RX9 117 "OtherCoins$Law" "pay" "[I", Cond.methodLink RX9 141 yX9_isPerson, Cond.instanceMethod yX9_isPerson, Cond.selects RX9 yX9_isPerson yX9_isPerson, Cond.code yX9_isPerson cX9_isPerson 2 (some .boolean), Cond.fieldLink RX9 88 "OtherCoins" "peopleCount" "I", Cond.methodLink RX9 144 yX7_townOf, Cond.static yX7_townOf, Cond.initialized RX7, Cond.code yX7_townOf cX7_townOf 1 (some .int), Cond.methodLink RX9 154 yX7_goodsOf, Cond.static yX7_goodsOf, Cond.code yX7_goodsOf cX7_goodsOf 1 (some .int)]
def wsX9_foldPerson_r2 : List Cond := [Cond.methodLink RX9 157 yX7_coinsTogether, Cond.static yX7_coinsTogether, Cond.code yX7_coinsTogether cX7_coinsTogether 1 (some .int), Cond.methodLink RX7 11 yX7_coinsOf, Cond.static yX7_coinsOf, Cond.code yX7_coinsOf cX7_coinsOf 2 (some .int), Cond.methodLink RX9 160 yX2_cost, Cond.instanceMethod yX2_cost, Cond.selects RX2 yX2_cost yX2_cost, Cond.initialized RX2, Cond.code yX2_cost cX2_cost 2 (some .int), Cond.fieldLink RX2 42 "OtherCoins$Kind" "costsLess" "I", Cond.methodLink RX2 52 Lib.Math.max.name, Cond.static Lib.Math.max.name, Cond.initialized "java/lang/Math", Cond.code Lib.Math.max.name Lib.Math.max.code 2 (some .int), Cond.methodLink RX9 163 yX2_gain, Cond.instanceMethod yX2_gain, Cond.selects RX2 yX2_gain yX2_gain, Cond.code yX2_gain cX2_gain 2 (some .int), Cond.fieldLink RX2 45 "OtherCoins$Kind" "getsMore" "I", Cond.methodLink RX9 166 yX9_isCoin, Cond.static yX9_isCoin, Cond.code yX9_isCoin cX9_isCoin 1 (some .boolean)]
def wsX9_foldPerson_r3 : List Cond := [Cond.methodLink RX9 169 yX7_coinsOf, Cond.methodLink RX9 272 yX9_fold, Cond.static yX9_fold, Cond.code yX9_fold cX9_fold 4 (some .long), Cond.constantLong RX9 292 (31), Cond.methodLink RX9 297 yX9_dead, Cond.instanceMethod yX9_dead, Cond.selects RX9 yX9_dead yX9_dead, Cond.code yX9_dead cX9_dead 5 (some .int), Cond.methodLink RX9 184 yX9_dealFor, Cond.instanceMethod yX9_dealFor, Cond.selects RX9 yX9_dealFor yX9_dealFor, Cond.code yX9_dealFor cX9_dealFor 2 (some (.object "OtherCoins$Deal")), Cond.fieldLink RX9 25 "OtherCoins" "deal" "LOtherCoins$Deal;", Cond.methodLink RX9 235 yX0_set, Cond.instanceMethod yX0_set, Cond.selects RX0 yX0_set yX0_set, Cond.initialized RX0, Cond.code yX0_set cX0_set 4 (some (.object "OtherCoins$Deal")), Cond.fieldLink RX0 9 "OtherCoins$Deal" "cost" "[I", Cond.fieldLink RX0 24 "OtherCoins$Law" "price" "[I", Cond.fieldLink RX0 15 "OtherCoins$Deal" "gets" "[I", Cond.fieldLink RX0 34 "OtherCoins$Law" "pay" "[I", Cond.fieldLink RX0 18 "OtherCoins$Deal" "gives" "[I"]
def wsX9_foldPerson_r4 : List Cond := [Cond.fieldLink RX0 40 "OtherCoins$Law" "gives" "[I", Cond.fieldLink RX0 21 "OtherCoins$Deal" "payable" "[I", Cond.fieldLink RX0 41 "OtherCoins$Kind" "paysWithAny" "Z", Cond.fieldLink RX0 45 "OtherCoins$Law" "takes" "[I", Cond.methodLink RX0 29 yX2_cost, Cond.methodLink RX0 37 yX2_gain, Cond.methodLink RX9 215 yX0_paysAnywhere, Cond.instanceMethod yX0_paysAnywhere, Cond.selects RX0 yX0_paysAnywhere yX0_paysAnywhere, Cond.code yX0_paysAnywhere cX0_paysAnywhere 2 (some .boolean), Cond.methodLink RX9 300 yX0_actsOpen, Cond.instanceMethod yX0_actsOpen, Cond.selects RX0 yX0_actsOpen yX0_actsOpen, Cond.code yX0_actsOpen cX0_actsOpen 7 (some .int), Cond.methodLink RX0 61 yX0_after, Cond.instanceMethod yX0_after, Cond.selects RX0 yX0_after yX0_after, Cond.code yX0_after cX0_after 3 (some .int), Cond.methodLink RX0 48 yX0_afterGoing, Cond.static yX0_afterGoing, Cond.code yX0_afterGoing cX0_afterGoing 3 (some .int), Cond.methodLink RX0 67 yX7_townOf, Cond.methodLink RX0 72 yX7_withTown, Cond.static yX7_withTown]
def wsX9_foldPerson_r5 : List Cond := [Cond.code yX7_withTown cX7_withTown 2 (some .int), Cond.methodLink RX0 52 yX0_afterBuying, Cond.instanceMethod yX0_afterBuying, Cond.selects RX0 yX0_afterBuying yX0_afterBuying, Cond.code yX0_afterBuying cX0_afterBuying 4 (some .int), Cond.methodLink RX0 75 yX7_hasGood, Cond.static yX7_hasGood, Cond.code yX7_hasGood cX7_hasGood 2 (some .boolean), Cond.methodLink RX0 79 yX7_coinsOf, Cond.methodLink RX0 82 yX0_canPay, Cond.instanceMethod yX0_canPay, Cond.selects RX0 yX0_canPay yX0_canPay, Cond.code yX0_canPay cX0_canPay 5 (some .boolean), Cond.methodLink RX0 86 yX7_withMore, Cond.static yX7_withMore, Cond.code yX7_withMore cX7_withMore 3 (some .int), Cond.methodLink RX0 90 yX7_withOtherGood, Cond.static yX7_withOtherGood, Cond.code yX7_withOtherGood cX7_withOtherGood 2 (some .int), Cond.methodLink RX0 55 yX0_afterSelling, Cond.instanceMethod yX0_afterSelling, Cond.selects RX0 yX0_afterSelling yX0_afterSelling, Cond.code yX0_afterSelling cX0_afterSelling 4 (some .int)]
def wsX9_foldPerson : List Cond := .code yX9_foldPerson cX9_foldPerson 7 (some .long) :: ((wsX9_foldPerson_r1 ++ (wsX9_foldPerson_r2 ++ (wsX9_foldPerson_r3 ++ (wsX9_foldPerson_r4 ++ wsX9_foldPerson_r5)))) ++ wsX90 ++ wsX50 ++ wsX30 ++ wsX00)
def wsX9_digest_r1 : List Cond := [Cond.constantLong RX9 267 (677), Cond.fieldLink RX9 88 "OtherCoins" "peopleCount" "I", Cond.fieldLink RX9 39 "OtherCoins" "trail" "LOtherCoins$Trail;", Cond.fieldLink RX9 81 "OtherCoins$Trail" "begun" "Z", Cond.fieldLink RX9 10 "OtherCoins" "page" "LOtherCoins$Page;", Cond.fieldLink RX9 73 "OtherCoins$Page" "size" "I", Cond.fieldLink RX9 286 "OtherCoins$Page" "codes" "[I", Cond.methodLink RX9 104 yX9_isLawless, Cond.instanceMethod yX9_isLawless, Cond.selects RX9 yX9_isLawless yX9_isLawless, Cond.initialized RX9, Cond.code yX9_isLawless cX9_isLawless 1 (some .boolean), Cond.fieldLink RX9 94 "OtherCoins" "lawsRead" "I", Cond.methodLink RX9 269 yX9_town, Cond.instanceMethod yX9_town, Cond.selects RX9 yX9_town yX9_town, Cond.code yX9_town cX9_town 3 (some .int), Cond.fieldLink RX9 53 "OtherCoins" "law" "LOtherCoins$Law;", Cond.fieldLink RX9 107 "OtherCoins$Law" "takes" "[I", Cond.fieldLink RX9 111 "OtherCoins$Law" "gives" "[I", Cond.fieldLink RX9 114 "OtherCoins$Law" "price" "[I", Cond.fieldLink RX9 117 "OtherCoins$Law" "pay" "[I", Cond.methodLink RX9 100 yX9_isTown, Cond.static yX9_isTown]
def wsX9_digest_r2 : List Cond := [Cond.code yX9_isTown cX9_isTown 1 (some .boolean), Cond.methodLink RX9 120 yX9_peopleIn, Cond.instanceMethod yX9_peopleIn, Cond.selects RX9 yX9_peopleIn yX9_peopleIn, Cond.code yX9_peopleIn cX9_peopleIn 4 (some .int), Cond.fieldLink RX9 18 "OtherCoins" "people" "[LOtherCoins$Person;", Cond.fieldLink RX9 138 "OtherCoins$Person" "standing" "I", Cond.methodLink RX9 144 yX7_townOf, Cond.static yX7_townOf, Cond.initialized RX7, Cond.code yX7_townOf cX7_townOf 1 (some .int), Cond.methodLink RX9 272 yX9_fold, Cond.static yX9_fold, Cond.code yX9_fold cX9_fold 4 (some .long), Cond.constantLong RX9 292 (31), Cond.methodLink RX9 276 yX9_foldPerson, Cond.instanceMethod yX9_foldPerson, Cond.selects RX9 yX9_foldPerson yX9_foldPerson, Cond.code yX9_foldPerson cX9_foldPerson 7 (some .long), Cond.methodLink RX9 294 yX9_about, Cond.instanceMethod yX9_about, Cond.selects RX9 yX9_about yX9_about, Cond.code yX9_about cX9_about 5 (some .int), Cond.fieldLink RX9 134 "OtherCoins$Person" "kind" "LOtherCoins$Kind;"]
def wsX9_digest_r3 : List Cond := [Cond.fieldLink RX9 149 "OtherCoins$Kind" "number" "I", Cond.methodLink RX9 141 yX9_isPerson, Cond.instanceMethod yX9_isPerson, Cond.selects RX9 yX9_isPerson yX9_isPerson, Cond.code yX9_isPerson cX9_isPerson 2 (some .boolean), Cond.methodLink RX9 154 yX7_goodsOf, Cond.static yX7_goodsOf, Cond.code yX7_goodsOf cX7_goodsOf 1 (some .int), Cond.methodLink RX9 157 yX7_coinsTogether, Cond.static yX7_coinsTogether, Cond.code yX7_coinsTogether cX7_coinsTogether 1 (some .int), Cond.methodLink RX7 11 yX7_coinsOf, Cond.static yX7_coinsOf, Cond.code yX7_coinsOf cX7_coinsOf 2 (some .int), Cond.methodLink RX9 160 yX2_cost, Cond.instanceMethod yX2_cost, Cond.selects RX2 yX2_cost yX2_cost, Cond.initialized RX2, Cond.code yX2_cost cX2_cost 2 (some .int), Cond.fieldLink RX2 42 "OtherCoins$Kind" "costsLess" "I", Cond.methodLink RX2 52 Lib.Math.max.name, Cond.static Lib.Math.max.name, Cond.initialized "java/lang/Math", Cond.code Lib.Math.max.name Lib.Math.max.code 2 (some .int)]
def wsX9_digest_r4 : List Cond := [Cond.methodLink RX9 163 yX2_gain, Cond.instanceMethod yX2_gain, Cond.selects RX2 yX2_gain yX2_gain, Cond.code yX2_gain cX2_gain 2 (some .int), Cond.fieldLink RX2 45 "OtherCoins$Kind" "getsMore" "I", Cond.methodLink RX9 166 yX9_isCoin, Cond.static yX9_isCoin, Cond.code yX9_isCoin cX9_isCoin 1 (some .boolean), Cond.methodLink RX9 169 yX7_coinsOf, Cond.methodLink RX9 297 yX9_dead, Cond.instanceMethod yX9_dead, Cond.selects RX9 yX9_dead yX9_dead, Cond.code yX9_dead cX9_dead 5 (some .int), Cond.methodLink RX9 184 yX9_dealFor, Cond.instanceMethod yX9_dealFor, Cond.selects RX9 yX9_dealFor yX9_dealFor, Cond.code yX9_dealFor cX9_dealFor 2 (some (.object "OtherCoins$Deal")), Cond.fieldLink RX9 25 "OtherCoins" "deal" "LOtherCoins$Deal;", Cond.methodLink RX9 235 yX0_set, Cond.instanceMethod yX0_set, Cond.selects RX0 yX0_set yX0_set, Cond.initialized RX0, Cond.code yX0_set cX0_set 4 (some (.object "OtherCoins$Deal")), Cond.fieldLink RX0 9 "OtherCoins$Deal" "cost" "[I"]
def wsX9_digest_r5 : List Cond := [Cond.fieldLink RX0 24 "OtherCoins$Law" "price" "[I", Cond.fieldLink RX0 15 "OtherCoins$Deal" "gets" "[I", Cond.fieldLink RX0 34 "OtherCoins$Law" "pay" "[I", Cond.fieldLink RX0 18 "OtherCoins$Deal" "gives" "[I", Cond.fieldLink RX0 40 "OtherCoins$Law" "gives" "[I", Cond.fieldLink RX0 21 "OtherCoins$Deal" "payable" "[I", Cond.fieldLink RX0 41 "OtherCoins$Kind" "paysWithAny" "Z", Cond.fieldLink RX0 45 "OtherCoins$Law" "takes" "[I", Cond.methodLink RX0 29 yX2_cost, Cond.methodLink RX0 37 yX2_gain, Cond.methodLink RX9 215 yX0_paysAnywhere, Cond.instanceMethod yX0_paysAnywhere, Cond.selects RX0 yX0_paysAnywhere yX0_paysAnywhere, Cond.code yX0_paysAnywhere cX0_paysAnywhere 2 (some .boolean), Cond.methodLink RX9 300 yX0_actsOpen, Cond.instanceMethod yX0_actsOpen, Cond.selects RX0 yX0_actsOpen yX0_actsOpen, Cond.code yX0_actsOpen cX0_actsOpen 7 (some .int), Cond.methodLink RX0 61 yX0_after, Cond.instanceMethod yX0_after, Cond.selects RX0 yX0_after yX0_after, Cond.code yX0_after cX0_after 3 (some .int), Cond.methodLink RX0 48 yX0_afterGoing, Cond.static yX0_afterGoing]
def wsX9_digest_r6 : List Cond := [Cond.code yX0_afterGoing cX0_afterGoing 3 (some .int), Cond.methodLink RX0 67 yX7_townOf, Cond.methodLink RX0 72 yX7_withTown, Cond.static yX7_withTown, Cond.code yX7_withTown cX7_withTown 2 (some .int), Cond.methodLink RX0 52 yX0_afterBuying, Cond.instanceMethod yX0_afterBuying, Cond.selects RX0 yX0_afterBuying yX0_afterBuying, Cond.code yX0_afterBuying cX0_afterBuying 4 (some .int), Cond.methodLink RX0 75 yX7_hasGood, Cond.static yX7_hasGood, Cond.code yX7_hasGood cX7_hasGood 2 (some .boolean), Cond.methodLink RX0 79 yX7_coinsOf, Cond.methodLink RX0 82 yX0_canPay, Cond.instanceMethod yX0_canPay, Cond.selects RX0 yX0_canPay yX0_canPay, Cond.code yX0_canPay cX0_canPay 5 (some .boolean), Cond.methodLink RX0 86 yX7_withMore, Cond.static yX7_withMore, Cond.code yX7_withMore cX7_withMore 3 (some .int), Cond.methodLink RX0 90 yX7_withOtherGood, Cond.static yX7_withOtherGood, Cond.code yX7_withOtherGood cX7_withOtherGood 2 (some .int), Cond.methodLink RX0 55 yX0_afterSelling]
def wsX9_digest_r7 : List Cond := [Cond.instanceMethod yX0_afterSelling, Cond.selects RX0 yX0_afterSelling yX0_afterSelling, Cond.code yX0_afterSelling cX0_afterSelling 4 (some .int), Cond.methodLink RX9 280 yX9_ways, Cond.instanceMethod yX9_ways, Cond.selects RX9 yX9_ways yX9_ways, Cond.code yX9_ways cX9_ways 1 (some .int), Cond.fieldLink RX9 234 "OtherCoins$Trail" "kind" "LOtherCoins$Kind;", Cond.methodLink RX9 239 yX8_follow, Cond.instanceMethod yX8_follow, Cond.selects RX8 yX8_follow yX8_follow, Cond.initialized RX8, Cond.code yX8_follow cX8_follow 4 none, Cond.fieldLink RX8 17 "OtherCoins$Trail" "rowsTo" "[I", Cond.fieldLink RX8 43 "OtherCoins$Trail" "start" "I", Cond.fieldLink RX8 46 "OtherCoins$Trail" "size" "I", Cond.fieldLink RX8 9 "OtherCoins$Trail" "purses" "[I", Cond.methodLink RX8 49 yJ7_fill_53178, Cond.static yJ7_fill_53178, Cond.initialized RJ7, Cond.code yJ7_fill_53178 cJ7_fill_53178 4 none, Cond.methodLink RX8 55 yX7_placeOf, Cond.static yX7_placeOf, Cond.code yX7_placeOf cX7_placeOf 1 (some .int)]
def wsX9_digest_r8 : List Cond := [Cond.methodLink RX8 59 yX7_withoutPlace, Cond.static yX7_withoutPlace, Cond.code yX7_withoutPlace cX7_withoutPlace 1 (some .int), Cond.methodLink RX8 62 yX8_followAct, Cond.instanceMethod yX8_followAct, Cond.selects RX8 yX8_followAct yX8_followAct, Cond.code yX8_followAct cX8_followAct 10 none, Cond.fieldLink RX8 20 "OtherCoins$Trail" "rowsBehind" "[I", Cond.methodLink RX8 74 yX0_after, Cond.methodLink RX9 243 yX8_rows, Cond.instanceMethod yX8_rows, Cond.selects RX8 yX8_rows yX8_rows, Cond.code yX8_rows cX8_rows 3 (some .int), Cond.methodLink RX9 283 yX9_ends, Cond.instanceMethod yX9_ends, Cond.selects RX9 yX9_ends yX9_ends, Cond.code yX9_ends cX9_ends 1 (some .int), Cond.methodLink RX9 246 yX8_towns, Cond.instanceMethod yX8_towns, Cond.selects RX8 yX8_towns yX8_towns, Cond.code yX8_towns cX8_towns 3 (some .int), Cond.methodLink RX8 66 yX7_townOf, Cond.methodLink RX9 289 yX9_count, Cond.instanceMethod yX9_count]
def wsX9_digest_r9 : List Cond := [Cond.selects RX9 yX9_count yX9_count, Cond.code yX9_count cX9_count 2 (some .int), Cond.fieldLink RX9 91 "OtherCoins" "actsDone" "I", Cond.fieldLink RX9 199 "OtherCoins" "searchesDone" "I", Cond.methodLink RX9 261 yX9_coinsOfAll, Cond.instanceMethod yX9_coinsOfAll, Cond.selects RX9 yX9_coinsOfAll yX9_coinsOfAll, Cond.code yX9_coinsOfAll cX9_coinsOfAll 3 (some .int), Cond.methodLink RX9 264 yX9_goodsOfAll, Cond.instanceMethod yX9_goodsOfAll, Cond.selects RX9 yX9_goodsOfAll yX9_goodsOfAll, Cond.code yX9_goodsOfAll cX9_goodsOfAll 3 (some .int), Cond.methodLink RX9 312 yJ6_bitCount_0f7a4, Cond.static yJ6_bitCount_0f7a4, Cond.initialized RJ6, Cond.code yJ6_bitCount_0f7a4 cJ6_bitCount_0f7a4 1 (some .int), Cond.constant RJ6 265 (1431655765), Cond.constant RJ6 266 (858993459), Cond.constant RJ6 267 (252645135), Cond.methodLink RX9 222 yX8_pursesTold, Cond.instanceMethod yX8_pursesTold, Cond.selects RX8 yX8_pursesTold yX8_pursesTold, Cond.code yX8_pursesTold cX8_pursesTold 1 (some .int), Cond.fieldLink RX8 32 "OtherCoins$Trail" "begun" "Z"]
def wsX9_digest : List Cond := .code yX9_digest cX9_digest 5 (some .long) :: ((wsX9_digest_r1 ++ (wsX9_digest_r2 ++ (wsX9_digest_r3 ++ (wsX9_digest_r4 ++ (wsX9_digest_r5 ++ (wsX9_digest_r6 ++ (wsX9_digest_r7 ++ (wsX9_digest_r8 ++ wsX9_digest_r9)))))))) ++ wsX90 ++ wsX80 ++ wsX40 ++ wsX30 ++ wsX50 ++ wsX00)
def wsX10_init_r1 : List Cond := [Cond.methodLink RX10 1 objectInit, Cond.instanceMethod objectInit, Cond.code objectInit ⟨#[0xb1]⟩ 1 none, Cond.arrayClass .int, Cond.fieldLink RX10 7 "OtherCoinsModel" "takesOf" "[I", Cond.fieldLink RX10 13 "OtherCoinsModel" "givesOf" "[I", Cond.fieldLink RX10 16 "OtherCoinsModel" "priceOf" "[I", Cond.fieldLink RX10 19 "OtherCoinsModel" "payOf" "[I", Cond.fieldLink RX10 22 "OtherCoinsModel" "kindOf" "[I", Cond.fieldLink RX10 25 "OtherCoinsModel" "standsOf" "[I", Cond.fieldLink RX10 28 "OtherCoinsModel" "trailOf" "I", Cond.fieldLink RX10 32 "OtherCoinsModel" "trailPurse" "[I", Cond.arrayClass .byte, Cond.fieldLink RX10 35 "OtherCoinsModel" "page" "[B", Cond.fieldLink RX10 39 "OtherCoinsModel" "newTakes" "[I", Cond.fieldLink RX10 42 "OtherCoinsModel" "newGives" "[I", Cond.fieldLink RX10 45 "OtherCoinsModel" "newPrice" "[I", Cond.fieldLink RX10 48 "OtherCoinsModel" "newPay" "[I", Cond.constant RX10 51 (40000), Cond.fieldLink RX10 52 "OtherCoinsModel" "firstOf" "[B", Cond.fieldLink RX10 55 "OtherCoinsModel" "queue" "[I", Cond.fieldLink RX10 58 "OtherCoinsModel" "waysOf" "[I", Cond.fieldLink RX10 61 "OtherCoinsModel" "waysThen" "[I", Cond.fieldLink RX10 64 "OtherCoinsModel" "keptStands" "[I"]
def wsX10_init_r2 : List Cond := [Cond.fieldLink RX10 67 "OtherCoinsModel" "keptPrice" "[I"]
def wsX10_init : List Cond := .code yX10_init cX10_init 1 none :: ((wsX10_init_r1 ++ wsX10_init_r2) ++ wsX100)
def wsX10_within : List Cond := .code yX10_within cX10_within 3 (some .boolean) :: ([])
def wsX10_has : List Cond := .code yX10_has cX10_has 2 (some .boolean) :: ([])
def wsX10_size : List Cond := .code yX10_size cX10_size 3 (some .int) :: ([])
def wsX10_letters : List Cond := .code yX10_letters cX10_letters 7 (some .int) :: ([.constantLong RX10 70 (255), .fieldLink RX10 72 "OtherCoinsModel" "pageLength" "I", .fieldLink RX10 35 "OtherCoinsModel" "page" "[B"] ++ wsX100)
def wsX10_blank : List Cond := .code yX10_blank cX10_blank 2 (some .int) :: ([.fieldLink RX10 72 "OtherCoinsModel" "pageLength" "I"] ++ wsX100)
def wsX10_nextState : List Cond := .code yX10_nextState cX10_nextState 5 (some .int) :: ([.fieldLink RX10 79 "OtherCoinsModel" "newTown" "I", .fieldLink RX10 39 "OtherCoinsModel" "newTakes" "[I", .fieldLink RX10 42 "OtherCoinsModel" "newGives" "[I", .fieldLink RX10 45 "OtherCoinsModel" "newPrice" "[I", .fieldLink RX10 48 "OtherCoinsModel" "newPay" "[I", .methodLink RX10 75 yX10_within, .static yX10_within, .initialized RX10, .code yX10_within cX10_within 3 (some .boolean), .methodLink RX10 82 yX10_has, .static yX10_has, .code yX10_has cX10_has 2 (some .boolean)] ++ wsX100)
def wsX10_readLaw : List Cond := .code yX10_readLaw cX10_readLaw 5 none :: ([.fieldLink RX10 79 "OtherCoinsModel" "newTown" "I", .fieldLink RX10 39 "OtherCoinsModel" "newTakes" "[I", .fieldLink RX10 72 "OtherCoinsModel" "pageLength" "I", .fieldLink RX10 35 "OtherCoinsModel" "page" "[B", .fieldLink RX10 90 "OtherCoinsModel" "faultAt" "I", .fieldLink RX10 93 "OtherCoinsModel" "isWhole" "Z", .methodLink RX10 86 yX10_nextState, .instanceMethod yX10_nextState, .selects RX10 yX10_nextState yX10_nextState, .initialized RX10, .code yX10_nextState cX10_nextState 5 (some .int), .fieldLink RX10 42 "OtherCoinsModel" "newGives" "[I", .fieldLink RX10 45 "OtherCoinsModel" "newPrice" "[I", .fieldLink RX10 48 "OtherCoinsModel" "newPay" "[I", .methodLink RX10 75 yX10_within, .static yX10_within, .code yX10_within cX10_within 3 (some .boolean), .methodLink RX10 82 yX10_has, .static yX10_has, .code yX10_has cX10_has 2 (some .boolean)] ++ wsX100)
def wsX10_fault : List Cond := .code yX10_fault cX10_fault 1 (some .int) :: ([.fieldLink RX10 90 "OtherCoinsModel" "faultAt" "I", .methodLink RX10 97 yX10_readLaw, .instanceMethod yX10_readLaw, .selects RX10 yX10_readLaw yX10_readLaw, .initialized RX10, .code yX10_readLaw cX10_readLaw 5 none, .fieldLink RX10 79 "OtherCoinsModel" "newTown" "I", .fieldLink RX10 39 "OtherCoinsModel" "newTakes" "[I", .fieldLink RX10 72 "OtherCoinsModel" "pageLength" "I", .fieldLink RX10 35 "OtherCoinsModel" "page" "[B", .fieldLink RX10 93 "OtherCoinsModel" "isWhole" "Z", .methodLink RX10 86 yX10_nextState, .instanceMethod yX10_nextState, .selects RX10 yX10_nextState yX10_nextState, .code yX10_nextState cX10_nextState 5 (some .int), .fieldLink RX10 42 "OtherCoinsModel" "newGives" "[I", .fieldLink RX10 45 "OtherCoinsModel" "newPrice" "[I", .fieldLink RX10 48 "OtherCoinsModel" "newPay" "[I", .methodLink RX10 75 yX10_within, .static yX10_within, .code yX10_within cX10_within 3 (some .boolean), .methodLink RX10 82 yX10_has, .static yX10_has, .code yX10_has cX10_has 2 (some .boolean)] ++ wsX100)
def wsX10_law_r1 : List Cond := [Cond.fieldLink RX10 93 "OtherCoinsModel" "isWhole" "Z", Cond.fieldLink RX10 7 "OtherCoinsModel" "takesOf" "[I", Cond.fieldLink RX10 39 "OtherCoinsModel" "newTakes" "[I", Cond.fieldLink RX10 13 "OtherCoinsModel" "givesOf" "[I", Cond.fieldLink RX10 42 "OtherCoinsModel" "newGives" "[I", Cond.fieldLink RX10 16 "OtherCoinsModel" "priceOf" "[I", Cond.fieldLink RX10 45 "OtherCoinsModel" "newPrice" "[I", Cond.fieldLink RX10 19 "OtherCoinsModel" "payOf" "[I", Cond.fieldLink RX10 48 "OtherCoinsModel" "newPay" "[I", Cond.fieldLink RX10 104 "OtherCoinsModel" "isLaw" "Z", Cond.fieldLink RX10 107 "OtherCoinsModel" "laws" "I", Cond.fieldLink RX10 110 "OtherCoinsModel" "people" "I", Cond.fieldLink RX10 113 "OtherCoinsModel" "acts" "I", Cond.fieldLink RX10 28 "OtherCoinsModel" "trailOf" "I", Cond.fieldLink RX10 116 "OtherCoinsModel" "trailMany" "I", Cond.fieldLink RX10 72 "OtherCoinsModel" "pageLength" "I", Cond.methodLink RX10 97 yX10_readLaw, Cond.instanceMethod yX10_readLaw, Cond.selects RX10 yX10_readLaw yX10_readLaw, Cond.initialized RX10, Cond.code yX10_readLaw cX10_readLaw 5 none, Cond.fieldLink RX10 79 "OtherCoinsModel" "newTown" "I", Cond.fieldLink RX10 35 "OtherCoinsModel" "page" "[B", Cond.fieldLink RX10 90 "OtherCoinsModel" "faultAt" "I"]
def wsX10_law_r2 : List Cond := [Cond.methodLink RX10 86 yX10_nextState, Cond.instanceMethod yX10_nextState, Cond.selects RX10 yX10_nextState yX10_nextState, Cond.code yX10_nextState cX10_nextState 5 (some .int), Cond.methodLink RX10 75 yX10_within, Cond.static yX10_within, Cond.code yX10_within cX10_within 3 (some .boolean), Cond.methodLink RX10 82 yX10_has, Cond.static yX10_has, Cond.code yX10_has cX10_has 2 (some .boolean), Cond.methodLink RX10 100 yX10_size, Cond.static yX10_size, Cond.code yX10_size cX10_size 3 (some .int)]
def wsX10_law : List Cond := .code yX10_law cX10_law 3 (some .int) :: ((wsX10_law_r1 ++ wsX10_law_r2) ++ wsX100)
def wsX10_isTown : List Cond := .code yX10_isTown cX10_isTown 1 (some .boolean) :: ([.methodLink RX10 75 yX10_within, .static yX10_within, .initialized RX10, .code yX10_within cX10_within 3 (some .boolean)])
def wsX10_townIn : List Cond := .code yX10_townIn cX10_townIn 1 (some .int) :: ([])
def wsX10_townNow : List Cond := .code yX10_townNow cX10_townNow 5 (some .int) :: ([.fieldLink RX10 7 "OtherCoinsModel" "takesOf" "[I", .fieldLink RX10 13 "OtherCoinsModel" "givesOf" "[I", .fieldLink RX10 16 "OtherCoinsModel" "priceOf" "[I", .fieldLink RX10 19 "OtherCoinsModel" "payOf" "[I", .fieldLink RX10 110 "OtherCoinsModel" "people" "I", .fieldLink RX10 25 "OtherCoinsModel" "standsOf" "[I", .methodLink RX10 119 yX10_townIn, .static yX10_townIn, .initialized RX10, .code yX10_townIn cX10_townIn 1 (some .int)] ++ wsX100)
def wsX10_town : List Cond := .code yX10_town cX10_town 3 (some .int) :: ([.fieldLink RX10 104 "OtherCoinsModel" "isLaw" "Z", .methodLink RX10 122 yX10_isTown, .static yX10_isTown, .initialized RX10, .code yX10_isTown cX10_isTown 1 (some .boolean), .methodLink RX10 75 yX10_within, .static yX10_within, .code yX10_within cX10_within 3 (some .boolean), .methodLink RX10 126 yX10_townNow, .instanceMethod yX10_townNow, .selects RX10 yX10_townNow yX10_townNow, .code yX10_townNow cX10_townNow 5 (some .int), .fieldLink RX10 7 "OtherCoinsModel" "takesOf" "[I", .fieldLink RX10 13 "OtherCoinsModel" "givesOf" "[I", .fieldLink RX10 16 "OtherCoinsModel" "priceOf" "[I", .fieldLink RX10 19 "OtherCoinsModel" "payOf" "[I", .fieldLink RX10 110 "OtherCoinsModel" "people" "I", .fieldLink RX10 25 "OtherCoinsModel" "standsOf" "[I", .methodLink RX10 119 yX10_townIn, .static yX10_townIn, .code yX10_townIn cX10_townIn 1 (some .int)] ++ wsX100)
def wsX10_price : List Cond := .code yX10_price cX10_price 4 (some .int) :: ([.fieldLink RX10 104 "OtherCoinsModel" "isLaw" "Z", .fieldLink RX10 16 "OtherCoinsModel" "priceOf" "[I", .methodLink RX10 122 yX10_isTown, .static yX10_isTown, .initialized RX10, .code yX10_isTown cX10_isTown 1 (some .boolean), .methodLink RX10 75 yX10_within, .static yX10_within, .code yX10_within cX10_within 3 (some .boolean)] ++ wsX100)
def wsX10_purseIn : List Cond := .code yX10_purseIn cX10_purseIn 1 (some .int) :: ([])
def wsX10_goodsIn : List Cond := .code yX10_goodsIn cX10_goodsIn 1 (some .int) :: ([])
def wsX10_weight : List Cond := .code yX10_weight cX10_weight 1 (some .int) :: ([])
def wsX10_coins : List Cond := .code yX10_coins cX10_coins 2 (some .int) :: ([.methodLink RX10 129 yX10_purseIn, .static yX10_purseIn, .initialized RX10, .code yX10_purseIn cX10_purseIn 1 (some .int), .methodLink RX10 132 yX10_weight, .static yX10_weight, .code yX10_weight cX10_weight 1 (some .int)])
def wsX10_coinsAll : List Cond := .code yX10_coinsAll cX10_coinsAll 1 (some .int) :: ([.methodLink RX10 135 yX10_coins, .static yX10_coins, .initialized RX10, .code yX10_coins cX10_coins 2 (some .int), .methodLink RX10 129 yX10_purseIn, .static yX10_purseIn, .code yX10_purseIn cX10_purseIn 1 (some .int), .methodLink RX10 132 yX10_weight, .static yX10_weight, .code yX10_weight cX10_weight 1 (some .int)])
def wsX10_withCoins : List Cond := .code yX10_withCoins cX10_withCoins 3 (some .int) :: ([.methodLink RX10 132 yX10_weight, .static yX10_weight, .initialized RX10, .code yX10_weight cX10_weight 1 (some .int)])
def wsX10_costs : List Cond := .code yX10_costs cX10_costs 3 (some .int) :: ([.fieldLink RX10 16 "OtherCoinsModel" "priceOf" "[I"] ++ wsX100)
def wsX10_gets : List Cond := .code yX10_gets cX10_gets 3 (some .int) :: ([.fieldLink RX10 19 "OtherCoinsModel" "payOf" "[I"] ++ wsX100)
def wsX10_mayPay : List Cond := .code yX10_mayPay cX10_mayPay 4 (some .boolean) :: ([.fieldLink RX10 7 "OtherCoinsModel" "takesOf" "[I", .methodLink RX10 82 yX10_has, .static yX10_has, .initialized RX10, .code yX10_has cX10_has 2 (some .boolean)] ++ wsX100)
def wsX10_behind_r1 : List Cond := [Cond.fieldLink RX10 13 "OtherCoinsModel" "givesOf" "[I", Cond.methodLink RX10 119 yX10_townIn, Cond.static yX10_townIn, Cond.initialized RX10, Cond.code yX10_townIn cX10_townIn 1 (some .int), Cond.methodLink RX10 138 yX10_mayPay, Cond.instanceMethod yX10_mayPay, Cond.selects RX10 yX10_mayPay yX10_mayPay, Cond.code yX10_mayPay cX10_mayPay 4 (some .boolean), Cond.fieldLink RX10 7 "OtherCoinsModel" "takesOf" "[I", Cond.methodLink RX10 82 yX10_has, Cond.static yX10_has, Cond.code yX10_has cX10_has 2 (some .boolean), Cond.methodLink RX10 141 yX10_goodsIn, Cond.static yX10_goodsIn, Cond.code yX10_goodsIn cX10_goodsIn 1 (some .int), Cond.methodLink RX10 135 yX10_coins, Cond.static yX10_coins, Cond.code yX10_coins cX10_coins 2 (some .int), Cond.methodLink RX10 129 yX10_purseIn, Cond.static yX10_purseIn, Cond.code yX10_purseIn cX10_purseIn 1 (some .int), Cond.methodLink RX10 132 yX10_weight, Cond.static yX10_weight]
def wsX10_behind_r2 : List Cond := [Cond.code yX10_weight cX10_weight 1 (some .int), Cond.methodLink RX10 144 yX10_costs, Cond.instanceMethod yX10_costs, Cond.selects RX10 yX10_costs yX10_costs, Cond.code yX10_costs cX10_costs 3 (some .int), Cond.fieldLink RX10 16 "OtherCoinsModel" "priceOf" "[I", Cond.methodLink RX10 147 yX10_withCoins, Cond.static yX10_withCoins, Cond.code yX10_withCoins cX10_withCoins 3 (some .int), Cond.methodLink RX10 151 yX10_gets, Cond.instanceMethod yX10_gets, Cond.selects RX10 yX10_gets yX10_gets, Cond.code yX10_gets cX10_gets 3 (some .int), Cond.fieldLink RX10 19 "OtherCoinsModel" "payOf" "[I"]
def wsX10_behind : List Cond := .code yX10_behind cX10_behind 7 (some .int) :: ((wsX10_behind_r1 ++ wsX10_behind_r2) ++ wsX100)
def wsX10_isAct : List Cond := .code yX10_isAct cX10_isAct 1 (some .boolean) :: ([.methodLink RX10 75 yX10_within, .static yX10_within, .initialized RX10, .code yX10_within cX10_within 3 (some .boolean)])
def wsX10_isPerson : List Cond := .code yX10_isPerson cX10_isPerson 2 (some .boolean) :: ([.fieldLink RX10 110 "OtherCoinsModel" "people" "I", .methodLink RX10 75 yX10_within, .static yX10_within, .initialized RX10, .code yX10_within cX10_within 3 (some .boolean)] ++ wsX100)
def wsX10_person : List Cond := .code yX10_person cX10_person 3 (some .int) :: ([.fieldLink RX10 104 "OtherCoinsModel" "isLaw" "Z", .fieldLink RX10 110 "OtherCoinsModel" "people" "I", .fieldLink RX10 22 "OtherCoinsModel" "kindOf" "[I", .fieldLink RX10 25 "OtherCoinsModel" "standsOf" "[I", .methodLink RX10 122 yX10_isTown, .static yX10_isTown, .initialized RX10, .code yX10_isTown cX10_isTown 1 (some .boolean), .methodLink RX10 75 yX10_within, .static yX10_within, .code yX10_within cX10_within 3 (some .boolean)] ++ wsX100)
def wsX10_personNow_r1 : List Cond := [Cond.fieldLink RX10 25 "OtherCoinsModel" "standsOf" "[I", Cond.fieldLink RX10 22 "OtherCoinsModel" "kindOf" "[I", Cond.methodLink RX10 119 yX10_townIn, Cond.static yX10_townIn, Cond.initialized RX10, Cond.code yX10_townIn cX10_townIn 1 (some .int), Cond.methodLink RX10 141 yX10_goodsIn, Cond.static yX10_goodsIn, Cond.code yX10_goodsIn cX10_goodsIn 1 (some .int), Cond.methodLink RX10 154 yX10_coinsAll, Cond.static yX10_coinsAll, Cond.code yX10_coinsAll cX10_coinsAll 1 (some .int), Cond.methodLink RX10 135 yX10_coins, Cond.static yX10_coins, Cond.code yX10_coins cX10_coins 2 (some .int), Cond.methodLink RX10 129 yX10_purseIn, Cond.static yX10_purseIn, Cond.code yX10_purseIn cX10_purseIn 1 (some .int), Cond.methodLink RX10 132 yX10_weight, Cond.static yX10_weight, Cond.code yX10_weight cX10_weight 1 (some .int), Cond.methodLink RX10 144 yX10_costs, Cond.instanceMethod yX10_costs, Cond.selects RX10 yX10_costs yX10_costs]
def wsX10_personNow_r2 : List Cond := [Cond.code yX10_costs cX10_costs 3 (some .int), Cond.fieldLink RX10 16 "OtherCoinsModel" "priceOf" "[I", Cond.methodLink RX10 151 yX10_gets, Cond.instanceMethod yX10_gets, Cond.selects RX10 yX10_gets yX10_gets, Cond.code yX10_gets cX10_gets 3 (some .int), Cond.fieldLink RX10 19 "OtherCoinsModel" "payOf" "[I"]
def wsX10_personNow : List Cond := .code yX10_personNow cX10_personNow 4 (some .int) :: ((wsX10_personNow_r1 ++ wsX10_personNow_r2) ++ wsX100)
def wsX10_about_r1 : List Cond := [Cond.methodLink RX10 157 yX10_isPerson, Cond.instanceMethod yX10_isPerson, Cond.selects RX10 yX10_isPerson yX10_isPerson, Cond.initialized RX10, Cond.code yX10_isPerson cX10_isPerson 2 (some .boolean), Cond.fieldLink RX10 110 "OtherCoinsModel" "people" "I", Cond.methodLink RX10 75 yX10_within, Cond.static yX10_within, Cond.code yX10_within cX10_within 3 (some .boolean), Cond.methodLink RX10 160 yX10_personNow, Cond.instanceMethod yX10_personNow, Cond.selects RX10 yX10_personNow yX10_personNow, Cond.code yX10_personNow cX10_personNow 4 (some .int), Cond.fieldLink RX10 25 "OtherCoinsModel" "standsOf" "[I", Cond.fieldLink RX10 22 "OtherCoinsModel" "kindOf" "[I", Cond.methodLink RX10 119 yX10_townIn, Cond.static yX10_townIn, Cond.code yX10_townIn cX10_townIn 1 (some .int), Cond.methodLink RX10 141 yX10_goodsIn, Cond.static yX10_goodsIn, Cond.code yX10_goodsIn cX10_goodsIn 1 (some .int), Cond.methodLink RX10 154 yX10_coinsAll, Cond.static yX10_coinsAll, Cond.code yX10_coinsAll cX10_coinsAll 1 (some .int)]
def wsX10_about_r2 : List Cond := [Cond.methodLink RX10 135 yX10_coins, Cond.static yX10_coins, Cond.code yX10_coins cX10_coins 2 (some .int), Cond.methodLink RX10 129 yX10_purseIn, Cond.static yX10_purseIn, Cond.code yX10_purseIn cX10_purseIn 1 (some .int), Cond.methodLink RX10 132 yX10_weight, Cond.static yX10_weight, Cond.code yX10_weight cX10_weight 1 (some .int), Cond.methodLink RX10 144 yX10_costs, Cond.instanceMethod yX10_costs, Cond.selects RX10 yX10_costs yX10_costs, Cond.code yX10_costs cX10_costs 3 (some .int), Cond.fieldLink RX10 16 "OtherCoinsModel" "priceOf" "[I", Cond.methodLink RX10 151 yX10_gets, Cond.instanceMethod yX10_gets, Cond.selects RX10 yX10_gets yX10_gets, Cond.code yX10_gets cX10_gets 3 (some .int), Cond.fieldLink RX10 19 "OtherCoinsModel" "payOf" "[I"]
def wsX10_about : List Cond := .code yX10_about cX10_about 3 (some .int) :: ((wsX10_about_r1 ++ wsX10_about_r2) ++ wsX100)
def wsX10_as : List Cond := .code yX10_as cX10_as 4 (some .int) :: ([.fieldLink RX10 22 "OtherCoinsModel" "kindOf" "[I", .methodLink RX10 157 yX10_isPerson, .instanceMethod yX10_isPerson, .selects RX10 yX10_isPerson yX10_isPerson, .initialized RX10, .code yX10_isPerson cX10_isPerson 2 (some .boolean), .fieldLink RX10 110 "OtherCoinsModel" "people" "I", .methodLink RX10 75 yX10_within, .static yX10_within, .code yX10_within cX10_within 3 (some .boolean)] ++ wsX100)
def wsX10_purse_r1 : List Cond := [Cond.fieldLink RX10 25 "OtherCoinsModel" "standsOf" "[I", Cond.methodLink RX10 157 yX10_isPerson, Cond.instanceMethod yX10_isPerson, Cond.selects RX10 yX10_isPerson yX10_isPerson, Cond.initialized RX10, Cond.code yX10_isPerson cX10_isPerson 2 (some .boolean), Cond.fieldLink RX10 110 "OtherCoinsModel" "people" "I", Cond.methodLink RX10 75 yX10_within, Cond.static yX10_within, Cond.code yX10_within cX10_within 3 (some .boolean), Cond.methodLink RX10 122 yX10_isTown, Cond.static yX10_isTown, Cond.code yX10_isTown cX10_isTown 1 (some .boolean), Cond.methodLink RX10 135 yX10_coins, Cond.static yX10_coins, Cond.code yX10_coins cX10_coins 2 (some .int), Cond.methodLink RX10 129 yX10_purseIn, Cond.static yX10_purseIn, Cond.code yX10_purseIn cX10_purseIn 1 (some .int), Cond.methodLink RX10 132 yX10_weight, Cond.static yX10_weight, Cond.code yX10_weight cX10_weight 1 (some .int), Cond.methodLink RX10 147 yX10_withCoins, Cond.static yX10_withCoins]
def wsX10_purse_r2 : List Cond := [Cond.code yX10_withCoins cX10_withCoins 3 (some .int)]
def wsX10_purse : List Cond := .code yX10_purse cX10_purse 5 (some .int) :: ((wsX10_purse_r1 ++ wsX10_purse_r2) ++ wsX100)
def wsX10_may_r1 : List Cond := [Cond.fieldLink RX10 22 "OtherCoinsModel" "kindOf" "[I", Cond.fieldLink RX10 25 "OtherCoinsModel" "standsOf" "[I", Cond.methodLink RX10 157 yX10_isPerson, Cond.instanceMethod yX10_isPerson, Cond.selects RX10 yX10_isPerson yX10_isPerson, Cond.initialized RX10, Cond.code yX10_isPerson cX10_isPerson 2 (some .boolean), Cond.fieldLink RX10 110 "OtherCoinsModel" "people" "I", Cond.methodLink RX10 75 yX10_within, Cond.static yX10_within, Cond.code yX10_within cX10_within 3 (some .boolean), Cond.methodLink RX10 163 yX10_isAct, Cond.static yX10_isAct, Cond.code yX10_isAct cX10_isAct 1 (some .boolean), Cond.methodLink RX10 166 yX10_behind, Cond.instanceMethod yX10_behind, Cond.selects RX10 yX10_behind yX10_behind, Cond.code yX10_behind cX10_behind 7 (some .int), Cond.fieldLink RX10 13 "OtherCoinsModel" "givesOf" "[I", Cond.methodLink RX10 119 yX10_townIn, Cond.static yX10_townIn, Cond.code yX10_townIn cX10_townIn 1 (some .int), Cond.methodLink RX10 138 yX10_mayPay, Cond.instanceMethod yX10_mayPay]
def wsX10_may_r2 : List Cond := [Cond.selects RX10 yX10_mayPay yX10_mayPay, Cond.code yX10_mayPay cX10_mayPay 4 (some .boolean), Cond.fieldLink RX10 7 "OtherCoinsModel" "takesOf" "[I", Cond.methodLink RX10 82 yX10_has, Cond.static yX10_has, Cond.code yX10_has cX10_has 2 (some .boolean), Cond.methodLink RX10 141 yX10_goodsIn, Cond.static yX10_goodsIn, Cond.code yX10_goodsIn cX10_goodsIn 1 (some .int), Cond.methodLink RX10 135 yX10_coins, Cond.static yX10_coins, Cond.code yX10_coins cX10_coins 2 (some .int), Cond.methodLink RX10 129 yX10_purseIn, Cond.static yX10_purseIn, Cond.code yX10_purseIn cX10_purseIn 1 (some .int), Cond.methodLink RX10 132 yX10_weight, Cond.static yX10_weight, Cond.code yX10_weight cX10_weight 1 (some .int), Cond.methodLink RX10 144 yX10_costs, Cond.instanceMethod yX10_costs, Cond.selects RX10 yX10_costs yX10_costs, Cond.code yX10_costs cX10_costs 3 (some .int), Cond.fieldLink RX10 16 "OtherCoinsModel" "priceOf" "[I", Cond.methodLink RX10 147 yX10_withCoins]
def wsX10_may_r3 : List Cond := [Cond.static yX10_withCoins, Cond.code yX10_withCoins cX10_withCoins 3 (some .int), Cond.methodLink RX10 151 yX10_gets, Cond.instanceMethod yX10_gets, Cond.selects RX10 yX10_gets yX10_gets, Cond.code yX10_gets cX10_gets 3 (some .int), Cond.fieldLink RX10 19 "OtherCoinsModel" "payOf" "[I"]
def wsX10_may : List Cond := .code yX10_may cX10_may 3 (some .int) :: ((wsX10_may_r1 ++ (wsX10_may_r2 ++ wsX10_may_r3)) ++ wsX100)
def wsX10_act_r1 : List Cond := [Cond.fieldLink RX10 22 "OtherCoinsModel" "kindOf" "[I", Cond.fieldLink RX10 25 "OtherCoinsModel" "standsOf" "[I", Cond.fieldLink RX10 113 "OtherCoinsModel" "acts" "I", Cond.methodLink RX10 157 yX10_isPerson, Cond.instanceMethod yX10_isPerson, Cond.selects RX10 yX10_isPerson yX10_isPerson, Cond.initialized RX10, Cond.code yX10_isPerson cX10_isPerson 2 (some .boolean), Cond.fieldLink RX10 110 "OtherCoinsModel" "people" "I", Cond.methodLink RX10 75 yX10_within, Cond.static yX10_within, Cond.code yX10_within cX10_within 3 (some .boolean), Cond.methodLink RX10 163 yX10_isAct, Cond.static yX10_isAct, Cond.code yX10_isAct cX10_isAct 1 (some .boolean), Cond.methodLink RX10 166 yX10_behind, Cond.instanceMethod yX10_behind, Cond.selects RX10 yX10_behind yX10_behind, Cond.code yX10_behind cX10_behind 7 (some .int), Cond.fieldLink RX10 13 "OtherCoinsModel" "givesOf" "[I", Cond.methodLink RX10 119 yX10_townIn, Cond.static yX10_townIn, Cond.code yX10_townIn cX10_townIn 1 (some .int), Cond.methodLink RX10 138 yX10_mayPay]
def wsX10_act_r2 : List Cond := [Cond.instanceMethod yX10_mayPay, Cond.selects RX10 yX10_mayPay yX10_mayPay, Cond.code yX10_mayPay cX10_mayPay 4 (some .boolean), Cond.fieldLink RX10 7 "OtherCoinsModel" "takesOf" "[I", Cond.methodLink RX10 82 yX10_has, Cond.static yX10_has, Cond.code yX10_has cX10_has 2 (some .boolean), Cond.methodLink RX10 141 yX10_goodsIn, Cond.static yX10_goodsIn, Cond.code yX10_goodsIn cX10_goodsIn 1 (some .int), Cond.methodLink RX10 135 yX10_coins, Cond.static yX10_coins, Cond.code yX10_coins cX10_coins 2 (some .int), Cond.methodLink RX10 129 yX10_purseIn, Cond.static yX10_purseIn, Cond.code yX10_purseIn cX10_purseIn 1 (some .int), Cond.methodLink RX10 132 yX10_weight, Cond.static yX10_weight, Cond.code yX10_weight cX10_weight 1 (some .int), Cond.methodLink RX10 144 yX10_costs, Cond.instanceMethod yX10_costs, Cond.selects RX10 yX10_costs yX10_costs, Cond.code yX10_costs cX10_costs 3 (some .int), Cond.fieldLink RX10 16 "OtherCoinsModel" "priceOf" "[I"]
def wsX10_act_r3 : List Cond := [Cond.methodLink RX10 147 yX10_withCoins, Cond.static yX10_withCoins, Cond.code yX10_withCoins cX10_withCoins 3 (some .int), Cond.methodLink RX10 151 yX10_gets, Cond.instanceMethod yX10_gets, Cond.selects RX10 yX10_gets yX10_gets, Cond.code yX10_gets cX10_gets 3 (some .int), Cond.fieldLink RX10 19 "OtherCoinsModel" "payOf" "[I", Cond.methodLink RX10 154 yX10_coinsAll, Cond.static yX10_coinsAll, Cond.code yX10_coinsAll cX10_coinsAll 1 (some .int)]
def wsX10_act : List Cond := .code yX10_act cX10_act 4 (some .int) :: ((wsX10_act_r1 ++ (wsX10_act_r2 ++ wsX10_act_r3)) ++ wsX100)
def wsX10_change_r1 : List Cond := [Cond.fieldLink RX10 25 "OtherCoinsModel" "standsOf" "[I", Cond.methodLink RX10 157 yX10_isPerson, Cond.instanceMethod yX10_isPerson, Cond.selects RX10 yX10_isPerson yX10_isPerson, Cond.initialized RX10, Cond.code yX10_isPerson cX10_isPerson 2 (some .boolean), Cond.fieldLink RX10 110 "OtherCoinsModel" "people" "I", Cond.methodLink RX10 75 yX10_within, Cond.static yX10_within, Cond.code yX10_within cX10_within 3 (some .boolean), Cond.methodLink RX10 122 yX10_isTown, Cond.static yX10_isTown, Cond.code yX10_isTown cX10_isTown 1 (some .boolean), Cond.methodLink RX10 135 yX10_coins, Cond.static yX10_coins, Cond.code yX10_coins cX10_coins 2 (some .int), Cond.methodLink RX10 129 yX10_purseIn, Cond.static yX10_purseIn, Cond.code yX10_purseIn cX10_purseIn 1 (some .int), Cond.methodLink RX10 132 yX10_weight, Cond.static yX10_weight, Cond.code yX10_weight cX10_weight 1 (some .int), Cond.methodLink RX10 119 yX10_townIn, Cond.static yX10_townIn]
def wsX10_change_r2 : List Cond := [Cond.code yX10_townIn cX10_townIn 1 (some .int), Cond.methodLink RX10 147 yX10_withCoins, Cond.static yX10_withCoins, Cond.code yX10_withCoins cX10_withCoins 3 (some .int)]
def wsX10_change : List Cond := .code yX10_change cX10_change 7 (some .int) :: ((wsX10_change_r1 ++ wsX10_change_r2) ++ wsX100)
def wsX10_layQueue : List Cond := .code yX10_layQueue cX10_layQueue 3 none :: ([.fieldLink RX10 169 "OtherCoinsModel" "queueEnd" "I", .fieldLink RX10 52 "OtherCoinsModel" "firstOf" "[B", .fieldLink RX10 55 "OtherCoinsModel" "queue" "[I"] ++ wsX100)
def wsX10_goFrom_r1 : List Cond := [Cond.fieldLink RX10 52 "OtherCoinsModel" "firstOf" "[B", Cond.fieldLink RX10 55 "OtherCoinsModel" "queue" "[I", Cond.fieldLink RX10 169 "OtherCoinsModel" "queueEnd" "I", Cond.methodLink RX10 163 yX10_isAct, Cond.static yX10_isAct, Cond.initialized RX10, Cond.code yX10_isAct cX10_isAct 1 (some .boolean), Cond.methodLink RX10 75 yX10_within, Cond.static yX10_within, Cond.code yX10_within cX10_within 3 (some .boolean), Cond.methodLink RX10 166 yX10_behind, Cond.instanceMethod yX10_behind, Cond.selects RX10 yX10_behind yX10_behind, Cond.code yX10_behind cX10_behind 7 (some .int), Cond.fieldLink RX10 13 "OtherCoinsModel" "givesOf" "[I", Cond.methodLink RX10 119 yX10_townIn, Cond.static yX10_townIn, Cond.code yX10_townIn cX10_townIn 1 (some .int), Cond.methodLink RX10 138 yX10_mayPay, Cond.instanceMethod yX10_mayPay, Cond.selects RX10 yX10_mayPay yX10_mayPay, Cond.code yX10_mayPay cX10_mayPay 4 (some .boolean), Cond.fieldLink RX10 7 "OtherCoinsModel" "takesOf" "[I", Cond.methodLink RX10 82 yX10_has]
def wsX10_goFrom_r2 : List Cond := [Cond.static yX10_has, Cond.code yX10_has cX10_has 2 (some .boolean), Cond.methodLink RX10 141 yX10_goodsIn, Cond.static yX10_goodsIn, Cond.code yX10_goodsIn cX10_goodsIn 1 (some .int), Cond.methodLink RX10 135 yX10_coins, Cond.static yX10_coins, Cond.code yX10_coins cX10_coins 2 (some .int), Cond.methodLink RX10 129 yX10_purseIn, Cond.static yX10_purseIn, Cond.code yX10_purseIn cX10_purseIn 1 (some .int), Cond.methodLink RX10 132 yX10_weight, Cond.static yX10_weight, Cond.code yX10_weight cX10_weight 1 (some .int), Cond.methodLink RX10 144 yX10_costs, Cond.instanceMethod yX10_costs, Cond.selects RX10 yX10_costs yX10_costs, Cond.code yX10_costs cX10_costs 3 (some .int), Cond.fieldLink RX10 16 "OtherCoinsModel" "priceOf" "[I", Cond.methodLink RX10 147 yX10_withCoins, Cond.static yX10_withCoins, Cond.code yX10_withCoins cX10_withCoins 3 (some .int), Cond.methodLink RX10 151 yX10_gets, Cond.instanceMethod yX10_gets]
def wsX10_goFrom_r3 : List Cond := [Cond.selects RX10 yX10_gets yX10_gets, Cond.code yX10_gets cX10_gets 3 (some .int), Cond.fieldLink RX10 19 "OtherCoinsModel" "payOf" "[I"]
def wsX10_goFrom : List Cond := .code yX10_goFrom cX10_goFrom 5 none :: ((wsX10_goFrom_r1 ++ (wsX10_goFrom_r2 ++ wsX10_goFrom_r3)) ++ wsX100)
def wsX10_fewestOf_r1 : List Cond := [Cond.fieldLink RX10 172 "OtherCoinsModel" "fewestFirst" "I", Cond.fieldLink RX10 25 "OtherCoinsModel" "standsOf" "[I", Cond.fieldLink RX10 169 "OtherCoinsModel" "queueEnd" "I", Cond.fieldLink RX10 22 "OtherCoinsModel" "kindOf" "[I", Cond.fieldLink RX10 55 "OtherCoinsModel" "queue" "[I", Cond.fieldLink RX10 52 "OtherCoinsModel" "firstOf" "[B", Cond.methodLink RX10 141 yX10_goodsIn, Cond.static yX10_goodsIn, Cond.initialized RX10, Cond.code yX10_goodsIn cX10_goodsIn 1 (some .int), Cond.methodLink RX10 82 yX10_has, Cond.static yX10_has, Cond.code yX10_has cX10_has 2 (some .boolean), Cond.methodLink RX10 175 yX10_layQueue, Cond.instanceMethod yX10_layQueue, Cond.selects RX10 yX10_layQueue yX10_layQueue, Cond.code yX10_layQueue cX10_layQueue 3 none, Cond.methodLink RX10 179 yX10_goFrom, Cond.instanceMethod yX10_goFrom, Cond.selects RX10 yX10_goFrom yX10_goFrom, Cond.code yX10_goFrom cX10_goFrom 5 none, Cond.methodLink RX10 163 yX10_isAct, Cond.static yX10_isAct, Cond.code yX10_isAct cX10_isAct 1 (some .boolean)]
def wsX10_fewestOf_r2 : List Cond := [Cond.methodLink RX10 75 yX10_within, Cond.static yX10_within, Cond.code yX10_within cX10_within 3 (some .boolean), Cond.methodLink RX10 166 yX10_behind, Cond.instanceMethod yX10_behind, Cond.selects RX10 yX10_behind yX10_behind, Cond.code yX10_behind cX10_behind 7 (some .int), Cond.fieldLink RX10 13 "OtherCoinsModel" "givesOf" "[I", Cond.methodLink RX10 119 yX10_townIn, Cond.static yX10_townIn, Cond.code yX10_townIn cX10_townIn 1 (some .int), Cond.methodLink RX10 138 yX10_mayPay, Cond.instanceMethod yX10_mayPay, Cond.selects RX10 yX10_mayPay yX10_mayPay, Cond.code yX10_mayPay cX10_mayPay 4 (some .boolean), Cond.fieldLink RX10 7 "OtherCoinsModel" "takesOf" "[I", Cond.methodLink RX10 135 yX10_coins, Cond.static yX10_coins, Cond.code yX10_coins cX10_coins 2 (some .int), Cond.methodLink RX10 129 yX10_purseIn, Cond.static yX10_purseIn, Cond.code yX10_purseIn cX10_purseIn 1 (some .int), Cond.methodLink RX10 132 yX10_weight, Cond.static yX10_weight]
def wsX10_fewestOf_r3 : List Cond := [Cond.code yX10_weight cX10_weight 1 (some .int), Cond.methodLink RX10 144 yX10_costs, Cond.instanceMethod yX10_costs, Cond.selects RX10 yX10_costs yX10_costs, Cond.code yX10_costs cX10_costs 3 (some .int), Cond.fieldLink RX10 16 "OtherCoinsModel" "priceOf" "[I", Cond.methodLink RX10 147 yX10_withCoins, Cond.static yX10_withCoins, Cond.code yX10_withCoins cX10_withCoins 3 (some .int), Cond.methodLink RX10 151 yX10_gets, Cond.instanceMethod yX10_gets, Cond.selects RX10 yX10_gets yX10_gets, Cond.code yX10_gets cX10_gets 3 (some .int), Cond.fieldLink RX10 19 "OtherCoinsModel" "payOf" "[I"]
def wsX10_fewestOf : List Cond := .code yX10_fewestOf cX10_fewestOf 7 (some .int) :: ((wsX10_fewestOf_r1 ++ (wsX10_fewestOf_r2 ++ wsX10_fewestOf_r3)) ++ wsX100)
def wsX10_fewest_r1 : List Cond := [Cond.fieldLink RX10 183 "OtherCoinsModel" "asks" "I", Cond.fieldLink RX10 172 "OtherCoinsModel" "fewestFirst" "I", Cond.methodLink RX10 157 yX10_isPerson, Cond.instanceMethod yX10_isPerson, Cond.selects RX10 yX10_isPerson yX10_isPerson, Cond.initialized RX10, Cond.code yX10_isPerson cX10_isPerson 2 (some .boolean), Cond.fieldLink RX10 110 "OtherCoinsModel" "people" "I", Cond.methodLink RX10 75 yX10_within, Cond.static yX10_within, Cond.code yX10_within cX10_within 3 (some .boolean), Cond.methodLink RX10 122 yX10_isTown, Cond.static yX10_isTown, Cond.code yX10_isTown cX10_isTown 1 (some .boolean), Cond.methodLink RX10 186 yX10_fewestOf, Cond.instanceMethod yX10_fewestOf, Cond.selects RX10 yX10_fewestOf yX10_fewestOf, Cond.code yX10_fewestOf cX10_fewestOf 7 (some .int), Cond.fieldLink RX10 25 "OtherCoinsModel" "standsOf" "[I", Cond.fieldLink RX10 169 "OtherCoinsModel" "queueEnd" "I", Cond.fieldLink RX10 22 "OtherCoinsModel" "kindOf" "[I", Cond.fieldLink RX10 55 "OtherCoinsModel" "queue" "[I", Cond.fieldLink RX10 52 "OtherCoinsModel" "firstOf" "[B", Cond.methodLink RX10 141 yX10_goodsIn]
def wsX10_fewest_r2 : List Cond := [Cond.static yX10_goodsIn, Cond.code yX10_goodsIn cX10_goodsIn 1 (some .int), Cond.methodLink RX10 82 yX10_has, Cond.static yX10_has, Cond.code yX10_has cX10_has 2 (some .boolean), Cond.methodLink RX10 175 yX10_layQueue, Cond.instanceMethod yX10_layQueue, Cond.selects RX10 yX10_layQueue yX10_layQueue, Cond.code yX10_layQueue cX10_layQueue 3 none, Cond.methodLink RX10 179 yX10_goFrom, Cond.instanceMethod yX10_goFrom, Cond.selects RX10 yX10_goFrom yX10_goFrom, Cond.code yX10_goFrom cX10_goFrom 5 none, Cond.methodLink RX10 163 yX10_isAct, Cond.static yX10_isAct, Cond.code yX10_isAct cX10_isAct 1 (some .boolean), Cond.methodLink RX10 166 yX10_behind, Cond.instanceMethod yX10_behind, Cond.selects RX10 yX10_behind yX10_behind, Cond.code yX10_behind cX10_behind 7 (some .int), Cond.fieldLink RX10 13 "OtherCoinsModel" "givesOf" "[I", Cond.methodLink RX10 119 yX10_townIn, Cond.static yX10_townIn, Cond.code yX10_townIn cX10_townIn 1 (some .int)]
def wsX10_fewest_r3 : List Cond := [Cond.methodLink RX10 138 yX10_mayPay, Cond.instanceMethod yX10_mayPay, Cond.selects RX10 yX10_mayPay yX10_mayPay, Cond.code yX10_mayPay cX10_mayPay 4 (some .boolean), Cond.fieldLink RX10 7 "OtherCoinsModel" "takesOf" "[I", Cond.methodLink RX10 135 yX10_coins, Cond.static yX10_coins, Cond.code yX10_coins cX10_coins 2 (some .int), Cond.methodLink RX10 129 yX10_purseIn, Cond.static yX10_purseIn, Cond.code yX10_purseIn cX10_purseIn 1 (some .int), Cond.methodLink RX10 132 yX10_weight, Cond.static yX10_weight, Cond.code yX10_weight cX10_weight 1 (some .int), Cond.methodLink RX10 144 yX10_costs, Cond.instanceMethod yX10_costs, Cond.selects RX10 yX10_costs yX10_costs, Cond.code yX10_costs cX10_costs 3 (some .int), Cond.fieldLink RX10 16 "OtherCoinsModel" "priceOf" "[I", Cond.methodLink RX10 147 yX10_withCoins, Cond.static yX10_withCoins, Cond.code yX10_withCoins cX10_withCoins 3 (some .int), Cond.methodLink RX10 151 yX10_gets, Cond.instanceMethod yX10_gets]
def wsX10_fewest_r4 : List Cond := [Cond.selects RX10 yX10_gets yX10_gets, Cond.code yX10_gets cX10_gets 3 (some .int), Cond.fieldLink RX10 19 "OtherCoinsModel" "payOf" "[I"]
def wsX10_fewest : List Cond := .code yX10_fewest cX10_fewest 5 (some .int) :: ((wsX10_fewest_r1 ++ (wsX10_fewest_r2 ++ (wsX10_fewest_r3 ++ wsX10_fewest_r4))) ++ wsX100)
def wsX10_richestOf_r1 : List Cond := [Cond.fieldLink RX10 25 "OtherCoinsModel" "standsOf" "[I", Cond.fieldLink RX10 169 "OtherCoinsModel" "queueEnd" "I", Cond.fieldLink RX10 22 "OtherCoinsModel" "kindOf" "[I", Cond.fieldLink RX10 55 "OtherCoinsModel" "queue" "[I", Cond.methodLink RX10 175 yX10_layQueue, Cond.instanceMethod yX10_layQueue, Cond.selects RX10 yX10_layQueue yX10_layQueue, Cond.initialized RX10, Cond.code yX10_layQueue cX10_layQueue 3 none, Cond.fieldLink RX10 52 "OtherCoinsModel" "firstOf" "[B", Cond.methodLink RX10 179 yX10_goFrom, Cond.instanceMethod yX10_goFrom, Cond.selects RX10 yX10_goFrom yX10_goFrom, Cond.code yX10_goFrom cX10_goFrom 5 none, Cond.methodLink RX10 163 yX10_isAct, Cond.static yX10_isAct, Cond.code yX10_isAct cX10_isAct 1 (some .boolean), Cond.methodLink RX10 75 yX10_within, Cond.static yX10_within, Cond.code yX10_within cX10_within 3 (some .boolean), Cond.methodLink RX10 166 yX10_behind, Cond.instanceMethod yX10_behind, Cond.selects RX10 yX10_behind yX10_behind, Cond.code yX10_behind cX10_behind 7 (some .int)]
def wsX10_richestOf_r2 : List Cond := [Cond.fieldLink RX10 13 "OtherCoinsModel" "givesOf" "[I", Cond.methodLink RX10 119 yX10_townIn, Cond.static yX10_townIn, Cond.code yX10_townIn cX10_townIn 1 (some .int), Cond.methodLink RX10 138 yX10_mayPay, Cond.instanceMethod yX10_mayPay, Cond.selects RX10 yX10_mayPay yX10_mayPay, Cond.code yX10_mayPay cX10_mayPay 4 (some .boolean), Cond.fieldLink RX10 7 "OtherCoinsModel" "takesOf" "[I", Cond.methodLink RX10 82 yX10_has, Cond.static yX10_has, Cond.code yX10_has cX10_has 2 (some .boolean), Cond.methodLink RX10 141 yX10_goodsIn, Cond.static yX10_goodsIn, Cond.code yX10_goodsIn cX10_goodsIn 1 (some .int), Cond.methodLink RX10 135 yX10_coins, Cond.static yX10_coins, Cond.code yX10_coins cX10_coins 2 (some .int), Cond.methodLink RX10 129 yX10_purseIn, Cond.static yX10_purseIn, Cond.code yX10_purseIn cX10_purseIn 1 (some .int), Cond.methodLink RX10 132 yX10_weight, Cond.static yX10_weight, Cond.code yX10_weight cX10_weight 1 (some .int)]
def wsX10_richestOf_r3 : List Cond := [Cond.methodLink RX10 144 yX10_costs, Cond.instanceMethod yX10_costs, Cond.selects RX10 yX10_costs yX10_costs, Cond.code yX10_costs cX10_costs 3 (some .int), Cond.fieldLink RX10 16 "OtherCoinsModel" "priceOf" "[I", Cond.methodLink RX10 147 yX10_withCoins, Cond.static yX10_withCoins, Cond.code yX10_withCoins cX10_withCoins 3 (some .int), Cond.methodLink RX10 151 yX10_gets, Cond.instanceMethod yX10_gets, Cond.selects RX10 yX10_gets yX10_gets, Cond.code yX10_gets cX10_gets 3 (some .int), Cond.fieldLink RX10 19 "OtherCoinsModel" "payOf" "[I", Cond.methodLink RX10 154 yX10_coinsAll, Cond.static yX10_coinsAll, Cond.code yX10_coinsAll cX10_coinsAll 1 (some .int)]
def wsX10_richestOf : List Cond := .code yX10_richestOf cX10_richestOf 6 (some .int) :: ((wsX10_richestOf_r1 ++ (wsX10_richestOf_r2 ++ wsX10_richestOf_r3)) ++ wsX100)
def wsX10_richest_r1 : List Cond := [Cond.fieldLink RX10 183 "OtherCoinsModel" "asks" "I", Cond.methodLink RX10 157 yX10_isPerson, Cond.instanceMethod yX10_isPerson, Cond.selects RX10 yX10_isPerson yX10_isPerson, Cond.initialized RX10, Cond.code yX10_isPerson cX10_isPerson 2 (some .boolean), Cond.fieldLink RX10 110 "OtherCoinsModel" "people" "I", Cond.methodLink RX10 75 yX10_within, Cond.static yX10_within, Cond.code yX10_within cX10_within 3 (some .boolean), Cond.methodLink RX10 189 yX10_richestOf, Cond.instanceMethod yX10_richestOf, Cond.selects RX10 yX10_richestOf yX10_richestOf, Cond.code yX10_richestOf cX10_richestOf 6 (some .int), Cond.fieldLink RX10 25 "OtherCoinsModel" "standsOf" "[I", Cond.fieldLink RX10 169 "OtherCoinsModel" "queueEnd" "I", Cond.fieldLink RX10 22 "OtherCoinsModel" "kindOf" "[I", Cond.fieldLink RX10 55 "OtherCoinsModel" "queue" "[I", Cond.methodLink RX10 175 yX10_layQueue, Cond.instanceMethod yX10_layQueue, Cond.selects RX10 yX10_layQueue yX10_layQueue, Cond.code yX10_layQueue cX10_layQueue 3 none, Cond.fieldLink RX10 52 "OtherCoinsModel" "firstOf" "[B", Cond.methodLink RX10 179 yX10_goFrom]
def wsX10_richest_r2 : List Cond := [Cond.instanceMethod yX10_goFrom, Cond.selects RX10 yX10_goFrom yX10_goFrom, Cond.code yX10_goFrom cX10_goFrom 5 none, Cond.methodLink RX10 163 yX10_isAct, Cond.static yX10_isAct, Cond.code yX10_isAct cX10_isAct 1 (some .boolean), Cond.methodLink RX10 166 yX10_behind, Cond.instanceMethod yX10_behind, Cond.selects RX10 yX10_behind yX10_behind, Cond.code yX10_behind cX10_behind 7 (some .int), Cond.fieldLink RX10 13 "OtherCoinsModel" "givesOf" "[I", Cond.methodLink RX10 119 yX10_townIn, Cond.static yX10_townIn, Cond.code yX10_townIn cX10_townIn 1 (some .int), Cond.methodLink RX10 138 yX10_mayPay, Cond.instanceMethod yX10_mayPay, Cond.selects RX10 yX10_mayPay yX10_mayPay, Cond.code yX10_mayPay cX10_mayPay 4 (some .boolean), Cond.fieldLink RX10 7 "OtherCoinsModel" "takesOf" "[I", Cond.methodLink RX10 82 yX10_has, Cond.static yX10_has, Cond.code yX10_has cX10_has 2 (some .boolean), Cond.methodLink RX10 141 yX10_goodsIn, Cond.static yX10_goodsIn]
def wsX10_richest_r3 : List Cond := [Cond.code yX10_goodsIn cX10_goodsIn 1 (some .int), Cond.methodLink RX10 135 yX10_coins, Cond.static yX10_coins, Cond.code yX10_coins cX10_coins 2 (some .int), Cond.methodLink RX10 129 yX10_purseIn, Cond.static yX10_purseIn, Cond.code yX10_purseIn cX10_purseIn 1 (some .int), Cond.methodLink RX10 132 yX10_weight, Cond.static yX10_weight, Cond.code yX10_weight cX10_weight 1 (some .int), Cond.methodLink RX10 144 yX10_costs, Cond.instanceMethod yX10_costs, Cond.selects RX10 yX10_costs yX10_costs, Cond.code yX10_costs cX10_costs 3 (some .int), Cond.fieldLink RX10 16 "OtherCoinsModel" "priceOf" "[I", Cond.methodLink RX10 147 yX10_withCoins, Cond.static yX10_withCoins, Cond.code yX10_withCoins cX10_withCoins 3 (some .int), Cond.methodLink RX10 151 yX10_gets, Cond.instanceMethod yX10_gets, Cond.selects RX10 yX10_gets yX10_gets, Cond.code yX10_gets cX10_gets 3 (some .int), Cond.fieldLink RX10 19 "OtherCoinsModel" "payOf" "[I", Cond.methodLink RX10 154 yX10_coinsAll]
def wsX10_richest_r4 : List Cond := [Cond.static yX10_coinsAll, Cond.code yX10_coinsAll cX10_coinsAll 1 (some .int)]
def wsX10_richest : List Cond := .code yX10_richest cX10_richest 3 (some .int) :: ((wsX10_richest_r1 ++ (wsX10_richest_r2 ++ (wsX10_richest_r3 ++ wsX10_richest_r4))) ++ wsX100)
def wsX10_deadNow : List Cond := .code yX10_deadNow cX10_deadNow 6 (some .int) :: ([.fieldLink RX10 22 "OtherCoinsModel" "kindOf" "[I", .fieldLink RX10 25 "OtherCoinsModel" "standsOf" "[I", .methodLink RX10 138 yX10_mayPay, .instanceMethod yX10_mayPay, .selects RX10 yX10_mayPay yX10_mayPay, .initialized RX10, .code yX10_mayPay cX10_mayPay 4 (some .boolean), .fieldLink RX10 7 "OtherCoinsModel" "takesOf" "[I", .methodLink RX10 82 yX10_has, .static yX10_has, .code yX10_has cX10_has 2 (some .boolean), .methodLink RX10 135 yX10_coins, .static yX10_coins, .code yX10_coins cX10_coins 2 (some .int), .methodLink RX10 129 yX10_purseIn, .static yX10_purseIn, .code yX10_purseIn cX10_purseIn 1 (some .int), .methodLink RX10 132 yX10_weight, .static yX10_weight, .code yX10_weight cX10_weight 1 (some .int)] ++ wsX100)
def wsX10_dead_r1 : List Cond := [Cond.methodLink RX10 157 yX10_isPerson, Cond.instanceMethod yX10_isPerson, Cond.selects RX10 yX10_isPerson yX10_isPerson, Cond.initialized RX10, Cond.code yX10_isPerson cX10_isPerson 2 (some .boolean), Cond.fieldLink RX10 110 "OtherCoinsModel" "people" "I", Cond.methodLink RX10 75 yX10_within, Cond.static yX10_within, Cond.code yX10_within cX10_within 3 (some .boolean), Cond.methodLink RX10 192 yX10_deadNow, Cond.instanceMethod yX10_deadNow, Cond.selects RX10 yX10_deadNow yX10_deadNow, Cond.code yX10_deadNow cX10_deadNow 6 (some .int), Cond.fieldLink RX10 22 "OtherCoinsModel" "kindOf" "[I", Cond.fieldLink RX10 25 "OtherCoinsModel" "standsOf" "[I", Cond.methodLink RX10 138 yX10_mayPay, Cond.instanceMethod yX10_mayPay, Cond.selects RX10 yX10_mayPay yX10_mayPay, Cond.code yX10_mayPay cX10_mayPay 4 (some .boolean), Cond.fieldLink RX10 7 "OtherCoinsModel" "takesOf" "[I", Cond.methodLink RX10 82 yX10_has, Cond.static yX10_has, Cond.code yX10_has cX10_has 2 (some .boolean), Cond.methodLink RX10 135 yX10_coins]
def wsX10_dead_r2 : List Cond := [Cond.static yX10_coins, Cond.code yX10_coins cX10_coins 2 (some .int), Cond.methodLink RX10 129 yX10_purseIn, Cond.static yX10_purseIn, Cond.code yX10_purseIn cX10_purseIn 1 (some .int), Cond.methodLink RX10 132 yX10_weight, Cond.static yX10_weight, Cond.code yX10_weight cX10_weight 1 (some .int)]
def wsX10_dead : List Cond := .code yX10_dead cX10_dead 2 (some .int) :: ((wsX10_dead_r1 ++ wsX10_dead_r2) ++ wsX100)
def wsX10_gainsNow_r1 : List Cond := [Cond.fieldLink RX10 16 "OtherCoinsModel" "priceOf" "[I", Cond.fieldLink RX10 110 "OtherCoinsModel" "people" "I", Cond.methodLink RX10 186 yX10_fewestOf, Cond.instanceMethod yX10_fewestOf, Cond.selects RX10 yX10_fewestOf yX10_fewestOf, Cond.initialized RX10, Cond.code yX10_fewestOf cX10_fewestOf 7 (some .int), Cond.fieldLink RX10 172 "OtherCoinsModel" "fewestFirst" "I", Cond.fieldLink RX10 25 "OtherCoinsModel" "standsOf" "[I", Cond.fieldLink RX10 169 "OtherCoinsModel" "queueEnd" "I", Cond.fieldLink RX10 22 "OtherCoinsModel" "kindOf" "[I", Cond.fieldLink RX10 55 "OtherCoinsModel" "queue" "[I", Cond.fieldLink RX10 52 "OtherCoinsModel" "firstOf" "[B", Cond.methodLink RX10 141 yX10_goodsIn, Cond.static yX10_goodsIn, Cond.code yX10_goodsIn cX10_goodsIn 1 (some .int), Cond.methodLink RX10 82 yX10_has, Cond.static yX10_has, Cond.code yX10_has cX10_has 2 (some .boolean), Cond.methodLink RX10 175 yX10_layQueue, Cond.instanceMethod yX10_layQueue, Cond.selects RX10 yX10_layQueue yX10_layQueue, Cond.code yX10_layQueue cX10_layQueue 3 none, Cond.methodLink RX10 179 yX10_goFrom]
def wsX10_gainsNow_r2 : List Cond := [Cond.instanceMethod yX10_goFrom, Cond.selects RX10 yX10_goFrom yX10_goFrom, Cond.code yX10_goFrom cX10_goFrom 5 none, Cond.methodLink RX10 163 yX10_isAct, Cond.static yX10_isAct, Cond.code yX10_isAct cX10_isAct 1 (some .boolean), Cond.methodLink RX10 75 yX10_within, Cond.static yX10_within, Cond.code yX10_within cX10_within 3 (some .boolean), Cond.methodLink RX10 166 yX10_behind, Cond.instanceMethod yX10_behind, Cond.selects RX10 yX10_behind yX10_behind, Cond.code yX10_behind cX10_behind 7 (some .int), Cond.fieldLink RX10 13 "OtherCoinsModel" "givesOf" "[I", Cond.methodLink RX10 119 yX10_townIn, Cond.static yX10_townIn, Cond.code yX10_townIn cX10_townIn 1 (some .int), Cond.methodLink RX10 138 yX10_mayPay, Cond.instanceMethod yX10_mayPay, Cond.selects RX10 yX10_mayPay yX10_mayPay, Cond.code yX10_mayPay cX10_mayPay 4 (some .boolean), Cond.fieldLink RX10 7 "OtherCoinsModel" "takesOf" "[I", Cond.methodLink RX10 135 yX10_coins, Cond.static yX10_coins]
def wsX10_gainsNow_r3 : List Cond := [Cond.code yX10_coins cX10_coins 2 (some .int), Cond.methodLink RX10 129 yX10_purseIn, Cond.static yX10_purseIn, Cond.code yX10_purseIn cX10_purseIn 1 (some .int), Cond.methodLink RX10 132 yX10_weight, Cond.static yX10_weight, Cond.code yX10_weight cX10_weight 1 (some .int), Cond.methodLink RX10 144 yX10_costs, Cond.instanceMethod yX10_costs, Cond.selects RX10 yX10_costs yX10_costs, Cond.code yX10_costs cX10_costs 3 (some .int), Cond.methodLink RX10 147 yX10_withCoins, Cond.static yX10_withCoins, Cond.code yX10_withCoins cX10_withCoins 3 (some .int), Cond.methodLink RX10 151 yX10_gets, Cond.instanceMethod yX10_gets, Cond.selects RX10 yX10_gets yX10_gets, Cond.code yX10_gets cX10_gets 3 (some .int), Cond.fieldLink RX10 19 "OtherCoinsModel" "payOf" "[I"]
def wsX10_gainsNow : List Cond := .code yX10_gainsNow cX10_gainsNow 8 (some .int) :: ((wsX10_gainsNow_r1 ++ (wsX10_gainsNow_r2 ++ wsX10_gainsNow_r3)) ++ wsX100)
def wsX10_gains_r1 : List Cond := [Cond.fieldLink RX10 104 "OtherCoinsModel" "isLaw" "Z", Cond.methodLink RX10 122 yX10_isTown, Cond.static yX10_isTown, Cond.initialized RX10, Cond.code yX10_isTown cX10_isTown 1 (some .boolean), Cond.methodLink RX10 75 yX10_within, Cond.static yX10_within, Cond.code yX10_within cX10_within 3 (some .boolean), Cond.methodLink RX10 195 yX10_gainsNow, Cond.instanceMethod yX10_gainsNow, Cond.selects RX10 yX10_gainsNow yX10_gainsNow, Cond.code yX10_gainsNow cX10_gainsNow 8 (some .int), Cond.fieldLink RX10 16 "OtherCoinsModel" "priceOf" "[I", Cond.fieldLink RX10 110 "OtherCoinsModel" "people" "I", Cond.methodLink RX10 186 yX10_fewestOf, Cond.instanceMethod yX10_fewestOf, Cond.selects RX10 yX10_fewestOf yX10_fewestOf, Cond.code yX10_fewestOf cX10_fewestOf 7 (some .int), Cond.fieldLink RX10 172 "OtherCoinsModel" "fewestFirst" "I", Cond.fieldLink RX10 25 "OtherCoinsModel" "standsOf" "[I", Cond.fieldLink RX10 169 "OtherCoinsModel" "queueEnd" "I", Cond.fieldLink RX10 22 "OtherCoinsModel" "kindOf" "[I", Cond.fieldLink RX10 55 "OtherCoinsModel" "queue" "[I", Cond.fieldLink RX10 52 "OtherCoinsModel" "firstOf" "[B"]
def wsX10_gains_r2 : List Cond := [Cond.methodLink RX10 141 yX10_goodsIn, Cond.static yX10_goodsIn, Cond.code yX10_goodsIn cX10_goodsIn 1 (some .int), Cond.methodLink RX10 82 yX10_has, Cond.static yX10_has, Cond.code yX10_has cX10_has 2 (some .boolean), Cond.methodLink RX10 175 yX10_layQueue, Cond.instanceMethod yX10_layQueue, Cond.selects RX10 yX10_layQueue yX10_layQueue, Cond.code yX10_layQueue cX10_layQueue 3 none, Cond.methodLink RX10 179 yX10_goFrom, Cond.instanceMethod yX10_goFrom, Cond.selects RX10 yX10_goFrom yX10_goFrom, Cond.code yX10_goFrom cX10_goFrom 5 none, Cond.methodLink RX10 163 yX10_isAct, Cond.static yX10_isAct, Cond.code yX10_isAct cX10_isAct 1 (some .boolean), Cond.methodLink RX10 166 yX10_behind, Cond.instanceMethod yX10_behind, Cond.selects RX10 yX10_behind yX10_behind, Cond.code yX10_behind cX10_behind 7 (some .int), Cond.fieldLink RX10 13 "OtherCoinsModel" "givesOf" "[I", Cond.methodLink RX10 119 yX10_townIn, Cond.static yX10_townIn]
def wsX10_gains_r3 : List Cond := [Cond.code yX10_townIn cX10_townIn 1 (some .int), Cond.methodLink RX10 138 yX10_mayPay, Cond.instanceMethod yX10_mayPay, Cond.selects RX10 yX10_mayPay yX10_mayPay, Cond.code yX10_mayPay cX10_mayPay 4 (some .boolean), Cond.fieldLink RX10 7 "OtherCoinsModel" "takesOf" "[I", Cond.methodLink RX10 135 yX10_coins, Cond.static yX10_coins, Cond.code yX10_coins cX10_coins 2 (some .int), Cond.methodLink RX10 129 yX10_purseIn, Cond.static yX10_purseIn, Cond.code yX10_purseIn cX10_purseIn 1 (some .int), Cond.methodLink RX10 132 yX10_weight, Cond.static yX10_weight, Cond.code yX10_weight cX10_weight 1 (some .int), Cond.methodLink RX10 144 yX10_costs, Cond.instanceMethod yX10_costs, Cond.selects RX10 yX10_costs yX10_costs, Cond.code yX10_costs cX10_costs 3 (some .int), Cond.methodLink RX10 147 yX10_withCoins, Cond.static yX10_withCoins, Cond.code yX10_withCoins cX10_withCoins 3 (some .int), Cond.methodLink RX10 151 yX10_gets, Cond.instanceMethod yX10_gets]
def wsX10_gains_r4 : List Cond := [Cond.selects RX10 yX10_gets yX10_gets, Cond.code yX10_gets cX10_gets 3 (some .int), Cond.fieldLink RX10 19 "OtherCoinsModel" "payOf" "[I"]
def wsX10_gains : List Cond := .code yX10_gains cX10_gains 3 (some .int) :: ((wsX10_gains_r1 ++ (wsX10_gains_r2 ++ (wsX10_gains_r3 ++ wsX10_gains_r4))) ++ wsX100)
def wsX10_trail : List Cond := .code yX10_trail cX10_trail 3 (some .int) :: ([.fieldLink RX10 116 "OtherCoinsModel" "trailMany" "I", .fieldLink RX10 28 "OtherCoinsModel" "trailOf" "I", .fieldLink RX10 25 "OtherCoinsModel" "standsOf" "[I", .fieldLink RX10 198 "OtherCoinsModel" "trailFrom" "I", .methodLink RX10 157 yX10_isPerson, .instanceMethod yX10_isPerson, .selects RX10 yX10_isPerson yX10_isPerson, .initialized RX10, .code yX10_isPerson cX10_isPerson 2 (some .boolean), .fieldLink RX10 110 "OtherCoinsModel" "people" "I", .methodLink RX10 75 yX10_within, .static yX10_within, .code yX10_within cX10_within 3 (some .boolean)] ++ wsX100)
def wsX10_next : List Cond := .code yX10_next cX10_next 2 (some .int) :: ([.fieldLink RX10 28 "OtherCoinsModel" "trailOf" "I", .fieldLink RX10 116 "OtherCoinsModel" "trailMany" "I", .fieldLink RX10 32 "OtherCoinsModel" "trailPurse" "[I", .methodLink RX10 75 yX10_within, .static yX10_within, .initialized RX10, .code yX10_within cX10_within 3 (some .boolean)] ++ wsX100)
def wsX10_goTrail_r1 : List Cond := [Cond.fieldLink RX10 61 "OtherCoinsModel" "waysThen" "[I", Cond.fieldLink RX10 58 "OtherCoinsModel" "waysOf" "[I", Cond.fieldLink RX10 22 "OtherCoinsModel" "kindOf" "[I", Cond.fieldLink RX10 28 "OtherCoinsModel" "trailOf" "I", Cond.methodLink RX10 163 yX10_isAct, Cond.static yX10_isAct, Cond.initialized RX10, Cond.code yX10_isAct cX10_isAct 1 (some .boolean), Cond.methodLink RX10 75 yX10_within, Cond.static yX10_within, Cond.code yX10_within cX10_within 3 (some .boolean), Cond.methodLink RX10 166 yX10_behind, Cond.instanceMethod yX10_behind, Cond.selects RX10 yX10_behind yX10_behind, Cond.code yX10_behind cX10_behind 7 (some .int), Cond.fieldLink RX10 13 "OtherCoinsModel" "givesOf" "[I", Cond.methodLink RX10 119 yX10_townIn, Cond.static yX10_townIn, Cond.code yX10_townIn cX10_townIn 1 (some .int), Cond.methodLink RX10 138 yX10_mayPay, Cond.instanceMethod yX10_mayPay, Cond.selects RX10 yX10_mayPay yX10_mayPay, Cond.code yX10_mayPay cX10_mayPay 4 (some .boolean), Cond.fieldLink RX10 7 "OtherCoinsModel" "takesOf" "[I"]
def wsX10_goTrail_r2 : List Cond := [Cond.methodLink RX10 82 yX10_has, Cond.static yX10_has, Cond.code yX10_has cX10_has 2 (some .boolean), Cond.methodLink RX10 141 yX10_goodsIn, Cond.static yX10_goodsIn, Cond.code yX10_goodsIn cX10_goodsIn 1 (some .int), Cond.methodLink RX10 135 yX10_coins, Cond.static yX10_coins, Cond.code yX10_coins cX10_coins 2 (some .int), Cond.methodLink RX10 129 yX10_purseIn, Cond.static yX10_purseIn, Cond.code yX10_purseIn cX10_purseIn 1 (some .int), Cond.methodLink RX10 132 yX10_weight, Cond.static yX10_weight, Cond.code yX10_weight cX10_weight 1 (some .int), Cond.methodLink RX10 144 yX10_costs, Cond.instanceMethod yX10_costs, Cond.selects RX10 yX10_costs yX10_costs, Cond.code yX10_costs cX10_costs 3 (some .int), Cond.fieldLink RX10 16 "OtherCoinsModel" "priceOf" "[I", Cond.methodLink RX10 147 yX10_withCoins, Cond.static yX10_withCoins, Cond.code yX10_withCoins cX10_withCoins 3 (some .int), Cond.methodLink RX10 151 yX10_gets]
def wsX10_goTrail_r3 : List Cond := [Cond.instanceMethod yX10_gets, Cond.selects RX10 yX10_gets yX10_gets, Cond.code yX10_gets cX10_gets 3 (some .int), Cond.fieldLink RX10 19 "OtherCoinsModel" "payOf" "[I"]
def wsX10_goTrail : List Cond := .code yX10_goTrail cX10_goTrail 7 none :: ((wsX10_goTrail_r1 ++ (wsX10_goTrail_r2 ++ wsX10_goTrail_r3)) ++ wsX100)
def wsX10_layTrail_r1 : List Cond := [Cond.fieldLink RX10 58 "OtherCoinsModel" "waysOf" "[I", Cond.fieldLink RX10 198 "OtherCoinsModel" "trailFrom" "I", Cond.fieldLink RX10 116 "OtherCoinsModel" "trailMany" "I", Cond.fieldLink RX10 32 "OtherCoinsModel" "trailPurse" "[I", Cond.methodLink RX10 119 yX10_townIn, Cond.static yX10_townIn, Cond.initialized RX10, Cond.code yX10_townIn cX10_townIn 1 (some .int), Cond.methodLink RX10 141 yX10_goodsIn, Cond.static yX10_goodsIn, Cond.code yX10_goodsIn cX10_goodsIn 1 (some .int), Cond.methodLink RX10 129 yX10_purseIn, Cond.static yX10_purseIn, Cond.code yX10_purseIn cX10_purseIn 1 (some .int), Cond.methodLink RX10 201 yX10_goTrail, Cond.instanceMethod yX10_goTrail, Cond.selects RX10 yX10_goTrail yX10_goTrail, Cond.code yX10_goTrail cX10_goTrail 7 none, Cond.fieldLink RX10 61 "OtherCoinsModel" "waysThen" "[I", Cond.fieldLink RX10 22 "OtherCoinsModel" "kindOf" "[I", Cond.fieldLink RX10 28 "OtherCoinsModel" "trailOf" "I", Cond.methodLink RX10 163 yX10_isAct, Cond.static yX10_isAct, Cond.code yX10_isAct cX10_isAct 1 (some .boolean)]
def wsX10_layTrail_r2 : List Cond := [Cond.methodLink RX10 75 yX10_within, Cond.static yX10_within, Cond.code yX10_within cX10_within 3 (some .boolean), Cond.methodLink RX10 166 yX10_behind, Cond.instanceMethod yX10_behind, Cond.selects RX10 yX10_behind yX10_behind, Cond.code yX10_behind cX10_behind 7 (some .int), Cond.fieldLink RX10 13 "OtherCoinsModel" "givesOf" "[I", Cond.methodLink RX10 138 yX10_mayPay, Cond.instanceMethod yX10_mayPay, Cond.selects RX10 yX10_mayPay yX10_mayPay, Cond.code yX10_mayPay cX10_mayPay 4 (some .boolean), Cond.fieldLink RX10 7 "OtherCoinsModel" "takesOf" "[I", Cond.methodLink RX10 82 yX10_has, Cond.static yX10_has, Cond.code yX10_has cX10_has 2 (some .boolean), Cond.methodLink RX10 135 yX10_coins, Cond.static yX10_coins, Cond.code yX10_coins cX10_coins 2 (some .int), Cond.methodLink RX10 132 yX10_weight, Cond.static yX10_weight, Cond.code yX10_weight cX10_weight 1 (some .int), Cond.methodLink RX10 144 yX10_costs, Cond.instanceMethod yX10_costs]
def wsX10_layTrail_r3 : List Cond := [Cond.selects RX10 yX10_costs yX10_costs, Cond.code yX10_costs cX10_costs 3 (some .int), Cond.fieldLink RX10 16 "OtherCoinsModel" "priceOf" "[I", Cond.methodLink RX10 147 yX10_withCoins, Cond.static yX10_withCoins, Cond.code yX10_withCoins cX10_withCoins 3 (some .int), Cond.methodLink RX10 151 yX10_gets, Cond.instanceMethod yX10_gets, Cond.selects RX10 yX10_gets yX10_gets, Cond.code yX10_gets cX10_gets 3 (some .int), Cond.fieldLink RX10 19 "OtherCoinsModel" "payOf" "[I"]
def wsX10_layTrail : List Cond := .code yX10_layTrail cX10_layTrail 2 none :: ((wsX10_layTrail_r1 ++ (wsX10_layTrail_r2 ++ wsX10_layTrail_r3)) ++ wsX100)
def wsX10_waysNow_r1 : List Cond := [Cond.fieldLink RX10 58 "OtherCoinsModel" "waysOf" "[I", Cond.methodLink RX10 204 yX10_layTrail, Cond.instanceMethod yX10_layTrail, Cond.selects RX10 yX10_layTrail yX10_layTrail, Cond.initialized RX10, Cond.code yX10_layTrail cX10_layTrail 2 none, Cond.fieldLink RX10 198 "OtherCoinsModel" "trailFrom" "I", Cond.fieldLink RX10 116 "OtherCoinsModel" "trailMany" "I", Cond.fieldLink RX10 32 "OtherCoinsModel" "trailPurse" "[I", Cond.methodLink RX10 119 yX10_townIn, Cond.static yX10_townIn, Cond.code yX10_townIn cX10_townIn 1 (some .int), Cond.methodLink RX10 141 yX10_goodsIn, Cond.static yX10_goodsIn, Cond.code yX10_goodsIn cX10_goodsIn 1 (some .int), Cond.methodLink RX10 129 yX10_purseIn, Cond.static yX10_purseIn, Cond.code yX10_purseIn cX10_purseIn 1 (some .int), Cond.methodLink RX10 201 yX10_goTrail, Cond.instanceMethod yX10_goTrail, Cond.selects RX10 yX10_goTrail yX10_goTrail, Cond.code yX10_goTrail cX10_goTrail 7 none, Cond.fieldLink RX10 61 "OtherCoinsModel" "waysThen" "[I", Cond.fieldLink RX10 22 "OtherCoinsModel" "kindOf" "[I"]
def wsX10_waysNow_r2 : List Cond := [Cond.fieldLink RX10 28 "OtherCoinsModel" "trailOf" "I", Cond.methodLink RX10 163 yX10_isAct, Cond.static yX10_isAct, Cond.code yX10_isAct cX10_isAct 1 (some .boolean), Cond.methodLink RX10 75 yX10_within, Cond.static yX10_within, Cond.code yX10_within cX10_within 3 (some .boolean), Cond.methodLink RX10 166 yX10_behind, Cond.instanceMethod yX10_behind, Cond.selects RX10 yX10_behind yX10_behind, Cond.code yX10_behind cX10_behind 7 (some .int), Cond.fieldLink RX10 13 "OtherCoinsModel" "givesOf" "[I", Cond.methodLink RX10 138 yX10_mayPay, Cond.instanceMethod yX10_mayPay, Cond.selects RX10 yX10_mayPay yX10_mayPay, Cond.code yX10_mayPay cX10_mayPay 4 (some .boolean), Cond.fieldLink RX10 7 "OtherCoinsModel" "takesOf" "[I", Cond.methodLink RX10 82 yX10_has, Cond.static yX10_has, Cond.code yX10_has cX10_has 2 (some .boolean), Cond.methodLink RX10 135 yX10_coins, Cond.static yX10_coins, Cond.code yX10_coins cX10_coins 2 (some .int), Cond.methodLink RX10 132 yX10_weight]
def wsX10_waysNow_r3 : List Cond := [Cond.static yX10_weight, Cond.code yX10_weight cX10_weight 1 (some .int), Cond.methodLink RX10 144 yX10_costs, Cond.instanceMethod yX10_costs, Cond.selects RX10 yX10_costs yX10_costs, Cond.code yX10_costs cX10_costs 3 (some .int), Cond.fieldLink RX10 16 "OtherCoinsModel" "priceOf" "[I", Cond.methodLink RX10 147 yX10_withCoins, Cond.static yX10_withCoins, Cond.code yX10_withCoins cX10_withCoins 3 (some .int), Cond.methodLink RX10 151 yX10_gets, Cond.instanceMethod yX10_gets, Cond.selects RX10 yX10_gets yX10_gets, Cond.code yX10_gets cX10_gets 3 (some .int), Cond.fieldLink RX10 19 "OtherCoinsModel" "payOf" "[I"]
def wsX10_waysNow : List Cond := .code yX10_waysNow cX10_waysNow 3 (some .int) :: ((wsX10_waysNow_r1 ++ (wsX10_waysNow_r2 ++ wsX10_waysNow_r3)) ++ wsX100)
def wsX10_endsNow_r1 : List Cond := [Cond.fieldLink RX10 58 "OtherCoinsModel" "waysOf" "[I", Cond.methodLink RX10 204 yX10_layTrail, Cond.instanceMethod yX10_layTrail, Cond.selects RX10 yX10_layTrail yX10_layTrail, Cond.initialized RX10, Cond.code yX10_layTrail cX10_layTrail 2 none, Cond.fieldLink RX10 198 "OtherCoinsModel" "trailFrom" "I", Cond.fieldLink RX10 116 "OtherCoinsModel" "trailMany" "I", Cond.fieldLink RX10 32 "OtherCoinsModel" "trailPurse" "[I", Cond.methodLink RX10 119 yX10_townIn, Cond.static yX10_townIn, Cond.code yX10_townIn cX10_townIn 1 (some .int), Cond.methodLink RX10 141 yX10_goodsIn, Cond.static yX10_goodsIn, Cond.code yX10_goodsIn cX10_goodsIn 1 (some .int), Cond.methodLink RX10 129 yX10_purseIn, Cond.static yX10_purseIn, Cond.code yX10_purseIn cX10_purseIn 1 (some .int), Cond.methodLink RX10 201 yX10_goTrail, Cond.instanceMethod yX10_goTrail, Cond.selects RX10 yX10_goTrail yX10_goTrail, Cond.code yX10_goTrail cX10_goTrail 7 none, Cond.fieldLink RX10 61 "OtherCoinsModel" "waysThen" "[I", Cond.fieldLink RX10 22 "OtherCoinsModel" "kindOf" "[I"]
def wsX10_endsNow_r2 : List Cond := [Cond.fieldLink RX10 28 "OtherCoinsModel" "trailOf" "I", Cond.methodLink RX10 163 yX10_isAct, Cond.static yX10_isAct, Cond.code yX10_isAct cX10_isAct 1 (some .boolean), Cond.methodLink RX10 75 yX10_within, Cond.static yX10_within, Cond.code yX10_within cX10_within 3 (some .boolean), Cond.methodLink RX10 166 yX10_behind, Cond.instanceMethod yX10_behind, Cond.selects RX10 yX10_behind yX10_behind, Cond.code yX10_behind cX10_behind 7 (some .int), Cond.fieldLink RX10 13 "OtherCoinsModel" "givesOf" "[I", Cond.methodLink RX10 138 yX10_mayPay, Cond.instanceMethod yX10_mayPay, Cond.selects RX10 yX10_mayPay yX10_mayPay, Cond.code yX10_mayPay cX10_mayPay 4 (some .boolean), Cond.fieldLink RX10 7 "OtherCoinsModel" "takesOf" "[I", Cond.methodLink RX10 82 yX10_has, Cond.static yX10_has, Cond.code yX10_has cX10_has 2 (some .boolean), Cond.methodLink RX10 135 yX10_coins, Cond.static yX10_coins, Cond.code yX10_coins cX10_coins 2 (some .int), Cond.methodLink RX10 132 yX10_weight]
def wsX10_endsNow_r3 : List Cond := [Cond.static yX10_weight, Cond.code yX10_weight cX10_weight 1 (some .int), Cond.methodLink RX10 144 yX10_costs, Cond.instanceMethod yX10_costs, Cond.selects RX10 yX10_costs yX10_costs, Cond.code yX10_costs cX10_costs 3 (some .int), Cond.fieldLink RX10 16 "OtherCoinsModel" "priceOf" "[I", Cond.methodLink RX10 147 yX10_withCoins, Cond.static yX10_withCoins, Cond.code yX10_withCoins cX10_withCoins 3 (some .int), Cond.methodLink RX10 151 yX10_gets, Cond.instanceMethod yX10_gets, Cond.selects RX10 yX10_gets yX10_gets, Cond.code yX10_gets cX10_gets 3 (some .int), Cond.fieldLink RX10 19 "OtherCoinsModel" "payOf" "[I"]
def wsX10_endsNow : List Cond := .code yX10_endsNow cX10_endsNow 3 (some .int) :: ((wsX10_endsNow_r1 ++ (wsX10_endsNow_r2 ++ wsX10_endsNow_r3)) ++ wsX100)
def wsX10_ways_r1 : List Cond := [Cond.fieldLink RX10 28 "OtherCoinsModel" "trailOf" "I", Cond.methodLink RX10 207 yX10_waysNow, Cond.instanceMethod yX10_waysNow, Cond.selects RX10 yX10_waysNow yX10_waysNow, Cond.initialized RX10, Cond.code yX10_waysNow cX10_waysNow 3 (some .int), Cond.fieldLink RX10 58 "OtherCoinsModel" "waysOf" "[I", Cond.methodLink RX10 204 yX10_layTrail, Cond.instanceMethod yX10_layTrail, Cond.selects RX10 yX10_layTrail yX10_layTrail, Cond.code yX10_layTrail cX10_layTrail 2 none, Cond.fieldLink RX10 198 "OtherCoinsModel" "trailFrom" "I", Cond.fieldLink RX10 116 "OtherCoinsModel" "trailMany" "I", Cond.fieldLink RX10 32 "OtherCoinsModel" "trailPurse" "[I", Cond.methodLink RX10 119 yX10_townIn, Cond.static yX10_townIn, Cond.code yX10_townIn cX10_townIn 1 (some .int), Cond.methodLink RX10 141 yX10_goodsIn, Cond.static yX10_goodsIn, Cond.code yX10_goodsIn cX10_goodsIn 1 (some .int), Cond.methodLink RX10 129 yX10_purseIn, Cond.static yX10_purseIn, Cond.code yX10_purseIn cX10_purseIn 1 (some .int), Cond.methodLink RX10 201 yX10_goTrail]
def wsX10_ways_r2 : List Cond := [Cond.instanceMethod yX10_goTrail, Cond.selects RX10 yX10_goTrail yX10_goTrail, Cond.code yX10_goTrail cX10_goTrail 7 none, Cond.fieldLink RX10 61 "OtherCoinsModel" "waysThen" "[I", Cond.fieldLink RX10 22 "OtherCoinsModel" "kindOf" "[I", Cond.methodLink RX10 163 yX10_isAct, Cond.static yX10_isAct, Cond.code yX10_isAct cX10_isAct 1 (some .boolean), Cond.methodLink RX10 75 yX10_within, Cond.static yX10_within, Cond.code yX10_within cX10_within 3 (some .boolean), Cond.methodLink RX10 166 yX10_behind, Cond.instanceMethod yX10_behind, Cond.selects RX10 yX10_behind yX10_behind, Cond.code yX10_behind cX10_behind 7 (some .int), Cond.fieldLink RX10 13 "OtherCoinsModel" "givesOf" "[I", Cond.methodLink RX10 138 yX10_mayPay, Cond.instanceMethod yX10_mayPay, Cond.selects RX10 yX10_mayPay yX10_mayPay, Cond.code yX10_mayPay cX10_mayPay 4 (some .boolean), Cond.fieldLink RX10 7 "OtherCoinsModel" "takesOf" "[I", Cond.methodLink RX10 82 yX10_has, Cond.static yX10_has, Cond.code yX10_has cX10_has 2 (some .boolean)]
def wsX10_ways_r3 : List Cond := [Cond.methodLink RX10 135 yX10_coins, Cond.static yX10_coins, Cond.code yX10_coins cX10_coins 2 (some .int), Cond.methodLink RX10 132 yX10_weight, Cond.static yX10_weight, Cond.code yX10_weight cX10_weight 1 (some .int), Cond.methodLink RX10 144 yX10_costs, Cond.instanceMethod yX10_costs, Cond.selects RX10 yX10_costs yX10_costs, Cond.code yX10_costs cX10_costs 3 (some .int), Cond.fieldLink RX10 16 "OtherCoinsModel" "priceOf" "[I", Cond.methodLink RX10 147 yX10_withCoins, Cond.static yX10_withCoins, Cond.code yX10_withCoins cX10_withCoins 3 (some .int), Cond.methodLink RX10 151 yX10_gets, Cond.instanceMethod yX10_gets, Cond.selects RX10 yX10_gets yX10_gets, Cond.code yX10_gets cX10_gets 3 (some .int), Cond.fieldLink RX10 19 "OtherCoinsModel" "payOf" "[I"]
def wsX10_ways : List Cond := .code yX10_ways cX10_ways 1 (some .int) :: ((wsX10_ways_r1 ++ (wsX10_ways_r2 ++ wsX10_ways_r3)) ++ wsX100)
def wsX10_ends_r1 : List Cond := [Cond.fieldLink RX10 28 "OtherCoinsModel" "trailOf" "I", Cond.methodLink RX10 211 yX10_endsNow, Cond.instanceMethod yX10_endsNow, Cond.selects RX10 yX10_endsNow yX10_endsNow, Cond.initialized RX10, Cond.code yX10_endsNow cX10_endsNow 3 (some .int), Cond.fieldLink RX10 58 "OtherCoinsModel" "waysOf" "[I", Cond.methodLink RX10 204 yX10_layTrail, Cond.instanceMethod yX10_layTrail, Cond.selects RX10 yX10_layTrail yX10_layTrail, Cond.code yX10_layTrail cX10_layTrail 2 none, Cond.fieldLink RX10 198 "OtherCoinsModel" "trailFrom" "I", Cond.fieldLink RX10 116 "OtherCoinsModel" "trailMany" "I", Cond.fieldLink RX10 32 "OtherCoinsModel" "trailPurse" "[I", Cond.methodLink RX10 119 yX10_townIn, Cond.static yX10_townIn, Cond.code yX10_townIn cX10_townIn 1 (some .int), Cond.methodLink RX10 141 yX10_goodsIn, Cond.static yX10_goodsIn, Cond.code yX10_goodsIn cX10_goodsIn 1 (some .int), Cond.methodLink RX10 129 yX10_purseIn, Cond.static yX10_purseIn, Cond.code yX10_purseIn cX10_purseIn 1 (some .int), Cond.methodLink RX10 201 yX10_goTrail]
def wsX10_ends_r2 : List Cond := [Cond.instanceMethod yX10_goTrail, Cond.selects RX10 yX10_goTrail yX10_goTrail, Cond.code yX10_goTrail cX10_goTrail 7 none, Cond.fieldLink RX10 61 "OtherCoinsModel" "waysThen" "[I", Cond.fieldLink RX10 22 "OtherCoinsModel" "kindOf" "[I", Cond.methodLink RX10 163 yX10_isAct, Cond.static yX10_isAct, Cond.code yX10_isAct cX10_isAct 1 (some .boolean), Cond.methodLink RX10 75 yX10_within, Cond.static yX10_within, Cond.code yX10_within cX10_within 3 (some .boolean), Cond.methodLink RX10 166 yX10_behind, Cond.instanceMethod yX10_behind, Cond.selects RX10 yX10_behind yX10_behind, Cond.code yX10_behind cX10_behind 7 (some .int), Cond.fieldLink RX10 13 "OtherCoinsModel" "givesOf" "[I", Cond.methodLink RX10 138 yX10_mayPay, Cond.instanceMethod yX10_mayPay, Cond.selects RX10 yX10_mayPay yX10_mayPay, Cond.code yX10_mayPay cX10_mayPay 4 (some .boolean), Cond.fieldLink RX10 7 "OtherCoinsModel" "takesOf" "[I", Cond.methodLink RX10 82 yX10_has, Cond.static yX10_has, Cond.code yX10_has cX10_has 2 (some .boolean)]
def wsX10_ends_r3 : List Cond := [Cond.methodLink RX10 135 yX10_coins, Cond.static yX10_coins, Cond.code yX10_coins cX10_coins 2 (some .int), Cond.methodLink RX10 132 yX10_weight, Cond.static yX10_weight, Cond.code yX10_weight cX10_weight 1 (some .int), Cond.methodLink RX10 144 yX10_costs, Cond.instanceMethod yX10_costs, Cond.selects RX10 yX10_costs yX10_costs, Cond.code yX10_costs cX10_costs 3 (some .int), Cond.fieldLink RX10 16 "OtherCoinsModel" "priceOf" "[I", Cond.methodLink RX10 147 yX10_withCoins, Cond.static yX10_withCoins, Cond.code yX10_withCoins cX10_withCoins 3 (some .int), Cond.methodLink RX10 151 yX10_gets, Cond.instanceMethod yX10_gets, Cond.selects RX10 yX10_gets yX10_gets, Cond.code yX10_gets cX10_gets 3 (some .int), Cond.fieldLink RX10 19 "OtherCoinsModel" "payOf" "[I"]
def wsX10_ends : List Cond := .code yX10_ends cX10_ends 1 (some .int) :: ((wsX10_ends_r1 ++ (wsX10_ends_r2 ++ wsX10_ends_r3)) ++ wsX100)
def wsX10_draw : List Cond := .code yX10_draw cX10_draw 2 (some .int) :: ([.constantLong RX10 214 (1103515245), .fieldLink RX10 216 "OtherCoinsModel" "seedNow" "J", .constantLong RX10 220 (12345), .constantLong RX10 222 (2147483647), .constantLong RX10 224 (65536)] ++ wsX100)
def wsX10_mayMany_r1 : List Cond := [Cond.methodLink RX10 163 yX10_isAct, Cond.static yX10_isAct, Cond.initialized RX10, Cond.code yX10_isAct cX10_isAct 1 (some .boolean), Cond.methodLink RX10 75 yX10_within, Cond.static yX10_within, Cond.code yX10_within cX10_within 3 (some .boolean), Cond.methodLink RX10 166 yX10_behind, Cond.instanceMethod yX10_behind, Cond.selects RX10 yX10_behind yX10_behind, Cond.code yX10_behind cX10_behind 7 (some .int), Cond.fieldLink RX10 13 "OtherCoinsModel" "givesOf" "[I", Cond.methodLink RX10 119 yX10_townIn, Cond.static yX10_townIn, Cond.code yX10_townIn cX10_townIn 1 (some .int), Cond.methodLink RX10 138 yX10_mayPay, Cond.instanceMethod yX10_mayPay, Cond.selects RX10 yX10_mayPay yX10_mayPay, Cond.code yX10_mayPay cX10_mayPay 4 (some .boolean), Cond.fieldLink RX10 7 "OtherCoinsModel" "takesOf" "[I", Cond.methodLink RX10 82 yX10_has, Cond.static yX10_has, Cond.code yX10_has cX10_has 2 (some .boolean), Cond.methodLink RX10 141 yX10_goodsIn]
def wsX10_mayMany_r2 : List Cond := [Cond.static yX10_goodsIn, Cond.code yX10_goodsIn cX10_goodsIn 1 (some .int), Cond.methodLink RX10 135 yX10_coins, Cond.static yX10_coins, Cond.code yX10_coins cX10_coins 2 (some .int), Cond.methodLink RX10 129 yX10_purseIn, Cond.static yX10_purseIn, Cond.code yX10_purseIn cX10_purseIn 1 (some .int), Cond.methodLink RX10 132 yX10_weight, Cond.static yX10_weight, Cond.code yX10_weight cX10_weight 1 (some .int), Cond.methodLink RX10 144 yX10_costs, Cond.instanceMethod yX10_costs, Cond.selects RX10 yX10_costs yX10_costs, Cond.code yX10_costs cX10_costs 3 (some .int), Cond.fieldLink RX10 16 "OtherCoinsModel" "priceOf" "[I", Cond.methodLink RX10 147 yX10_withCoins, Cond.static yX10_withCoins, Cond.code yX10_withCoins cX10_withCoins 3 (some .int), Cond.methodLink RX10 151 yX10_gets, Cond.instanceMethod yX10_gets, Cond.selects RX10 yX10_gets yX10_gets, Cond.code yX10_gets cX10_gets 3 (some .int), Cond.fieldLink RX10 19 "OtherCoinsModel" "payOf" "[I"]
def wsX10_mayMany : List Cond := .code yX10_mayMany cX10_mayMany 5 (some .int) :: ((wsX10_mayMany_r1 ++ wsX10_mayMany_r2) ++ wsX100)
def wsX10_actBy_r1 : List Cond := [Cond.methodLink RX10 163 yX10_isAct, Cond.static yX10_isAct, Cond.initialized RX10, Cond.code yX10_isAct cX10_isAct 1 (some .boolean), Cond.methodLink RX10 75 yX10_within, Cond.static yX10_within, Cond.code yX10_within cX10_within 3 (some .boolean), Cond.methodLink RX10 166 yX10_behind, Cond.instanceMethod yX10_behind, Cond.selects RX10 yX10_behind yX10_behind, Cond.code yX10_behind cX10_behind 7 (some .int), Cond.fieldLink RX10 13 "OtherCoinsModel" "givesOf" "[I", Cond.methodLink RX10 119 yX10_townIn, Cond.static yX10_townIn, Cond.code yX10_townIn cX10_townIn 1 (some .int), Cond.methodLink RX10 138 yX10_mayPay, Cond.instanceMethod yX10_mayPay, Cond.selects RX10 yX10_mayPay yX10_mayPay, Cond.code yX10_mayPay cX10_mayPay 4 (some .boolean), Cond.fieldLink RX10 7 "OtherCoinsModel" "takesOf" "[I", Cond.methodLink RX10 82 yX10_has, Cond.static yX10_has, Cond.code yX10_has cX10_has 2 (some .boolean), Cond.methodLink RX10 141 yX10_goodsIn]
def wsX10_actBy_r2 : List Cond := [Cond.static yX10_goodsIn, Cond.code yX10_goodsIn cX10_goodsIn 1 (some .int), Cond.methodLink RX10 135 yX10_coins, Cond.static yX10_coins, Cond.code yX10_coins cX10_coins 2 (some .int), Cond.methodLink RX10 129 yX10_purseIn, Cond.static yX10_purseIn, Cond.code yX10_purseIn cX10_purseIn 1 (some .int), Cond.methodLink RX10 132 yX10_weight, Cond.static yX10_weight, Cond.code yX10_weight cX10_weight 1 (some .int), Cond.methodLink RX10 144 yX10_costs, Cond.instanceMethod yX10_costs, Cond.selects RX10 yX10_costs yX10_costs, Cond.code yX10_costs cX10_costs 3 (some .int), Cond.fieldLink RX10 16 "OtherCoinsModel" "priceOf" "[I", Cond.methodLink RX10 147 yX10_withCoins, Cond.static yX10_withCoins, Cond.code yX10_withCoins cX10_withCoins 3 (some .int), Cond.methodLink RX10 151 yX10_gets, Cond.instanceMethod yX10_gets, Cond.selects RX10 yX10_gets yX10_gets, Cond.code yX10_gets cX10_gets 3 (some .int), Cond.fieldLink RX10 19 "OtherCoinsModel" "payOf" "[I"]
def wsX10_actBy : List Cond := .code yX10_actBy cX10_actBy 8 (some .int) :: ((wsX10_actBy_r1 ++ wsX10_actBy_r2) ++ wsX100)
def wsX10_walkNow_r1 : List Cond := [Cond.fieldLink RX10 216 "OtherCoinsModel" "seedNow" "J", Cond.fieldLink RX10 25 "OtherCoinsModel" "standsOf" "[I", Cond.fieldLink RX10 22 "OtherCoinsModel" "kindOf" "[I", Cond.methodLink RX10 226 yX10_mayMany, Cond.instanceMethod yX10_mayMany, Cond.selects RX10 yX10_mayMany yX10_mayMany, Cond.initialized RX10, Cond.code yX10_mayMany cX10_mayMany 5 (some .int), Cond.methodLink RX10 163 yX10_isAct, Cond.static yX10_isAct, Cond.code yX10_isAct cX10_isAct 1 (some .boolean), Cond.methodLink RX10 75 yX10_within, Cond.static yX10_within, Cond.code yX10_within cX10_within 3 (some .boolean), Cond.methodLink RX10 166 yX10_behind, Cond.instanceMethod yX10_behind, Cond.selects RX10 yX10_behind yX10_behind, Cond.code yX10_behind cX10_behind 7 (some .int), Cond.fieldLink RX10 13 "OtherCoinsModel" "givesOf" "[I", Cond.methodLink RX10 119 yX10_townIn, Cond.static yX10_townIn, Cond.code yX10_townIn cX10_townIn 1 (some .int), Cond.methodLink RX10 138 yX10_mayPay, Cond.instanceMethod yX10_mayPay]
def wsX10_walkNow_r2 : List Cond := [Cond.selects RX10 yX10_mayPay yX10_mayPay, Cond.code yX10_mayPay cX10_mayPay 4 (some .boolean), Cond.fieldLink RX10 7 "OtherCoinsModel" "takesOf" "[I", Cond.methodLink RX10 82 yX10_has, Cond.static yX10_has, Cond.code yX10_has cX10_has 2 (some .boolean), Cond.methodLink RX10 141 yX10_goodsIn, Cond.static yX10_goodsIn, Cond.code yX10_goodsIn cX10_goodsIn 1 (some .int), Cond.methodLink RX10 135 yX10_coins, Cond.static yX10_coins, Cond.code yX10_coins cX10_coins 2 (some .int), Cond.methodLink RX10 129 yX10_purseIn, Cond.static yX10_purseIn, Cond.code yX10_purseIn cX10_purseIn 1 (some .int), Cond.methodLink RX10 132 yX10_weight, Cond.static yX10_weight, Cond.code yX10_weight cX10_weight 1 (some .int), Cond.methodLink RX10 144 yX10_costs, Cond.instanceMethod yX10_costs, Cond.selects RX10 yX10_costs yX10_costs, Cond.code yX10_costs cX10_costs 3 (some .int), Cond.fieldLink RX10 16 "OtherCoinsModel" "priceOf" "[I", Cond.methodLink RX10 147 yX10_withCoins]
def wsX10_walkNow_r3 : List Cond := [Cond.static yX10_withCoins, Cond.code yX10_withCoins cX10_withCoins 3 (some .int), Cond.methodLink RX10 151 yX10_gets, Cond.instanceMethod yX10_gets, Cond.selects RX10 yX10_gets yX10_gets, Cond.code yX10_gets cX10_gets 3 (some .int), Cond.fieldLink RX10 19 "OtherCoinsModel" "payOf" "[I", Cond.methodLink RX10 229 yX10_draw, Cond.instanceMethod yX10_draw, Cond.selects RX10 yX10_draw yX10_draw, Cond.code yX10_draw cX10_draw 2 (some .int), Cond.constantLong RX10 214 (1103515245), Cond.constantLong RX10 220 (12345), Cond.constantLong RX10 222 (2147483647), Cond.constantLong RX10 224 (65536), Cond.methodLink RX10 232 yX10_actBy, Cond.instanceMethod yX10_actBy, Cond.selects RX10 yX10_actBy yX10_actBy, Cond.code yX10_actBy cX10_actBy 8 (some .int), Cond.methodLink RX10 154 yX10_coinsAll, Cond.static yX10_coinsAll, Cond.code yX10_coinsAll cX10_coinsAll 1 (some .int)]
def wsX10_walkNow : List Cond := .code yX10_walkNow cX10_walkNow 7 (some .int) :: ((wsX10_walkNow_r1 ++ (wsX10_walkNow_r2 ++ wsX10_walkNow_r3)) ++ wsX100)
def wsX10_walk_r1 : List Cond := [Cond.methodLink RX10 157 yX10_isPerson, Cond.instanceMethod yX10_isPerson, Cond.selects RX10 yX10_isPerson yX10_isPerson, Cond.initialized RX10, Cond.code yX10_isPerson cX10_isPerson 2 (some .boolean), Cond.fieldLink RX10 110 "OtherCoinsModel" "people" "I", Cond.methodLink RX10 75 yX10_within, Cond.static yX10_within, Cond.code yX10_within cX10_within 3 (some .boolean), Cond.methodLink RX10 235 yX10_walkNow, Cond.instanceMethod yX10_walkNow, Cond.selects RX10 yX10_walkNow yX10_walkNow, Cond.code yX10_walkNow cX10_walkNow 7 (some .int), Cond.fieldLink RX10 216 "OtherCoinsModel" "seedNow" "J", Cond.fieldLink RX10 25 "OtherCoinsModel" "standsOf" "[I", Cond.fieldLink RX10 22 "OtherCoinsModel" "kindOf" "[I", Cond.methodLink RX10 226 yX10_mayMany, Cond.instanceMethod yX10_mayMany, Cond.selects RX10 yX10_mayMany yX10_mayMany, Cond.code yX10_mayMany cX10_mayMany 5 (some .int), Cond.methodLink RX10 163 yX10_isAct, Cond.static yX10_isAct, Cond.code yX10_isAct cX10_isAct 1 (some .boolean), Cond.methodLink RX10 166 yX10_behind]
def wsX10_walk_r2 : List Cond := [Cond.instanceMethod yX10_behind, Cond.selects RX10 yX10_behind yX10_behind, Cond.code yX10_behind cX10_behind 7 (some .int), Cond.fieldLink RX10 13 "OtherCoinsModel" "givesOf" "[I", Cond.methodLink RX10 119 yX10_townIn, Cond.static yX10_townIn, Cond.code yX10_townIn cX10_townIn 1 (some .int), Cond.methodLink RX10 138 yX10_mayPay, Cond.instanceMethod yX10_mayPay, Cond.selects RX10 yX10_mayPay yX10_mayPay, Cond.code yX10_mayPay cX10_mayPay 4 (some .boolean), Cond.fieldLink RX10 7 "OtherCoinsModel" "takesOf" "[I", Cond.methodLink RX10 82 yX10_has, Cond.static yX10_has, Cond.code yX10_has cX10_has 2 (some .boolean), Cond.methodLink RX10 141 yX10_goodsIn, Cond.static yX10_goodsIn, Cond.code yX10_goodsIn cX10_goodsIn 1 (some .int), Cond.methodLink RX10 135 yX10_coins, Cond.static yX10_coins, Cond.code yX10_coins cX10_coins 2 (some .int), Cond.methodLink RX10 129 yX10_purseIn, Cond.static yX10_purseIn, Cond.code yX10_purseIn cX10_purseIn 1 (some .int)]
def wsX10_walk_r3 : List Cond := [Cond.methodLink RX10 132 yX10_weight, Cond.static yX10_weight, Cond.code yX10_weight cX10_weight 1 (some .int), Cond.methodLink RX10 144 yX10_costs, Cond.instanceMethod yX10_costs, Cond.selects RX10 yX10_costs yX10_costs, Cond.code yX10_costs cX10_costs 3 (some .int), Cond.fieldLink RX10 16 "OtherCoinsModel" "priceOf" "[I", Cond.methodLink RX10 147 yX10_withCoins, Cond.static yX10_withCoins, Cond.code yX10_withCoins cX10_withCoins 3 (some .int), Cond.methodLink RX10 151 yX10_gets, Cond.instanceMethod yX10_gets, Cond.selects RX10 yX10_gets yX10_gets, Cond.code yX10_gets cX10_gets 3 (some .int), Cond.fieldLink RX10 19 "OtherCoinsModel" "payOf" "[I", Cond.methodLink RX10 229 yX10_draw, Cond.instanceMethod yX10_draw, Cond.selects RX10 yX10_draw yX10_draw, Cond.code yX10_draw cX10_draw 2 (some .int), Cond.constantLong RX10 214 (1103515245), Cond.constantLong RX10 220 (12345), Cond.constantLong RX10 222 (2147483647), Cond.constantLong RX10 224 (65536)]
def wsX10_walk_r4 : List Cond := [Cond.methodLink RX10 232 yX10_actBy, Cond.instanceMethod yX10_actBy, Cond.selects RX10 yX10_actBy yX10_actBy, Cond.code yX10_actBy cX10_actBy 8 (some .int), Cond.methodLink RX10 154 yX10_coinsAll, Cond.static yX10_coinsAll, Cond.code yX10_coinsAll cX10_coinsAll 1 (some .int)]
def wsX10_walk : List Cond := .code yX10_walk cX10_walk 5 (some .int) :: ((wsX10_walk_r1 ++ (wsX10_walk_r2 ++ (wsX10_walk_r3 ++ wsX10_walk_r4))) ++ wsX100)
def wsX10_image : List Cond := .code yX10_image cX10_image 2 (some .int) :: ([.fieldLink RX10 104 "OtherCoinsModel" "isLaw" "Z", .fieldLink RX10 239 "OtherCoinsModel" "isKept" "Z", .fieldLink RX10 107 "OtherCoinsModel" "laws" "I", .fieldLink RX10 242 "OtherCoinsModel" "keptLaw" "I", .fieldLink RX10 110 "OtherCoinsModel" "people" "I", .fieldLink RX10 245 "OtherCoinsModel" "keptPeople" "I", .fieldLink RX10 113 "OtherCoinsModel" "acts" "I", .fieldLink RX10 248 "OtherCoinsModel" "keptActs" "I", .fieldLink RX10 64 "OtherCoinsModel" "keptStands" "[I", .fieldLink RX10 25 "OtherCoinsModel" "standsOf" "[I", .fieldLink RX10 67 "OtherCoinsModel" "keptPrice" "[I", .fieldLink RX10 16 "OtherCoinsModel" "priceOf" "[I"] ++ wsX100)
def wsX10_restore : List Cond := .code yX10_restore cX10_restore 2 (some .int) :: ([.fieldLink RX10 239 "OtherCoinsModel" "isKept" "Z", .fieldLink RX10 242 "OtherCoinsModel" "keptLaw" "I", .fieldLink RX10 107 "OtherCoinsModel" "laws" "I", .fieldLink RX10 245 "OtherCoinsModel" "keptPeople" "I", .fieldLink RX10 110 "OtherCoinsModel" "people" "I", .fieldLink RX10 248 "OtherCoinsModel" "keptActs" "I", .fieldLink RX10 113 "OtherCoinsModel" "acts" "I", .fieldLink RX10 28 "OtherCoinsModel" "trailOf" "I", .fieldLink RX10 116 "OtherCoinsModel" "trailMany" "I", .fieldLink RX10 25 "OtherCoinsModel" "standsOf" "[I", .fieldLink RX10 64 "OtherCoinsModel" "keptStands" "[I", .fieldLink RX10 16 "OtherCoinsModel" "priceOf" "[I", .fieldLink RX10 67 "OtherCoinsModel" "keptPrice" "[I"] ++ wsX100)
def wsX10_howMany_r1 : List Cond := [Cond.fieldLink RX10 110 "OtherCoinsModel" "people" "I", Cond.fieldLink RX10 25 "OtherCoinsModel" "standsOf" "[I", Cond.fieldLink RX10 113 "OtherCoinsModel" "acts" "I", Cond.fieldLink RX10 116 "OtherCoinsModel" "trailMany" "I", Cond.fieldLink RX10 72 "OtherCoinsModel" "pageLength" "I", Cond.fieldLink RX10 107 "OtherCoinsModel" "laws" "I", Cond.fieldLink RX10 183 "OtherCoinsModel" "asks" "I", Cond.methodLink RX10 154 yX10_coinsAll, Cond.static yX10_coinsAll, Cond.initialized RX10, Cond.code yX10_coinsAll cX10_coinsAll 1 (some .int), Cond.methodLink RX10 135 yX10_coins, Cond.static yX10_coins, Cond.code yX10_coins cX10_coins 2 (some .int), Cond.methodLink RX10 129 yX10_purseIn, Cond.static yX10_purseIn, Cond.code yX10_purseIn cX10_purseIn 1 (some .int), Cond.methodLink RX10 132 yX10_weight, Cond.static yX10_weight, Cond.code yX10_weight cX10_weight 1 (some .int), Cond.methodLink RX10 141 yX10_goodsIn, Cond.static yX10_goodsIn, Cond.code yX10_goodsIn cX10_goodsIn 1 (some .int), Cond.methodLink RX10 100 yX10_size]
def wsX10_howMany_r2 : List Cond := [Cond.static yX10_size, Cond.code yX10_size cX10_size 3 (some .int)]
def wsX10_howMany : List Cond := .code yX10_howMany cX10_howMany 4 (some .int) :: ((wsX10_howMany_r1 ++ wsX10_howMany_r2) ++ wsX100)
def wsX10_count_r1 : List Cond := [Cond.methodLink RX10 251 yX10_howMany, Cond.instanceMethod yX10_howMany, Cond.selects RX10 yX10_howMany yX10_howMany, Cond.initialized RX10, Cond.code yX10_howMany cX10_howMany 4 (some .int), Cond.fieldLink RX10 110 "OtherCoinsModel" "people" "I", Cond.fieldLink RX10 25 "OtherCoinsModel" "standsOf" "[I", Cond.fieldLink RX10 113 "OtherCoinsModel" "acts" "I", Cond.fieldLink RX10 116 "OtherCoinsModel" "trailMany" "I", Cond.fieldLink RX10 72 "OtherCoinsModel" "pageLength" "I", Cond.fieldLink RX10 107 "OtherCoinsModel" "laws" "I", Cond.fieldLink RX10 183 "OtherCoinsModel" "asks" "I", Cond.methodLink RX10 154 yX10_coinsAll, Cond.static yX10_coinsAll, Cond.code yX10_coinsAll cX10_coinsAll 1 (some .int), Cond.methodLink RX10 135 yX10_coins, Cond.static yX10_coins, Cond.code yX10_coins cX10_coins 2 (some .int), Cond.methodLink RX10 129 yX10_purseIn, Cond.static yX10_purseIn, Cond.code yX10_purseIn cX10_purseIn 1 (some .int), Cond.methodLink RX10 132 yX10_weight, Cond.static yX10_weight, Cond.code yX10_weight cX10_weight 1 (some .int)]
def wsX10_count_r2 : List Cond := [Cond.methodLink RX10 141 yX10_goodsIn, Cond.static yX10_goodsIn, Cond.code yX10_goodsIn cX10_goodsIn 1 (some .int), Cond.methodLink RX10 100 yX10_size, Cond.static yX10_size, Cond.code yX10_size cX10_size 3 (some .int)]
def wsX10_count : List Cond := .code yX10_count cX10_count 2 (some .int) :: ((wsX10_count_r1 ++ wsX10_count_r2) ++ wsX100)
def wsX10_mix : List Cond := .code yX10_mix cX10_mix 3 none :: ([.constantLong RX10 254 (31), .fieldLink RX10 256 "OtherCoinsModel" "h" "J"] ++ wsX100)
def wsX10_mixPerson_r1 : List Cond := [Cond.fieldLink RX10 22 "OtherCoinsModel" "kindOf" "[I", Cond.fieldLink RX10 25 "OtherCoinsModel" "standsOf" "[I", Cond.methodLink RX10 160 yX10_personNow, Cond.instanceMethod yX10_personNow, Cond.selects RX10 yX10_personNow yX10_personNow, Cond.initialized RX10, Cond.code yX10_personNow cX10_personNow 4 (some .int), Cond.methodLink RX10 119 yX10_townIn, Cond.static yX10_townIn, Cond.code yX10_townIn cX10_townIn 1 (some .int), Cond.methodLink RX10 141 yX10_goodsIn, Cond.static yX10_goodsIn, Cond.code yX10_goodsIn cX10_goodsIn 1 (some .int), Cond.methodLink RX10 154 yX10_coinsAll, Cond.static yX10_coinsAll, Cond.code yX10_coinsAll cX10_coinsAll 1 (some .int), Cond.methodLink RX10 135 yX10_coins, Cond.static yX10_coins, Cond.code yX10_coins cX10_coins 2 (some .int), Cond.methodLink RX10 129 yX10_purseIn, Cond.static yX10_purseIn, Cond.code yX10_purseIn cX10_purseIn 1 (some .int), Cond.methodLink RX10 132 yX10_weight, Cond.static yX10_weight]
def wsX10_mixPerson_r2 : List Cond := [Cond.code yX10_weight cX10_weight 1 (some .int), Cond.methodLink RX10 144 yX10_costs, Cond.instanceMethod yX10_costs, Cond.selects RX10 yX10_costs yX10_costs, Cond.code yX10_costs cX10_costs 3 (some .int), Cond.fieldLink RX10 16 "OtherCoinsModel" "priceOf" "[I", Cond.methodLink RX10 151 yX10_gets, Cond.instanceMethod yX10_gets, Cond.selects RX10 yX10_gets yX10_gets, Cond.code yX10_gets cX10_gets 3 (some .int), Cond.fieldLink RX10 19 "OtherCoinsModel" "payOf" "[I", Cond.methodLink RX10 259 yX10_mix, Cond.instanceMethod yX10_mix, Cond.selects RX10 yX10_mix yX10_mix, Cond.code yX10_mix cX10_mix 3 none, Cond.constantLong RX10 254 (31), Cond.fieldLink RX10 256 "OtherCoinsModel" "h" "J", Cond.methodLink RX10 192 yX10_deadNow, Cond.instanceMethod yX10_deadNow, Cond.selects RX10 yX10_deadNow yX10_deadNow, Cond.code yX10_deadNow cX10_deadNow 6 (some .int), Cond.methodLink RX10 138 yX10_mayPay, Cond.instanceMethod yX10_mayPay, Cond.selects RX10 yX10_mayPay yX10_mayPay]
def wsX10_mixPerson_r3 : List Cond := [Cond.code yX10_mayPay cX10_mayPay 4 (some .boolean), Cond.fieldLink RX10 7 "OtherCoinsModel" "takesOf" "[I", Cond.methodLink RX10 82 yX10_has, Cond.static yX10_has, Cond.code yX10_has cX10_has 2 (some .boolean), Cond.methodLink RX10 226 yX10_mayMany, Cond.instanceMethod yX10_mayMany, Cond.selects RX10 yX10_mayMany yX10_mayMany, Cond.code yX10_mayMany cX10_mayMany 5 (some .int), Cond.methodLink RX10 163 yX10_isAct, Cond.static yX10_isAct, Cond.code yX10_isAct cX10_isAct 1 (some .boolean), Cond.methodLink RX10 75 yX10_within, Cond.static yX10_within, Cond.code yX10_within cX10_within 3 (some .boolean), Cond.methodLink RX10 166 yX10_behind, Cond.instanceMethod yX10_behind, Cond.selects RX10 yX10_behind yX10_behind, Cond.code yX10_behind cX10_behind 7 (some .int), Cond.fieldLink RX10 13 "OtherCoinsModel" "givesOf" "[I", Cond.methodLink RX10 147 yX10_withCoins, Cond.static yX10_withCoins, Cond.code yX10_withCoins cX10_withCoins 3 (some .int)]
def wsX10_mixPerson : List Cond := .code yX10_mixPerson cX10_mixPerson 3 none :: ((wsX10_mixPerson_r1 ++ (wsX10_mixPerson_r2 ++ wsX10_mixPerson_r3)) ++ wsX100)
def wsX10_digest_r1 : List Cond := [Cond.constantLong RX10 263 (677), Cond.fieldLink RX10 256 "OtherCoinsModel" "h" "J", Cond.fieldLink RX10 104 "OtherCoinsModel" "isLaw" "Z", Cond.fieldLink RX10 110 "OtherCoinsModel" "people" "I", Cond.fieldLink RX10 28 "OtherCoinsModel" "trailOf" "I", Cond.fieldLink RX10 72 "OtherCoinsModel" "pageLength" "I", Cond.fieldLink RX10 35 "OtherCoinsModel" "page" "[B", Cond.methodLink RX10 126 yX10_townNow, Cond.instanceMethod yX10_townNow, Cond.selects RX10 yX10_townNow yX10_townNow, Cond.initialized RX10, Cond.code yX10_townNow cX10_townNow 5 (some .int), Cond.fieldLink RX10 7 "OtherCoinsModel" "takesOf" "[I", Cond.fieldLink RX10 13 "OtherCoinsModel" "givesOf" "[I", Cond.fieldLink RX10 16 "OtherCoinsModel" "priceOf" "[I", Cond.fieldLink RX10 19 "OtherCoinsModel" "payOf" "[I", Cond.fieldLink RX10 25 "OtherCoinsModel" "standsOf" "[I", Cond.methodLink RX10 119 yX10_townIn, Cond.static yX10_townIn, Cond.code yX10_townIn cX10_townIn 1 (some .int), Cond.methodLink RX10 259 yX10_mix, Cond.instanceMethod yX10_mix, Cond.selects RX10 yX10_mix yX10_mix, Cond.code yX10_mix cX10_mix 3 none]
def wsX10_digest_r2 : List Cond := [Cond.constantLong RX10 254 (31), Cond.methodLink RX10 265 yX10_mixPerson, Cond.instanceMethod yX10_mixPerson, Cond.selects RX10 yX10_mixPerson yX10_mixPerson, Cond.code yX10_mixPerson cX10_mixPerson 3 none, Cond.fieldLink RX10 22 "OtherCoinsModel" "kindOf" "[I", Cond.methodLink RX10 160 yX10_personNow, Cond.instanceMethod yX10_personNow, Cond.selects RX10 yX10_personNow yX10_personNow, Cond.code yX10_personNow cX10_personNow 4 (some .int), Cond.methodLink RX10 141 yX10_goodsIn, Cond.static yX10_goodsIn, Cond.code yX10_goodsIn cX10_goodsIn 1 (some .int), Cond.methodLink RX10 154 yX10_coinsAll, Cond.static yX10_coinsAll, Cond.code yX10_coinsAll cX10_coinsAll 1 (some .int), Cond.methodLink RX10 135 yX10_coins, Cond.static yX10_coins, Cond.code yX10_coins cX10_coins 2 (some .int), Cond.methodLink RX10 129 yX10_purseIn, Cond.static yX10_purseIn, Cond.code yX10_purseIn cX10_purseIn 1 (some .int), Cond.methodLink RX10 132 yX10_weight, Cond.static yX10_weight]
def wsX10_digest_r3 : List Cond := [Cond.code yX10_weight cX10_weight 1 (some .int), Cond.methodLink RX10 144 yX10_costs, Cond.instanceMethod yX10_costs, Cond.selects RX10 yX10_costs yX10_costs, Cond.code yX10_costs cX10_costs 3 (some .int), Cond.methodLink RX10 151 yX10_gets, Cond.instanceMethod yX10_gets, Cond.selects RX10 yX10_gets yX10_gets, Cond.code yX10_gets cX10_gets 3 (some .int), Cond.methodLink RX10 192 yX10_deadNow, Cond.instanceMethod yX10_deadNow, Cond.selects RX10 yX10_deadNow yX10_deadNow, Cond.code yX10_deadNow cX10_deadNow 6 (some .int), Cond.methodLink RX10 138 yX10_mayPay, Cond.instanceMethod yX10_mayPay, Cond.selects RX10 yX10_mayPay yX10_mayPay, Cond.code yX10_mayPay cX10_mayPay 4 (some .boolean), Cond.methodLink RX10 82 yX10_has, Cond.static yX10_has, Cond.code yX10_has cX10_has 2 (some .boolean), Cond.methodLink RX10 226 yX10_mayMany, Cond.instanceMethod yX10_mayMany, Cond.selects RX10 yX10_mayMany yX10_mayMany, Cond.code yX10_mayMany cX10_mayMany 5 (some .int)]
def wsX10_digest_r4 : List Cond := [Cond.methodLink RX10 163 yX10_isAct, Cond.static yX10_isAct, Cond.code yX10_isAct cX10_isAct 1 (some .boolean), Cond.methodLink RX10 75 yX10_within, Cond.static yX10_within, Cond.code yX10_within cX10_within 3 (some .boolean), Cond.methodLink RX10 166 yX10_behind, Cond.instanceMethod yX10_behind, Cond.selects RX10 yX10_behind yX10_behind, Cond.code yX10_behind cX10_behind 7 (some .int), Cond.methodLink RX10 147 yX10_withCoins, Cond.static yX10_withCoins, Cond.code yX10_withCoins cX10_withCoins 3 (some .int), Cond.methodLink RX10 207 yX10_waysNow, Cond.instanceMethod yX10_waysNow, Cond.selects RX10 yX10_waysNow yX10_waysNow, Cond.code yX10_waysNow cX10_waysNow 3 (some .int), Cond.fieldLink RX10 58 "OtherCoinsModel" "waysOf" "[I", Cond.methodLink RX10 204 yX10_layTrail, Cond.instanceMethod yX10_layTrail, Cond.selects RX10 yX10_layTrail yX10_layTrail, Cond.code yX10_layTrail cX10_layTrail 2 none, Cond.fieldLink RX10 198 "OtherCoinsModel" "trailFrom" "I", Cond.fieldLink RX10 116 "OtherCoinsModel" "trailMany" "I"]
def wsX10_digest_r5 : List Cond := [Cond.fieldLink RX10 32 "OtherCoinsModel" "trailPurse" "[I", Cond.methodLink RX10 201 yX10_goTrail, Cond.instanceMethod yX10_goTrail, Cond.selects RX10 yX10_goTrail yX10_goTrail, Cond.code yX10_goTrail cX10_goTrail 7 none, Cond.fieldLink RX10 61 "OtherCoinsModel" "waysThen" "[I", Cond.methodLink RX10 211 yX10_endsNow, Cond.instanceMethod yX10_endsNow, Cond.selects RX10 yX10_endsNow yX10_endsNow, Cond.code yX10_endsNow cX10_endsNow 3 (some .int), Cond.methodLink RX10 251 yX10_howMany, Cond.instanceMethod yX10_howMany, Cond.selects RX10 yX10_howMany yX10_howMany, Cond.code yX10_howMany cX10_howMany 4 (some .int), Cond.fieldLink RX10 113 "OtherCoinsModel" "acts" "I", Cond.fieldLink RX10 107 "OtherCoinsModel" "laws" "I", Cond.fieldLink RX10 183 "OtherCoinsModel" "asks" "I", Cond.methodLink RX10 100 yX10_size, Cond.static yX10_size, Cond.code yX10_size cX10_size 3 (some .int)]
def wsX10_digest : List Cond := .code yX10_digest cX10_digest 3 (some .long) :: ((wsX10_digest_r1 ++ (wsX10_digest_r2 ++ (wsX10_digest_r3 ++ (wsX10_digest_r4 ++ wsX10_digest_r5)))) ++ wsX100)
def wsJ9_max_7cf53 : List Cond := .code yJ9_max_7cf53 cJ9_max_7cf53 2 (some .int) :: ([])
def wsL_law_r1 : List Cond := [Cond.classLink RL 7 RX9, Cond.instantiable RX9 12, Cond.initialized RX9, Cond.classLink RL 10 RX10, Cond.instantiable RX10 38, Cond.initialized RX10, Cond.constantLong RL 13 (4294967295), Cond.methodLink RL 9 yX9_init, Cond.instanceMethod yX9_init, Cond.code yX9_init cX9_init 2 none, Cond.methodLink RX9 1 objectInit, Cond.instanceMethod objectInit, Cond.code objectInit ⟨#[0xb1]⟩ 1 none, Cond.classLink RX9 7 RX4, Cond.instantiable RX4 2, Cond.initialized RX4, Cond.fieldLink RX9 10 "OtherCoins" "page" "LOtherCoins$Page;", Cond.classLink RX9 16 RX5, Cond.fieldLink RX9 18 "OtherCoins" "people" "[LOtherCoins$Person;", Cond.classLink RX9 22 RX0, Cond.instantiable RX0 4, Cond.initialized RX0, Cond.fieldLink RX9 25 "OtherCoins" "deal" "LOtherCoins$Deal;", Cond.classLink RX9 29 RX6]
def wsL_law_r2 : List Cond := [Cond.instantiable RX6 6, Cond.initialized RX6, Cond.fieldLink RX9 32 "OtherCoins" "search" "LOtherCoins$Search;", Cond.classLink RX9 36 RX8, Cond.instantiable RX8 7, Cond.initialized RX8, Cond.fieldLink RX9 39 "OtherCoins" "trail" "LOtherCoins$Trail;", Cond.classLink RX9 43 RX1, Cond.instantiable RX1 5, Cond.initialized RX1, Cond.fieldLink RX9 46 "OtherCoins" "image" "LOtherCoins$Image;", Cond.classLink RX9 50 RX3, Cond.instantiable RX3 6, Cond.initialized RX3, Cond.fieldLink RX9 53 "OtherCoins" "law" "LOtherCoins$Law;", Cond.fieldLink RX9 57 "OtherCoins" "draft" "LOtherCoins$Law;", Cond.instantiable RX5 2, Cond.initialized RX5, Cond.instanceMethod yX4_init, Cond.code yX4_init cX4_init 1 none, Cond.methodLink RX4 3 objectInit, Cond.arrayClass .int, Cond.fieldLink RX4 9 "OtherCoins$Page" "codes" "[I", Cond.instanceMethod yX0_init]
def wsL_law_r3 : List Cond := [Cond.code yX0_init cX0_init 1 none, Cond.methodLink RX0 3 objectInit, Cond.fieldLink RX0 9 "OtherCoins$Deal" "cost" "[I", Cond.fieldLink RX0 15 "OtherCoins$Deal" "gets" "[I", Cond.fieldLink RX0 18 "OtherCoins$Deal" "gives" "[I", Cond.fieldLink RX0 21 "OtherCoins$Deal" "payable" "[I", Cond.instanceMethod yX6_init, Cond.code yX6_init cX6_init 1 none, Cond.methodLink RX6 3 objectInit, Cond.fieldLink RX6 11 "OtherCoins$Search" "seen" "[I", Cond.constant RX6 17 (40000), Cond.fieldLink RX6 18 "OtherCoins$Search" "found" "[I", Cond.instanceMethod yX8_init, Cond.code yX8_init cX8_init 1 none, Cond.methodLink RX8 3 objectInit, Cond.fieldLink RX8 9 "OtherCoins$Trail" "purses" "[I", Cond.fieldLink RX8 17 "OtherCoins$Trail" "rowsTo" "[I", Cond.fieldLink RX8 20 "OtherCoins$Trail" "rowsBehind" "[I", Cond.fieldLink RX8 23 "OtherCoins$Kind" "PERSON" "LOtherCoins$Kind;", Cond.fieldLink RX8 29 "OtherCoins$Trail" "kind" "LOtherCoins$Kind;", Cond.instanceMethod yX1_init, Cond.code yX1_init cX1_init 1 none, Cond.methodLink RX1 3 objectInit, Cond.fieldLink RX1 9 "OtherCoins$Image" "standing" "[I"]
def wsL_law_r4 : List Cond := [Cond.fieldLink RX1 15 "OtherCoins$Image" "price" "[I", Cond.instanceMethod yX3_init, Cond.code yX3_init cX3_init 1 none, Cond.methodLink RX3 3 objectInit, Cond.fieldLink RX3 9 "OtherCoins$Law" "takes" "[I", Cond.fieldLink RX3 15 "OtherCoins$Law" "gives" "[I", Cond.fieldLink RX3 18 "OtherCoins$Law" "price" "[I", Cond.fieldLink RX3 21 "OtherCoins$Law" "pay" "[I", Cond.instanceMethod yX5_init, Cond.code yX5_init cX5_init 1 none, Cond.methodLink RX5 3 objectInit, Cond.fieldLink RX5 9 "OtherCoins$Kind" "PERSON" "LOtherCoins$Kind;", Cond.fieldLink RX5 15 "OtherCoins$Person" "kind" "LOtherCoins$Kind;", Cond.methodLink RL 12 yX10_init, Cond.instanceMethod yX10_init, Cond.code yX10_init cX10_init 1 none, Cond.methodLink RX10 1 objectInit, Cond.fieldLink RX10 7 "OtherCoinsModel" "takesOf" "[I", Cond.fieldLink RX10 13 "OtherCoinsModel" "givesOf" "[I", Cond.fieldLink RX10 16 "OtherCoinsModel" "priceOf" "[I", Cond.fieldLink RX10 19 "OtherCoinsModel" "payOf" "[I", Cond.fieldLink RX10 22 "OtherCoinsModel" "kindOf" "[I", Cond.fieldLink RX10 25 "OtherCoinsModel" "standsOf" "[I", Cond.fieldLink RX10 28 "OtherCoinsModel" "trailOf" "I"]
def wsL_law_r5 : List Cond := [Cond.fieldLink RX10 32 "OtherCoinsModel" "trailPurse" "[I", Cond.arrayClass .byte, Cond.fieldLink RX10 35 "OtherCoinsModel" "page" "[B", Cond.fieldLink RX10 39 "OtherCoinsModel" "newTakes" "[I", Cond.fieldLink RX10 42 "OtherCoinsModel" "newGives" "[I", Cond.fieldLink RX10 45 "OtherCoinsModel" "newPrice" "[I", Cond.fieldLink RX10 48 "OtherCoinsModel" "newPay" "[I", Cond.constant RX10 51 (40000), Cond.fieldLink RX10 52 "OtherCoinsModel" "firstOf" "[B", Cond.fieldLink RX10 55 "OtherCoinsModel" "queue" "[I", Cond.fieldLink RX10 58 "OtherCoinsModel" "waysOf" "[I", Cond.fieldLink RX10 61 "OtherCoinsModel" "waysThen" "[I", Cond.fieldLink RX10 64 "OtherCoinsModel" "keptStands" "[I", Cond.fieldLink RX10 67 "OtherCoinsModel" "keptPrice" "[I", Cond.methodLink RL 15 yX9_letters, Cond.instanceMethod yX9_letters, Cond.selects RX9 yX9_letters yX9_letters, Cond.code yX9_letters cX9_letters 3 (some .int), Cond.methodLink RX9 61 yX4_add, Cond.instanceMethod yX4_add, Cond.selects RX4 yX4_add yX4_add, Cond.code yX4_add cX4_add 5 (some .int), Cond.fieldLink RX4 19 "OtherCoins$Page" "size" "I", Cond.methodLink RX4 15 yX4_lettersIn]
def wsL_law_r6 : List Cond := [Cond.static yX4_lettersIn, Cond.code yX4_lettersIn cX4_lettersIn 6 (some .int), Cond.methodLink RX4 23 yX4_codeAt, Cond.static yX4_codeAt, Cond.code yX4_codeAt cX4_codeAt 3 (some .int), Cond.constantLong RX4 27 (255), Cond.methodLink RL 19 yX10_letters, Cond.instanceMethod yX10_letters, Cond.selects RX10 yX10_letters yX10_letters, Cond.code yX10_letters cX10_letters 7 (some .int), Cond.constantLong RX10 70 (255), Cond.fieldLink RX10 72 "OtherCoinsModel" "pageLength" "I", Cond.methodLink RL 20 yX9_blank, Cond.instanceMethod yX9_blank, Cond.selects RX9 yX9_blank yX9_blank, Cond.code yX9_blank cX9_blank 1 (some .int), Cond.methodLink RX9 65 yX4_clear, Cond.instanceMethod yX4_clear, Cond.selects RX4 yX4_clear yX4_clear, Cond.code yX4_clear cX4_clear 2 (some .int), Cond.methodLink RL 24 yX10_blank, Cond.instanceMethod yX10_blank, Cond.selects RX10 yX10_blank yX10_blank, Cond.code yX10_blank cX10_blank 2 (some .int)]
def wsL_law_r7 : List Cond := [Cond.methodLink RL 25 yX9_fault, Cond.instanceMethod yX9_fault, Cond.selects RX9 yX9_fault yX9_fault, Cond.code yX9_fault cX9_fault 1 (some .int), Cond.methodLink RX9 69 yX3_read, Cond.instanceMethod yX3_read, Cond.selects RX3 yX3_read yX3_read, Cond.code yX3_read cX3_read 3 (some .int), Cond.fieldLink RX3 30 "OtherCoins$Law" "part" "I", Cond.fieldLink RX3 34 "OtherCoins$Law" "due" "I", Cond.fieldLink RX3 37 "OtherCoins$Page" "size" "I", Cond.fieldLink RX3 42 "OtherCoins$Page" "codes" "[I", Cond.methodLink RX3 24 yJ7_fill_53178, Cond.static yJ7_fill_53178, Cond.initialized RJ7, Cond.code yJ7_fill_53178 cJ7_fill_53178 4 none, Cond.methodLink RX3 45 yX3_readLetter, Cond.instanceMethod yX3_readLetter, Cond.selects RX3 yX3_readLetter yX3_readLetter, Cond.code yX3_readLetter cX3_readLetter 3 (some .boolean), Cond.methodLink RX3 55 yX3_endTakes, Cond.instanceMethod yX3_endTakes, Cond.selects RX3 yX3_endTakes yX3_endTakes, Cond.code yX3_endTakes cX3_endTakes 1 (some .boolean)]
def wsL_law_r8 : List Cond := [Cond.methodLink RX3 59 yX3_readTaken, Cond.instanceMethod yX3_readTaken, Cond.selects RX3 yX3_readTaken yX3_readTaken, Cond.code yX3_readTaken cX3_readTaken 2 (some .boolean), Cond.methodLink RX3 62 yX3_isForeign, Cond.instanceMethod yX3_isForeign, Cond.selects RX3 yX3_isForeign yX3_isForeign, Cond.code yX3_isForeign cX3_isForeign 2 (some .boolean), Cond.static yX9_isCoin, Cond.code yX9_isCoin cX9_isCoin 1 (some .boolean), Cond.methodLink RX3 65 yX3_put, Cond.instanceMethod yX3_put, Cond.selects RX3 yX3_put yX3_put, Cond.code yX3_put cX3_put 3 (some .boolean), Cond.static yX9_isPrice, Cond.code yX9_isPrice cX9_isPrice 1 (some .boolean), Cond.methodLink RX3 72 yX3_nextPart, Cond.instanceMethod yX3_nextPart, Cond.selects RX3 yX3_nextPart yX3_nextPart, Cond.code yX3_nextPart cX3_nextPart 1 (some .boolean), Cond.methodLink RL 28 yX10_fault, Cond.instanceMethod yX10_fault, Cond.selects RX10 yX10_fault yX10_fault, Cond.code yX10_fault cX10_fault 1 (some .int)]
def wsL_law_r9 : List Cond := [Cond.fieldLink RX10 90 "OtherCoinsModel" "faultAt" "I", Cond.methodLink RX10 97 yX10_readLaw, Cond.instanceMethod yX10_readLaw, Cond.selects RX10 yX10_readLaw yX10_readLaw, Cond.code yX10_readLaw cX10_readLaw 5 none, Cond.fieldLink RX10 79 "OtherCoinsModel" "newTown" "I", Cond.fieldLink RX10 93 "OtherCoinsModel" "isWhole" "Z", Cond.methodLink RX10 86 yX10_nextState, Cond.instanceMethod yX10_nextState, Cond.selects RX10 yX10_nextState yX10_nextState, Cond.code yX10_nextState cX10_nextState 5 (some .int), Cond.methodLink RX10 75 yX10_within, Cond.static yX10_within, Cond.code yX10_within cX10_within 3 (some .boolean), Cond.methodLink RX10 82 yX10_has, Cond.static yX10_has, Cond.code yX10_has cX10_has 2 (some .boolean), Cond.methodLink RL 29 yX9_law, Cond.instanceMethod yX9_law, Cond.selects RX9 yX9_law yX9_law, Cond.code yX9_law cX9_law 2 (some .int), Cond.fieldLink RX9 73 "OtherCoins$Page" "size" "I", Cond.fieldLink RX9 81 "OtherCoins$Trail" "begun" "Z", Cond.fieldLink RX9 85 "OtherCoins$Image" "kept" "Z"]
def wsL_law_r10 : List Cond := [Cond.fieldLink RX9 88 "OtherCoins" "peopleCount" "I", Cond.fieldLink RX9 91 "OtherCoins" "actsDone" "I", Cond.fieldLink RX9 94 "OtherCoins" "lawsRead" "I", Cond.methodLink RX9 77 yX3_isWhole, Cond.instanceMethod yX3_isWhole, Cond.selects RX3 yX3_isWhole yX3_isWhole, Cond.code yX3_isWhole cX3_isWhole 1 (some .boolean), Cond.methodLink RX9 97 yX3_coinsTaken, Cond.instanceMethod yX3_coinsTaken, Cond.selects RX3 yX3_coinsTaken yX3_coinsTaken, Cond.code yX3_coinsTaken cX3_coinsTaken 3 (some .int), Cond.methodLink RX3 49 yJ6_bitCount_0f7a4, Cond.static yJ6_bitCount_0f7a4, Cond.initialized RJ6, Cond.code yJ6_bitCount_0f7a4 cJ6_bitCount_0f7a4 1 (some .int), Cond.constant RJ6 265 (1431655765), Cond.constant RJ6 266 (858993459), Cond.constant RJ6 267 (252645135), Cond.methodLink RL 32 yX10_law, Cond.instanceMethod yX10_law, Cond.selects RX10 yX10_law yX10_law, Cond.code yX10_law cX10_law 3 (some .int), Cond.fieldLink RX10 104 "OtherCoinsModel" "isLaw" "Z", Cond.fieldLink RX10 107 "OtherCoinsModel" "laws" "I"]
def wsL_law_r11 : List Cond := [Cond.fieldLink RX10 110 "OtherCoinsModel" "people" "I", Cond.fieldLink RX10 113 "OtherCoinsModel" "acts" "I", Cond.fieldLink RX10 116 "OtherCoinsModel" "trailMany" "I", Cond.methodLink RX10 100 yX10_size, Cond.static yX10_size, Cond.code yX10_size cX10_size 3 (some .int), Cond.methodLink RL 33 yX9_town, Cond.instanceMethod yX9_town, Cond.selects RX9 yX9_town yX9_town, Cond.code yX9_town cX9_town 3 (some .int), Cond.fieldLink RX9 107 "OtherCoins$Law" "takes" "[I", Cond.fieldLink RX9 111 "OtherCoins$Law" "gives" "[I", Cond.fieldLink RX9 114 "OtherCoins$Law" "price" "[I", Cond.fieldLink RX9 117 "OtherCoins$Law" "pay" "[I", Cond.methodLink RX9 100 yX9_isTown, Cond.static yX9_isTown, Cond.code yX9_isTown cX9_isTown 1 (some .boolean), Cond.methodLink RX9 104 yX9_isLawless, Cond.instanceMethod yX9_isLawless, Cond.selects RX9 yX9_isLawless yX9_isLawless, Cond.code yX9_isLawless cX9_isLawless 1 (some .boolean), Cond.methodLink RX9 120 yX9_peopleIn, Cond.instanceMethod yX9_peopleIn, Cond.selects RX9 yX9_peopleIn yX9_peopleIn]
def wsL_law_r12 : List Cond := [Cond.code yX9_peopleIn cX9_peopleIn 4 (some .int), Cond.fieldLink RX9 138 "OtherCoins$Person" "standing" "I", Cond.methodLink RX9 144 yX7_townOf, Cond.static yX7_townOf, Cond.initialized RX7, Cond.code yX7_townOf cX7_townOf 1 (some .int), Cond.methodLink RL 37 yX10_town, Cond.instanceMethod yX10_town, Cond.selects RX10 yX10_town yX10_town, Cond.code yX10_town cX10_town 3 (some .int), Cond.methodLink RX10 122 yX10_isTown, Cond.static yX10_isTown, Cond.code yX10_isTown cX10_isTown 1 (some .boolean), Cond.methodLink RX10 126 yX10_townNow, Cond.instanceMethod yX10_townNow, Cond.selects RX10 yX10_townNow yX10_townNow, Cond.code yX10_townNow cX10_townNow 5 (some .int), Cond.methodLink RX10 119 yX10_townIn, Cond.static yX10_townIn, Cond.code yX10_townIn cX10_townIn 1 (some .int), Cond.methodLink RL 38 yX9_price, Cond.instanceMethod yX9_price, Cond.selects RX9 yX9_price yX9_price, Cond.code yX9_price cX9_price 4 (some .int)]
def wsL_law_r13 : List Cond := [Cond.methodLink RX9 124 yX9_isPrice, Cond.methodLink RL 41 yX10_price, Cond.instanceMethod yX10_price, Cond.selects RX10 yX10_price yX10_price, Cond.code yX10_price cX10_price 4 (some .int), Cond.methodLink RL 42 yX9_person, Cond.instanceMethod yX9_person, Cond.selects RX9 yX9_person yX9_person, Cond.code yX9_person cX9_person 4 (some .int), Cond.fieldLink RX9 130 "OtherCoins" "KINDS" "[LOtherCoins$Kind;", Cond.fieldLink RX9 134 "OtherCoins$Person" "kind" "LOtherCoins$Kind;", Cond.methodLink RX9 127 yX9_isKind, Cond.static yX9_isKind, Cond.code yX9_isKind cX9_isKind 1 (some .boolean), Cond.methodLink RL 45 yX10_person, Cond.instanceMethod yX10_person, Cond.selects RX10 yX10_person yX10_person, Cond.code yX10_person cX10_person 3 (some .int), Cond.methodLink RL 46 yX9_about, Cond.instanceMethod yX9_about, Cond.selects RX9 yX9_about yX9_about, Cond.code yX9_about cX9_about 5 (some .int), Cond.fieldLink RX9 149 "OtherCoins$Kind" "number" "I", Cond.methodLink RX9 141 yX9_isPerson]
def wsL_law_r14 : List Cond := [Cond.instanceMethod yX9_isPerson, Cond.selects RX9 yX9_isPerson yX9_isPerson, Cond.code yX9_isPerson cX9_isPerson 2 (some .boolean), Cond.methodLink RX9 154 yX7_goodsOf, Cond.static yX7_goodsOf, Cond.code yX7_goodsOf cX7_goodsOf 1 (some .int), Cond.methodLink RX9 157 yX7_coinsTogether, Cond.static yX7_coinsTogether, Cond.code yX7_coinsTogether cX7_coinsTogether 1 (some .int), Cond.methodLink RX7 11 yX7_coinsOf, Cond.static yX7_coinsOf, Cond.code yX7_coinsOf cX7_coinsOf 2 (some .int), Cond.methodLink RX9 160 yX2_cost, Cond.instanceMethod yX2_cost, Cond.selects RX2 yX2_cost yX2_cost, Cond.initialized RX2, Cond.code yX2_cost cX2_cost 2 (some .int), Cond.fieldLink RX2 42 "OtherCoins$Kind" "costsLess" "I", Cond.methodLink RX2 52 Lib.Math.max.name, Cond.static Lib.Math.max.name, Cond.initialized "java/lang/Math", Cond.code Lib.Math.max.name Lib.Math.max.code 2 (some .int), Cond.methodLink RX9 163 yX2_gain, Cond.instanceMethod yX2_gain]
def wsL_law_r15 : List Cond := [Cond.selects RX2 yX2_gain yX2_gain, Cond.code yX2_gain cX2_gain 2 (some .int), Cond.fieldLink RX2 45 "OtherCoins$Kind" "getsMore" "I", Cond.methodLink RX9 166 yX9_isCoin, Cond.methodLink RX9 169 yX7_coinsOf, Cond.methodLink RL 49 yX10_about, Cond.instanceMethod yX10_about, Cond.selects RX10 yX10_about yX10_about, Cond.code yX10_about cX10_about 3 (some .int), Cond.methodLink RX10 157 yX10_isPerson, Cond.instanceMethod yX10_isPerson, Cond.selects RX10 yX10_isPerson yX10_isPerson, Cond.code yX10_isPerson cX10_isPerson 2 (some .boolean), Cond.methodLink RX10 160 yX10_personNow, Cond.instanceMethod yX10_personNow, Cond.selects RX10 yX10_personNow yX10_personNow, Cond.code yX10_personNow cX10_personNow 4 (some .int), Cond.methodLink RX10 141 yX10_goodsIn, Cond.static yX10_goodsIn, Cond.code yX10_goodsIn cX10_goodsIn 1 (some .int), Cond.methodLink RX10 154 yX10_coinsAll, Cond.static yX10_coinsAll, Cond.code yX10_coinsAll cX10_coinsAll 1 (some .int), Cond.methodLink RX10 135 yX10_coins]
def wsL_law_r16 : List Cond := [Cond.static yX10_coins, Cond.code yX10_coins cX10_coins 2 (some .int), Cond.methodLink RX10 129 yX10_purseIn, Cond.static yX10_purseIn, Cond.code yX10_purseIn cX10_purseIn 1 (some .int), Cond.methodLink RX10 132 yX10_weight, Cond.static yX10_weight, Cond.code yX10_weight cX10_weight 1 (some .int), Cond.methodLink RX10 144 yX10_costs, Cond.instanceMethod yX10_costs, Cond.selects RX10 yX10_costs yX10_costs, Cond.code yX10_costs cX10_costs 3 (some .int), Cond.methodLink RX10 151 yX10_gets, Cond.instanceMethod yX10_gets, Cond.selects RX10 yX10_gets yX10_gets, Cond.code yX10_gets cX10_gets 3 (some .int), Cond.methodLink RL 50 yX9_as, Cond.instanceMethod yX9_as, Cond.selects RX9 yX9_as yX9_as, Cond.code yX9_as cX9_as 3 (some .int), Cond.methodLink RX9 173 yX2_isAlso, Cond.instanceMethod yX2_isAlso, Cond.selects RX2 yX2_isAlso yX2_isAlso, Cond.code yX2_isAlso cX2_isAlso 2 (some .boolean)]
def wsL_law_r17 : List Cond := [Cond.fieldLink RX2 3 "OtherCoins$Kind" "PERSON" "LOtherCoins$Kind;", Cond.fieldLink RX2 16 "OtherCoins$Kind" "SMUGGLER" "LOtherCoins$Kind;", Cond.fieldLink RX2 13 "OtherCoins$Kind" "MERCHANT" "LOtherCoins$Kind;", Cond.methodLink RL 53 yX10_as, Cond.instanceMethod yX10_as, Cond.selects RX10 yX10_as yX10_as, Cond.code yX10_as cX10_as 4 (some .int), Cond.methodLink RL 54 yX9_purse, Cond.instanceMethod yX9_purse, Cond.selects RX9 yX9_purse yX9_purse, Cond.code yX9_purse cX9_purse 6 (some .int), Cond.methodLink RX9 177 yX7_withMore, Cond.static yX7_withMore, Cond.code yX7_withMore cX7_withMore 3 (some .int), Cond.methodLink RL 58 yX10_purse, Cond.instanceMethod yX10_purse, Cond.selects RX10 yX10_purse yX10_purse, Cond.code yX10_purse cX10_purse 5 (some .int), Cond.methodLink RX10 147 yX10_withCoins, Cond.static yX10_withCoins, Cond.code yX10_withCoins cX10_withCoins 3 (some .int), Cond.methodLink RL 59 yX9_may, Cond.instanceMethod yX9_may, Cond.selects RX9 yX9_may yX9_may]
def wsL_law_r18 : List Cond := [Cond.code yX9_may cX9_may 3 (some .int), Cond.methodLink RX9 181 yX9_isAct, Cond.static yX9_isAct, Cond.code yX9_isAct cX9_isAct 5 (some .boolean), Cond.fieldLink RX9 303 "OtherCoins" "ACTS" "[I", Cond.methodLink RX9 184 yX9_dealFor, Cond.instanceMethod yX9_dealFor, Cond.selects RX9 yX9_dealFor yX9_dealFor, Cond.code yX9_dealFor cX9_dealFor 2 (some (.object "OtherCoins$Deal")), Cond.methodLink RX9 235 yX0_set, Cond.instanceMethod yX0_set, Cond.selects RX0 yX0_set yX0_set, Cond.code yX0_set cX0_set 4 (some (.object "OtherCoins$Deal")), Cond.fieldLink RX0 24 "OtherCoins$Law" "price" "[I", Cond.fieldLink RX0 34 "OtherCoins$Law" "pay" "[I", Cond.fieldLink RX0 40 "OtherCoins$Law" "gives" "[I", Cond.fieldLink RX0 41 "OtherCoins$Kind" "paysWithAny" "Z", Cond.fieldLink RX0 45 "OtherCoins$Law" "takes" "[I", Cond.methodLink RX0 29 yX2_cost, Cond.methodLink RX0 37 yX2_gain, Cond.methodLink RX9 188 yX0_after, Cond.instanceMethod yX0_after, Cond.selects RX0 yX0_after yX0_after, Cond.code yX0_after cX0_after 3 (some .int)]
def wsL_law_r19 : List Cond := [Cond.methodLink RX0 48 yX0_afterGoing, Cond.static yX0_afterGoing, Cond.code yX0_afterGoing cX0_afterGoing 3 (some .int), Cond.methodLink RX0 67 yX7_townOf, Cond.methodLink RX0 72 yX7_withTown, Cond.static yX7_withTown, Cond.code yX7_withTown cX7_withTown 2 (some .int), Cond.methodLink RX0 52 yX0_afterBuying, Cond.instanceMethod yX0_afterBuying, Cond.selects RX0 yX0_afterBuying yX0_afterBuying, Cond.code yX0_afterBuying cX0_afterBuying 4 (some .int), Cond.methodLink RX0 75 yX7_hasGood, Cond.static yX7_hasGood, Cond.code yX7_hasGood cX7_hasGood 2 (some .boolean), Cond.methodLink RX0 79 yX7_coinsOf, Cond.methodLink RX0 82 yX0_canPay, Cond.instanceMethod yX0_canPay, Cond.selects RX0 yX0_canPay yX0_canPay, Cond.code yX0_canPay cX0_canPay 5 (some .boolean), Cond.methodLink RX0 86 yX7_withMore, Cond.methodLink RX0 90 yX7_withOtherGood, Cond.static yX7_withOtherGood, Cond.code yX7_withOtherGood cX7_withOtherGood 2 (some .int), Cond.methodLink RX0 55 yX0_afterSelling]
def wsL_law_r20 : List Cond := [Cond.instanceMethod yX0_afterSelling, Cond.selects RX0 yX0_afterSelling yX0_afterSelling, Cond.code yX0_afterSelling cX0_afterSelling 4 (some .int), Cond.methodLink RL 62 yX10_may, Cond.instanceMethod yX10_may, Cond.selects RX10 yX10_may yX10_may, Cond.code yX10_may cX10_may 3 (some .int), Cond.methodLink RX10 163 yX10_isAct, Cond.static yX10_isAct, Cond.code yX10_isAct cX10_isAct 1 (some .boolean), Cond.methodLink RX10 166 yX10_behind, Cond.instanceMethod yX10_behind, Cond.selects RX10 yX10_behind yX10_behind, Cond.code yX10_behind cX10_behind 7 (some .int), Cond.methodLink RX10 138 yX10_mayPay, Cond.instanceMethod yX10_mayPay, Cond.selects RX10 yX10_mayPay yX10_mayPay, Cond.code yX10_mayPay cX10_mayPay 4 (some .boolean), Cond.methodLink RL 63 yX9_act, Cond.instanceMethod yX9_act, Cond.selects RX9 yX9_act yX9_act, Cond.code yX9_act cX9_act 5 (some .int), Cond.methodLink RL 66 yX10_act, Cond.instanceMethod yX10_act]
def wsL_law_r21 : List Cond := [Cond.selects RX10 yX10_act yX10_act, Cond.code yX10_act cX10_act 4 (some .int), Cond.methodLink RL 67 yX9_change, Cond.instanceMethod yX9_change, Cond.selects RX9 yX9_change yX9_change, Cond.code yX9_change cX9_change 7 (some .int), Cond.methodLink RX9 191 yX5_canSwap, Cond.instanceMethod yX5_canSwap, Cond.selects RX5 yX5_canSwap yX5_canSwap, Cond.code yX5_canSwap cX5_canSwap 3 (some .boolean), Cond.fieldLink RX5 20 "OtherCoins$Person" "standing" "I", Cond.methodLink RX5 24 yX7_coinsOf, Cond.methodLink RX9 195 yX5_swap, Cond.instanceMethod yX5_swap, Cond.selects RX5 yX5_swap yX5_swap, Cond.code yX5_swap cX5_swap 3 none, Cond.methodLink RX5 30 yX7_withMore, Cond.methodLink RL 71 yX10_change, Cond.instanceMethod yX10_change, Cond.selects RX10 yX10_change yX10_change, Cond.code yX10_change cX10_change 7 (some .int), Cond.methodLink RL 72 yX9_fewest, Cond.instanceMethod yX9_fewest, Cond.selects RX9 yX9_fewest yX9_fewest]
def wsL_law_r22 : List Cond := [Cond.code yX9_fewest cX9_fewest 6 (some .int), Cond.fieldLink RX9 199 "OtherCoins" "searchesDone" "I", Cond.fieldLink RX9 209 "OtherCoins$Search" "depth" "I", Cond.methodLink RX9 202 yX7_hasGood, Cond.methodLink RX9 205 yX6_firstToward, Cond.instanceMethod yX6_firstToward, Cond.selects RX6 yX6_firstToward yX6_firstToward, Cond.code yX6_firstToward cX6_firstToward 6 (some .int), Cond.fieldLink RX6 25 "OtherCoins$Search" "levelStart" "I", Cond.fieldLink RX6 29 "OtherCoins$Search" "levelEnd" "I", Cond.fieldLink RX6 32 "OtherCoins$Deal" "cost" "[I", Cond.methodLink RX6 21 yX6_begin, Cond.instanceMethod yX6_begin, Cond.selects RX6 yX6_begin yX6_begin, Cond.code yX6_begin cX6_begin 2 none, Cond.fieldLink RX6 49 "OtherCoins$Search" "foundCount" "I", Cond.fieldLink RX6 68 "OtherCoins$Search" "depth" "I", Cond.methodLink RX6 62 yJ7_fill_53178, Cond.methodLink RX6 71 yX6_find, Cond.instanceMethod yX6_find, Cond.selects RX6 yX6_find yX6_find, Cond.code yX6_find cX6_find 5 none, Cond.methodLink RX6 37 yX6_firstToBuy, Cond.instanceMethod yX6_firstToBuy]
def wsL_law_r23 : List Cond := [Cond.selects RX6 yX6_firstToBuy yX6_firstToBuy, Cond.code yX6_firstToBuy cX6_firstToBuy 7 (some .int), Cond.methodLink RX6 75 yX6_standingAt, Cond.instanceMethod yX6_standingAt, Cond.selects RX6 yX6_standingAt yX6_standingAt, Cond.code yX6_standingAt cX6_standingAt 2 (some .int), Cond.constant RX6 97 (262143), Cond.methodLink RX6 87 yX7_townOf, Cond.methodLink RX6 90 yX7_coinsOf, Cond.methodLink RX6 93 yX0_canPay, Cond.methodLink RX6 84 yX6_firstActTo, Cond.instanceMethod yX6_firstActTo, Cond.selects RX6 yX6_firstActTo yX6_firstActTo, Cond.code yX6_firstActTo cX6_firstActTo 3 (some .int), Cond.methodLink RX6 41 yX6_deepen, Cond.instanceMethod yX6_deepen, Cond.selects RX6 yX6_deepen yX6_deepen, Cond.code yX6_deepen cX6_deepen 9 none, Cond.methodLink RX6 81 yX0_after, Cond.methodLink RL 75 yX10_fewest, Cond.instanceMethod yX10_fewest, Cond.selects RX10 yX10_fewest yX10_fewest, Cond.code yX10_fewest cX10_fewest 5 (some .int), Cond.fieldLink RX10 183 "OtherCoinsModel" "asks" "I"]
def wsL_law_r24 : List Cond := [Cond.fieldLink RX10 172 "OtherCoinsModel" "fewestFirst" "I", Cond.methodLink RX10 186 yX10_fewestOf, Cond.instanceMethod yX10_fewestOf, Cond.selects RX10 yX10_fewestOf yX10_fewestOf, Cond.code yX10_fewestOf cX10_fewestOf 7 (some .int), Cond.fieldLink RX10 169 "OtherCoinsModel" "queueEnd" "I", Cond.methodLink RX10 175 yX10_layQueue, Cond.instanceMethod yX10_layQueue, Cond.selects RX10 yX10_layQueue yX10_layQueue, Cond.code yX10_layQueue cX10_layQueue 3 none, Cond.methodLink RX10 179 yX10_goFrom, Cond.instanceMethod yX10_goFrom, Cond.selects RX10 yX10_goFrom yX10_goFrom, Cond.code yX10_goFrom cX10_goFrom 5 none, Cond.methodLink RL 76 yX9_richest, Cond.instanceMethod yX9_richest, Cond.selects RX9 yX9_richest yX9_richest, Cond.code yX9_richest cX9_richest 3 (some .int), Cond.methodLink RX9 212 yX6_mostCoins, Cond.instanceMethod yX6_mostCoins, Cond.selects RX6 yX6_mostCoins yX6_mostCoins, Cond.code yX6_mostCoins cX6_mostCoins 6 (some .int), Cond.methodLink RX6 56 Lib.Math.max.name, Cond.methodLink RX6 52 yX7_coinsTogether]
def wsL_law_r25 : List Cond := [Cond.methodLink RL 79 yX10_richest, Cond.instanceMethod yX10_richest, Cond.selects RX10 yX10_richest yX10_richest, Cond.code yX10_richest cX10_richest 3 (some .int), Cond.methodLink RX10 189 yX10_richestOf, Cond.instanceMethod yX10_richestOf, Cond.selects RX10 yX10_richestOf yX10_richestOf, Cond.code yX10_richestOf cX10_richestOf 6 (some .int), Cond.methodLink RL 80 yX9_dead, Cond.instanceMethod yX9_dead, Cond.selects RX9 yX9_dead yX9_dead, Cond.code yX9_dead cX9_dead 5 (some .int), Cond.methodLink RX9 215 yX0_paysAnywhere, Cond.instanceMethod yX0_paysAnywhere, Cond.selects RX0 yX0_paysAnywhere yX0_paysAnywhere, Cond.code yX0_paysAnywhere cX0_paysAnywhere 2 (some .boolean), Cond.methodLink RL 84 yX10_dead, Cond.instanceMethod yX10_dead, Cond.selects RX10 yX10_dead yX10_dead, Cond.code yX10_dead cX10_dead 2 (some .int), Cond.methodLink RX10 192 yX10_deadNow, Cond.instanceMethod yX10_deadNow, Cond.selects RX10 yX10_deadNow yX10_deadNow, Cond.code yX10_deadNow cX10_deadNow 6 (some .int)]
def wsL_law_r26 : List Cond := [Cond.methodLink RL 85 yX9_gains, Cond.instanceMethod yX9_gains, Cond.selects RX9 yX9_gains yX9_gains, Cond.code yX9_gains cX9_gains 6 (some .int), Cond.methodLink RX9 218 yX6_isSooner, Cond.instanceMethod yX6_isSooner, Cond.selects RX6 yX6_isSooner yX6_isSooner, Cond.code yX6_isSooner cX6_isSooner 6 (some .boolean), Cond.methodLink RX6 45 yX7_hasGood, Cond.methodLink RL 88 yX10_gains, Cond.instanceMethod yX10_gains, Cond.selects RX10 yX10_gains yX10_gains, Cond.code yX10_gains cX10_gains 3 (some .int), Cond.methodLink RX10 195 yX10_gainsNow, Cond.instanceMethod yX10_gainsNow, Cond.selects RX10 yX10_gainsNow yX10_gainsNow, Cond.code yX10_gainsNow cX10_gainsNow 8 (some .int), Cond.methodLink RL 89 yX9_trail, Cond.instanceMethod yX9_trail, Cond.selects RX9 yX9_trail yX9_trail, Cond.code yX9_trail cX9_trail 3 (some .int), Cond.methodLink RX9 222 yX8_pursesTold, Cond.instanceMethod yX8_pursesTold, Cond.selects RX8 yX8_pursesTold yX8_pursesTold]
def wsL_law_r27 : List Cond := [Cond.code yX8_pursesTold cX8_pursesTold 1 (some .int), Cond.fieldLink RX8 32 "OtherCoins$Trail" "begun" "Z", Cond.fieldLink RX8 46 "OtherCoins$Trail" "size" "I", Cond.methodLink RX9 225 yX8_begin, Cond.instanceMethod yX8_begin, Cond.selects RX8 yX8_begin yX8_begin, Cond.code yX8_begin cX8_begin 2 none, Cond.fieldLink RX8 36 "OtherCoins$Person" "kind" "LOtherCoins$Kind;", Cond.fieldLink RX8 39 "OtherCoins$Person" "standing" "I", Cond.fieldLink RX8 43 "OtherCoins$Trail" "start" "I", Cond.methodLink RL 92 yX10_trail, Cond.instanceMethod yX10_trail, Cond.selects RX10 yX10_trail yX10_trail, Cond.code yX10_trail cX10_trail 3 (some .int), Cond.fieldLink RX10 198 "OtherCoinsModel" "trailFrom" "I", Cond.methodLink RL 93 yX9_next, Cond.instanceMethod yX9_next, Cond.selects RX9 yX9_next yX9_next, Cond.code yX9_next cX9_next 2 (some .int), Cond.methodLink RX9 229 yX7_purseOf, Cond.static yX7_purseOf, Cond.code yX7_purseOf cX7_purseOf 4 (some .int), Cond.methodLink RX7 15 yX7_withMore, Cond.methodLink RX9 232 yX8_add]
def wsL_law_r28 : List Cond := [Cond.instanceMethod yX8_add, Cond.selects RX8 yX8_add yX8_add, Cond.code yX8_add cX8_add 2 (some .int), Cond.methodLink RL 96 yX10_next, Cond.instanceMethod yX10_next, Cond.selects RX10 yX10_next yX10_next, Cond.code yX10_next cX10_next 2 (some .int), Cond.methodLink RL 97 yX9_ways, Cond.instanceMethod yX9_ways, Cond.selects RX9 yX9_ways yX9_ways, Cond.code yX9_ways cX9_ways 1 (some .int), Cond.fieldLink RX9 234 "OtherCoins$Trail" "kind" "LOtherCoins$Kind;", Cond.methodLink RX9 239 yX8_follow, Cond.instanceMethod yX8_follow, Cond.selects RX8 yX8_follow yX8_follow, Cond.code yX8_follow cX8_follow 4 none, Cond.methodLink RX8 49 yJ7_fill_53178, Cond.methodLink RX8 55 yX7_placeOf, Cond.static yX7_placeOf, Cond.code yX7_placeOf cX7_placeOf 1 (some .int), Cond.methodLink RX8 59 yX7_withoutPlace, Cond.static yX7_withoutPlace, Cond.code yX7_withoutPlace cX7_withoutPlace 1 (some .int), Cond.methodLink RX8 62 yX8_followAct]
def wsL_law_r29 : List Cond := [Cond.instanceMethod yX8_followAct, Cond.selects RX8 yX8_followAct yX8_followAct, Cond.code yX8_followAct cX8_followAct 10 none, Cond.methodLink RX8 74 yX0_after, Cond.methodLink RX9 243 yX8_rows, Cond.instanceMethod yX8_rows, Cond.selects RX8 yX8_rows yX8_rows, Cond.code yX8_rows cX8_rows 3 (some .int), Cond.methodLink RL 100 yX10_ways, Cond.instanceMethod yX10_ways, Cond.selects RX10 yX10_ways yX10_ways, Cond.code yX10_ways cX10_ways 1 (some .int), Cond.methodLink RX10 207 yX10_waysNow, Cond.instanceMethod yX10_waysNow, Cond.selects RX10 yX10_waysNow yX10_waysNow, Cond.code yX10_waysNow cX10_waysNow 3 (some .int), Cond.methodLink RX10 204 yX10_layTrail, Cond.instanceMethod yX10_layTrail, Cond.selects RX10 yX10_layTrail yX10_layTrail, Cond.code yX10_layTrail cX10_layTrail 2 none, Cond.methodLink RX10 201 yX10_goTrail, Cond.instanceMethod yX10_goTrail, Cond.selects RX10 yX10_goTrail yX10_goTrail, Cond.code yX10_goTrail cX10_goTrail 7 none]
def wsL_law_r30 : List Cond := [Cond.methodLink RL 101 yX9_ends, Cond.instanceMethod yX9_ends, Cond.selects RX9 yX9_ends yX9_ends, Cond.code yX9_ends cX9_ends 1 (some .int), Cond.methodLink RX9 246 yX8_towns, Cond.instanceMethod yX8_towns, Cond.selects RX8 yX8_towns yX8_towns, Cond.code yX8_towns cX8_towns 3 (some .int), Cond.methodLink RX8 66 yX7_townOf, Cond.methodLink RL 104 yX10_ends, Cond.instanceMethod yX10_ends, Cond.selects RX10 yX10_ends yX10_ends, Cond.code yX10_ends cX10_ends 1 (some .int), Cond.methodLink RX10 211 yX10_endsNow, Cond.instanceMethod yX10_endsNow, Cond.selects RX10 yX10_endsNow yX10_endsNow, Cond.code yX10_endsNow cX10_endsNow 3 (some .int), Cond.methodLink RL 105 yX9_walk, Cond.instanceMethod yX9_walk, Cond.selects RX9 yX9_walk yX9_walk, Cond.code yX9_walk cX9_walk 9 (some .int), Cond.constant RX9 252 (65536), Cond.methodLink RX9 249 yX9_seedBehind, Cond.static yX9_seedBehind]
def wsL_law_r31 : List Cond := [Cond.code yX9_seedBehind cX9_seedBehind 1 (some .int), Cond.constantLong RX9 306 (1103515245), Cond.constantLong RX9 308 (12345), Cond.constantLong RX9 310 (2147483648), Cond.methodLink RX9 253 yX0_afterDraw, Cond.instanceMethod yX0_afterDraw, Cond.selects RX0 yX0_afterDraw yX0_afterDraw, Cond.code yX0_afterDraw cX0_afterDraw 10 (some .int), Cond.methodLink RX0 64 yX0_actsOpen, Cond.instanceMethod yX0_actsOpen, Cond.selects RX0 yX0_actsOpen yX0_actsOpen, Cond.code yX0_actsOpen cX0_actsOpen 7 (some .int), Cond.methodLink RX0 61 yX0_after, Cond.methodLink RL 108 yX10_walk, Cond.instanceMethod yX10_walk, Cond.selects RX10 yX10_walk yX10_walk, Cond.code yX10_walk cX10_walk 5 (some .int), Cond.methodLink RX10 235 yX10_walkNow, Cond.instanceMethod yX10_walkNow, Cond.selects RX10 yX10_walkNow yX10_walkNow, Cond.code yX10_walkNow cX10_walkNow 7 (some .int), Cond.fieldLink RX10 216 "OtherCoinsModel" "seedNow" "J", Cond.methodLink RX10 226 yX10_mayMany, Cond.instanceMethod yX10_mayMany]
def wsL_law_r32 : List Cond := [Cond.selects RX10 yX10_mayMany yX10_mayMany, Cond.code yX10_mayMany cX10_mayMany 5 (some .int), Cond.methodLink RX10 229 yX10_draw, Cond.instanceMethod yX10_draw, Cond.selects RX10 yX10_draw yX10_draw, Cond.code yX10_draw cX10_draw 2 (some .int), Cond.constantLong RX10 214 (1103515245), Cond.constantLong RX10 220 (12345), Cond.constantLong RX10 222 (2147483647), Cond.constantLong RX10 224 (65536), Cond.methodLink RX10 232 yX10_actBy, Cond.instanceMethod yX10_actBy, Cond.selects RX10 yX10_actBy yX10_actBy, Cond.code yX10_actBy cX10_actBy 8 (some .int), Cond.methodLink RL 109 yX9_image, Cond.instanceMethod yX9_image, Cond.selects RX9 yX9_image yX9_image, Cond.code yX9_image cX9_image 2 (some .int), Cond.fieldLink RX9 256 "OtherCoins$Image" "peopleCount" "I", Cond.fieldLink RX9 257 "OtherCoins$Image" "actsDone" "I", Cond.fieldLink RX9 258 "OtherCoins$Image" "standing" "[I", Cond.fieldLink RX9 260 "OtherCoins$Image" "price" "[I", Cond.methodLink RL 112 yX10_image, Cond.instanceMethod yX10_image]
def wsL_law_r33 : List Cond := [Cond.selects RX10 yX10_image yX10_image, Cond.code yX10_image cX10_image 2 (some .int), Cond.fieldLink RX10 239 "OtherCoinsModel" "isKept" "Z", Cond.fieldLink RX10 242 "OtherCoinsModel" "keptLaw" "I", Cond.fieldLink RX10 245 "OtherCoinsModel" "keptPeople" "I", Cond.fieldLink RX10 248 "OtherCoinsModel" "keptActs" "I", Cond.methodLink RL 113 yX9_restore, Cond.instanceMethod yX9_restore, Cond.selects RX9 yX9_restore yX9_restore, Cond.code yX9_restore cX9_restore 2 (some .int), Cond.methodLink RL 116 yX10_restore, Cond.instanceMethod yX10_restore, Cond.selects RX10 yX10_restore yX10_restore, Cond.code yX10_restore cX10_restore 2 (some .int), Cond.methodLink RL 117 yX9_count, Cond.instanceMethod yX9_count, Cond.selects RX9 yX9_count yX9_count, Cond.code yX9_count cX9_count 2 (some .int), Cond.methodLink RX9 261 yX9_coinsOfAll, Cond.instanceMethod yX9_coinsOfAll, Cond.selects RX9 yX9_coinsOfAll yX9_coinsOfAll, Cond.code yX9_coinsOfAll cX9_coinsOfAll 3 (some .int), Cond.methodLink RX9 264 yX9_goodsOfAll, Cond.instanceMethod yX9_goodsOfAll]
def wsL_law_r34 : List Cond := [Cond.selects RX9 yX9_goodsOfAll yX9_goodsOfAll, Cond.code yX9_goodsOfAll cX9_goodsOfAll 3 (some .int), Cond.methodLink RX9 312 yJ6_bitCount_0f7a4, Cond.methodLink RL 120 yX10_count, Cond.instanceMethod yX10_count, Cond.selects RX10 yX10_count yX10_count, Cond.code yX10_count cX10_count 2 (some .int), Cond.methodLink RX10 251 yX10_howMany, Cond.instanceMethod yX10_howMany, Cond.selects RX10 yX10_howMany yX10_howMany, Cond.code yX10_howMany cX10_howMany 4 (some .int), Cond.methodLink RL 121 yX9_digest, Cond.instanceMethod yX9_digest, Cond.selects RX9 yX9_digest yX9_digest, Cond.code yX9_digest cX9_digest 5 (some .long), Cond.constantLong RX9 267 (677), Cond.fieldLink RX9 286 "OtherCoins$Page" "codes" "[I", Cond.methodLink RX9 269 yX9_town, Cond.methodLink RX9 272 yX9_fold, Cond.static yX9_fold, Cond.code yX9_fold cX9_fold 4 (some .long), Cond.constantLong RX9 292 (31), Cond.methodLink RX9 276 yX9_foldPerson, Cond.instanceMethod yX9_foldPerson]
def wsL_law_r35 : List Cond := [Cond.selects RX9 yX9_foldPerson yX9_foldPerson, Cond.code yX9_foldPerson cX9_foldPerson 7 (some .long), Cond.methodLink RX9 294 yX9_about, Cond.methodLink RX9 297 yX9_dead, Cond.methodLink RX9 300 yX0_actsOpen, Cond.methodLink RX9 280 yX9_ways, Cond.methodLink RX9 283 yX9_ends, Cond.methodLink RX9 289 yX9_count, Cond.methodLink RL 125 yX10_digest, Cond.instanceMethod yX10_digest, Cond.selects RX10 yX10_digest yX10_digest, Cond.code yX10_digest cX10_digest 3 (some .long), Cond.constantLong RX10 263 (677), Cond.fieldLink RX10 256 "OtherCoinsModel" "h" "J", Cond.methodLink RX10 259 yX10_mix, Cond.instanceMethod yX10_mix, Cond.selects RX10 yX10_mix yX10_mix, Cond.code yX10_mix cX10_mix 3 none, Cond.constantLong RX10 254 (31), Cond.methodLink RX10 265 yX10_mixPerson, Cond.instanceMethod yX10_mixPerson, Cond.selects RX10 yX10_mixPerson yX10_mixPerson, Cond.code yX10_mixPerson cX10_mixPerson 3 none]
def wsL_law : List Cond := (wsL_law_r1 ++ (wsL_law_r2 ++ (wsL_law_r3 ++ (wsL_law_r4 ++ (wsL_law_r5 ++ (wsL_law_r6 ++ (wsL_law_r7 ++ (wsL_law_r8 ++ (wsL_law_r9 ++ (wsL_law_r10 ++ (wsL_law_r11 ++ (wsL_law_r12 ++ (wsL_law_r13 ++ (wsL_law_r14 ++ (wsL_law_r15 ++ (wsL_law_r16 ++ (wsL_law_r17 ++ (wsL_law_r18 ++ (wsL_law_r19 ++ (wsL_law_r20 ++ (wsL_law_r21 ++ (wsL_law_r22 ++ (wsL_law_r23 ++ (wsL_law_r24 ++ (wsL_law_r25 ++ (wsL_law_r26 ++ (wsL_law_r27 ++ (wsL_law_r28 ++ (wsL_law_r29 ++ (wsL_law_r30 ++ (wsL_law_r31 ++ (wsL_law_r32 ++ (wsL_law_r33 ++ (wsL_law_r34 ++ wsL_law_r35)))))))))))))))))))))))))))))))))) ++ wsX90 ++ wsX100 ++ wsX40 ++ wsX00 ++ wsX60 ++ wsX80 ++ wsX10 ++ wsX30 ++ wsX50 ++ ([] : List Cond)
end
section
theorem dX0_init_0 : decode cX0_init 0 = .ok (.aload_n 0, 1) := by decide +kernel
theorem dX0_init_1 : decode cX0_init 1 = .ok (.invokespecial 3, 3) := by decide +kernel
theorem dX0_init_4 : decode cX0_init 4 = .ok (.aload_n 0, 1) := by decide +kernel
theorem dX0_init_5 : decode cX0_init 5 = .ok (.iconst 4, 1) := by decide +kernel
theorem dX0_init_6 : decode cX0_init 6 = .ok (.newarray .int, 2) := by decide +kernel
theorem dX0_init_8 : decode cX0_init 8 = .ok (.putfield 9, 3) := by decide +kernel
theorem dX0_init_11 : decode cX0_init 11 = .ok (.aload_n 0, 1) := by decide +kernel
theorem dX0_init_12 : decode cX0_init 12 = .ok (.iconst 4, 1) := by decide +kernel
theorem dX0_init_13 : decode cX0_init 13 = .ok (.newarray .int, 2) := by decide +kernel
theorem dX0_init_15 : decode cX0_init 15 = .ok (.putfield 15, 3) := by decide +kernel
theorem dX0_init_18 : decode cX0_init 18 = .ok (.aload_n 0, 1) := by decide +kernel
theorem dX0_init_19 : decode cX0_init 19 = .ok (.iconst 4, 1) := by decide +kernel
theorem dX0_init_20 : decode cX0_init 20 = .ok (.newarray .int, 2) := by decide +kernel
theorem dX0_init_22 : decode cX0_init 22 = .ok (.putfield 18, 3) := by decide +kernel
theorem dX0_init_25 : decode cX0_init 25 = .ok (.aload_n 0, 1) := by decide +kernel
theorem dX0_init_26 : decode cX0_init 26 = .ok (.iconst 4, 1) := by decide +kernel
theorem dX0_init_27 : decode cX0_init 27 = .ok (.newarray .int, 2) := by decide +kernel
theorem dX0_init_29 : decode cX0_init 29 = .ok (.putfield 21, 3) := by decide +kernel
theorem dX0_init_32 : decode cX0_init 32 = .ok (.return_, 1) := by decide +kernel
set_option maxRecDepth 20000 in
theorem ggX0_set_X2_cost : GoodIn wsX0_set wsX2_cost := goodIn_r _ [14, 15, 16, 17, 18, 19] (by decide +kernel) (by decide +kernel)
set_option maxRecDepth 20000 in
theorem gX0_set_X2_cost : GoodIn wsX0_set (wsV RX0 29 RX2 yX2_cost wsX2_cost) := goodIn_app (goodIn_of _ (by decide +kernel)) ggX0_set_X2_cost
set_option maxRecDepth 20000 in
theorem ggX0_set_X2_gain : GoodIn wsX0_set wsX2_gain := goodIn_r _ [23, 24] (by decide +kernel) (by decide +kernel)
set_option maxRecDepth 20000 in
theorem gX0_set_X2_gain : GoodIn wsX0_set (wsV RX0 37 RX2 yX2_gain wsX2_gain) := goodIn_app (goodIn_of _ (by decide +kernel)) ggX0_set_X2_gain
theorem dX0_set_0 : decode cX0_set 0 = .ok (.iconst 0, 1) := by decide +kernel
theorem dX0_set_1 : decode cX0_set 1 = .ok (.istore_n 3, 1) := by decide +kernel
theorem dX0_set_2 : decode cX0_set 2 = .ok (.iload_n 3, 1) := by decide +kernel
theorem dX0_set_3 : decode cX0_set 3 = .ok (.iconst 4, 1) := by decide +kernel
theorem dX0_set_4 : decode cX0_set 4 = .ok (.if_icmp .ge 77, 3) := by decide +kernel
theorem dX0_set_7 : decode cX0_set 7 = .ok (.aload_n 0, 1) := by decide +kernel
theorem dX0_set_8 : decode cX0_set 8 = .ok (.getfield 9, 3) := by decide +kernel
theorem dX0_set_11 : decode cX0_set 11 = .ok (.iload_n 3, 1) := by decide +kernel
theorem dX0_set_12 : decode cX0_set 12 = .ok (.aload_n 2, 1) := by decide +kernel
theorem dX0_set_13 : decode cX0_set 13 = .ok (.aload_n 1, 1) := by decide +kernel
theorem dX0_set_14 : decode cX0_set 14 = .ok (.getfield 24, 3) := by decide +kernel
theorem dX0_set_17 : decode cX0_set 17 = .ok (.iload_n 3, 1) := by decide +kernel
theorem dX0_set_18 : decode cX0_set 18 = .ok (.iaload, 1) := by decide +kernel
theorem dX0_set_19 : decode cX0_set 19 = .ok (.invokevirtual 29, 3) := by decide +kernel
theorem dX0_set_22 : decode cX0_set 22 = .ok (.iastore, 1) := by decide +kernel
theorem dX0_set_23 : decode cX0_set 23 = .ok (.aload_n 0, 1) := by decide +kernel
theorem dX0_set_24 : decode cX0_set 24 = .ok (.getfield 15, 3) := by decide +kernel
theorem dX0_set_27 : decode cX0_set 27 = .ok (.iload_n 3, 1) := by decide +kernel
theorem dX0_set_28 : decode cX0_set 28 = .ok (.aload_n 2, 1) := by decide +kernel
theorem dX0_set_29 : decode cX0_set 29 = .ok (.aload_n 1, 1) := by decide +kernel
theorem dX0_set_30 : decode cX0_set 30 = .ok (.getfield 34, 3) := by decide +kernel
theorem dX0_set_33 : decode cX0_set 33 = .ok (.iload_n 3, 1) := by decide +kernel
theorem dX0_set_34 : decode cX0_set 34 = .ok (.iaload, 1) := by decide +kernel
theorem dX0_set_35 : decode cX0_set 35 = .ok (.invokevirtual 37, 3) := by decide +kernel
theorem dX0_set_38 : decode cX0_set 38 = .ok (.iastore, 1) := by decide +kernel
theorem dX0_set_39 : decode cX0_set 39 = .ok (.aload_n 0, 1) := by decide +kernel
theorem dX0_set_40 : decode cX0_set 40 = .ok (.getfield 18, 3) := by decide +kernel
theorem dX0_set_43 : decode cX0_set 43 = .ok (.iload_n 3, 1) := by decide +kernel
theorem dX0_set_44 : decode cX0_set 44 = .ok (.aload_n 1, 1) := by decide +kernel
theorem dX0_set_45 : decode cX0_set 45 = .ok (.getfield 40, 3) := by decide +kernel
theorem dX0_set_48 : decode cX0_set 48 = .ok (.iload_n 3, 1) := by decide +kernel
theorem dX0_set_49 : decode cX0_set 49 = .ok (.iaload, 1) := by decide +kernel
theorem dX0_set_50 : decode cX0_set 50 = .ok (.iastore, 1) := by decide +kernel
theorem dX0_set_51 : decode cX0_set 51 = .ok (.aload_n 0, 1) := by decide +kernel
theorem dX0_set_52 : decode cX0_set 52 = .ok (.getfield 21, 3) := by decide +kernel
theorem dX0_set_55 : decode cX0_set 55 = .ok (.iload_n 3, 1) := by decide +kernel
theorem dX0_set_56 : decode cX0_set 56 = .ok (.aload_n 2, 1) := by decide +kernel
theorem dX0_set_57 : decode cX0_set 57 = .ok (.getfield 41, 3) := by decide +kernel
theorem dX0_set_60 : decode cX0_set 60 = .ok (.ifCond .eq 8, 3) := by decide +kernel
theorem dX0_set_63 : decode cX0_set 63 = .ok (.bipush 15, 2) := by decide +kernel
theorem dX0_set_65 : decode cX0_set 65 = .ok (.goto 9, 3) := by decide +kernel
theorem dX0_set_68 : decode cX0_set 68 = .ok (.aload_n 1, 1) := by decide +kernel
theorem dX0_set_69 : decode cX0_set 69 = .ok (.getfield 45, 3) := by decide +kernel
theorem dX0_set_72 : decode cX0_set 72 = .ok (.iload_n 3, 1) := by decide +kernel
theorem dX0_set_73 : decode cX0_set 73 = .ok (.iaload, 1) := by decide +kernel
theorem dX0_set_74 : decode cX0_set 74 = .ok (.iastore, 1) := by decide +kernel
theorem dX0_set_75 : decode cX0_set 75 = .ok (.iinc 3 1, 3) := by decide +kernel
theorem dX0_set_78 : decode cX0_set 78 = .ok (.goto (-76), 3) := by decide +kernel
theorem dX0_set_81 : decode cX0_set 81 = .ok (.aload_n 0, 1) := by decide +kernel
theorem dX0_set_82 : decode cX0_set 82 = .ok (.areturn, 1) := by decide +kernel
theorem dX0_paysAnywhere_0 : decode cX0_paysAnywhere 0 = .ok (.aload_n 0, 1) := by decide +kernel
theorem dX0_paysAnywhere_1 : decode cX0_paysAnywhere 1 = .ok (.getfield 21, 3) := by decide +kernel
theorem dX0_paysAnywhere_4 : decode cX0_paysAnywhere 4 = .ok (.iconst 0, 1) := by decide +kernel
theorem dX0_paysAnywhere_5 : decode cX0_paysAnywhere 5 = .ok (.iaload, 1) := by decide +kernel
theorem dX0_paysAnywhere_6 : decode cX0_paysAnywhere 6 = .ok (.aload_n 0, 1) := by decide +kernel
theorem dX0_paysAnywhere_7 : decode cX0_paysAnywhere 7 = .ok (.getfield 21, 3) := by decide +kernel
theorem dX0_paysAnywhere_10 : decode cX0_paysAnywhere 10 = .ok (.iconst 1, 1) := by decide +kernel
theorem dX0_paysAnywhere_11 : decode cX0_paysAnywhere 11 = .ok (.iaload, 1) := by decide +kernel
theorem dX0_paysAnywhere_12 : decode cX0_paysAnywhere 12 = .ok (.ior, 1) := by decide +kernel
theorem dX0_paysAnywhere_13 : decode cX0_paysAnywhere 13 = .ok (.aload_n 0, 1) := by decide +kernel
theorem dX0_paysAnywhere_14 : decode cX0_paysAnywhere 14 = .ok (.getfield 21, 3) := by decide +kernel
theorem dX0_paysAnywhere_17 : decode cX0_paysAnywhere 17 = .ok (.iconst 2, 1) := by decide +kernel
theorem dX0_paysAnywhere_18 : decode cX0_paysAnywhere 18 = .ok (.iaload, 1) := by decide +kernel
theorem dX0_paysAnywhere_19 : decode cX0_paysAnywhere 19 = .ok (.ior, 1) := by decide +kernel
theorem dX0_paysAnywhere_20 : decode cX0_paysAnywhere 20 = .ok (.aload_n 0, 1) := by decide +kernel
theorem dX0_paysAnywhere_21 : decode cX0_paysAnywhere 21 = .ok (.getfield 21, 3) := by decide +kernel
theorem dX0_paysAnywhere_24 : decode cX0_paysAnywhere 24 = .ok (.iconst 3, 1) := by decide +kernel
theorem dX0_paysAnywhere_25 : decode cX0_paysAnywhere 25 = .ok (.iaload, 1) := by decide +kernel
theorem dX0_paysAnywhere_26 : decode cX0_paysAnywhere 26 = .ok (.ior, 1) := by decide +kernel
theorem dX0_paysAnywhere_27 : decode cX0_paysAnywhere 27 = .ok (.iload_n 1, 1) := by decide +kernel
theorem dX0_paysAnywhere_28 : decode cX0_paysAnywhere 28 = .ok (.ishr, 1) := by decide +kernel
theorem dX0_paysAnywhere_29 : decode cX0_paysAnywhere 29 = .ok (.iconst 1, 1) := by decide +kernel
theorem dX0_paysAnywhere_30 : decode cX0_paysAnywhere 30 = .ok (.iand, 1) := by decide +kernel
theorem dX0_paysAnywhere_31 : decode cX0_paysAnywhere 31 = .ok (.iconst 1, 1) := by decide +kernel
theorem dX0_paysAnywhere_32 : decode cX0_paysAnywhere 32 = .ok (.if_icmp .ne 7, 3) := by decide +kernel
theorem dX0_paysAnywhere_35 : decode cX0_paysAnywhere 35 = .ok (.iconst 1, 1) := by decide +kernel
theorem dX0_paysAnywhere_36 : decode cX0_paysAnywhere 36 = .ok (.goto 4, 3) := by decide +kernel
theorem dX0_paysAnywhere_39 : decode cX0_paysAnywhere 39 = .ok (.iconst 0, 1) := by decide +kernel
theorem dX0_paysAnywhere_40 : decode cX0_paysAnywhere 40 = .ok (.ireturn, 1) := by decide +kernel
set_option maxRecDepth 20000 in
theorem ggX0_after_X0_afterGoing : GoodIn wsX0_after wsX0_afterGoing := goodIn_r _ [4, 5, 6, 7, 8, 9, 10, 11] (by decide +kernel) (by decide +kernel)
set_option maxRecDepth 20000 in
theorem gX0_after_X0_afterGoing : GoodIn wsX0_after (va_wsS RX0 48 yX0_afterGoing wsX0_afterGoing) := goodIn_app (goodIn_of _ (by decide +kernel)) ggX0_after_X0_afterGoing
set_option maxRecDepth 20000 in
theorem ggX0_after_X0_afterBuying : GoodIn wsX0_after wsX0_afterBuying := goodIn_r _ [15, 16, 5, 6, 7, 8, 17, 18, 19, 20, 21, 22, 23, 24, 25, 3, 26, 27, 28, 29, 30, 31, 32, 33, 40, 41, 42, 43] (by decide +kernel) (by decide +kernel)
set_option maxRecDepth 20000 in
theorem gX0_after_X0_afterBuying : GoodIn wsX0_after (wsV RX0 52 RX0 yX0_afterBuying wsX0_afterBuying) := goodIn_app (goodIn_of _ (by decide +kernel)) ggX0_after_X0_afterBuying
set_option maxRecDepth 20000 in
theorem ggX0_after_X0_afterSelling : GoodIn wsX0_after wsX0_afterSelling := goodIn_r _ [37, 38, 39, 5, 6, 7, 8, 17, 18, 19, 20, 21, 22, 28, 29, 30, 31, 32, 33, 40, 41, 42, 43] (by decide +kernel) (by decide +kernel)
set_option maxRecDepth 20000 in
theorem gX0_after_X0_afterSelling : GoodIn wsX0_after (wsV RX0 55 RX0 yX0_afterSelling wsX0_afterSelling) := goodIn_app (goodIn_of _ (by decide +kernel)) ggX0_after_X0_afterSelling
theorem dX0_after_0 : decode cX0_after 0 = .ok (.iload_n 2, 1) := by decide +kernel
theorem dX0_after_1 : decode cX0_after 1 = .ok (.bipush 10, 2) := by decide +kernel
theorem dX0_after_3 : decode cX0_after 3 = .ok (.if_icmp .ge 9, 3) := by decide +kernel
theorem dX0_after_6 : decode cX0_after 6 = .ok (.iload_n 1, 1) := by decide +kernel
theorem dX0_after_7 : decode cX0_after 7 = .ok (.iload_n 2, 1) := by decide +kernel
theorem dX0_after_8 : decode cX0_after 8 = .ok (.invokestatic 48, 3) := by decide +kernel
theorem dX0_after_11 : decode cX0_after 11 = .ok (.ireturn, 1) := by decide +kernel
theorem dX0_after_12 : decode cX0_after 12 = .ok (.iload_n 2, 1) := by decide +kernel
theorem dX0_after_13 : decode cX0_after 13 = .ok (.bipush 20, 2) := by decide +kernel
theorem dX0_after_15 : decode cX0_after 15 = .ok (.if_icmp .ge 15, 3) := by decide +kernel
theorem dX0_after_18 : decode cX0_after 18 = .ok (.aload_n 0, 1) := by decide +kernel
theorem dX0_after_19 : decode cX0_after 19 = .ok (.iload_n 1, 1) := by decide +kernel
theorem dX0_after_20 : decode cX0_after 20 = .ok (.iload_n 2, 1) := by decide +kernel
theorem dX0_after_21 : decode cX0_after 21 = .ok (.bipush 10, 2) := by decide +kernel
theorem dX0_after_23 : decode cX0_after 23 = .ok (.isub, 1) := by decide +kernel
theorem dX0_after_24 : decode cX0_after 24 = .ok (.invokevirtual 52, 3) := by decide +kernel
theorem dX0_after_27 : decode cX0_after 27 = .ok (.goto 12, 3) := by decide +kernel
theorem dX0_after_30 : decode cX0_after 30 = .ok (.aload_n 0, 1) := by decide +kernel
theorem dX0_after_31 : decode cX0_after 31 = .ok (.iload_n 1, 1) := by decide +kernel
theorem dX0_after_32 : decode cX0_after 32 = .ok (.iload_n 2, 1) := by decide +kernel
theorem dX0_after_33 : decode cX0_after 33 = .ok (.bipush 20, 2) := by decide +kernel
theorem dX0_after_35 : decode cX0_after 35 = .ok (.isub, 1) := by decide +kernel
theorem dX0_after_36 : decode cX0_after 36 = .ok (.invokevirtual 55, 3) := by decide +kernel
theorem dX0_after_39 : decode cX0_after 39 = .ok (.ireturn, 1) := by decide +kernel
set_option maxRecDepth 20000 in
theorem ggX0_actsOpen_X0_after : GoodIn wsX0_actsOpen wsX0_after := goodIn_r _ [5, 6, 7, 4, 8, 9, 10, 11, 12, 13, 14, 15, 16, 17, 18, 19, 20, 21, 22, 23, 24, 25, 26, 27, 28, 29, 30, 31, 32, 33, 34, 35, 36, 37, 38, 39, 40, 41, 42, 43, 44, 45, 46, 47] (by decide +kernel) (by decide +kernel)
set_option maxRecDepth 20000 in
theorem gX0_actsOpen_X0_after : GoodIn wsX0_actsOpen (wsV RX0 61 RX0 yX0_after wsX0_after) := goodIn_app (goodIn_of _ (by decide +kernel)) ggX0_actsOpen_X0_after
theorem dX0_actsOpen_0 : decode cX0_actsOpen 0 = .ok (.iconst 0, 1) := by decide +kernel
theorem dX0_actsOpen_1 : decode cX0_actsOpen 1 = .ok (.istore_n 2, 1) := by decide +kernel
theorem dX0_actsOpen_2 : decode cX0_actsOpen 2 = .ok (.getstatic 58, 3) := by decide +kernel
theorem dX0_actsOpen_5 : decode cX0_actsOpen 5 = .ok (.astore_n 3, 1) := by decide +kernel
theorem dX0_actsOpen_6 : decode cX0_actsOpen 6 = .ok (.aload_n 3, 1) := by decide +kernel
theorem dX0_actsOpen_7 : decode cX0_actsOpen 7 = .ok (.arraylength, 1) := by decide +kernel
theorem dX0_actsOpen_8 : decode cX0_actsOpen 8 = .ok (.istore 4, 2) := by decide +kernel
theorem dX0_actsOpen_10 : decode cX0_actsOpen 10 = .ok (.iconst 0, 1) := by decide +kernel
theorem dX0_actsOpen_11 : decode cX0_actsOpen 11 = .ok (.istore 5, 2) := by decide +kernel
theorem dX0_actsOpen_13 : decode cX0_actsOpen 13 = .ok (.iload 5, 2) := by decide +kernel
theorem dX0_actsOpen_15 : decode cX0_actsOpen 15 = .ok (.iload 4, 2) := by decide +kernel
theorem dX0_actsOpen_17 : decode cX0_actsOpen 17 = .ok (.if_icmp .ge 29, 3) := by decide +kernel
theorem dX0_actsOpen_20 : decode cX0_actsOpen 20 = .ok (.aload_n 3, 1) := by decide +kernel
theorem dX0_actsOpen_21 : decode cX0_actsOpen 21 = .ok (.iload 5, 2) := by decide +kernel
theorem dX0_actsOpen_23 : decode cX0_actsOpen 23 = .ok (.iaload, 1) := by decide +kernel
theorem dX0_actsOpen_24 : decode cX0_actsOpen 24 = .ok (.istore 6, 2) := by decide +kernel
theorem dX0_actsOpen_26 : decode cX0_actsOpen 26 = .ok (.aload_n 0, 1) := by decide +kernel
theorem dX0_actsOpen_27 : decode cX0_actsOpen 27 = .ok (.iload_n 1, 1) := by decide +kernel
theorem dX0_actsOpen_28 : decode cX0_actsOpen 28 = .ok (.iload 6, 2) := by decide +kernel
theorem dX0_actsOpen_30 : decode cX0_actsOpen 30 = .ok (.invokevirtual 61, 3) := by decide +kernel
theorem dX0_actsOpen_33 : decode cX0_actsOpen 33 = .ok (.iconst (-1), 1) := by decide +kernel
theorem dX0_actsOpen_34 : decode cX0_actsOpen 34 = .ok (.if_icmp .eq 6, 3) := by decide +kernel
theorem dX0_actsOpen_37 : decode cX0_actsOpen 37 = .ok (.iinc 2 1, 3) := by decide +kernel
theorem dX0_actsOpen_40 : decode cX0_actsOpen 40 = .ok (.iinc 5 1, 3) := by decide +kernel
theorem dX0_actsOpen_43 : decode cX0_actsOpen 43 = .ok (.goto (-30), 3) := by decide +kernel
theorem dX0_actsOpen_46 : decode cX0_actsOpen 46 = .ok (.iload_n 2, 1) := by decide +kernel
theorem dX0_actsOpen_47 : decode cX0_actsOpen 47 = .ok (.ireturn, 1) := by decide +kernel
set_option maxRecDepth 20000 in
theorem ggX0_afterDraw_X0_actsOpen : GoodIn wsX0_afterDraw wsX0_actsOpen := goodIn_r _ [5, 6, 7, 8, 4, 9, 10, 11, 12, 13, 14, 15, 16, 17, 18, 19, 20, 21, 22, 23, 24, 25, 26, 27, 28, 29, 30, 31, 32, 33, 34, 35, 36, 37, 38, 39, 40, 41, 42, 43, 44, 45, 46, 47, 48, 49, 50, 51] (by decide +kernel) (by decide +kernel)
set_option maxRecDepth 20000 in
theorem gX0_afterDraw_X0_actsOpen : GoodIn wsX0_afterDraw (wsV RX0 64 RX0 yX0_actsOpen wsX0_actsOpen) := goodIn_app (goodIn_of _ (by decide +kernel)) ggX0_afterDraw_X0_actsOpen
set_option maxRecDepth 20000 in
theorem ggX0_afterDraw_X0_after : GoodIn wsX0_afterDraw wsX0_after := goodIn_r _ [9, 10, 11, 4, 12, 13, 14, 15, 16, 17, 18, 19, 20, 21, 22, 23, 24, 25, 26, 27, 28, 29, 30, 31, 32, 33, 34, 35, 36, 37, 38, 39, 40, 41, 42, 43, 44, 45, 46, 47, 48, 49, 50, 51] (by decide +kernel) (by decide +kernel)
set_option maxRecDepth 20000 in
theorem gX0_afterDraw_X0_after : GoodIn wsX0_afterDraw (wsV RX0 61 RX0 yX0_after wsX0_after) := goodIn_app (goodIn_of _ (by decide +kernel)) ggX0_afterDraw_X0_after
theorem dX0_afterDraw_0 : decode cX0_afterDraw 0 = .ok (.aload_n 0, 1) := by decide +kernel
theorem dX0_afterDraw_1 : decode cX0_afterDraw 1 = .ok (.iload_n 1, 1) := by decide +kernel
theorem dX0_afterDraw_2 : decode cX0_afterDraw 2 = .ok (.invokevirtual 64, 3) := by decide +kernel
theorem dX0_afterDraw_5 : decode cX0_afterDraw 5 = .ok (.istore_n 3, 1) := by decide +kernel
theorem dX0_afterDraw_6 : decode cX0_afterDraw 6 = .ok (.iload_n 3, 1) := by decide +kernel
theorem dX0_afterDraw_7 : decode cX0_afterDraw 7 = .ok (.ifCond .gt 5, 3) := by decide +kernel
theorem dX0_afterDraw_10 : decode cX0_afterDraw 10 = .ok (.iload_n 1, 1) := by decide +kernel
theorem dX0_afterDraw_11 : decode cX0_afterDraw 11 = .ok (.ireturn, 1) := by decide +kernel
theorem dX0_afterDraw_12 : decode cX0_afterDraw 12 = .ok (.iload_n 2, 1) := by decide +kernel
theorem dX0_afterDraw_13 : decode cX0_afterDraw 13 = .ok (.iload_n 3, 1) := by decide +kernel
theorem dX0_afterDraw_14 : decode cX0_afterDraw 14 = .ok (.irem, 1) := by decide +kernel
theorem dX0_afterDraw_15 : decode cX0_afterDraw 15 = .ok (.istore 4, 2) := by decide +kernel
theorem dX0_afterDraw_17 : decode cX0_afterDraw 17 = .ok (.getstatic 58, 3) := by decide +kernel
theorem dX0_afterDraw_20 : decode cX0_afterDraw 20 = .ok (.astore 5, 2) := by decide +kernel
theorem dX0_afterDraw_22 : decode cX0_afterDraw 22 = .ok (.aload 5, 2) := by decide +kernel
theorem dX0_afterDraw_24 : decode cX0_afterDraw 24 = .ok (.arraylength, 1) := by decide +kernel
theorem dX0_afterDraw_25 : decode cX0_afterDraw 25 = .ok (.istore 6, 2) := by decide +kernel
theorem dX0_afterDraw_27 : decode cX0_afterDraw 27 = .ok (.iconst 0, 1) := by decide +kernel
theorem dX0_afterDraw_28 : decode cX0_afterDraw 28 = .ok (.istore 7, 2) := by decide +kernel
theorem dX0_afterDraw_30 : decode cX0_afterDraw 30 = .ok (.iload 7, 2) := by decide +kernel
theorem dX0_afterDraw_32 : decode cX0_afterDraw 32 = .ok (.iload 6, 2) := by decide +kernel
theorem dX0_afterDraw_34 : decode cX0_afterDraw 34 = .ok (.if_icmp .ge 42, 3) := by decide +kernel
theorem dX0_afterDraw_37 : decode cX0_afterDraw 37 = .ok (.aload 5, 2) := by decide +kernel
theorem dX0_afterDraw_39 : decode cX0_afterDraw 39 = .ok (.iload 7, 2) := by decide +kernel
theorem dX0_afterDraw_41 : decode cX0_afterDraw 41 = .ok (.iaload, 1) := by decide +kernel
theorem dX0_afterDraw_42 : decode cX0_afterDraw 42 = .ok (.istore 8, 2) := by decide +kernel
theorem dX0_afterDraw_44 : decode cX0_afterDraw 44 = .ok (.aload_n 0, 1) := by decide +kernel
theorem dX0_afterDraw_45 : decode cX0_afterDraw 45 = .ok (.iload_n 1, 1) := by decide +kernel
theorem dX0_afterDraw_46 : decode cX0_afterDraw 46 = .ok (.iload 8, 2) := by decide +kernel
theorem dX0_afterDraw_48 : decode cX0_afterDraw 48 = .ok (.invokevirtual 61, 3) := by decide +kernel
theorem dX0_afterDraw_51 : decode cX0_afterDraw 51 = .ok (.istore 9, 2) := by decide +kernel
theorem dX0_afterDraw_53 : decode cX0_afterDraw 53 = .ok (.iload 9, 2) := by decide +kernel
theorem dX0_afterDraw_55 : decode cX0_afterDraw 55 = .ok (.iconst (-1), 1) := by decide +kernel
theorem dX0_afterDraw_56 : decode cX0_afterDraw 56 = .ok (.if_icmp .eq 14, 3) := by decide +kernel
theorem dX0_afterDraw_59 : decode cX0_afterDraw 59 = .ok (.iload 4, 2) := by decide +kernel
theorem dX0_afterDraw_61 : decode cX0_afterDraw 61 = .ok (.ifCond .ne 6, 3) := by decide +kernel
theorem dX0_afterDraw_64 : decode cX0_afterDraw 64 = .ok (.iload 9, 2) := by decide +kernel
theorem dX0_afterDraw_66 : decode cX0_afterDraw 66 = .ok (.ireturn, 1) := by decide +kernel
theorem dX0_afterDraw_67 : decode cX0_afterDraw 67 = .ok (.iinc 4 (-1), 3) := by decide +kernel
theorem dX0_afterDraw_70 : decode cX0_afterDraw 70 = .ok (.iinc 7 1, 3) := by decide +kernel
theorem dX0_afterDraw_73 : decode cX0_afterDraw 73 = .ok (.goto (-43), 3) := by decide +kernel
theorem dX0_afterDraw_76 : decode cX0_afterDraw 76 = .ok (.iload_n 1, 1) := by decide +kernel
theorem dX0_afterDraw_77 : decode cX0_afterDraw 77 = .ok (.ireturn, 1) := by decide +kernel
theorem dX0_canPay_0 : decode cX0_canPay 0 = .ok (.aload_n 0, 1) := by decide +kernel
theorem dX0_canPay_1 : decode cX0_canPay 1 = .ok (.getfield 21, 3) := by decide +kernel
theorem dX0_canPay_4 : decode cX0_canPay 4 = .ok (.iload_n 1, 1) := by decide +kernel
theorem dX0_canPay_5 : decode cX0_canPay 5 = .ok (.iaload, 1) := by decide +kernel
theorem dX0_canPay_6 : decode cX0_canPay 6 = .ok (.iload_n 2, 1) := by decide +kernel
theorem dX0_canPay_7 : decode cX0_canPay 7 = .ok (.ishr, 1) := by decide +kernel
theorem dX0_canPay_8 : decode cX0_canPay 8 = .ok (.iconst 1, 1) := by decide +kernel
theorem dX0_canPay_9 : decode cX0_canPay 9 = .ok (.iand, 1) := by decide +kernel
theorem dX0_canPay_10 : decode cX0_canPay 10 = .ok (.iconst 1, 1) := by decide +kernel
theorem dX0_canPay_11 : decode cX0_canPay 11 = .ok (.if_icmp .ne 13, 3) := by decide +kernel
theorem dX0_canPay_14 : decode cX0_canPay 14 = .ok (.iload_n 3, 1) := by decide +kernel
theorem dX0_canPay_15 : decode cX0_canPay 15 = .ok (.iload 4, 2) := by decide +kernel
theorem dX0_canPay_17 : decode cX0_canPay 17 = .ok (.if_icmp .lt 7, 3) := by decide +kernel
theorem dX0_canPay_20 : decode cX0_canPay 20 = .ok (.iconst 1, 1) := by decide +kernel
theorem dX0_canPay_21 : decode cX0_canPay 21 = .ok (.goto 4, 3) := by decide +kernel
theorem dX0_canPay_24 : decode cX0_canPay 24 = .ok (.iconst 0, 1) := by decide +kernel
theorem dX0_canPay_25 : decode cX0_canPay 25 = .ok (.ireturn, 1) := by decide +kernel
set_option maxRecDepth 20000 in
theorem ggX0_afterGoing_X7_townOf : GoodIn wsX0_afterGoing wsX7_townOf := goodIn_r _ [4] (by decide +kernel) (by decide +kernel)
set_option maxRecDepth 20000 in
theorem gX0_afterGoing_X7_townOf : GoodIn wsX0_afterGoing (va_wsS RX0 67 yX7_townOf wsX7_townOf) := goodIn_app (goodIn_of _ (by decide +kernel)) ggX0_afterGoing_X7_townOf
set_option maxRecDepth 20000 in
theorem ggX0_afterGoing_X7_withTown : GoodIn wsX0_afterGoing wsX7_withTown := goodIn_r _ [7] (by decide +kernel) (by decide +kernel)
set_option maxRecDepth 20000 in
theorem gX0_afterGoing_X7_withTown : GoodIn wsX0_afterGoing (va_wsS RX0 72 yX7_withTown wsX7_withTown) := goodIn_app (goodIn_of _ (by decide +kernel)) ggX0_afterGoing_X7_withTown
theorem dX0_afterGoing_0 : decode cX0_afterGoing 0 = .ok (.iload_n 0, 1) := by decide +kernel
theorem dX0_afterGoing_1 : decode cX0_afterGoing 1 = .ok (.invokestatic 67, 3) := by decide +kernel
theorem dX0_afterGoing_4 : decode cX0_afterGoing 4 = .ok (.iload_n 1, 1) := by decide +kernel
theorem dX0_afterGoing_5 : decode cX0_afterGoing 5 = .ok (.iadd, 1) := by decide +kernel
theorem dX0_afterGoing_6 : decode cX0_afterGoing 6 = .ok (.iconst 1, 1) := by decide +kernel
theorem dX0_afterGoing_7 : decode cX0_afterGoing 7 = .ok (.iand, 1) := by decide +kernel
theorem dX0_afterGoing_8 : decode cX0_afterGoing 8 = .ok (.iconst 1, 1) := by decide +kernel
theorem dX0_afterGoing_9 : decode cX0_afterGoing 9 = .ok (.if_icmp .ne 7, 3) := by decide +kernel
theorem dX0_afterGoing_12 : decode cX0_afterGoing 12 = .ok (.iconst 1, 1) := by decide +kernel
theorem dX0_afterGoing_13 : decode cX0_afterGoing 13 = .ok (.goto 4, 3) := by decide +kernel
theorem dX0_afterGoing_16 : decode cX0_afterGoing 16 = .ok (.iconst 0, 1) := by decide +kernel
theorem dX0_afterGoing_17 : decode cX0_afterGoing 17 = .ok (.istore_n 2, 1) := by decide +kernel
theorem dX0_afterGoing_18 : decode cX0_afterGoing 18 = .ok (.iload_n 2, 1) := by decide +kernel
theorem dX0_afterGoing_19 : decode cX0_afterGoing 19 = .ok (.ifCond .eq 11, 3) := by decide +kernel
theorem dX0_afterGoing_22 : decode cX0_afterGoing 22 = .ok (.iload_n 0, 1) := by decide +kernel
theorem dX0_afterGoing_23 : decode cX0_afterGoing 23 = .ok (.iload_n 1, 1) := by decide +kernel
theorem dX0_afterGoing_24 : decode cX0_afterGoing 24 = .ok (.invokestatic 72, 3) := by decide +kernel
theorem dX0_afterGoing_27 : decode cX0_afterGoing 27 = .ok (.goto 4, 3) := by decide +kernel
theorem dX0_afterGoing_30 : decode cX0_afterGoing 30 = .ok (.iconst (-1), 1) := by decide +kernel
theorem dX0_afterGoing_31 : decode cX0_afterGoing 31 = .ok (.ireturn, 1) := by decide +kernel
set_option maxRecDepth 20000 in
theorem ggX0_afterBuying_X7_townOf : GoodIn wsX0_afterBuying wsX7_townOf := goodIn_r _ [5] (by decide +kernel) (by decide +kernel)
set_option maxRecDepth 20000 in
theorem gX0_afterBuying_X7_townOf : GoodIn wsX0_afterBuying (va_wsS RX0 67 yX7_townOf wsX7_townOf) := goodIn_app (goodIn_of _ (by decide +kernel)) ggX0_afterBuying_X7_townOf
set_option maxRecDepth 20000 in
theorem ggX0_afterBuying_X7_hasGood : GoodIn wsX0_afterBuying wsX7_hasGood := goodIn_r _ [8] (by decide +kernel) (by decide +kernel)
set_option maxRecDepth 20000 in
theorem gX0_afterBuying_X7_hasGood : GoodIn wsX0_afterBuying (va_wsS RX0 75 yX7_hasGood wsX7_hasGood) := goodIn_app (goodIn_of _ (by decide +kernel)) ggX0_afterBuying_X7_hasGood
set_option maxRecDepth 20000 in
theorem ggX0_afterBuying_X7_coinsOf : GoodIn wsX0_afterBuying wsX7_coinsOf := goodIn_r _ [11] (by decide +kernel) (by decide +kernel)
set_option maxRecDepth 20000 in
theorem gX0_afterBuying_X7_coinsOf : GoodIn wsX0_afterBuying (va_wsS RX0 79 yX7_coinsOf wsX7_coinsOf) := goodIn_app (goodIn_of _ (by decide +kernel)) ggX0_afterBuying_X7_coinsOf
set_option maxRecDepth 20000 in
theorem ggX0_afterBuying_X0_canPay : GoodIn wsX0_afterBuying wsX0_canPay := goodIn_r _ [16, 17, 24, 25, 26, 27] (by decide +kernel) (by decide +kernel)
set_option maxRecDepth 20000 in
theorem gX0_afterBuying_X0_canPay : GoodIn wsX0_afterBuying (wsV RX0 82 RX0 yX0_canPay wsX0_canPay) := goodIn_app (goodIn_of _ (by decide +kernel)) ggX0_afterBuying_X0_canPay
set_option maxRecDepth 20000 in
theorem ggX0_afterBuying_X7_withMore : GoodIn wsX0_afterBuying wsX7_withMore := goodIn_r _ [20] (by decide +kernel) (by decide +kernel)
set_option maxRecDepth 20000 in
theorem gX0_afterBuying_X7_withMore : GoodIn wsX0_afterBuying (va_wsS RX0 86 yX7_withMore wsX7_withMore) := goodIn_app (goodIn_of _ (by decide +kernel)) ggX0_afterBuying_X7_withMore
set_option maxRecDepth 20000 in
theorem ggX0_afterBuying_X7_withOtherGood : GoodIn wsX0_afterBuying wsX7_withOtherGood := goodIn_r _ [23] (by decide +kernel) (by decide +kernel)
set_option maxRecDepth 20000 in
theorem gX0_afterBuying_X7_withOtherGood : GoodIn wsX0_afterBuying (va_wsS RX0 90 yX7_withOtherGood wsX7_withOtherGood) := goodIn_app (goodIn_of _ (by decide +kernel)) ggX0_afterBuying_X7_withOtherGood
theorem dX0_afterBuying_0 : decode cX0_afterBuying 0 = .ok (.iload_n 1, 1) := by decide +kernel
theorem dX0_afterBuying_1 : decode cX0_afterBuying 1 = .ok (.invokestatic 67, 3) := by decide +kernel
theorem dX0_afterBuying_4 : decode cX0_afterBuying 4 = .ok (.istore_n 3, 1) := by decide +kernel
theorem dX0_afterBuying_5 : decode cX0_afterBuying 5 = .ok (.iload_n 1, 1) := by decide +kernel
theorem dX0_afterBuying_6 : decode cX0_afterBuying 6 = .ok (.iload_n 3, 1) := by decide +kernel
theorem dX0_afterBuying_7 : decode cX0_afterBuying 7 = .ok (.invokestatic 75, 3) := by decide +kernel
theorem dX0_afterBuying_10 : decode cX0_afterBuying 10 = .ok (.ifCond .ne 23, 3) := by decide +kernel
theorem dX0_afterBuying_13 : decode cX0_afterBuying 13 = .ok (.aload_n 0, 1) := by decide +kernel
theorem dX0_afterBuying_14 : decode cX0_afterBuying 14 = .ok (.iload_n 3, 1) := by decide +kernel
theorem dX0_afterBuying_15 : decode cX0_afterBuying 15 = .ok (.iload_n 2, 1) := by decide +kernel
theorem dX0_afterBuying_16 : decode cX0_afterBuying 16 = .ok (.iload_n 1, 1) := by decide +kernel
theorem dX0_afterBuying_17 : decode cX0_afterBuying 17 = .ok (.iload_n 2, 1) := by decide +kernel
theorem dX0_afterBuying_18 : decode cX0_afterBuying 18 = .ok (.invokestatic 79, 3) := by decide +kernel
theorem dX0_afterBuying_21 : decode cX0_afterBuying 21 = .ok (.aload_n 0, 1) := by decide +kernel
theorem dX0_afterBuying_22 : decode cX0_afterBuying 22 = .ok (.getfield 9, 3) := by decide +kernel
theorem dX0_afterBuying_25 : decode cX0_afterBuying 25 = .ok (.iload_n 3, 1) := by decide +kernel
theorem dX0_afterBuying_26 : decode cX0_afterBuying 26 = .ok (.iaload, 1) := by decide +kernel
theorem dX0_afterBuying_27 : decode cX0_afterBuying 27 = .ok (.invokevirtual 82, 3) := by decide +kernel
theorem dX0_afterBuying_30 : decode cX0_afterBuying 30 = .ok (.ifCond .ne 5, 3) := by decide +kernel
theorem dX0_afterBuying_33 : decode cX0_afterBuying 33 = .ok (.iconst (-1), 1) := by decide +kernel
theorem dX0_afterBuying_34 : decode cX0_afterBuying 34 = .ok (.ireturn, 1) := by decide +kernel
theorem dX0_afterBuying_35 : decode cX0_afterBuying 35 = .ok (.iload_n 1, 1) := by decide +kernel
theorem dX0_afterBuying_36 : decode cX0_afterBuying 36 = .ok (.iload_n 2, 1) := by decide +kernel
theorem dX0_afterBuying_37 : decode cX0_afterBuying 37 = .ok (.aload_n 0, 1) := by decide +kernel
theorem dX0_afterBuying_38 : decode cX0_afterBuying 38 = .ok (.getfield 9, 3) := by decide +kernel
theorem dX0_afterBuying_41 : decode cX0_afterBuying 41 = .ok (.iload_n 3, 1) := by decide +kernel
theorem dX0_afterBuying_42 : decode cX0_afterBuying 42 = .ok (.iaload, 1) := by decide +kernel
theorem dX0_afterBuying_43 : decode cX0_afterBuying 43 = .ok (.ineg, 1) := by decide +kernel
theorem dX0_afterBuying_44 : decode cX0_afterBuying 44 = .ok (.invokestatic 86, 3) := by decide +kernel
theorem dX0_afterBuying_47 : decode cX0_afterBuying 47 = .ok (.iload_n 3, 1) := by decide +kernel
theorem dX0_afterBuying_48 : decode cX0_afterBuying 48 = .ok (.invokestatic 90, 3) := by decide +kernel
theorem dX0_afterBuying_51 : decode cX0_afterBuying 51 = .ok (.ireturn, 1) := by decide +kernel
set_option maxRecDepth 20000 in
theorem ggX0_afterSelling_X7_townOf : GoodIn wsX0_afterSelling wsX7_townOf := goodIn_r _ [6] (by decide +kernel) (by decide +kernel)
set_option maxRecDepth 20000 in
theorem gX0_afterSelling_X7_townOf : GoodIn wsX0_afterSelling (va_wsS RX0 67 yX7_townOf wsX7_townOf) := goodIn_app (goodIn_of _ (by decide +kernel)) ggX0_afterSelling_X7_townOf
set_option maxRecDepth 20000 in
theorem ggX0_afterSelling_X7_hasGood : GoodIn wsX0_afterSelling wsX7_hasGood := goodIn_r _ [9] (by decide +kernel) (by decide +kernel)
set_option maxRecDepth 20000 in
theorem gX0_afterSelling_X7_hasGood : GoodIn wsX0_afterSelling (va_wsS RX0 75 yX7_hasGood wsX7_hasGood) := goodIn_app (goodIn_of _ (by decide +kernel)) ggX0_afterSelling_X7_hasGood
set_option maxRecDepth 20000 in
theorem ggX0_afterSelling_X7_coinsOf : GoodIn wsX0_afterSelling wsX7_coinsOf := goodIn_r _ [12] (by decide +kernel) (by decide +kernel)
set_option maxRecDepth 20000 in
theorem gX0_afterSelling_X7_coinsOf : GoodIn wsX0_afterSelling (va_wsS RX0 79 yX7_coinsOf wsX7_coinsOf) := goodIn_app (goodIn_of _ (by decide +kernel)) ggX0_afterSelling_X7_coinsOf
set_option maxRecDepth 20000 in
theorem ggX0_afterSelling_X7_withMore : GoodIn wsX0_afterSelling wsX7_withMore := goodIn_r _ [15] (by decide +kernel) (by decide +kernel)
set_option maxRecDepth 20000 in
theorem gX0_afterSelling_X7_withMore : GoodIn wsX0_afterSelling (va_wsS RX0 86 yX7_withMore wsX7_withMore) := goodIn_app (goodIn_of _ (by decide +kernel)) ggX0_afterSelling_X7_withMore
set_option maxRecDepth 20000 in
theorem ggX0_afterSelling_X7_withOtherGood : GoodIn wsX0_afterSelling wsX7_withOtherGood := goodIn_r _ [18] (by decide +kernel) (by decide +kernel)
set_option maxRecDepth 20000 in
theorem gX0_afterSelling_X7_withOtherGood : GoodIn wsX0_afterSelling (va_wsS RX0 90 yX7_withOtherGood wsX7_withOtherGood) := goodIn_app (goodIn_of _ (by decide +kernel)) ggX0_afterSelling_X7_withOtherGood
theorem dX0_afterSelling_0 : decode cX0_afterSelling 0 = .ok (.iload_n 1, 1) := by decide +kernel
theorem dX0_afterSelling_1 : decode cX0_afterSelling 1 = .ok (.invokestatic 67, 3) := by decide +kernel
theorem dX0_afterSelling_4 : decode cX0_afterSelling 4 = .ok (.istore_n 3, 1) := by decide +kernel
theorem dX0_afterSelling_5 : decode cX0_afterSelling 5 = .ok (.iload_n 1, 1) := by decide +kernel
theorem dX0_afterSelling_6 : decode cX0_afterSelling 6 = .ok (.iload_n 2, 1) := by decide +kernel
theorem dX0_afterSelling_7 : decode cX0_afterSelling 7 = .ok (.invokestatic 75, 3) := by decide +kernel
theorem dX0_afterSelling_10 : decode cX0_afterSelling 10 = .ok (.ifCond .eq 29, 3) := by decide +kernel
theorem dX0_afterSelling_13 : decode cX0_afterSelling 13 = .ok (.iload_n 2, 1) := by decide +kernel
theorem dX0_afterSelling_14 : decode cX0_afterSelling 14 = .ok (.iload_n 3, 1) := by decide +kernel
theorem dX0_afterSelling_15 : decode cX0_afterSelling 15 = .ok (.if_icmp .eq 24, 3) := by decide +kernel
theorem dX0_afterSelling_18 : decode cX0_afterSelling 18 = .ok (.iload_n 1, 1) := by decide +kernel
theorem dX0_afterSelling_19 : decode cX0_afterSelling 19 = .ok (.aload_n 0, 1) := by decide +kernel
theorem dX0_afterSelling_20 : decode cX0_afterSelling 20 = .ok (.getfield 18, 3) := by decide +kernel
theorem dX0_afterSelling_23 : decode cX0_afterSelling 23 = .ok (.iload_n 3, 1) := by decide +kernel
theorem dX0_afterSelling_24 : decode cX0_afterSelling 24 = .ok (.iaload, 1) := by decide +kernel
theorem dX0_afterSelling_25 : decode cX0_afterSelling 25 = .ok (.invokestatic 79, 3) := by decide +kernel
theorem dX0_afterSelling_28 : decode cX0_afterSelling 28 = .ok (.aload_n 0, 1) := by decide +kernel
theorem dX0_afterSelling_29 : decode cX0_afterSelling 29 = .ok (.getfield 15, 3) := by decide +kernel
theorem dX0_afterSelling_32 : decode cX0_afterSelling 32 = .ok (.iload_n 3, 1) := by decide +kernel
theorem dX0_afterSelling_33 : decode cX0_afterSelling 33 = .ok (.iaload, 1) := by decide +kernel
theorem dX0_afterSelling_34 : decode cX0_afterSelling 34 = .ok (.iadd, 1) := by decide +kernel
theorem dX0_afterSelling_35 : decode cX0_afterSelling 35 = .ok (.iconst 4, 1) := by decide +kernel
theorem dX0_afterSelling_36 : decode cX0_afterSelling 36 = .ok (.if_icmp .le 5, 3) := by decide +kernel
theorem dX0_afterSelling_39 : decode cX0_afterSelling 39 = .ok (.iconst (-1), 1) := by decide +kernel
theorem dX0_afterSelling_40 : decode cX0_afterSelling 40 = .ok (.ireturn, 1) := by decide +kernel
theorem dX0_afterSelling_41 : decode cX0_afterSelling 41 = .ok (.iload_n 1, 1) := by decide +kernel
theorem dX0_afterSelling_42 : decode cX0_afterSelling 42 = .ok (.aload_n 0, 1) := by decide +kernel
theorem dX0_afterSelling_43 : decode cX0_afterSelling 43 = .ok (.getfield 18, 3) := by decide +kernel
theorem dX0_afterSelling_46 : decode cX0_afterSelling 46 = .ok (.iload_n 3, 1) := by decide +kernel
theorem dX0_afterSelling_47 : decode cX0_afterSelling 47 = .ok (.iaload, 1) := by decide +kernel
theorem dX0_afterSelling_48 : decode cX0_afterSelling 48 = .ok (.aload_n 0, 1) := by decide +kernel
theorem dX0_afterSelling_49 : decode cX0_afterSelling 49 = .ok (.getfield 15, 3) := by decide +kernel
theorem dX0_afterSelling_52 : decode cX0_afterSelling 52 = .ok (.iload_n 3, 1) := by decide +kernel
theorem dX0_afterSelling_53 : decode cX0_afterSelling 53 = .ok (.iaload, 1) := by decide +kernel
theorem dX0_afterSelling_54 : decode cX0_afterSelling 54 = .ok (.invokestatic 86, 3) := by decide +kernel
theorem dX0_afterSelling_57 : decode cX0_afterSelling 57 = .ok (.iload_n 2, 1) := by decide +kernel
theorem dX0_afterSelling_58 : decode cX0_afterSelling 58 = .ok (.invokestatic 90, 3) := by decide +kernel
theorem dX0_afterSelling_61 : decode cX0_afterSelling 61 = .ok (.ireturn, 1) := by decide +kernel
theorem dX1_init_0 : decode cX1_init 0 = .ok (.aload_n 0, 1) := by decide +kernel
theorem dX1_init_1 : decode cX1_init 1 = .ok (.invokespecial 3, 3) := by decide +kernel
theorem dX1_init_4 : decode cX1_init 4 = .ok (.aload_n 0, 1) := by decide +kernel
theorem dX1_init_5 : decode cX1_init 5 = .ok (.iconst 5, 1) := by decide +kernel
theorem dX1_init_6 : decode cX1_init 6 = .ok (.newarray .int, 2) := by decide +kernel
theorem dX1_init_8 : decode cX1_init 8 = .ok (.putfield 9, 3) := by decide +kernel
theorem dX1_init_11 : decode cX1_init 11 = .ok (.aload_n 0, 1) := by decide +kernel
theorem dX1_init_12 : decode cX1_init 12 = .ok (.iconst 4, 1) := by decide +kernel
theorem dX1_init_13 : decode cX1_init 13 = .ok (.newarray .int, 2) := by decide +kernel
theorem dX1_init_15 : decode cX1_init 15 = .ok (.putfield 15, 3) := by decide +kernel
theorem dX1_init_18 : decode cX1_init 18 = .ok (.return_, 1) := by decide +kernel
theorem dX2_cost_0 : decode cX2_cost 0 = .ok (.iconst 1, 1) := by decide +kernel
theorem dX2_cost_1 : decode cX2_cost 1 = .ok (.iload_n 1, 1) := by decide +kernel
theorem dX2_cost_2 : decode cX2_cost 2 = .ok (.aload_n 0, 1) := by decide +kernel
theorem dX2_cost_3 : decode cX2_cost 3 = .ok (.getfield 42, 3) := by decide +kernel
theorem dX2_cost_6 : decode cX2_cost 6 = .ok (.isub, 1) := by decide +kernel
theorem dX2_cost_7 : decode cX2_cost 7 = .ok (.invokestatic 52, 3) := by decide +kernel
theorem dX2_cost_10 : decode cX2_cost 10 = .ok (.ireturn, 1) := by decide +kernel
theorem dX2_gain_0 : decode cX2_gain 0 = .ok (.iload_n 1, 1) := by decide +kernel
theorem dX2_gain_1 : decode cX2_gain 1 = .ok (.aload_n 0, 1) := by decide +kernel
theorem dX2_gain_2 : decode cX2_gain 2 = .ok (.getfield 45, 3) := by decide +kernel
theorem dX2_gain_5 : decode cX2_gain 5 = .ok (.iadd, 1) := by decide +kernel
theorem dX2_gain_6 : decode cX2_gain 6 = .ok (.ireturn, 1) := by decide +kernel
theorem dX2_isAlso_0 : decode cX2_isAlso 0 = .ok (.aload_n 1, 1) := by decide +kernel
theorem dX2_isAlso_1 : decode cX2_isAlso 1 = .ok (.aload_n 0, 1) := by decide +kernel
theorem dX2_isAlso_2 : decode cX2_isAlso 2 = .ok (.if_acmp .eq 24, 3) := by decide +kernel
theorem dX2_isAlso_5 : decode cX2_isAlso 5 = .ok (.aload_n 1, 1) := by decide +kernel
theorem dX2_isAlso_6 : decode cX2_isAlso 6 = .ok (.getstatic 3, 3) := by decide +kernel
theorem dX2_isAlso_9 : decode cX2_isAlso 9 = .ok (.if_acmp .eq 17, 3) := by decide +kernel
theorem dX2_isAlso_12 : decode cX2_isAlso 12 = .ok (.aload_n 0, 1) := by decide +kernel
theorem dX2_isAlso_13 : decode cX2_isAlso 13 = .ok (.getstatic 16, 3) := by decide +kernel
theorem dX2_isAlso_16 : decode cX2_isAlso 16 = .ok (.if_acmp .ne 14, 3) := by decide +kernel
theorem dX2_isAlso_19 : decode cX2_isAlso 19 = .ok (.aload_n 1, 1) := by decide +kernel
theorem dX2_isAlso_20 : decode cX2_isAlso 20 = .ok (.getstatic 13, 3) := by decide +kernel
theorem dX2_isAlso_23 : decode cX2_isAlso 23 = .ok (.if_acmp .ne 7, 3) := by decide +kernel
theorem dX2_isAlso_26 : decode cX2_isAlso 26 = .ok (.iconst 1, 1) := by decide +kernel
theorem dX2_isAlso_27 : decode cX2_isAlso 27 = .ok (.goto 4, 3) := by decide +kernel
theorem dX2_isAlso_30 : decode cX2_isAlso 30 = .ok (.iconst 0, 1) := by decide +kernel
theorem dX2_isAlso_31 : decode cX2_isAlso 31 = .ok (.ireturn, 1) := by decide +kernel
theorem dX3_init_0 : decode cX3_init 0 = .ok (.aload_n 0, 1) := by decide +kernel
theorem dX3_init_1 : decode cX3_init 1 = .ok (.invokespecial 3, 3) := by decide +kernel
theorem dX3_init_4 : decode cX3_init 4 = .ok (.aload_n 0, 1) := by decide +kernel
theorem dX3_init_5 : decode cX3_init 5 = .ok (.iconst 4, 1) := by decide +kernel
theorem dX3_init_6 : decode cX3_init 6 = .ok (.newarray .int, 2) := by decide +kernel
theorem dX3_init_8 : decode cX3_init 8 = .ok (.putfield 9, 3) := by decide +kernel
theorem dX3_init_11 : decode cX3_init 11 = .ok (.aload_n 0, 1) := by decide +kernel
theorem dX3_init_12 : decode cX3_init 12 = .ok (.iconst 4, 1) := by decide +kernel
theorem dX3_init_13 : decode cX3_init 13 = .ok (.newarray .int, 2) := by decide +kernel
theorem dX3_init_15 : decode cX3_init 15 = .ok (.putfield 15, 3) := by decide +kernel
theorem dX3_init_18 : decode cX3_init 18 = .ok (.aload_n 0, 1) := by decide +kernel
theorem dX3_init_19 : decode cX3_init 19 = .ok (.iconst 4, 1) := by decide +kernel
theorem dX3_init_20 : decode cX3_init 20 = .ok (.newarray .int, 2) := by decide +kernel
theorem dX3_init_22 : decode cX3_init 22 = .ok (.putfield 18, 3) := by decide +kernel
theorem dX3_init_25 : decode cX3_init 25 = .ok (.aload_n 0, 1) := by decide +kernel
theorem dX3_init_26 : decode cX3_init 26 = .ok (.iconst 4, 1) := by decide +kernel
theorem dX3_init_27 : decode cX3_init 27 = .ok (.newarray .int, 2) := by decide +kernel
theorem dX3_init_29 : decode cX3_init 29 = .ok (.putfield 21, 3) := by decide +kernel
theorem dX3_init_32 : decode cX3_init 32 = .ok (.return_, 1) := by decide +kernel
set_option maxRecDepth 20000 in
theorem ggX3_read_J7_fill_53178 : GoodIn wsX3_read wsJ7_fill_53178 := goodIn_r _ [9] (by decide +kernel) (by decide +kernel)
set_option maxRecDepth 20000 in
theorem gX3_read_J7_fill_53178 : GoodIn wsX3_read (va_wsS RX3 24 yJ7_fill_53178 wsJ7_fill_53178) := goodIn_app (goodIn_of _ (by decide +kernel)) ggX3_read_J7_fill_53178
set_option maxRecDepth 20000 in
theorem ggX3_read_X3_readLetter : GoodIn wsX3_read wsX3_readLetter := goodIn_r _ [14, 3, 15, 16, 17, 18, 19, 20, 13, 21, 1, 2, 22, 23, 24, 25, 26, 27, 28, 29, 30, 31, 32, 33, 34, 35, 36, 37, 38, 39, 40, 41, 42, 43, 44, 45, 46, 47, 48] (by decide +kernel) (by decide +kernel)
set_option maxRecDepth 20000 in
theorem gX3_read_X3_readLetter : GoodIn wsX3_read (wsV RX3 45 RX3 yX3_readLetter wsX3_readLetter) := goodIn_app (goodIn_of _ (by decide +kernel)) ggX3_read_X3_readLetter
theorem dX3_read_0 : decode cX3_read 0 = .ok (.aload_n 0, 1) := by decide +kernel
theorem dX3_read_1 : decode cX3_read 1 = .ok (.getfield 9, 3) := by decide +kernel
theorem dX3_read_4 : decode cX3_read 4 = .ok (.iconst 0, 1) := by decide +kernel
theorem dX3_read_5 : decode cX3_read 5 = .ok (.invokestatic 24, 3) := by decide +kernel
theorem dX3_read_8 : decode cX3_read 8 = .ok (.aload_n 0, 1) := by decide +kernel
theorem dX3_read_9 : decode cX3_read 9 = .ok (.iconst 0, 1) := by decide +kernel
theorem dX3_read_10 : decode cX3_read 10 = .ok (.putfield 30, 3) := by decide +kernel
theorem dX3_read_13 : decode cX3_read 13 = .ok (.aload_n 0, 1) := by decide +kernel
theorem dX3_read_14 : decode cX3_read 14 = .ok (.iconst 0, 1) := by decide +kernel
theorem dX3_read_15 : decode cX3_read 15 = .ok (.putfield 34, 3) := by decide +kernel
theorem dX3_read_18 : decode cX3_read 18 = .ok (.iconst 0, 1) := by decide +kernel
theorem dX3_read_19 : decode cX3_read 19 = .ok (.istore_n 2, 1) := by decide +kernel
theorem dX3_read_20 : decode cX3_read 20 = .ok (.iload_n 2, 1) := by decide +kernel
theorem dX3_read_21 : decode cX3_read 21 = .ok (.aload_n 1, 1) := by decide +kernel
theorem dX3_read_22 : decode cX3_read 22 = .ok (.getfield 37, 3) := by decide +kernel
theorem dX3_read_25 : decode cX3_read 25 = .ok (.if_icmp .ge 24, 3) := by decide +kernel
theorem dX3_read_28 : decode cX3_read 28 = .ok (.aload_n 0, 1) := by decide +kernel
theorem dX3_read_29 : decode cX3_read 29 = .ok (.aload_n 1, 1) := by decide +kernel
theorem dX3_read_30 : decode cX3_read 30 = .ok (.getfield 42, 3) := by decide +kernel
theorem dX3_read_33 : decode cX3_read 33 = .ok (.iload_n 2, 1) := by decide +kernel
theorem dX3_read_34 : decode cX3_read 34 = .ok (.iaload, 1) := by decide +kernel
theorem dX3_read_35 : decode cX3_read 35 = .ok (.invokevirtual 45, 3) := by decide +kernel
theorem dX3_read_38 : decode cX3_read 38 = .ok (.ifCond .ne 5, 3) := by decide +kernel
theorem dX3_read_41 : decode cX3_read 41 = .ok (.iload_n 2, 1) := by decide +kernel
theorem dX3_read_42 : decode cX3_read 42 = .ok (.ireturn, 1) := by decide +kernel
theorem dX3_read_43 : decode cX3_read 43 = .ok (.iinc 2 1, 3) := by decide +kernel
theorem dX3_read_46 : decode cX3_read 46 = .ok (.goto (-26), 3) := by decide +kernel
theorem dX3_read_49 : decode cX3_read 49 = .ok (.aload_n 1, 1) := by decide +kernel
theorem dX3_read_50 : decode cX3_read 50 = .ok (.getfield 37, 3) := by decide +kernel
theorem dX3_read_53 : decode cX3_read 53 = .ok (.ireturn, 1) := by decide +kernel
theorem dX3_isWhole_0 : decode cX3_isWhole 0 = .ok (.aload_n 0, 1) := by decide +kernel
theorem dX3_isWhole_1 : decode cX3_isWhole 1 = .ok (.getfield 30, 3) := by decide +kernel
theorem dX3_isWhole_4 : decode cX3_isWhole 4 = .ok (.iconst 3, 1) := by decide +kernel
theorem dX3_isWhole_5 : decode cX3_isWhole 5 = .ok (.if_icmp .ne 15, 3) := by decide +kernel
theorem dX3_isWhole_8 : decode cX3_isWhole 8 = .ok (.aload_n 0, 1) := by decide +kernel
theorem dX3_isWhole_9 : decode cX3_isWhole 9 = .ok (.getfield 34, 3) := by decide +kernel
theorem dX3_isWhole_12 : decode cX3_isWhole 12 = .ok (.iconst 4, 1) := by decide +kernel
theorem dX3_isWhole_13 : decode cX3_isWhole 13 = .ok (.if_icmp .ne 7, 3) := by decide +kernel
theorem dX3_isWhole_16 : decode cX3_isWhole 16 = .ok (.iconst 1, 1) := by decide +kernel
theorem dX3_isWhole_17 : decode cX3_isWhole 17 = .ok (.goto 4, 3) := by decide +kernel
theorem dX3_isWhole_20 : decode cX3_isWhole 20 = .ok (.iconst 0, 1) := by decide +kernel
theorem dX3_isWhole_21 : decode cX3_isWhole 21 = .ok (.ireturn, 1) := by decide +kernel
set_option maxRecDepth 20000 in
theorem ggX3_coinsTaken_J6_bitCount_0f7a4 : GoodIn wsX3_coinsTaken wsJ6_bitCount_0f7a4 := goodIn_r _ [5, 6, 7, 8] (by decide +kernel) (by decide +kernel)
set_option maxRecDepth 20000 in
theorem gX3_coinsTaken_J6_bitCount_0f7a4 : GoodIn wsX3_coinsTaken (va_wsS RX3 49 yJ6_bitCount_0f7a4 wsJ6_bitCount_0f7a4) := goodIn_app (goodIn_of _ (by decide +kernel)) ggX3_coinsTaken_J6_bitCount_0f7a4
theorem dX3_coinsTaken_0 : decode cX3_coinsTaken 0 = .ok (.iconst 0, 1) := by decide +kernel
theorem dX3_coinsTaken_1 : decode cX3_coinsTaken 1 = .ok (.istore_n 1, 1) := by decide +kernel
theorem dX3_coinsTaken_2 : decode cX3_coinsTaken 2 = .ok (.iconst 0, 1) := by decide +kernel
theorem dX3_coinsTaken_3 : decode cX3_coinsTaken 3 = .ok (.istore_n 2, 1) := by decide +kernel
theorem dX3_coinsTaken_4 : decode cX3_coinsTaken 4 = .ok (.iload_n 2, 1) := by decide +kernel
theorem dX3_coinsTaken_5 : decode cX3_coinsTaken 5 = .ok (.iconst 4, 1) := by decide +kernel
theorem dX3_coinsTaken_6 : decode cX3_coinsTaken 6 = .ok (.if_icmp .ge 21, 3) := by decide +kernel
theorem dX3_coinsTaken_9 : decode cX3_coinsTaken 9 = .ok (.iload_n 1, 1) := by decide +kernel
theorem dX3_coinsTaken_10 : decode cX3_coinsTaken 10 = .ok (.aload_n 0, 1) := by decide +kernel
theorem dX3_coinsTaken_11 : decode cX3_coinsTaken 11 = .ok (.getfield 9, 3) := by decide +kernel
theorem dX3_coinsTaken_14 : decode cX3_coinsTaken 14 = .ok (.iload_n 2, 1) := by decide +kernel
theorem dX3_coinsTaken_15 : decode cX3_coinsTaken 15 = .ok (.iaload, 1) := by decide +kernel
theorem dX3_coinsTaken_16 : decode cX3_coinsTaken 16 = .ok (.invokestatic 49, 3) := by decide +kernel
theorem dX3_coinsTaken_19 : decode cX3_coinsTaken 19 = .ok (.iadd, 1) := by decide +kernel
theorem dX3_coinsTaken_20 : decode cX3_coinsTaken 20 = .ok (.istore_n 1, 1) := by decide +kernel
theorem dX3_coinsTaken_21 : decode cX3_coinsTaken 21 = .ok (.iinc 2 1, 3) := by decide +kernel
theorem dX3_coinsTaken_24 : decode cX3_coinsTaken 24 = .ok (.goto (-20), 3) := by decide +kernel
theorem dX3_coinsTaken_27 : decode cX3_coinsTaken 27 = .ok (.iload_n 1, 1) := by decide +kernel
theorem dX3_coinsTaken_28 : decode cX3_coinsTaken 28 = .ok (.ireturn, 1) := by decide +kernel
set_option maxRecDepth 20000 in
theorem ggX3_readLetter_X3_endTakes : GoodIn wsX3_readLetter wsX3_endTakes := goodIn_r _ [9, 10, 11, 1, 33, 34, 35, 36, 37, 38] (by decide +kernel) (by decide +kernel)
set_option maxRecDepth 20000 in
theorem gX3_readLetter_X3_endTakes : GoodIn wsX3_readLetter (wsV RX3 55 RX3 yX3_endTakes wsX3_endTakes) := goodIn_app (goodIn_of _ (by decide +kernel)) ggX3_readLetter_X3_endTakes
set_option maxRecDepth 20000 in
theorem ggX3_readLetter_X3_readTaken : GoodIn wsX3_readLetter wsX3_readTaken := goodIn_r _ [15, 10, 11, 16, 17, 18, 8, 19, 20, 21, 22, 33, 34, 35, 36, 37, 38] (by decide +kernel) (by decide +kernel)
set_option maxRecDepth 20000 in
theorem gX3_readLetter_X3_readTaken : GoodIn wsX3_readLetter (wsV RX3 59 RX3 yX3_readTaken wsX3_readTaken) := goodIn_app (goodIn_of _ (by decide +kernel)) ggX3_readLetter_X3_readTaken
set_option maxRecDepth 20000 in
theorem ggX3_readLetter_X3_isForeign : GoodIn wsX3_readLetter wsX3_isForeign := goodIn_r _ [19, 11, 20, 21, 22, 33, 34, 35, 36, 37, 38] (by decide +kernel) (by decide +kernel)
set_option maxRecDepth 20000 in
theorem gX3_readLetter_X3_isForeign : GoodIn wsX3_readLetter (wsV RX3 62 RX3 yX3_isForeign wsX3_isForeign) := goodIn_app (goodIn_of _ (by decide +kernel)) ggX3_readLetter_X3_isForeign
set_option maxRecDepth 20000 in
theorem ggX3_readLetter_X3_put : GoodIn wsX3_readLetter wsX3_put := goodIn_r _ [26, 11, 1, 33, 34, 35, 36, 37, 38] (by decide +kernel) (by decide +kernel)
set_option maxRecDepth 20000 in
theorem gX3_readLetter_X3_put : GoodIn wsX3_readLetter (wsV RX3 65 RX3 yX3_put wsX3_put) := goodIn_app (goodIn_of _ (by decide +kernel)) ggX3_readLetter_X3_put
set_option maxRecDepth 20000 in
theorem ggX3_readLetter_X9_isPrice : GoodIn wsX3_readLetter wsX9_isPrice := goodIn_r _ [28] (by decide +kernel) (by decide +kernel)
set_option maxRecDepth 20000 in
theorem gX3_readLetter_X9_isPrice_n69 : GoodIn wsX3_readLetter (wsX9_isPrice) := ggX3_readLetter_X9_isPrice
set_option maxRecDepth 20000 in
theorem ggX3_readLetter_X3_nextPart : GoodIn wsX3_readLetter wsX3_nextPart := goodIn_r _ [32, 11, 1, 33, 34, 35, 36, 37, 38] (by decide +kernel) (by decide +kernel)
set_option maxRecDepth 20000 in
theorem gX3_readLetter_X3_nextPart : GoodIn wsX3_readLetter (wsV RX3 72 RX3 yX3_nextPart wsX3_nextPart) := goodIn_app (goodIn_of _ (by decide +kernel)) ggX3_readLetter_X3_nextPart
theorem dX3_readLetter_0 : decode cX3_readLetter 0 = .ok (.iload_n 1, 1) := by decide +kernel
theorem dX3_readLetter_1 : decode cX3_readLetter 1 = .ok (.bipush 48, 2) := by decide +kernel
theorem dX3_readLetter_3 : decode cX3_readLetter 3 = .ok (.isub, 1) := by decide +kernel
theorem dX3_readLetter_4 : decode cX3_readLetter 4 = .ok (.istore_n 2, 1) := by decide +kernel
theorem dX3_readLetter_5 : decode cX3_readLetter 5 = .ok (.aload_n 0, 1) := by decide +kernel
theorem dX3_readLetter_6 : decode cX3_readLetter 6 = .ok (.getfield 34, 3) := by decide +kernel
theorem dX3_readLetter_9 : decode cX3_readLetter 9 = .ok (.tableswitch 128 0 3 #[31, 50, 76, 101], 31) := by decide +kernel
theorem dX3_readLetter_40 : decode cX3_readLetter 40 = .ok (.iload_n 1, 1) := by decide +kernel
theorem dX3_readLetter_41 : decode cX3_readLetter 41 = .ok (.bipush 58, 2) := by decide +kernel
theorem dX3_readLetter_43 : decode cX3_readLetter 43 = .ok (.if_icmp .ne 10, 3) := by decide +kernel
theorem dX3_readLetter_46 : decode cX3_readLetter 46 = .ok (.aload_n 0, 1) := by decide +kernel
theorem dX3_readLetter_47 : decode cX3_readLetter 47 = .ok (.invokevirtual 55, 3) := by decide +kernel
theorem dX3_readLetter_50 : decode cX3_readLetter 50 = .ok (.goto 8, 3) := by decide +kernel
theorem dX3_readLetter_53 : decode cX3_readLetter 53 = .ok (.aload_n 0, 1) := by decide +kernel
theorem dX3_readLetter_54 : decode cX3_readLetter 54 = .ok (.iload_n 2, 1) := by decide +kernel
theorem dX3_readLetter_55 : decode cX3_readLetter 55 = .ok (.invokevirtual 59, 3) := by decide +kernel
theorem dX3_readLetter_58 : decode cX3_readLetter 58 = .ok (.ireturn, 1) := by decide +kernel
theorem dX3_readLetter_59 : decode cX3_readLetter 59 = .ok (.aload_n 0, 1) := by decide +kernel
theorem dX3_readLetter_60 : decode cX3_readLetter 60 = .ok (.iload_n 2, 1) := by decide +kernel
theorem dX3_readLetter_61 : decode cX3_readLetter 61 = .ok (.invokevirtual 62, 3) := by decide +kernel
theorem dX3_readLetter_64 : decode cX3_readLetter 64 = .ok (.ifCond .eq 19, 3) := by decide +kernel
theorem dX3_readLetter_67 : decode cX3_readLetter 67 = .ok (.aload_n 0, 1) := by decide +kernel
theorem dX3_readLetter_68 : decode cX3_readLetter 68 = .ok (.aload_n 0, 1) := by decide +kernel
theorem dX3_readLetter_69 : decode cX3_readLetter 69 = .ok (.getfield 15, 3) := by decide +kernel
theorem dX3_readLetter_72 : decode cX3_readLetter 72 = .ok (.iload_n 2, 1) := by decide +kernel
theorem dX3_readLetter_73 : decode cX3_readLetter 73 = .ok (.invokevirtual 65, 3) := by decide +kernel
theorem dX3_readLetter_76 : decode cX3_readLetter 76 = .ok (.ifCond .eq 7, 3) := by decide +kernel
theorem dX3_readLetter_79 : decode cX3_readLetter 79 = .ok (.iconst 1, 1) := by decide +kernel
theorem dX3_readLetter_80 : decode cX3_readLetter 80 = .ok (.goto 4, 3) := by decide +kernel
theorem dX3_readLetter_83 : decode cX3_readLetter 83 = .ok (.iconst 0, 1) := by decide +kernel
theorem dX3_readLetter_84 : decode cX3_readLetter 84 = .ok (.ireturn, 1) := by decide +kernel
theorem dX3_readLetter_85 : decode cX3_readLetter 85 = .ok (.iload_n 2, 1) := by decide +kernel
theorem dX3_readLetter_86 : decode cX3_readLetter 86 = .ok (.invokestatic 69, 3) := by decide +kernel
theorem dX3_readLetter_89 : decode cX3_readLetter 89 = .ok (.ifCond .eq 19, 3) := by decide +kernel
theorem dX3_readLetter_92 : decode cX3_readLetter 92 = .ok (.aload_n 0, 1) := by decide +kernel
theorem dX3_readLetter_93 : decode cX3_readLetter 93 = .ok (.aload_n 0, 1) := by decide +kernel
theorem dX3_readLetter_94 : decode cX3_readLetter 94 = .ok (.getfield 18, 3) := by decide +kernel
theorem dX3_readLetter_97 : decode cX3_readLetter 97 = .ok (.iload_n 2, 1) := by decide +kernel
theorem dX3_readLetter_98 : decode cX3_readLetter 98 = .ok (.invokevirtual 65, 3) := by decide +kernel
theorem dX3_readLetter_101 : decode cX3_readLetter 101 = .ok (.ifCond .eq 7, 3) := by decide +kernel
theorem dX3_readLetter_104 : decode cX3_readLetter 104 = .ok (.iconst 1, 1) := by decide +kernel
theorem dX3_readLetter_105 : decode cX3_readLetter 105 = .ok (.goto 4, 3) := by decide +kernel
theorem dX3_readLetter_108 : decode cX3_readLetter 108 = .ok (.iconst 0, 1) := by decide +kernel
theorem dX3_readLetter_109 : decode cX3_readLetter 109 = .ok (.ireturn, 1) := by decide +kernel
theorem dX3_readLetter_110 : decode cX3_readLetter 110 = .ok (.iload_n 2, 1) := by decide +kernel
theorem dX3_readLetter_111 : decode cX3_readLetter 111 = .ok (.ifCond .lt 24, 3) := by decide +kernel
theorem dX3_readLetter_114 : decode cX3_readLetter 114 = .ok (.iload_n 2, 1) := by decide +kernel
theorem dX3_readLetter_115 : decode cX3_readLetter 115 = .ok (.iconst 4, 1) := by decide +kernel
theorem dX3_readLetter_116 : decode cX3_readLetter 116 = .ok (.if_icmp .gt 19, 3) := by decide +kernel
theorem dX3_readLetter_119 : decode cX3_readLetter 119 = .ok (.aload_n 0, 1) := by decide +kernel
theorem dX3_readLetter_120 : decode cX3_readLetter 120 = .ok (.aload_n 0, 1) := by decide +kernel
theorem dX3_readLetter_121 : decode cX3_readLetter 121 = .ok (.getfield 21, 3) := by decide +kernel
theorem dX3_readLetter_124 : decode cX3_readLetter 124 = .ok (.iload_n 2, 1) := by decide +kernel
theorem dX3_readLetter_125 : decode cX3_readLetter 125 = .ok (.invokevirtual 65, 3) := by decide +kernel
theorem dX3_readLetter_128 : decode cX3_readLetter 128 = .ok (.ifCond .eq 7, 3) := by decide +kernel
theorem dX3_readLetter_131 : decode cX3_readLetter 131 = .ok (.iconst 1, 1) := by decide +kernel
theorem dX3_readLetter_132 : decode cX3_readLetter 132 = .ok (.goto 4, 3) := by decide +kernel
theorem dX3_readLetter_135 : decode cX3_readLetter 135 = .ok (.iconst 0, 1) := by decide +kernel
theorem dX3_readLetter_136 : decode cX3_readLetter 136 = .ok (.ireturn, 1) := by decide +kernel
theorem dX3_readLetter_137 : decode cX3_readLetter 137 = .ok (.iload_n 1, 1) := by decide +kernel
theorem dX3_readLetter_138 : decode cX3_readLetter 138 = .ok (.bipush 47, 2) := by decide +kernel
theorem dX3_readLetter_140 : decode cX3_readLetter 140 = .ok (.if_icmp .ne 14, 3) := by decide +kernel
theorem dX3_readLetter_143 : decode cX3_readLetter 143 = .ok (.aload_n 0, 1) := by decide +kernel
theorem dX3_readLetter_144 : decode cX3_readLetter 144 = .ok (.invokevirtual 72, 3) := by decide +kernel
theorem dX3_readLetter_147 : decode cX3_readLetter 147 = .ok (.ifCond .eq 7, 3) := by decide +kernel
theorem dX3_readLetter_150 : decode cX3_readLetter 150 = .ok (.iconst 1, 1) := by decide +kernel
theorem dX3_readLetter_151 : decode cX3_readLetter 151 = .ok (.goto 4, 3) := by decide +kernel
theorem dX3_readLetter_154 : decode cX3_readLetter 154 = .ok (.iconst 0, 1) := by decide +kernel
theorem dX3_readLetter_155 : decode cX3_readLetter 155 = .ok (.ireturn, 1) := by decide +kernel
set_option maxRecDepth 20000 in
theorem ggX3_isForeign_X9_isCoin : GoodIn wsX3_isForeign wsX9_isCoin := goodIn_r _ [4] (by decide +kernel) (by decide +kernel)
set_option maxRecDepth 20000 in
theorem gX3_isForeign_X9_isCoin_n75 : GoodIn wsX3_isForeign (wsX9_isCoin) := ggX3_isForeign_X9_isCoin
theorem dX3_isForeign_0 : decode cX3_isForeign 0 = .ok (.iload_n 1, 1) := by decide +kernel
theorem dX3_isForeign_1 : decode cX3_isForeign 1 = .ok (.invokestatic 75, 3) := by decide +kernel
theorem dX3_isForeign_4 : decode cX3_isForeign 4 = .ok (.ifCond .eq 15, 3) := by decide +kernel
theorem dX3_isForeign_7 : decode cX3_isForeign 7 = .ok (.iload_n 1, 1) := by decide +kernel
theorem dX3_isForeign_8 : decode cX3_isForeign 8 = .ok (.aload_n 0, 1) := by decide +kernel
theorem dX3_isForeign_9 : decode cX3_isForeign 9 = .ok (.getfield 30, 3) := by decide +kernel
theorem dX3_isForeign_12 : decode cX3_isForeign 12 = .ok (.if_icmp .eq 7, 3) := by decide +kernel
theorem dX3_isForeign_15 : decode cX3_isForeign 15 = .ok (.iconst 1, 1) := by decide +kernel
theorem dX3_isForeign_16 : decode cX3_isForeign 16 = .ok (.goto 4, 3) := by decide +kernel
theorem dX3_isForeign_19 : decode cX3_isForeign 19 = .ok (.iconst 0, 1) := by decide +kernel
theorem dX3_isForeign_20 : decode cX3_isForeign 20 = .ok (.ireturn, 1) := by decide +kernel
theorem dX3_endTakes_0 : decode cX3_endTakes 0 = .ok (.aload_n 0, 1) := by decide +kernel
theorem dX3_endTakes_1 : decode cX3_endTakes 1 = .ok (.getfield 9, 3) := by decide +kernel
theorem dX3_endTakes_4 : decode cX3_endTakes 4 = .ok (.aload_n 0, 1) := by decide +kernel
theorem dX3_endTakes_5 : decode cX3_endTakes 5 = .ok (.getfield 30, 3) := by decide +kernel
theorem dX3_endTakes_8 : decode cX3_endTakes 8 = .ok (.iaload, 1) := by decide +kernel
theorem dX3_endTakes_9 : decode cX3_endTakes 9 = .ok (.ifCond .ne 5, 3) := by decide +kernel
theorem dX3_endTakes_12 : decode cX3_endTakes 12 = .ok (.iconst 0, 1) := by decide +kernel
theorem dX3_endTakes_13 : decode cX3_endTakes 13 = .ok (.ireturn, 1) := by decide +kernel
theorem dX3_endTakes_14 : decode cX3_endTakes 14 = .ok (.aload_n 0, 1) := by decide +kernel
theorem dX3_endTakes_15 : decode cX3_endTakes 15 = .ok (.iconst 1, 1) := by decide +kernel
theorem dX3_endTakes_16 : decode cX3_endTakes 16 = .ok (.putfield 34, 3) := by decide +kernel
theorem dX3_endTakes_19 : decode cX3_endTakes 19 = .ok (.iconst 1, 1) := by decide +kernel
theorem dX3_endTakes_20 : decode cX3_endTakes 20 = .ok (.ireturn, 1) := by decide +kernel
set_option maxRecDepth 20000 in
theorem ggX3_readTaken_X3_isForeign : GoodIn wsX3_readTaken wsX3_isForeign := goodIn_r _ [7, 2, 8, 9, 10, 11, 12, 13, 14, 15, 16] (by decide +kernel) (by decide +kernel)
set_option maxRecDepth 20000 in
theorem gX3_readTaken_X3_isForeign : GoodIn wsX3_readTaken (wsV RX3 62 RX3 yX3_isForeign wsX3_isForeign) := goodIn_app (goodIn_of _ (by decide +kernel)) ggX3_readTaken_X3_isForeign
theorem dX3_readTaken_0 : decode cX3_readTaken 0 = .ok (.aload_n 0, 1) := by decide +kernel
theorem dX3_readTaken_1 : decode cX3_readTaken 1 = .ok (.iload_n 1, 1) := by decide +kernel
theorem dX3_readTaken_2 : decode cX3_readTaken 2 = .ok (.invokevirtual 62, 3) := by decide +kernel
theorem dX3_readTaken_5 : decode cX3_readTaken 5 = .ok (.ifCond .eq 20, 3) := by decide +kernel
theorem dX3_readTaken_8 : decode cX3_readTaken 8 = .ok (.aload_n 0, 1) := by decide +kernel
theorem dX3_readTaken_9 : decode cX3_readTaken 9 = .ok (.getfield 9, 3) := by decide +kernel
theorem dX3_readTaken_12 : decode cX3_readTaken 12 = .ok (.aload_n 0, 1) := by decide +kernel
theorem dX3_readTaken_13 : decode cX3_readTaken 13 = .ok (.getfield 30, 3) := by decide +kernel
theorem dX3_readTaken_16 : decode cX3_readTaken 16 = .ok (.iaload, 1) := by decide +kernel
theorem dX3_readTaken_17 : decode cX3_readTaken 17 = .ok (.iload_n 1, 1) := by decide +kernel
theorem dX3_readTaken_18 : decode cX3_readTaken 18 = .ok (.ishr, 1) := by decide +kernel
theorem dX3_readTaken_19 : decode cX3_readTaken 19 = .ok (.iconst 1, 1) := by decide +kernel
theorem dX3_readTaken_20 : decode cX3_readTaken 20 = .ok (.iand, 1) := by decide +kernel
theorem dX3_readTaken_21 : decode cX3_readTaken 21 = .ok (.iconst 1, 1) := by decide +kernel
theorem dX3_readTaken_22 : decode cX3_readTaken 22 = .ok (.if_icmp .ne 5, 3) := by decide +kernel
theorem dX3_readTaken_25 : decode cX3_readTaken 25 = .ok (.iconst 0, 1) := by decide +kernel
theorem dX3_readTaken_26 : decode cX3_readTaken 26 = .ok (.ireturn, 1) := by decide +kernel
theorem dX3_readTaken_27 : decode cX3_readTaken 27 = .ok (.aload_n 0, 1) := by decide +kernel
theorem dX3_readTaken_28 : decode cX3_readTaken 28 = .ok (.getfield 9, 3) := by decide +kernel
theorem dX3_readTaken_31 : decode cX3_readTaken 31 = .ok (.aload_n 0, 1) := by decide +kernel
theorem dX3_readTaken_32 : decode cX3_readTaken 32 = .ok (.getfield 30, 3) := by decide +kernel
theorem dX3_readTaken_35 : decode cX3_readTaken 35 = .ok (.dup2, 1) := by decide +kernel
theorem dX3_readTaken_36 : decode cX3_readTaken 36 = .ok (.iaload, 1) := by decide +kernel
theorem dX3_readTaken_37 : decode cX3_readTaken 37 = .ok (.iconst 1, 1) := by decide +kernel
theorem dX3_readTaken_38 : decode cX3_readTaken 38 = .ok (.iload_n 1, 1) := by decide +kernel
theorem dX3_readTaken_39 : decode cX3_readTaken 39 = .ok (.ishl, 1) := by decide +kernel
theorem dX3_readTaken_40 : decode cX3_readTaken 40 = .ok (.ior, 1) := by decide +kernel
theorem dX3_readTaken_41 : decode cX3_readTaken 41 = .ok (.iastore, 1) := by decide +kernel
theorem dX3_readTaken_42 : decode cX3_readTaken 42 = .ok (.iconst 1, 1) := by decide +kernel
theorem dX3_readTaken_43 : decode cX3_readTaken 43 = .ok (.ireturn, 1) := by decide +kernel
theorem dX3_put_0 : decode cX3_put 0 = .ok (.aload_n 1, 1) := by decide +kernel
theorem dX3_put_1 : decode cX3_put 1 = .ok (.aload_n 0, 1) := by decide +kernel
theorem dX3_put_2 : decode cX3_put 2 = .ok (.getfield 30, 3) := by decide +kernel
theorem dX3_put_5 : decode cX3_put 5 = .ok (.iload_n 2, 1) := by decide +kernel
theorem dX3_put_6 : decode cX3_put 6 = .ok (.iastore, 1) := by decide +kernel
theorem dX3_put_7 : decode cX3_put 7 = .ok (.aload_n 0, 1) := by decide +kernel
theorem dX3_put_8 : decode cX3_put 8 = .ok (.dup, 1) := by decide +kernel
theorem dX3_put_9 : decode cX3_put 9 = .ok (.getfield 34, 3) := by decide +kernel
theorem dX3_put_12 : decode cX3_put 12 = .ok (.iconst 1, 1) := by decide +kernel
theorem dX3_put_13 : decode cX3_put 13 = .ok (.iadd, 1) := by decide +kernel
theorem dX3_put_14 : decode cX3_put 14 = .ok (.putfield 34, 3) := by decide +kernel
theorem dX3_put_17 : decode cX3_put 17 = .ok (.iconst 1, 1) := by decide +kernel
theorem dX3_put_18 : decode cX3_put 18 = .ok (.ireturn, 1) := by decide +kernel
theorem dX3_nextPart_0 : decode cX3_nextPart 0 = .ok (.aload_n 0, 1) := by decide +kernel
theorem dX3_nextPart_1 : decode cX3_nextPart 1 = .ok (.getfield 30, 3) := by decide +kernel
theorem dX3_nextPart_4 : decode cX3_nextPart 4 = .ok (.iconst 3, 1) := by decide +kernel
theorem dX3_nextPart_5 : decode cX3_nextPart 5 = .ok (.if_icmp .lt 5, 3) := by decide +kernel
theorem dX3_nextPart_8 : decode cX3_nextPart 8 = .ok (.iconst 0, 1) := by decide +kernel
theorem dX3_nextPart_9 : decode cX3_nextPart 9 = .ok (.ireturn, 1) := by decide +kernel
theorem dX3_nextPart_10 : decode cX3_nextPart 10 = .ok (.aload_n 0, 1) := by decide +kernel
theorem dX3_nextPart_11 : decode cX3_nextPart 11 = .ok (.dup, 1) := by decide +kernel
theorem dX3_nextPart_12 : decode cX3_nextPart 12 = .ok (.getfield 30, 3) := by decide +kernel
theorem dX3_nextPart_15 : decode cX3_nextPart 15 = .ok (.iconst 1, 1) := by decide +kernel
theorem dX3_nextPart_16 : decode cX3_nextPart 16 = .ok (.iadd, 1) := by decide +kernel
theorem dX3_nextPart_17 : decode cX3_nextPart 17 = .ok (.putfield 30, 3) := by decide +kernel
theorem dX3_nextPart_20 : decode cX3_nextPart 20 = .ok (.aload_n 0, 1) := by decide +kernel
theorem dX3_nextPart_21 : decode cX3_nextPart 21 = .ok (.iconst 0, 1) := by decide +kernel
theorem dX3_nextPart_22 : decode cX3_nextPart 22 = .ok (.putfield 34, 3) := by decide +kernel
theorem dX3_nextPart_25 : decode cX3_nextPart 25 = .ok (.iconst 1, 1) := by decide +kernel
theorem dX3_nextPart_26 : decode cX3_nextPart 26 = .ok (.ireturn, 1) := by decide +kernel
theorem dX4_init_0 : decode cX4_init 0 = .ok (.aload_n 0, 1) := by decide +kernel
theorem dX4_init_1 : decode cX4_init 1 = .ok (.invokespecial 3, 3) := by decide +kernel
theorem dX4_init_4 : decode cX4_init 4 = .ok (.aload_n 0, 1) := by decide +kernel
theorem dX4_init_5 : decode cX4_init 5 = .ok (.bipush 32, 2) := by decide +kernel
theorem dX4_init_7 : decode cX4_init 7 = .ok (.newarray .int, 2) := by decide +kernel
theorem dX4_init_9 : decode cX4_init 9 = .ok (.putfield 9, 3) := by decide +kernel
theorem dX4_init_12 : decode cX4_init 12 = .ok (.return_, 1) := by decide +kernel
set_option maxRecDepth 20000 in
theorem ggX4_add_X4_lettersIn : GoodIn wsX4_add wsX4_lettersIn := goodIn_r _ [6, 7, 8, 5, 9, 10] (by decide +kernel) (by decide +kernel)
set_option maxRecDepth 20000 in
theorem gX4_add_X4_lettersIn : GoodIn wsX4_add (va_wsS RX4 15 yX4_lettersIn wsX4_lettersIn) := goodIn_app (goodIn_of _ (by decide +kernel)) ggX4_add_X4_lettersIn
set_option maxRecDepth 20000 in
theorem ggX4_add_X4_codeAt : GoodIn wsX4_add wsX4_codeAt := goodIn_r _ [9, 10] (by decide +kernel) (by decide +kernel)
set_option maxRecDepth 20000 in
theorem gX4_add_X4_codeAt : GoodIn wsX4_add (va_wsS RX4 23 yX4_codeAt wsX4_codeAt) := goodIn_app (goodIn_of _ (by decide +kernel)) ggX4_add_X4_codeAt
theorem dX4_add_0 : decode cX4_add 0 = .ok (.lload_n 1, 1) := by decide +kernel
theorem dX4_add_1 : decode cX4_add 1 = .ok (.invokestatic 15, 3) := by decide +kernel
theorem dX4_add_4 : decode cX4_add 4 = .ok (.istore_n 3, 1) := by decide +kernel
theorem dX4_add_5 : decode cX4_add 5 = .ok (.iload_n 3, 1) := by decide +kernel
theorem dX4_add_6 : decode cX4_add 6 = .ok (.bipush (-102), 2) := by decide +kernel
theorem dX4_add_8 : decode cX4_add 8 = .ok (.if_icmp .ne 6, 3) := by decide +kernel
theorem dX4_add_11 : decode cX4_add 11 = .ok (.bipush (-102), 2) := by decide +kernel
theorem dX4_add_13 : decode cX4_add 13 = .ok (.ireturn, 1) := by decide +kernel
theorem dX4_add_14 : decode cX4_add 14 = .ok (.aload_n 0, 1) := by decide +kernel
theorem dX4_add_15 : decode cX4_add 15 = .ok (.getfield 19, 3) := by decide +kernel
theorem dX4_add_18 : decode cX4_add 18 = .ok (.iload_n 3, 1) := by decide +kernel
theorem dX4_add_19 : decode cX4_add 19 = .ok (.iadd, 1) := by decide +kernel
theorem dX4_add_20 : decode cX4_add 20 = .ok (.aload_n 0, 1) := by decide +kernel
theorem dX4_add_21 : decode cX4_add 21 = .ok (.getfield 9, 3) := by decide +kernel
theorem dX4_add_24 : decode cX4_add 24 = .ok (.arraylength, 1) := by decide +kernel
theorem dX4_add_25 : decode cX4_add 25 = .ok (.if_icmp .le 6, 3) := by decide +kernel
theorem dX4_add_28 : decode cX4_add 28 = .ok (.bipush (-104), 2) := by decide +kernel
theorem dX4_add_30 : decode cX4_add 30 = .ok (.ireturn, 1) := by decide +kernel
theorem dX4_add_31 : decode cX4_add 31 = .ok (.iconst 0, 1) := by decide +kernel
theorem dX4_add_32 : decode cX4_add 32 = .ok (.istore 4, 2) := by decide +kernel
theorem dX4_add_34 : decode cX4_add 34 = .ok (.iload 4, 2) := by decide +kernel
theorem dX4_add_36 : decode cX4_add 36 = .ok (.iload_n 3, 1) := by decide +kernel
theorem dX4_add_37 : decode cX4_add 37 = .ok (.if_icmp .ge 27, 3) := by decide +kernel
theorem dX4_add_40 : decode cX4_add 40 = .ok (.aload_n 0, 1) := by decide +kernel
theorem dX4_add_41 : decode cX4_add 41 = .ok (.getfield 9, 3) := by decide +kernel
theorem dX4_add_44 : decode cX4_add 44 = .ok (.aload_n 0, 1) := by decide +kernel
theorem dX4_add_45 : decode cX4_add 45 = .ok (.getfield 19, 3) := by decide +kernel
theorem dX4_add_48 : decode cX4_add 48 = .ok (.iload 4, 2) := by decide +kernel
theorem dX4_add_50 : decode cX4_add 50 = .ok (.iadd, 1) := by decide +kernel
theorem dX4_add_51 : decode cX4_add 51 = .ok (.lload_n 1, 1) := by decide +kernel
theorem dX4_add_52 : decode cX4_add 52 = .ok (.iload 4, 2) := by decide +kernel
theorem dX4_add_54 : decode cX4_add 54 = .ok (.invokestatic 23, 3) := by decide +kernel
theorem dX4_add_57 : decode cX4_add 57 = .ok (.iastore, 1) := by decide +kernel
theorem dX4_add_58 : decode cX4_add 58 = .ok (.iinc 4 1, 3) := by decide +kernel
theorem dX4_add_61 : decode cX4_add 61 = .ok (.goto (-27), 3) := by decide +kernel
theorem dX4_add_64 : decode cX4_add 64 = .ok (.aload_n 0, 1) := by decide +kernel
theorem dX4_add_65 : decode cX4_add 65 = .ok (.dup, 1) := by decide +kernel
theorem dX4_add_66 : decode cX4_add 66 = .ok (.getfield 19, 3) := by decide +kernel
theorem dX4_add_69 : decode cX4_add 69 = .ok (.iload_n 3, 1) := by decide +kernel
theorem dX4_add_70 : decode cX4_add 70 = .ok (.iadd, 1) := by decide +kernel
theorem dX4_add_71 : decode cX4_add 71 = .ok (.putfield 19, 3) := by decide +kernel
theorem dX4_add_74 : decode cX4_add 74 = .ok (.aload_n 0, 1) := by decide +kernel
theorem dX4_add_75 : decode cX4_add 75 = .ok (.getfield 19, 3) := by decide +kernel
theorem dX4_add_78 : decode cX4_add 78 = .ok (.ireturn, 1) := by decide +kernel
theorem dX4_clear_0 : decode cX4_clear 0 = .ok (.aload_n 0, 1) := by decide +kernel
theorem dX4_clear_1 : decode cX4_clear 1 = .ok (.getfield 19, 3) := by decide +kernel
theorem dX4_clear_4 : decode cX4_clear 4 = .ok (.istore_n 1, 1) := by decide +kernel
theorem dX4_clear_5 : decode cX4_clear 5 = .ok (.aload_n 0, 1) := by decide +kernel
theorem dX4_clear_6 : decode cX4_clear 6 = .ok (.iconst 0, 1) := by decide +kernel
theorem dX4_clear_7 : decode cX4_clear 7 = .ok (.putfield 19, 3) := by decide +kernel
theorem dX4_clear_10 : decode cX4_clear 10 = .ok (.iload_n 1, 1) := by decide +kernel
theorem dX4_clear_11 : decode cX4_clear 11 = .ok (.ireturn, 1) := by decide +kernel
theorem dX4_codeAt_0 : decode cX4_codeAt 0 = .ok (.lload_n 0, 1) := by decide +kernel
theorem dX4_codeAt_1 : decode cX4_codeAt 1 = .ok (.bipush 8, 2) := by decide +kernel
theorem dX4_codeAt_3 : decode cX4_codeAt 3 = .ok (.iload_n 2, 1) := by decide +kernel
theorem dX4_codeAt_4 : decode cX4_codeAt 4 = .ok (.imul, 1) := by decide +kernel
theorem dX4_codeAt_5 : decode cX4_codeAt 5 = .ok (.lushr, 1) := by decide +kernel
theorem dX4_codeAt_6 : decode cX4_codeAt 6 = .ok (.ldc2_w 27, 3) := by decide +kernel
theorem dX4_codeAt_9 : decode cX4_codeAt 9 = .ok (.land, 1) := by decide +kernel
theorem dX4_codeAt_10 : decode cX4_codeAt 10 = .ok (.l2i, 1) := by decide +kernel
theorem dX4_codeAt_11 : decode cX4_codeAt 11 = .ok (.ireturn, 1) := by decide +kernel
set_option maxRecDepth 20000 in
theorem ggX4_lettersIn_X4_codeAt : GoodIn wsX4_lettersIn wsX4_codeAt := goodIn_r _ [4, 5] (by decide +kernel) (by decide +kernel)
set_option maxRecDepth 20000 in
theorem gX4_lettersIn_X4_codeAt : GoodIn wsX4_lettersIn (va_wsS RX4 23 yX4_codeAt wsX4_codeAt) := goodIn_app (goodIn_of _ (by decide +kernel)) ggX4_lettersIn_X4_codeAt
theorem dX4_lettersIn_0 : decode cX4_lettersIn 0 = .ok (.iconst 0, 1) := by decide +kernel
theorem dX4_lettersIn_1 : decode cX4_lettersIn 1 = .ok (.istore_n 2, 1) := by decide +kernel
theorem dX4_lettersIn_2 : decode cX4_lettersIn 2 = .ok (.iconst 0, 1) := by decide +kernel
theorem dX4_lettersIn_3 : decode cX4_lettersIn 3 = .ok (.istore_n 3, 1) := by decide +kernel
theorem dX4_lettersIn_4 : decode cX4_lettersIn 4 = .ok (.iload_n 3, 1) := by decide +kernel
theorem dX4_lettersIn_5 : decode cX4_lettersIn 5 = .ok (.bipush 8, 2) := by decide +kernel
theorem dX4_lettersIn_7 : decode cX4_lettersIn 7 = .ok (.if_icmp .ge 56, 3) := by decide +kernel
theorem dX4_lettersIn_10 : decode cX4_lettersIn 10 = .ok (.lload_n 0, 1) := by decide +kernel
theorem dX4_lettersIn_11 : decode cX4_lettersIn 11 = .ok (.iload_n 3, 1) := by decide +kernel
theorem dX4_lettersIn_12 : decode cX4_lettersIn 12 = .ok (.invokestatic 23, 3) := by decide +kernel
theorem dX4_lettersIn_15 : decode cX4_lettersIn 15 = .ok (.istore 4, 2) := by decide +kernel
theorem dX4_lettersIn_17 : decode cX4_lettersIn 17 = .ok (.iload_n 2, 1) := by decide +kernel
theorem dX4_lettersIn_18 : decode cX4_lettersIn 18 = .ok (.iload_n 3, 1) := by decide +kernel
theorem dX4_lettersIn_19 : decode cX4_lettersIn 19 = .ok (.if_icmp .ge 7, 3) := by decide +kernel
theorem dX4_lettersIn_22 : decode cX4_lettersIn 22 = .ok (.iconst 1, 1) := by decide +kernel
theorem dX4_lettersIn_23 : decode cX4_lettersIn 23 = .ok (.goto 4, 3) := by decide +kernel
theorem dX4_lettersIn_26 : decode cX4_lettersIn 26 = .ok (.iconst 0, 1) := by decide +kernel
theorem dX4_lettersIn_27 : decode cX4_lettersIn 27 = .ok (.istore 5, 2) := by decide +kernel
theorem dX4_lettersIn_29 : decode cX4_lettersIn 29 = .ok (.iload 4, 2) := by decide +kernel
theorem dX4_lettersIn_31 : decode cX4_lettersIn 31 = .ok (.bipush 126, 2) := by decide +kernel
theorem dX4_lettersIn_33 : decode cX4_lettersIn 33 = .ok (.if_icmp .gt 13, 3) := by decide +kernel
theorem dX4_lettersIn_36 : decode cX4_lettersIn 36 = .ok (.iload 4, 2) := by decide +kernel
theorem dX4_lettersIn_38 : decode cX4_lettersIn 38 = .ok (.ifCond .eq 11, 3) := by decide +kernel
theorem dX4_lettersIn_41 : decode cX4_lettersIn 41 = .ok (.iload 5, 2) := by decide +kernel
theorem dX4_lettersIn_43 : decode cX4_lettersIn 43 = .ok (.ifCond .eq 6, 3) := by decide +kernel
theorem dX4_lettersIn_46 : decode cX4_lettersIn 46 = .ok (.bipush (-102), 2) := by decide +kernel
theorem dX4_lettersIn_48 : decode cX4_lettersIn 48 = .ok (.ireturn, 1) := by decide +kernel
theorem dX4_lettersIn_49 : decode cX4_lettersIn 49 = .ok (.iload 4, 2) := by decide +kernel
theorem dX4_lettersIn_51 : decode cX4_lettersIn 51 = .ok (.ifCond .eq 6, 3) := by decide +kernel
theorem dX4_lettersIn_54 : decode cX4_lettersIn 54 = .ok (.iinc 2 1, 3) := by decide +kernel
theorem dX4_lettersIn_57 : decode cX4_lettersIn 57 = .ok (.iinc 3 1, 3) := by decide +kernel
theorem dX4_lettersIn_60 : decode cX4_lettersIn 60 = .ok (.goto (-56), 3) := by decide +kernel
theorem dX4_lettersIn_63 : decode cX4_lettersIn 63 = .ok (.iload_n 2, 1) := by decide +kernel
theorem dX4_lettersIn_64 : decode cX4_lettersIn 64 = .ok (.ireturn, 1) := by decide +kernel
theorem dX5_init_0 : decode cX5_init 0 = .ok (.aload_n 0, 1) := by decide +kernel
theorem dX5_init_1 : decode cX5_init 1 = .ok (.invokespecial 3, 3) := by decide +kernel
theorem dX5_init_4 : decode cX5_init 4 = .ok (.aload_n 0, 1) := by decide +kernel
theorem dX5_init_5 : decode cX5_init 5 = .ok (.getstatic 9, 3) := by decide +kernel
theorem dX5_init_8 : decode cX5_init 8 = .ok (.putfield 15, 3) := by decide +kernel
theorem dX5_init_11 : decode cX5_init 11 = .ok (.return_, 1) := by decide +kernel
set_option maxRecDepth 20000 in
theorem ggX5_canSwap_X7_coinsOf : GoodIn wsX5_canSwap wsX7_coinsOf := goodIn_r _ [5] (by decide +kernel) (by decide +kernel)
set_option maxRecDepth 20000 in
theorem gX5_canSwap_X7_coinsOf : GoodIn wsX5_canSwap (va_wsS RX5 24 yX7_coinsOf wsX7_coinsOf) := goodIn_app (goodIn_of _ (by decide +kernel)) ggX5_canSwap_X7_coinsOf
theorem dX5_canSwap_0 : decode cX5_canSwap 0 = .ok (.aload_n 0, 1) := by decide +kernel
theorem dX5_canSwap_1 : decode cX5_canSwap 1 = .ok (.getfield 20, 3) := by decide +kernel
theorem dX5_canSwap_4 : decode cX5_canSwap 4 = .ok (.iload_n 1, 1) := by decide +kernel
theorem dX5_canSwap_5 : decode cX5_canSwap 5 = .ok (.invokestatic 24, 3) := by decide +kernel
theorem dX5_canSwap_8 : decode cX5_canSwap 8 = .ok (.ifCond .le 24, 3) := by decide +kernel
theorem dX5_canSwap_11 : decode cX5_canSwap 11 = .ok (.iload_n 1, 1) := by decide +kernel
theorem dX5_canSwap_12 : decode cX5_canSwap 12 = .ok (.iload_n 2, 1) := by decide +kernel
theorem dX5_canSwap_13 : decode cX5_canSwap 13 = .ok (.if_icmp .eq 15, 3) := by decide +kernel
theorem dX5_canSwap_16 : decode cX5_canSwap 16 = .ok (.aload_n 0, 1) := by decide +kernel
theorem dX5_canSwap_17 : decode cX5_canSwap 17 = .ok (.getfield 20, 3) := by decide +kernel
theorem dX5_canSwap_20 : decode cX5_canSwap 20 = .ok (.iload_n 2, 1) := by decide +kernel
theorem dX5_canSwap_21 : decode cX5_canSwap 21 = .ok (.invokestatic 24, 3) := by decide +kernel
theorem dX5_canSwap_24 : decode cX5_canSwap 24 = .ok (.iconst 4, 1) := by decide +kernel
theorem dX5_canSwap_25 : decode cX5_canSwap 25 = .ok (.if_icmp .ge 7, 3) := by decide +kernel
theorem dX5_canSwap_28 : decode cX5_canSwap 28 = .ok (.iconst 1, 1) := by decide +kernel
theorem dX5_canSwap_29 : decode cX5_canSwap 29 = .ok (.goto 4, 3) := by decide +kernel
theorem dX5_canSwap_32 : decode cX5_canSwap 32 = .ok (.iconst 0, 1) := by decide +kernel
theorem dX5_canSwap_33 : decode cX5_canSwap 33 = .ok (.ireturn, 1) := by decide +kernel
set_option maxRecDepth 20000 in
theorem ggX5_swap_X7_withMore : GoodIn wsX5_swap wsX7_withMore := goodIn_r _ [5] (by decide +kernel) (by decide +kernel)
set_option maxRecDepth 20000 in
theorem gX5_swap_X7_withMore : GoodIn wsX5_swap (va_wsS RX5 30 yX7_withMore wsX7_withMore) := goodIn_app (goodIn_of _ (by decide +kernel)) ggX5_swap_X7_withMore
theorem dX5_swap_0 : decode cX5_swap 0 = .ok (.aload_n 0, 1) := by decide +kernel
theorem dX5_swap_1 : decode cX5_swap 1 = .ok (.aload_n 0, 1) := by decide +kernel
theorem dX5_swap_2 : decode cX5_swap 2 = .ok (.getfield 20, 3) := by decide +kernel
theorem dX5_swap_5 : decode cX5_swap 5 = .ok (.iload_n 1, 1) := by decide +kernel
theorem dX5_swap_6 : decode cX5_swap 6 = .ok (.iconst (-1), 1) := by decide +kernel
theorem dX5_swap_7 : decode cX5_swap 7 = .ok (.invokestatic 30, 3) := by decide +kernel
theorem dX5_swap_10 : decode cX5_swap 10 = .ok (.iload_n 2, 1) := by decide +kernel
theorem dX5_swap_11 : decode cX5_swap 11 = .ok (.iconst 1, 1) := by decide +kernel
theorem dX5_swap_12 : decode cX5_swap 12 = .ok (.invokestatic 30, 3) := by decide +kernel
theorem dX5_swap_15 : decode cX5_swap 15 = .ok (.putfield 20, 3) := by decide +kernel
theorem dX5_swap_18 : decode cX5_swap 18 = .ok (.return_, 1) := by decide +kernel
theorem dX6_init_0 : decode cX6_init 0 = .ok (.aload_n 0, 1) := by decide +kernel
theorem dX6_init_1 : decode cX6_init 1 = .ok (.invokespecial 3, 3) := by decide +kernel
theorem dX6_init_4 : decode cX6_init 4 = .ok (.aload_n 0, 1) := by decide +kernel
theorem dX6_init_5 : decode cX6_init 5 = .ok (.sipush 8192, 3) := by decide +kernel
theorem dX6_init_8 : decode cX6_init 8 = .ok (.newarray .int, 2) := by decide +kernel
theorem dX6_init_10 : decode cX6_init 10 = .ok (.putfield 11, 3) := by decide +kernel
theorem dX6_init_13 : decode cX6_init 13 = .ok (.aload_n 0, 1) := by decide +kernel
theorem dX6_init_14 : decode cX6_init 14 = .ok (.ldc 17, 2) := by decide +kernel
theorem dX6_init_16 : decode cX6_init 16 = .ok (.newarray .int, 2) := by decide +kernel
theorem dX6_init_18 : decode cX6_init 18 = .ok (.putfield 18, 3) := by decide +kernel
theorem dX6_init_21 : decode cX6_init 21 = .ok (.return_, 1) := by decide +kernel
set_option maxRecDepth 20000 in
theorem ggX6_firstToward_X6_begin : GoodIn wsX6_firstToward wsX6_begin := goodIn_r _ [9, 10, 11, 12, 2, 3, 13, 14, 15, 16, 17, 18, 19, 8, 20, 21, 85, 86, 87, 88, 89, 90] (by decide +kernel) (by decide +kernel)
set_option maxRecDepth 20000 in
theorem gX6_firstToward_X6_begin : GoodIn wsX6_firstToward (wsV RX6 21 RX6 yX6_begin wsX6_begin) := goodIn_app (goodIn_of _ (by decide +kernel)) ggX6_firstToward_X6_begin
set_option maxRecDepth 20000 in
theorem ggX6_firstToward_X6_firstToBuy : GoodIn wsX6_firstToward wsX6_firstToBuy := goodIn_r _ [25, 2, 3, 26, 27, 28, 8, 29, 21, 30, 31, 32, 33, 34, 35, 36, 37, 38, 39, 40, 41, 42, 43, 44, 45, 46, 47, 12, 85, 86, 87, 88, 89, 90, 91, 92, 93, 94] (by decide +kernel) (by decide +kernel)
set_option maxRecDepth 20000 in
theorem gX6_firstToward_X6_firstToBuy : GoodIn wsX6_firstToward (wsV RX6 37 RX6 yX6_firstToBuy wsX6_firstToBuy) := goodIn_app (goodIn_of _ (by decide +kernel)) ggX6_firstToward_X6_firstToBuy
set_option maxRecDepth 20000 in
theorem ggX6_firstToward_X6_deepen : GoodIn wsX6_firstToward wsX6_deepen := goodIn_r _ [51, 2, 3, 11, 12, 26, 27, 28, 8, 29, 21, 30, 52, 53, 54, 41, 55, 56, 57, 58, 59, 32, 33, 34, 60, 61, 62, 63, 64, 65, 66, 67, 68, 69, 70, 71, 36, 37, 72, 39, 40, 42, 43, 73, 74, 75, 76, 77, 78, 79, 80, 81, 82, 83, 84, 44, 45, 46, 47, 17, 18, 19, 20, 10, 85, 86, 87, 88, 89, 90, 91, 92, 93, 94] (by decide +kernel) (by decide +kernel)
set_option maxRecDepth 20000 in
theorem gX6_firstToward_X6_deepen : GoodIn wsX6_firstToward (wsV RX6 41 RX6 yX6_deepen wsX6_deepen) := goodIn_app (goodIn_of _ (by decide +kernel)) ggX6_firstToward_X6_deepen
theorem dX6_firstToward_0 : decode cX6_firstToward 0 = .ok (.aload_n 0, 1) := by decide +kernel
theorem dX6_firstToward_1 : decode cX6_firstToward 1 = .ok (.iload_n 2, 1) := by decide +kernel
theorem dX6_firstToward_2 : decode cX6_firstToward 2 = .ok (.invokevirtual 21, 3) := by decide +kernel
theorem dX6_firstToward_5 : decode cX6_firstToward 5 = .ok (.iconst 0, 1) := by decide +kernel
theorem dX6_firstToward_6 : decode cX6_firstToward 6 = .ok (.istore 4, 2) := by decide +kernel
theorem dX6_firstToward_8 : decode cX6_firstToward 8 = .ok (.iload 4, 2) := by decide +kernel
theorem dX6_firstToward_10 : decode cX6_firstToward 10 = .ok (.ldc 17, 2) := by decide +kernel
theorem dX6_firstToward_12 : decode cX6_firstToward 12 = .ok (.if_icmp .ge 48, 3) := by decide +kernel
theorem dX6_firstToward_15 : decode cX6_firstToward 15 = .ok (.aload_n 0, 1) := by decide +kernel
theorem dX6_firstToward_16 : decode cX6_firstToward 16 = .ok (.getfield 25, 3) := by decide +kernel
theorem dX6_firstToward_19 : decode cX6_firstToward 19 = .ok (.aload_n 0, 1) := by decide +kernel
theorem dX6_firstToward_20 : decode cX6_firstToward 20 = .ok (.getfield 29, 3) := by decide +kernel
theorem dX6_firstToward_23 : decode cX6_firstToward 23 = .ok (.if_icmp .ge 37, 3) := by decide +kernel
theorem dX6_firstToward_26 : decode cX6_firstToward 26 = .ok (.aload_n 0, 1) := by decide +kernel
theorem dX6_firstToward_27 : decode cX6_firstToward 27 = .ok (.aload_n 1, 1) := by decide +kernel
theorem dX6_firstToward_28 : decode cX6_firstToward 28 = .ok (.iload_n 3, 1) := by decide +kernel
theorem dX6_firstToward_29 : decode cX6_firstToward 29 = .ok (.aload_n 1, 1) := by decide +kernel
theorem dX6_firstToward_30 : decode cX6_firstToward 30 = .ok (.getfield 32, 3) := by decide +kernel
theorem dX6_firstToward_33 : decode cX6_firstToward 33 = .ok (.iload_n 3, 1) := by decide +kernel
theorem dX6_firstToward_34 : decode cX6_firstToward 34 = .ok (.iaload, 1) := by decide +kernel
theorem dX6_firstToward_35 : decode cX6_firstToward 35 = .ok (.invokevirtual 37, 3) := by decide +kernel
theorem dX6_firstToward_38 : decode cX6_firstToward 38 = .ok (.istore 5, 2) := by decide +kernel
theorem dX6_firstToward_40 : decode cX6_firstToward 40 = .ok (.iload 5, 2) := by decide +kernel
theorem dX6_firstToward_42 : decode cX6_firstToward 42 = .ok (.iconst (-1), 1) := by decide +kernel
theorem dX6_firstToward_43 : decode cX6_firstToward 43 = .ok (.if_icmp .eq 6, 3) := by decide +kernel
theorem dX6_firstToward_46 : decode cX6_firstToward 46 = .ok (.iload 5, 2) := by decide +kernel
theorem dX6_firstToward_48 : decode cX6_firstToward 48 = .ok (.ireturn, 1) := by decide +kernel
theorem dX6_firstToward_49 : decode cX6_firstToward 49 = .ok (.aload_n 0, 1) := by decide +kernel
theorem dX6_firstToward_50 : decode cX6_firstToward 50 = .ok (.aload_n 1, 1) := by decide +kernel
theorem dX6_firstToward_51 : decode cX6_firstToward 51 = .ok (.invokevirtual 41, 3) := by decide +kernel
theorem dX6_firstToward_54 : decode cX6_firstToward 54 = .ok (.iinc 4 1, 3) := by decide +kernel
theorem dX6_firstToward_57 : decode cX6_firstToward 57 = .ok (.goto (-49), 3) := by decide +kernel
theorem dX6_firstToward_60 : decode cX6_firstToward 60 = .ok (.iconst (-1), 1) := by decide +kernel
theorem dX6_firstToward_61 : decode cX6_firstToward 61 = .ok (.ireturn, 1) := by decide +kernel
set_option maxRecDepth 20000 in
theorem ggX6_isSooner_X7_hasGood : GoodIn wsX6_isSooner wsX7_hasGood := goodIn_r _ [8] (by decide +kernel) (by decide +kernel)
set_option maxRecDepth 20000 in
theorem gX6_isSooner_X7_hasGood : GoodIn wsX6_isSooner (va_wsS RX6 45 yX7_hasGood wsX7_hasGood) := goodIn_app (goodIn_of _ (by decide +kernel)) ggX6_isSooner_X7_hasGood
set_option maxRecDepth 20000 in
theorem ggX6_isSooner_X6_begin : GoodIn wsX6_isSooner wsX6_begin := goodIn_r _ [13, 14, 15, 16, 3, 4, 17, 18, 19, 20, 21, 22, 23, 12, 24, 25, 90, 91, 92, 93, 94, 95] (by decide +kernel) (by decide +kernel)
set_option maxRecDepth 20000 in
theorem gX6_isSooner_X6_begin : GoodIn wsX6_isSooner (wsV RX6 21 RX6 yX6_begin wsX6_begin) := goodIn_app (goodIn_of _ (by decide +kernel)) ggX6_isSooner_X6_begin
set_option maxRecDepth 20000 in
theorem ggX6_isSooner_X6_firstToBuy : GoodIn wsX6_isSooner wsX6_firstToBuy := goodIn_r _ [29, 3, 4, 30, 31, 32, 12, 33, 25, 34, 35, 36, 7, 37, 38, 39, 40, 41, 42, 43, 44, 45, 46, 47, 48, 49, 50, 16, 90, 91, 92, 93, 94, 95, 86, 87, 88, 89] (by decide +kernel) (by decide +kernel)
set_option maxRecDepth 20000 in
theorem gX6_isSooner_X6_firstToBuy : GoodIn wsX6_isSooner (wsV RX6 37 RX6 yX6_firstToBuy wsX6_firstToBuy) := goodIn_app (goodIn_of _ (by decide +kernel)) ggX6_isSooner_X6_firstToBuy
set_option maxRecDepth 20000 in
theorem ggX6_isSooner_X6_deepen : GoodIn wsX6_isSooner wsX6_deepen := goodIn_r _ [54, 3, 4, 15, 16, 30, 31, 32, 12, 33, 25, 34, 55, 56, 57, 44, 58, 59, 60, 61, 62, 36, 7, 37, 63, 64, 65, 66, 67, 68, 69, 70, 71, 6, 8, 72, 39, 40, 73, 42, 43, 45, 46, 74, 75, 76, 77, 78, 79, 80, 81, 82, 83, 84, 85, 47, 48, 49, 50, 21, 22, 23, 24, 14, 90, 91, 92, 93, 94, 95, 86, 87, 88, 89] (by decide +kernel) (by decide +kernel)
set_option maxRecDepth 20000 in
theorem gX6_isSooner_X6_deepen : GoodIn wsX6_isSooner (wsV RX6 41 RX6 yX6_deepen wsX6_deepen) := goodIn_app (goodIn_of _ (by decide +kernel)) ggX6_isSooner_X6_deepen
theorem dX6_isSooner_0 : decode cX6_isSooner 0 = .ok (.iload 4, 2) := by decide +kernel
theorem dX6_isSooner_2 : decode cX6_isSooner 2 = .ok (.aload_n 1, 1) := by decide +kernel
theorem dX6_isSooner_3 : decode cX6_isSooner 3 = .ok (.getfield 32, 3) := by decide +kernel
theorem dX6_isSooner_6 : decode cX6_isSooner 6 = .ok (.iload_n 3, 1) := by decide +kernel
theorem dX6_isSooner_7 : decode cX6_isSooner 7 = .ok (.iaload, 1) := by decide +kernel
theorem dX6_isSooner_8 : decode cX6_isSooner 8 = .ok (.if_icmp .ge 11, 3) := by decide +kernel
theorem dX6_isSooner_11 : decode cX6_isSooner 11 = .ok (.iload_n 2, 1) := by decide +kernel
theorem dX6_isSooner_12 : decode cX6_isSooner 12 = .ok (.iload_n 3, 1) := by decide +kernel
theorem dX6_isSooner_13 : decode cX6_isSooner 13 = .ok (.invokestatic 45, 3) := by decide +kernel
theorem dX6_isSooner_16 : decode cX6_isSooner 16 = .ok (.ifCond .eq 5, 3) := by decide +kernel
theorem dX6_isSooner_19 : decode cX6_isSooner 19 = .ok (.iconst 0, 1) := by decide +kernel
theorem dX6_isSooner_20 : decode cX6_isSooner 20 = .ok (.ireturn, 1) := by decide +kernel
theorem dX6_isSooner_21 : decode cX6_isSooner 21 = .ok (.aload_n 0, 1) := by decide +kernel
theorem dX6_isSooner_22 : decode cX6_isSooner 22 = .ok (.iload_n 2, 1) := by decide +kernel
theorem dX6_isSooner_23 : decode cX6_isSooner 23 = .ok (.invokevirtual 21, 3) := by decide +kernel
theorem dX6_isSooner_26 : decode cX6_isSooner 26 = .ok (.iconst 0, 1) := by decide +kernel
theorem dX6_isSooner_27 : decode cX6_isSooner 27 = .ok (.istore 5, 2) := by decide +kernel
theorem dX6_isSooner_29 : decode cX6_isSooner 29 = .ok (.iload 5, 2) := by decide +kernel
theorem dX6_isSooner_31 : decode cX6_isSooner 31 = .ok (.ldc 17, 2) := by decide +kernel
theorem dX6_isSooner_33 : decode cX6_isSooner 33 = .ok (.if_icmp .ge 57, 3) := by decide +kernel
theorem dX6_isSooner_36 : decode cX6_isSooner 36 = .ok (.aload_n 0, 1) := by decide +kernel
theorem dX6_isSooner_37 : decode cX6_isSooner 37 = .ok (.getfield 25, 3) := by decide +kernel
theorem dX6_isSooner_40 : decode cX6_isSooner 40 = .ok (.aload_n 0, 1) := by decide +kernel
theorem dX6_isSooner_41 : decode cX6_isSooner 41 = .ok (.getfield 29, 3) := by decide +kernel
theorem dX6_isSooner_44 : decode cX6_isSooner 44 = .ok (.if_icmp .ge 46, 3) := by decide +kernel
theorem dX6_isSooner_47 : decode cX6_isSooner 47 = .ok (.aload_n 0, 1) := by decide +kernel
theorem dX6_isSooner_48 : decode cX6_isSooner 48 = .ok (.aload_n 1, 1) := by decide +kernel
theorem dX6_isSooner_49 : decode cX6_isSooner 49 = .ok (.iload_n 3, 1) := by decide +kernel
theorem dX6_isSooner_50 : decode cX6_isSooner 50 = .ok (.aload_n 1, 1) := by decide +kernel
theorem dX6_isSooner_51 : decode cX6_isSooner 51 = .ok (.getfield 32, 3) := by decide +kernel
theorem dX6_isSooner_54 : decode cX6_isSooner 54 = .ok (.iload_n 3, 1) := by decide +kernel
theorem dX6_isSooner_55 : decode cX6_isSooner 55 = .ok (.iaload, 1) := by decide +kernel
theorem dX6_isSooner_56 : decode cX6_isSooner 56 = .ok (.invokevirtual 37, 3) := by decide +kernel
theorem dX6_isSooner_59 : decode cX6_isSooner 59 = .ok (.iconst (-1), 1) := by decide +kernel
theorem dX6_isSooner_60 : decode cX6_isSooner 60 = .ok (.if_icmp .eq 5, 3) := by decide +kernel
theorem dX6_isSooner_63 : decode cX6_isSooner 63 = .ok (.iconst 0, 1) := by decide +kernel
theorem dX6_isSooner_64 : decode cX6_isSooner 64 = .ok (.ireturn, 1) := by decide +kernel
theorem dX6_isSooner_65 : decode cX6_isSooner 65 = .ok (.aload_n 0, 1) := by decide +kernel
theorem dX6_isSooner_66 : decode cX6_isSooner 66 = .ok (.aload_n 1, 1) := by decide +kernel
theorem dX6_isSooner_67 : decode cX6_isSooner 67 = .ok (.iload_n 3, 1) := by decide +kernel
theorem dX6_isSooner_68 : decode cX6_isSooner 68 = .ok (.iload 4, 2) := by decide +kernel
theorem dX6_isSooner_70 : decode cX6_isSooner 70 = .ok (.invokevirtual 37, 3) := by decide +kernel
theorem dX6_isSooner_73 : decode cX6_isSooner 73 = .ok (.iconst (-1), 1) := by decide +kernel
theorem dX6_isSooner_74 : decode cX6_isSooner 74 = .ok (.if_icmp .eq 5, 3) := by decide +kernel
theorem dX6_isSooner_77 : decode cX6_isSooner 77 = .ok (.iconst 1, 1) := by decide +kernel
theorem dX6_isSooner_78 : decode cX6_isSooner 78 = .ok (.ireturn, 1) := by decide +kernel
theorem dX6_isSooner_79 : decode cX6_isSooner 79 = .ok (.aload_n 0, 1) := by decide +kernel
theorem dX6_isSooner_80 : decode cX6_isSooner 80 = .ok (.aload_n 1, 1) := by decide +kernel
theorem dX6_isSooner_81 : decode cX6_isSooner 81 = .ok (.invokevirtual 41, 3) := by decide +kernel
theorem dX6_isSooner_84 : decode cX6_isSooner 84 = .ok (.iinc 5 1, 3) := by decide +kernel
theorem dX6_isSooner_87 : decode cX6_isSooner 87 = .ok (.goto (-58), 3) := by decide +kernel
theorem dX6_isSooner_90 : decode cX6_isSooner 90 = .ok (.iconst 0, 1) := by decide +kernel
theorem dX6_isSooner_91 : decode cX6_isSooner 91 = .ok (.ireturn, 1) := by decide +kernel
set_option maxRecDepth 20000 in
theorem ggX6_mostCoins_X6_begin : GoodIn wsX6_mostCoins wsX6_begin := goodIn_r _ [11, 12, 1, 13, 14, 15, 16, 17, 18, 19, 20, 21, 22, 10, 23, 2, 84, 85, 86, 87, 88, 89] (by decide +kernel) (by decide +kernel)
set_option maxRecDepth 20000 in
theorem gX6_mostCoins_X6_begin : GoodIn wsX6_mostCoins (wsV RX6 21 RX6 yX6_begin wsX6_begin) := goodIn_app (goodIn_of _ (by decide +kernel)) ggX6_mostCoins_X6_begin
set_option maxRecDepth 20000 in
theorem ggX6_mostCoins_X6_deepen : GoodIn wsX6_mostCoins wsX6_deepen := goodIn_r _ [27, 14, 15, 1, 13, 28, 29, 30, 10, 31, 2, 32, 33, 34, 35, 36, 37, 38, 39, 40, 41, 42, 43, 44, 45, 46, 47, 48, 49, 50, 51, 52, 53, 54, 55, 56, 57, 58, 59, 60, 61, 62, 63, 64, 65, 66, 67, 68, 69, 70, 71, 72, 73, 74, 75, 76, 77, 78, 79, 20, 21, 22, 23, 12, 84, 85, 86, 87, 88, 89, 90, 91, 92, 93] (by decide +kernel) (by decide +kernel)
set_option maxRecDepth 20000 in
theorem gX6_mostCoins_X6_deepen : GoodIn wsX6_mostCoins (wsV RX6 41 RX6 yX6_deepen wsX6_deepen) := goodIn_app (goodIn_of _ (by decide +kernel)) ggX6_mostCoins_X6_deepen
set_option maxRecDepth 20000 in
theorem ggX6_mostCoins_X7_coinsTogether : GoodIn wsX6_mostCoins wsX7_coinsTogether := goodIn_r _ [82, 83, 57, 43, 58] (by decide +kernel) (by decide +kernel)
set_option maxRecDepth 20000 in
theorem gX6_mostCoins_X7_coinsTogether : GoodIn wsX6_mostCoins (va_wsS RX6 52 yX7_coinsTogether wsX7_coinsTogether) := goodIn_app (goodIn_of _ (by decide +kernel)) ggX6_mostCoins_X7_coinsTogether
theorem dX6_mostCoins_0 : decode cX6_mostCoins 0 = .ok (.aload_n 0, 1) := by decide +kernel
theorem dX6_mostCoins_1 : decode cX6_mostCoins 1 = .ok (.iload_n 2, 1) := by decide +kernel
theorem dX6_mostCoins_2 : decode cX6_mostCoins 2 = .ok (.invokevirtual 21, 3) := by decide +kernel
theorem dX6_mostCoins_5 : decode cX6_mostCoins 5 = .ok (.iconst 0, 1) := by decide +kernel
theorem dX6_mostCoins_6 : decode cX6_mostCoins 6 = .ok (.istore 4, 2) := by decide +kernel
theorem dX6_mostCoins_8 : decode cX6_mostCoins 8 = .ok (.iload 4, 2) := by decide +kernel
theorem dX6_mostCoins_10 : decode cX6_mostCoins 10 = .ok (.iload_n 3, 1) := by decide +kernel
theorem dX6_mostCoins_11 : decode cX6_mostCoins 11 = .ok (.if_icmp .ge 14, 3) := by decide +kernel
theorem dX6_mostCoins_14 : decode cX6_mostCoins 14 = .ok (.aload_n 0, 1) := by decide +kernel
theorem dX6_mostCoins_15 : decode cX6_mostCoins 15 = .ok (.aload_n 1, 1) := by decide +kernel
theorem dX6_mostCoins_16 : decode cX6_mostCoins 16 = .ok (.invokevirtual 41, 3) := by decide +kernel
theorem dX6_mostCoins_19 : decode cX6_mostCoins 19 = .ok (.iinc 4 1, 3) := by decide +kernel
theorem dX6_mostCoins_22 : decode cX6_mostCoins 22 = .ok (.goto (-14), 3) := by decide +kernel
theorem dX6_mostCoins_25 : decode cX6_mostCoins 25 = .ok (.iconst 0, 1) := by decide +kernel
theorem dX6_mostCoins_26 : decode cX6_mostCoins 26 = .ok (.istore 4, 2) := by decide +kernel
theorem dX6_mostCoins_28 : decode cX6_mostCoins 28 = .ok (.iconst 0, 1) := by decide +kernel
theorem dX6_mostCoins_29 : decode cX6_mostCoins 29 = .ok (.istore 5, 2) := by decide +kernel
theorem dX6_mostCoins_31 : decode cX6_mostCoins 31 = .ok (.iload 5, 2) := by decide +kernel
theorem dX6_mostCoins_33 : decode cX6_mostCoins 33 = .ok (.aload_n 0, 1) := by decide +kernel
theorem dX6_mostCoins_34 : decode cX6_mostCoins 34 = .ok (.getfield 49, 3) := by decide +kernel
theorem dX6_mostCoins_37 : decode cX6_mostCoins 37 = .ok (.if_icmp .ge 26, 3) := by decide +kernel
theorem dX6_mostCoins_40 : decode cX6_mostCoins 40 = .ok (.iload 4, 2) := by decide +kernel
theorem dX6_mostCoins_42 : decode cX6_mostCoins 42 = .ok (.aload_n 0, 1) := by decide +kernel
theorem dX6_mostCoins_43 : decode cX6_mostCoins 43 = .ok (.getfield 18, 3) := by decide +kernel
theorem dX6_mostCoins_46 : decode cX6_mostCoins 46 = .ok (.iload 5, 2) := by decide +kernel
theorem dX6_mostCoins_48 : decode cX6_mostCoins 48 = .ok (.iaload, 1) := by decide +kernel
theorem dX6_mostCoins_49 : decode cX6_mostCoins 49 = .ok (.invokestatic 52, 3) := by decide +kernel
theorem dX6_mostCoins_52 : decode cX6_mostCoins 52 = .ok (.invokestatic 56, 3) := by decide +kernel
theorem dX6_mostCoins_55 : decode cX6_mostCoins 55 = .ok (.istore 4, 2) := by decide +kernel
theorem dX6_mostCoins_57 : decode cX6_mostCoins 57 = .ok (.iinc 5 1, 3) := by decide +kernel
theorem dX6_mostCoins_60 : decode cX6_mostCoins 60 = .ok (.goto (-29), 3) := by decide +kernel
theorem dX6_mostCoins_63 : decode cX6_mostCoins 63 = .ok (.iload 4, 2) := by decide +kernel
theorem dX6_mostCoins_65 : decode cX6_mostCoins 65 = .ok (.ireturn, 1) := by decide +kernel
set_option maxRecDepth 20000 in
theorem ggX6_begin_J7_fill_53178 : GoodIn wsX6_begin wsJ7_fill_53178 := goodIn_r _ [9] (by decide +kernel) (by decide +kernel)
set_option maxRecDepth 20000 in
theorem gX6_begin_J7_fill_53178 : GoodIn wsX6_begin (va_wsS RX6 62 yJ7_fill_53178 wsJ7_fill_53178) := goodIn_app (goodIn_of _ (by decide +kernel)) ggX6_begin_J7_fill_53178
set_option maxRecDepth 20000 in
theorem ggX6_begin_X6_find : GoodIn wsX6_begin wsX6_find := goodIn_r _ [14, 1, 2, 15, 16, 17, 18, 19, 20, 21] (by decide +kernel) (by decide +kernel)
set_option maxRecDepth 20000 in
theorem gX6_begin_X6_find : GoodIn wsX6_begin (wsV RX6 71 RX6 yX6_find wsX6_find) := goodIn_app (goodIn_of _ (by decide +kernel)) ggX6_begin_X6_find
theorem dX6_begin_0 : decode cX6_begin 0 = .ok (.aload_n 0, 1) := by decide +kernel
theorem dX6_begin_1 : decode cX6_begin 1 = .ok (.getfield 11, 3) := by decide +kernel
theorem dX6_begin_4 : decode cX6_begin 4 = .ok (.iconst 0, 1) := by decide +kernel
theorem dX6_begin_5 : decode cX6_begin 5 = .ok (.invokestatic 62, 3) := by decide +kernel
theorem dX6_begin_8 : decode cX6_begin 8 = .ok (.aload_n 0, 1) := by decide +kernel
theorem dX6_begin_9 : decode cX6_begin 9 = .ok (.iconst 0, 1) := by decide +kernel
theorem dX6_begin_10 : decode cX6_begin 10 = .ok (.putfield 49, 3) := by decide +kernel
theorem dX6_begin_13 : decode cX6_begin 13 = .ok (.aload_n 0, 1) := by decide +kernel
theorem dX6_begin_14 : decode cX6_begin 14 = .ok (.iconst 0, 1) := by decide +kernel
theorem dX6_begin_15 : decode cX6_begin 15 = .ok (.putfield 68, 3) := by decide +kernel
theorem dX6_begin_18 : decode cX6_begin 18 = .ok (.aload_n 0, 1) := by decide +kernel
theorem dX6_begin_19 : decode cX6_begin 19 = .ok (.iload_n 1, 1) := by decide +kernel
theorem dX6_begin_20 : decode cX6_begin 20 = .ok (.iconst 0, 1) := by decide +kernel
theorem dX6_begin_21 : decode cX6_begin 21 = .ok (.invokevirtual 71, 3) := by decide +kernel
theorem dX6_begin_24 : decode cX6_begin 24 = .ok (.aload_n 0, 1) := by decide +kernel
theorem dX6_begin_25 : decode cX6_begin 25 = .ok (.iconst 0, 1) := by decide +kernel
theorem dX6_begin_26 : decode cX6_begin 26 = .ok (.putfield 25, 3) := by decide +kernel
theorem dX6_begin_29 : decode cX6_begin 29 = .ok (.aload_n 0, 1) := by decide +kernel
theorem dX6_begin_30 : decode cX6_begin 30 = .ok (.aload_n 0, 1) := by decide +kernel
theorem dX6_begin_31 : decode cX6_begin 31 = .ok (.getfield 49, 3) := by decide +kernel
theorem dX6_begin_34 : decode cX6_begin 34 = .ok (.putfield 29, 3) := by decide +kernel
theorem dX6_begin_37 : decode cX6_begin 37 = .ok (.return_, 1) := by decide +kernel
set_option maxRecDepth 20000 in
theorem ggX6_deepen_X6_standingAt : GoodIn wsX6_deepen wsX6_standingAt := goodIn_r _ [9, 10, 11, 64, 65, 66, 67, 68, 69] (by decide +kernel) (by decide +kernel)
set_option maxRecDepth 20000 in
theorem gX6_deepen_X6_standingAt : GoodIn wsX6_deepen (wsV RX6 75 RX6 yX6_standingAt wsX6_standingAt) := goodIn_app (goodIn_of _ (by decide +kernel)) ggX6_deepen_X6_standingAt
set_option maxRecDepth 20000 in
theorem ggX6_deepen_X0_after : GoodIn wsX6_deepen wsX0_after := goodIn_r _ [16, 17, 18, 15, 19, 20, 21, 22, 23, 24, 25, 26, 27, 28, 29, 30, 31, 32, 33, 34, 35, 36, 37, 38, 39, 40, 41, 42, 43, 44, 45, 46, 47, 48, 49, 50, 51, 52, 53, 54, 70, 71, 72, 73] (by decide +kernel) (by decide +kernel)
set_option maxRecDepth 20000 in
theorem gX6_deepen_X0_after : GoodIn wsX6_deepen (wsV RX6 81 RX0 yX0_after wsX0_after) := goodIn_app (goodIn_of _ (by decide +kernel)) ggX6_deepen_X0_after
set_option maxRecDepth 20000 in
theorem ggX6_deepen_X6_firstActTo : GoodIn wsX6_deepen wsX6_firstActTo := goodIn_r _ [58, 4, 10, 64, 65, 66, 67, 68, 69] (by decide +kernel) (by decide +kernel)
set_option maxRecDepth 20000 in
theorem gX6_deepen_X6_firstActTo : GoodIn wsX6_deepen (wsV RX6 84 RX6 yX6_firstActTo wsX6_firstActTo) := goodIn_app (goodIn_of _ (by decide +kernel)) ggX6_deepen_X6_firstActTo
set_option maxRecDepth 20000 in
theorem ggX6_deepen_X6_find : GoodIn wsX6_deepen wsX6_find := goodIn_r _ [62, 63, 3, 10, 64, 65, 66, 67, 68, 69] (by decide +kernel) (by decide +kernel)
set_option maxRecDepth 20000 in
theorem gX6_deepen_X6_find : GoodIn wsX6_deepen (wsV RX6 71 RX6 yX6_find wsX6_find) := goodIn_app (goodIn_of _ (by decide +kernel)) ggX6_deepen_X6_find
theorem dX6_deepen_0 : decode cX6_deepen 0 = .ok (.aload_n 0, 1) := by decide +kernel
theorem dX6_deepen_1 : decode cX6_deepen 1 = .ok (.getfield 25, 3) := by decide +kernel
theorem dX6_deepen_4 : decode cX6_deepen 4 = .ok (.istore_n 2, 1) := by decide +kernel
theorem dX6_deepen_5 : decode cX6_deepen 5 = .ok (.iload_n 2, 1) := by decide +kernel
theorem dX6_deepen_6 : decode cX6_deepen 6 = .ok (.aload_n 0, 1) := by decide +kernel
theorem dX6_deepen_7 : decode cX6_deepen 7 = .ok (.getfield 29, 3) := by decide +kernel
theorem dX6_deepen_10 : decode cX6_deepen 10 = .ok (.if_icmp .ge 76, 3) := by decide +kernel
theorem dX6_deepen_13 : decode cX6_deepen 13 = .ok (.aload_n 0, 1) := by decide +kernel
theorem dX6_deepen_14 : decode cX6_deepen 14 = .ok (.iload_n 2, 1) := by decide +kernel
theorem dX6_deepen_15 : decode cX6_deepen 15 = .ok (.invokevirtual 75, 3) := by decide +kernel
theorem dX6_deepen_18 : decode cX6_deepen 18 = .ok (.istore_n 3, 1) := by decide +kernel
theorem dX6_deepen_19 : decode cX6_deepen 19 = .ok (.getstatic 78, 3) := by decide +kernel
theorem dX6_deepen_22 : decode cX6_deepen 22 = .ok (.astore 4, 2) := by decide +kernel
theorem dX6_deepen_24 : decode cX6_deepen 24 = .ok (.aload 4, 2) := by decide +kernel
theorem dX6_deepen_26 : decode cX6_deepen 26 = .ok (.arraylength, 1) := by decide +kernel
theorem dX6_deepen_27 : decode cX6_deepen 27 = .ok (.istore 5, 2) := by decide +kernel
theorem dX6_deepen_29 : decode cX6_deepen 29 = .ok (.iconst 0, 1) := by decide +kernel
theorem dX6_deepen_30 : decode cX6_deepen 30 = .ok (.istore 6, 2) := by decide +kernel
theorem dX6_deepen_32 : decode cX6_deepen 32 = .ok (.iload 6, 2) := by decide +kernel
theorem dX6_deepen_34 : decode cX6_deepen 34 = .ok (.iload 5, 2) := by decide +kernel
theorem dX6_deepen_36 : decode cX6_deepen 36 = .ok (.if_icmp .ge 44, 3) := by decide +kernel
theorem dX6_deepen_39 : decode cX6_deepen 39 = .ok (.aload 4, 2) := by decide +kernel
theorem dX6_deepen_41 : decode cX6_deepen 41 = .ok (.iload 6, 2) := by decide +kernel
theorem dX6_deepen_43 : decode cX6_deepen 43 = .ok (.iaload, 1) := by decide +kernel
theorem dX6_deepen_44 : decode cX6_deepen 44 = .ok (.istore 7, 2) := by decide +kernel
theorem dX6_deepen_46 : decode cX6_deepen 46 = .ok (.aload_n 1, 1) := by decide +kernel
theorem dX6_deepen_47 : decode cX6_deepen 47 = .ok (.iload_n 3, 1) := by decide +kernel
theorem dX6_deepen_48 : decode cX6_deepen 48 = .ok (.iload 7, 2) := by decide +kernel
theorem dX6_deepen_50 : decode cX6_deepen 50 = .ok (.invokevirtual 81, 3) := by decide +kernel
theorem dX6_deepen_53 : decode cX6_deepen 53 = .ok (.istore 8, 2) := by decide +kernel
theorem dX6_deepen_55 : decode cX6_deepen 55 = .ok (.iload 8, 2) := by decide +kernel
theorem dX6_deepen_57 : decode cX6_deepen 57 = .ok (.iconst (-1), 1) := by decide +kernel
theorem dX6_deepen_58 : decode cX6_deepen 58 = .ok (.if_icmp .eq 16, 3) := by decide +kernel
theorem dX6_deepen_61 : decode cX6_deepen 61 = .ok (.aload_n 0, 1) := by decide +kernel
theorem dX6_deepen_62 : decode cX6_deepen 62 = .ok (.iload 8, 2) := by decide +kernel
theorem dX6_deepen_64 : decode cX6_deepen 64 = .ok (.aload_n 0, 1) := by decide +kernel
theorem dX6_deepen_65 : decode cX6_deepen 65 = .ok (.iload_n 2, 1) := by decide +kernel
theorem dX6_deepen_66 : decode cX6_deepen 66 = .ok (.iload 7, 2) := by decide +kernel
theorem dX6_deepen_68 : decode cX6_deepen 68 = .ok (.invokevirtual 84, 3) := by decide +kernel
theorem dX6_deepen_71 : decode cX6_deepen 71 = .ok (.invokevirtual 71, 3) := by decide +kernel
theorem dX6_deepen_74 : decode cX6_deepen 74 = .ok (.iinc 6 1, 3) := by decide +kernel
theorem dX6_deepen_77 : decode cX6_deepen 77 = .ok (.goto (-45), 3) := by decide +kernel
theorem dX6_deepen_80 : decode cX6_deepen 80 = .ok (.iinc 2 1, 3) := by decide +kernel
theorem dX6_deepen_83 : decode cX6_deepen 83 = .ok (.goto (-78), 3) := by decide +kernel
theorem dX6_deepen_86 : decode cX6_deepen 86 = .ok (.aload_n 0, 1) := by decide +kernel
theorem dX6_deepen_87 : decode cX6_deepen 87 = .ok (.aload_n 0, 1) := by decide +kernel
theorem dX6_deepen_88 : decode cX6_deepen 88 = .ok (.getfield 29, 3) := by decide +kernel
theorem dX6_deepen_91 : decode cX6_deepen 91 = .ok (.putfield 25, 3) := by decide +kernel
theorem dX6_deepen_94 : decode cX6_deepen 94 = .ok (.aload_n 0, 1) := by decide +kernel
theorem dX6_deepen_95 : decode cX6_deepen 95 = .ok (.aload_n 0, 1) := by decide +kernel
theorem dX6_deepen_96 : decode cX6_deepen 96 = .ok (.getfield 49, 3) := by decide +kernel
theorem dX6_deepen_99 : decode cX6_deepen 99 = .ok (.putfield 29, 3) := by decide +kernel
theorem dX6_deepen_102 : decode cX6_deepen 102 = .ok (.aload_n 0, 1) := by decide +kernel
theorem dX6_deepen_103 : decode cX6_deepen 103 = .ok (.dup, 1) := by decide +kernel
theorem dX6_deepen_104 : decode cX6_deepen 104 = .ok (.getfield 68, 3) := by decide +kernel
theorem dX6_deepen_107 : decode cX6_deepen 107 = .ok (.iconst 1, 1) := by decide +kernel
theorem dX6_deepen_108 : decode cX6_deepen 108 = .ok (.iadd, 1) := by decide +kernel
theorem dX6_deepen_109 : decode cX6_deepen 109 = .ok (.putfield 68, 3) := by decide +kernel
theorem dX6_deepen_112 : decode cX6_deepen 112 = .ok (.return_, 1) := by decide +kernel
theorem dX6_find_0 : decode cX6_find 0 = .ok (.iload_n 1, 1) := by decide +kernel
theorem dX6_find_1 : decode cX6_find 1 = .ok (.iconst 5, 1) := by decide +kernel
theorem dX6_find_2 : decode cX6_find 2 = .ok (.ishr, 1) := by decide +kernel
theorem dX6_find_3 : decode cX6_find 3 = .ok (.aload_n 0, 1) := by decide +kernel
theorem dX6_find_4 : decode cX6_find 4 = .ok (.getfield 11, 3) := by decide +kernel
theorem dX6_find_7 : decode cX6_find 7 = .ok (.arraylength, 1) := by decide +kernel
theorem dX6_find_8 : decode cX6_find 8 = .ok (.iconst 1, 1) := by decide +kernel
theorem dX6_find_9 : decode cX6_find 9 = .ok (.isub, 1) := by decide +kernel
theorem dX6_find_10 : decode cX6_find 10 = .ok (.iand, 1) := by decide +kernel
theorem dX6_find_11 : decode cX6_find 11 = .ok (.istore_n 3, 1) := by decide +kernel
theorem dX6_find_12 : decode cX6_find 12 = .ok (.iconst 1, 1) := by decide +kernel
theorem dX6_find_13 : decode cX6_find 13 = .ok (.iload_n 1, 1) := by decide +kernel
theorem dX6_find_14 : decode cX6_find 14 = .ok (.bipush 31, 2) := by decide +kernel
theorem dX6_find_16 : decode cX6_find 16 = .ok (.iand, 1) := by decide +kernel
theorem dX6_find_17 : decode cX6_find 17 = .ok (.ishl, 1) := by decide +kernel
theorem dX6_find_18 : decode cX6_find 18 = .ok (.istore 4, 2) := by decide +kernel
theorem dX6_find_20 : decode cX6_find 20 = .ok (.aload_n 0, 1) := by decide +kernel
theorem dX6_find_21 : decode cX6_find 21 = .ok (.getfield 11, 3) := by decide +kernel
theorem dX6_find_24 : decode cX6_find 24 = .ok (.iload_n 3, 1) := by decide +kernel
theorem dX6_find_25 : decode cX6_find 25 = .ok (.iaload, 1) := by decide +kernel
theorem dX6_find_26 : decode cX6_find 26 = .ok (.iload 4, 2) := by decide +kernel
theorem dX6_find_28 : decode cX6_find 28 = .ok (.iand, 1) := by decide +kernel
theorem dX6_find_29 : decode cX6_find 29 = .ok (.ifCond .ne 51, 3) := by decide +kernel
theorem dX6_find_32 : decode cX6_find 32 = .ok (.aload_n 0, 1) := by decide +kernel
theorem dX6_find_33 : decode cX6_find 33 = .ok (.getfield 49, 3) := by decide +kernel
theorem dX6_find_36 : decode cX6_find 36 = .ok (.aload_n 0, 1) := by decide +kernel
theorem dX6_find_37 : decode cX6_find 37 = .ok (.getfield 18, 3) := by decide +kernel
theorem dX6_find_40 : decode cX6_find 40 = .ok (.arraylength, 1) := by decide +kernel
theorem dX6_find_41 : decode cX6_find 41 = .ok (.if_icmp .ge 39, 3) := by decide +kernel
theorem dX6_find_44 : decode cX6_find 44 = .ok (.aload_n 0, 1) := by decide +kernel
theorem dX6_find_45 : decode cX6_find 45 = .ok (.getfield 11, 3) := by decide +kernel
theorem dX6_find_48 : decode cX6_find 48 = .ok (.iload_n 3, 1) := by decide +kernel
theorem dX6_find_49 : decode cX6_find 49 = .ok (.dup2, 1) := by decide +kernel
theorem dX6_find_50 : decode cX6_find 50 = .ok (.iaload, 1) := by decide +kernel
theorem dX6_find_51 : decode cX6_find 51 = .ok (.iload 4, 2) := by decide +kernel
theorem dX6_find_53 : decode cX6_find 53 = .ok (.ior, 1) := by decide +kernel
theorem dX6_find_54 : decode cX6_find 54 = .ok (.iastore, 1) := by decide +kernel
theorem dX6_find_55 : decode cX6_find 55 = .ok (.aload_n 0, 1) := by decide +kernel
theorem dX6_find_56 : decode cX6_find 56 = .ok (.getfield 18, 3) := by decide +kernel
theorem dX6_find_59 : decode cX6_find 59 = .ok (.aload_n 0, 1) := by decide +kernel
theorem dX6_find_60 : decode cX6_find 60 = .ok (.getfield 49, 3) := by decide +kernel
theorem dX6_find_63 : decode cX6_find 63 = .ok (.iload_n 1, 1) := by decide +kernel
theorem dX6_find_64 : decode cX6_find 64 = .ok (.iload_n 2, 1) := by decide +kernel
theorem dX6_find_65 : decode cX6_find 65 = .ok (.bipush 18, 2) := by decide +kernel
theorem dX6_find_67 : decode cX6_find 67 = .ok (.ishl, 1) := by decide +kernel
theorem dX6_find_68 : decode cX6_find 68 = .ok (.ior, 1) := by decide +kernel
theorem dX6_find_69 : decode cX6_find 69 = .ok (.iastore, 1) := by decide +kernel
theorem dX6_find_70 : decode cX6_find 70 = .ok (.aload_n 0, 1) := by decide +kernel
theorem dX6_find_71 : decode cX6_find 71 = .ok (.dup, 1) := by decide +kernel
theorem dX6_find_72 : decode cX6_find 72 = .ok (.getfield 49, 3) := by decide +kernel
theorem dX6_find_75 : decode cX6_find 75 = .ok (.iconst 1, 1) := by decide +kernel
theorem dX6_find_76 : decode cX6_find 76 = .ok (.iadd, 1) := by decide +kernel
theorem dX6_find_77 : decode cX6_find 77 = .ok (.putfield 49, 3) := by decide +kernel
theorem dX6_find_80 : decode cX6_find 80 = .ok (.return_, 1) := by decide +kernel
set_option maxRecDepth 20000 in
theorem ggX6_firstToBuy_X6_standingAt : GoodIn wsX6_firstToBuy wsX6_standingAt := goodIn_r _ [7, 8, 9, 28, 29, 30, 31, 32, 33] (by decide +kernel) (by decide +kernel)
set_option maxRecDepth 20000 in
theorem gX6_firstToBuy_X6_standingAt : GoodIn wsX6_firstToBuy (wsV RX6 75 RX6 yX6_standingAt wsX6_standingAt) := goodIn_app (goodIn_of _ (by decide +kernel)) ggX6_firstToBuy_X6_standingAt
set_option maxRecDepth 20000 in
theorem ggX6_firstToBuy_X7_townOf : GoodIn wsX6_firstToBuy wsX7_townOf := goodIn_r _ [13] (by decide +kernel) (by decide +kernel)
set_option maxRecDepth 20000 in
theorem gX6_firstToBuy_X7_townOf : GoodIn wsX6_firstToBuy (va_wsS RX6 87 yX7_townOf wsX7_townOf) := goodIn_app (goodIn_of _ (by decide +kernel)) ggX6_firstToBuy_X7_townOf
set_option maxRecDepth 20000 in
theorem ggX6_firstToBuy_X7_coinsOf : GoodIn wsX6_firstToBuy wsX7_coinsOf := goodIn_r _ [16] (by decide +kernel) (by decide +kernel)
set_option maxRecDepth 20000 in
theorem gX6_firstToBuy_X7_coinsOf : GoodIn wsX6_firstToBuy (va_wsS RX6 90 yX7_coinsOf wsX7_coinsOf) := goodIn_app (goodIn_of _ (by decide +kernel)) ggX6_firstToBuy_X7_coinsOf
set_option maxRecDepth 20000 in
theorem ggX6_firstToBuy_X0_canPay : GoodIn wsX6_firstToBuy wsX0_canPay := goodIn_r _ [21, 22, 34, 35, 36, 37] (by decide +kernel) (by decide +kernel)
set_option maxRecDepth 20000 in
theorem gX6_firstToBuy_X0_canPay : GoodIn wsX6_firstToBuy (wsV RX6 93 RX0 yX0_canPay wsX0_canPay) := goodIn_app (goodIn_of _ (by decide +kernel)) ggX6_firstToBuy_X0_canPay
set_option maxRecDepth 20000 in
theorem ggX6_firstToBuy_X6_firstActTo : GoodIn wsX6_firstToBuy wsX6_firstActTo := goodIn_r _ [26, 27, 8, 28, 29, 30, 31, 32, 33] (by decide +kernel) (by decide +kernel)
set_option maxRecDepth 20000 in
theorem gX6_firstToBuy_X6_firstActTo : GoodIn wsX6_firstToBuy (wsV RX6 84 RX6 yX6_firstActTo wsX6_firstActTo) := goodIn_app (goodIn_of _ (by decide +kernel)) ggX6_firstToBuy_X6_firstActTo
theorem dX6_firstToBuy_0 : decode cX6_firstToBuy 0 = .ok (.aload_n 0, 1) := by decide +kernel
theorem dX6_firstToBuy_1 : decode cX6_firstToBuy 1 = .ok (.getfield 25, 3) := by decide +kernel
theorem dX6_firstToBuy_4 : decode cX6_firstToBuy 4 = .ok (.istore 4, 2) := by decide +kernel
theorem dX6_firstToBuy_6 : decode cX6_firstToBuy 6 = .ok (.iload 4, 2) := by decide +kernel
theorem dX6_firstToBuy_8 : decode cX6_firstToBuy 8 = .ok (.aload_n 0, 1) := by decide +kernel
theorem dX6_firstToBuy_9 : decode cX6_firstToBuy 9 = .ok (.getfield 29, 3) := by decide +kernel
theorem dX6_firstToBuy_12 : decode cX6_firstToBuy 12 = .ok (.if_icmp .ge 71, 3) := by decide +kernel
theorem dX6_firstToBuy_15 : decode cX6_firstToBuy 15 = .ok (.aload_n 0, 1) := by decide +kernel
theorem dX6_firstToBuy_16 : decode cX6_firstToBuy 16 = .ok (.iload 4, 2) := by decide +kernel
theorem dX6_firstToBuy_18 : decode cX6_firstToBuy 18 = .ok (.invokevirtual 75, 3) := by decide +kernel
theorem dX6_firstToBuy_21 : decode cX6_firstToBuy 21 = .ok (.istore 5, 2) := by decide +kernel
theorem dX6_firstToBuy_23 : decode cX6_firstToBuy 23 = .ok (.iconst 0, 1) := by decide +kernel
theorem dX6_firstToBuy_24 : decode cX6_firstToBuy 24 = .ok (.istore 6, 2) := by decide +kernel
theorem dX6_firstToBuy_26 : decode cX6_firstToBuy 26 = .ok (.iload 6, 2) := by decide +kernel
theorem dX6_firstToBuy_28 : decode cX6_firstToBuy 28 = .ok (.iconst 4, 1) := by decide +kernel
theorem dX6_firstToBuy_29 : decode cX6_firstToBuy 29 = .ok (.if_icmp .ge 48, 3) := by decide +kernel
theorem dX6_firstToBuy_32 : decode cX6_firstToBuy 32 = .ok (.iload 5, 2) := by decide +kernel
theorem dX6_firstToBuy_34 : decode cX6_firstToBuy 34 = .ok (.invokestatic 87, 3) := by decide +kernel
theorem dX6_firstToBuy_37 : decode cX6_firstToBuy 37 = .ok (.iload_n 2, 1) := by decide +kernel
theorem dX6_firstToBuy_38 : decode cX6_firstToBuy 38 = .ok (.if_icmp .ne 39, 3) := by decide +kernel
theorem dX6_firstToBuy_41 : decode cX6_firstToBuy 41 = .ok (.aload_n 1, 1) := by decide +kernel
theorem dX6_firstToBuy_42 : decode cX6_firstToBuy 42 = .ok (.iload_n 2, 1) := by decide +kernel
theorem dX6_firstToBuy_43 : decode cX6_firstToBuy 43 = .ok (.iload 6, 2) := by decide +kernel
theorem dX6_firstToBuy_45 : decode cX6_firstToBuy 45 = .ok (.iload 5, 2) := by decide +kernel
theorem dX6_firstToBuy_47 : decode cX6_firstToBuy 47 = .ok (.iload 6, 2) := by decide +kernel
theorem dX6_firstToBuy_49 : decode cX6_firstToBuy 49 = .ok (.invokestatic 90, 3) := by decide +kernel
theorem dX6_firstToBuy_52 : decode cX6_firstToBuy 52 = .ok (.iload_n 3, 1) := by decide +kernel
theorem dX6_firstToBuy_53 : decode cX6_firstToBuy 53 = .ok (.invokevirtual 93, 3) := by decide +kernel
theorem dX6_firstToBuy_56 : decode cX6_firstToBuy 56 = .ok (.ifCond .eq 15, 3) := by decide +kernel
theorem dX6_firstToBuy_59 : decode cX6_firstToBuy 59 = .ok (.aload_n 0, 1) := by decide +kernel
theorem dX6_firstToBuy_60 : decode cX6_firstToBuy 60 = .ok (.iload 4, 2) := by decide +kernel
theorem dX6_firstToBuy_62 : decode cX6_firstToBuy 62 = .ok (.bipush 10, 2) := by decide +kernel
theorem dX6_firstToBuy_64 : decode cX6_firstToBuy 64 = .ok (.iload 6, 2) := by decide +kernel
theorem dX6_firstToBuy_66 : decode cX6_firstToBuy 66 = .ok (.iadd, 1) := by decide +kernel
theorem dX6_firstToBuy_67 : decode cX6_firstToBuy 67 = .ok (.invokevirtual 84, 3) := by decide +kernel
theorem dX6_firstToBuy_70 : decode cX6_firstToBuy 70 = .ok (.ireturn, 1) := by decide +kernel
theorem dX6_firstToBuy_71 : decode cX6_firstToBuy 71 = .ok (.iinc 6 1, 3) := by decide +kernel
theorem dX6_firstToBuy_74 : decode cX6_firstToBuy 74 = .ok (.goto (-48), 3) := by decide +kernel
theorem dX6_firstToBuy_77 : decode cX6_firstToBuy 77 = .ok (.iinc 4 1, 3) := by decide +kernel
theorem dX6_firstToBuy_80 : decode cX6_firstToBuy 80 = .ok (.goto (-74), 3) := by decide +kernel
theorem dX6_firstToBuy_83 : decode cX6_firstToBuy 83 = .ok (.iconst (-1), 1) := by decide +kernel
theorem dX6_firstToBuy_84 : decode cX6_firstToBuy 84 = .ok (.ireturn, 1) := by decide +kernel
theorem dX6_standingAt_0 : decode cX6_standingAt 0 = .ok (.aload_n 0, 1) := by decide +kernel
theorem dX6_standingAt_1 : decode cX6_standingAt 1 = .ok (.getfield 18, 3) := by decide +kernel
theorem dX6_standingAt_4 : decode cX6_standingAt 4 = .ok (.iload_n 1, 1) := by decide +kernel
theorem dX6_standingAt_5 : decode cX6_standingAt 5 = .ok (.iaload, 1) := by decide +kernel
theorem dX6_standingAt_6 : decode cX6_standingAt 6 = .ok (.ldc 97, 2) := by decide +kernel
theorem dX6_standingAt_8 : decode cX6_standingAt 8 = .ok (.iand, 1) := by decide +kernel
theorem dX6_standingAt_9 : decode cX6_standingAt 9 = .ok (.ireturn, 1) := by decide +kernel
theorem dX6_firstActTo_0 : decode cX6_firstActTo 0 = .ok (.aload_n 0, 1) := by decide +kernel
theorem dX6_firstActTo_1 : decode cX6_firstActTo 1 = .ok (.getfield 68, 3) := by decide +kernel
theorem dX6_firstActTo_4 : decode cX6_firstActTo 4 = .ok (.ifCond .ne 7, 3) := by decide +kernel
theorem dX6_firstActTo_7 : decode cX6_firstActTo 7 = .ok (.iload_n 2, 1) := by decide +kernel
theorem dX6_firstActTo_8 : decode cX6_firstActTo 8 = .ok (.goto 12, 3) := by decide +kernel
theorem dX6_firstActTo_11 : decode cX6_firstActTo 11 = .ok (.aload_n 0, 1) := by decide +kernel
theorem dX6_firstActTo_12 : decode cX6_firstActTo 12 = .ok (.getfield 18, 3) := by decide +kernel
theorem dX6_firstActTo_15 : decode cX6_firstActTo 15 = .ok (.iload_n 1, 1) := by decide +kernel
theorem dX6_firstActTo_16 : decode cX6_firstActTo 16 = .ok (.iaload, 1) := by decide +kernel
theorem dX6_firstActTo_17 : decode cX6_firstActTo 17 = .ok (.bipush 18, 2) := by decide +kernel
theorem dX6_firstActTo_19 : decode cX6_firstActTo 19 = .ok (.ishr, 1) := by decide +kernel
theorem dX6_firstActTo_20 : decode cX6_firstActTo 20 = .ok (.ireturn, 1) := by decide +kernel
theorem dX7_townOf_0 : decode cX7_townOf 0 = .ok (.iload_n 0, 1) := by decide +kernel
theorem dX7_townOf_1 : decode cX7_townOf 1 = .ok (.iconst 3, 1) := by decide +kernel
theorem dX7_townOf_2 : decode cX7_townOf 2 = .ok (.iand, 1) := by decide +kernel
theorem dX7_townOf_3 : decode cX7_townOf 3 = .ok (.ireturn, 1) := by decide +kernel
theorem dX7_goodsOf_0 : decode cX7_goodsOf 0 = .ok (.iload_n 0, 1) := by decide +kernel
theorem dX7_goodsOf_1 : decode cX7_goodsOf 1 = .ok (.iconst 2, 1) := by decide +kernel
theorem dX7_goodsOf_2 : decode cX7_goodsOf 2 = .ok (.ishr, 1) := by decide +kernel
theorem dX7_goodsOf_3 : decode cX7_goodsOf 3 = .ok (.bipush 15, 2) := by decide +kernel
theorem dX7_goodsOf_5 : decode cX7_goodsOf 5 = .ok (.iand, 1) := by decide +kernel
theorem dX7_goodsOf_6 : decode cX7_goodsOf 6 = .ok (.ireturn, 1) := by decide +kernel
theorem dX7_hasGood_0 : decode cX7_hasGood 0 = .ok (.iload_n 0, 1) := by decide +kernel
theorem dX7_hasGood_1 : decode cX7_hasGood 1 = .ok (.iconst 2, 1) := by decide +kernel
theorem dX7_hasGood_2 : decode cX7_hasGood 2 = .ok (.iload_n 1, 1) := by decide +kernel
theorem dX7_hasGood_3 : decode cX7_hasGood 3 = .ok (.iadd, 1) := by decide +kernel
theorem dX7_hasGood_4 : decode cX7_hasGood 4 = .ok (.ishr, 1) := by decide +kernel
theorem dX7_hasGood_5 : decode cX7_hasGood 5 = .ok (.iconst 1, 1) := by decide +kernel
theorem dX7_hasGood_6 : decode cX7_hasGood 6 = .ok (.iand, 1) := by decide +kernel
theorem dX7_hasGood_7 : decode cX7_hasGood 7 = .ok (.iconst 1, 1) := by decide +kernel
theorem dX7_hasGood_8 : decode cX7_hasGood 8 = .ok (.if_icmp .ne 7, 3) := by decide +kernel
theorem dX7_hasGood_11 : decode cX7_hasGood 11 = .ok (.iconst 1, 1) := by decide +kernel
theorem dX7_hasGood_12 : decode cX7_hasGood 12 = .ok (.goto 4, 3) := by decide +kernel
theorem dX7_hasGood_15 : decode cX7_hasGood 15 = .ok (.iconst 0, 1) := by decide +kernel
theorem dX7_hasGood_16 : decode cX7_hasGood 16 = .ok (.ireturn, 1) := by decide +kernel
theorem dX7_coinsOf_0 : decode cX7_coinsOf 0 = .ok (.iload_n 0, 1) := by decide +kernel
theorem dX7_coinsOf_1 : decode cX7_coinsOf 1 = .ok (.bipush 6, 2) := by decide +kernel
theorem dX7_coinsOf_3 : decode cX7_coinsOf 3 = .ok (.iconst 3, 1) := by decide +kernel
theorem dX7_coinsOf_4 : decode cX7_coinsOf 4 = .ok (.iload_n 1, 1) := by decide +kernel
theorem dX7_coinsOf_5 : decode cX7_coinsOf 5 = .ok (.imul, 1) := by decide +kernel
theorem dX7_coinsOf_6 : decode cX7_coinsOf 6 = .ok (.iadd, 1) := by decide +kernel
theorem dX7_coinsOf_7 : decode cX7_coinsOf 7 = .ok (.ishr, 1) := by decide +kernel
theorem dX7_coinsOf_8 : decode cX7_coinsOf 8 = .ok (.bipush 7, 2) := by decide +kernel
theorem dX7_coinsOf_10 : decode cX7_coinsOf 10 = .ok (.iand, 1) := by decide +kernel
theorem dX7_coinsOf_11 : decode cX7_coinsOf 11 = .ok (.ireturn, 1) := by decide +kernel
set_option maxRecDepth 20000 in
theorem ggX7_coinsTogether_X7_coinsOf : GoodIn wsX7_coinsTogether wsX7_coinsOf := goodIn_r _ [4] (by decide +kernel) (by decide +kernel)
set_option maxRecDepth 20000 in
theorem gX7_coinsTogether_X7_coinsOf : GoodIn wsX7_coinsTogether (va_wsS RX7 11 yX7_coinsOf wsX7_coinsOf) := goodIn_app (goodIn_of _ (by decide +kernel)) ggX7_coinsTogether_X7_coinsOf
theorem dX7_coinsTogether_0 : decode cX7_coinsTogether 0 = .ok (.iload_n 0, 1) := by decide +kernel
theorem dX7_coinsTogether_1 : decode cX7_coinsTogether 1 = .ok (.iconst 0, 1) := by decide +kernel
theorem dX7_coinsTogether_2 : decode cX7_coinsTogether 2 = .ok (.invokestatic 11, 3) := by decide +kernel
theorem dX7_coinsTogether_5 : decode cX7_coinsTogether 5 = .ok (.iload_n 0, 1) := by decide +kernel
theorem dX7_coinsTogether_6 : decode cX7_coinsTogether 6 = .ok (.iconst 1, 1) := by decide +kernel
theorem dX7_coinsTogether_7 : decode cX7_coinsTogether 7 = .ok (.invokestatic 11, 3) := by decide +kernel
theorem dX7_coinsTogether_10 : decode cX7_coinsTogether 10 = .ok (.iadd, 1) := by decide +kernel
theorem dX7_coinsTogether_11 : decode cX7_coinsTogether 11 = .ok (.iload_n 0, 1) := by decide +kernel
theorem dX7_coinsTogether_12 : decode cX7_coinsTogether 12 = .ok (.iconst 2, 1) := by decide +kernel
theorem dX7_coinsTogether_13 : decode cX7_coinsTogether 13 = .ok (.invokestatic 11, 3) := by decide +kernel
theorem dX7_coinsTogether_16 : decode cX7_coinsTogether 16 = .ok (.iadd, 1) := by decide +kernel
theorem dX7_coinsTogether_17 : decode cX7_coinsTogether 17 = .ok (.iload_n 0, 1) := by decide +kernel
theorem dX7_coinsTogether_18 : decode cX7_coinsTogether 18 = .ok (.iconst 3, 1) := by decide +kernel
theorem dX7_coinsTogether_19 : decode cX7_coinsTogether 19 = .ok (.invokestatic 11, 3) := by decide +kernel
theorem dX7_coinsTogether_22 : decode cX7_coinsTogether 22 = .ok (.iadd, 1) := by decide +kernel
theorem dX7_coinsTogether_23 : decode cX7_coinsTogether 23 = .ok (.ireturn, 1) := by decide +kernel
theorem dX7_withMore_0 : decode cX7_withMore 0 = .ok (.iload_n 0, 1) := by decide +kernel
theorem dX7_withMore_1 : decode cX7_withMore 1 = .ok (.iload_n 2, 1) := by decide +kernel
theorem dX7_withMore_2 : decode cX7_withMore 2 = .ok (.iconst 1, 1) := by decide +kernel
theorem dX7_withMore_3 : decode cX7_withMore 3 = .ok (.bipush 6, 2) := by decide +kernel
theorem dX7_withMore_5 : decode cX7_withMore 5 = .ok (.iconst 3, 1) := by decide +kernel
theorem dX7_withMore_6 : decode cX7_withMore 6 = .ok (.iload_n 1, 1) := by decide +kernel
theorem dX7_withMore_7 : decode cX7_withMore 7 = .ok (.imul, 1) := by decide +kernel
theorem dX7_withMore_8 : decode cX7_withMore 8 = .ok (.iadd, 1) := by decide +kernel
theorem dX7_withMore_9 : decode cX7_withMore 9 = .ok (.ishl, 1) := by decide +kernel
theorem dX7_withMore_10 : decode cX7_withMore 10 = .ok (.imul, 1) := by decide +kernel
theorem dX7_withMore_11 : decode cX7_withMore 11 = .ok (.iadd, 1) := by decide +kernel
theorem dX7_withMore_12 : decode cX7_withMore 12 = .ok (.ireturn, 1) := by decide +kernel
theorem dX7_withTown_0 : decode cX7_withTown 0 = .ok (.iload_n 0, 1) := by decide +kernel
theorem dX7_withTown_1 : decode cX7_withTown 1 = .ok (.bipush (-4), 2) := by decide +kernel
theorem dX7_withTown_3 : decode cX7_withTown 3 = .ok (.iand, 1) := by decide +kernel
theorem dX7_withTown_4 : decode cX7_withTown 4 = .ok (.iload_n 1, 1) := by decide +kernel
theorem dX7_withTown_5 : decode cX7_withTown 5 = .ok (.ior, 1) := by decide +kernel
theorem dX7_withTown_6 : decode cX7_withTown 6 = .ok (.ireturn, 1) := by decide +kernel
theorem dX7_withOtherGood_0 : decode cX7_withOtherGood 0 = .ok (.iload_n 0, 1) := by decide +kernel
theorem dX7_withOtherGood_1 : decode cX7_withOtherGood 1 = .ok (.iconst 1, 1) := by decide +kernel
theorem dX7_withOtherGood_2 : decode cX7_withOtherGood 2 = .ok (.iconst 2, 1) := by decide +kernel
theorem dX7_withOtherGood_3 : decode cX7_withOtherGood 3 = .ok (.iload_n 1, 1) := by decide +kernel
theorem dX7_withOtherGood_4 : decode cX7_withOtherGood 4 = .ok (.iadd, 1) := by decide +kernel
theorem dX7_withOtherGood_5 : decode cX7_withOtherGood 5 = .ok (.ishl, 1) := by decide +kernel
theorem dX7_withOtherGood_6 : decode cX7_withOtherGood 6 = .ok (.ixor, 1) := by decide +kernel
theorem dX7_withOtherGood_7 : decode cX7_withOtherGood 7 = .ok (.ireturn, 1) := by decide +kernel
theorem dX7_placeOf_0 : decode cX7_placeOf 0 = .ok (.iload_n 0, 1) := by decide +kernel
theorem dX7_placeOf_1 : decode cX7_placeOf 1 = .ok (.bipush 63, 2) := by decide +kernel
theorem dX7_placeOf_3 : decode cX7_placeOf 3 = .ok (.iand, 1) := by decide +kernel
theorem dX7_placeOf_4 : decode cX7_placeOf 4 = .ok (.ireturn, 1) := by decide +kernel
theorem dX7_withoutPlace_0 : decode cX7_withoutPlace 0 = .ok (.iload_n 0, 1) := by decide +kernel
theorem dX7_withoutPlace_1 : decode cX7_withoutPlace 1 = .ok (.bipush (-64), 2) := by decide +kernel
theorem dX7_withoutPlace_3 : decode cX7_withoutPlace 3 = .ok (.iand, 1) := by decide +kernel
theorem dX7_withoutPlace_4 : decode cX7_withoutPlace 4 = .ok (.ireturn, 1) := by decide +kernel
set_option maxRecDepth 20000 in
theorem ggX7_purseOf_X7_withMore : GoodIn wsX7_purseOf wsX7_withMore := goodIn_r _ [4] (by decide +kernel) (by decide +kernel)
set_option maxRecDepth 20000 in
theorem gX7_purseOf_X7_withMore : GoodIn wsX7_purseOf (va_wsS RX7 15 yX7_withMore wsX7_withMore) := goodIn_app (goodIn_of _ (by decide +kernel)) ggX7_purseOf_X7_withMore
theorem dX7_purseOf_0 : decode cX7_purseOf 0 = .ok (.iconst 0, 1) := by decide +kernel
theorem dX7_purseOf_1 : decode cX7_purseOf 1 = .ok (.istore_n 1, 1) := by decide +kernel
theorem dX7_purseOf_2 : decode cX7_purseOf 2 = .ok (.iload_n 0, 1) := by decide +kernel
theorem dX7_purseOf_3 : decode cX7_purseOf 3 = .ok (.istore_n 2, 1) := by decide +kernel
theorem dX7_purseOf_4 : decode cX7_purseOf 4 = .ok (.iconst 0, 1) := by decide +kernel
theorem dX7_purseOf_5 : decode cX7_purseOf 5 = .ok (.istore_n 3, 1) := by decide +kernel
theorem dX7_purseOf_6 : decode cX7_purseOf 6 = .ok (.iload_n 3, 1) := by decide +kernel
theorem dX7_purseOf_7 : decode cX7_purseOf 7 = .ok (.iconst 4, 1) := by decide +kernel
theorem dX7_purseOf_8 : decode cX7_purseOf 8 = .ok (.if_icmp .ge 22, 3) := by decide +kernel
theorem dX7_purseOf_11 : decode cX7_purseOf 11 = .ok (.iload_n 1, 1) := by decide +kernel
theorem dX7_purseOf_12 : decode cX7_purseOf 12 = .ok (.iload_n 3, 1) := by decide +kernel
theorem dX7_purseOf_13 : decode cX7_purseOf 13 = .ok (.iload_n 2, 1) := by decide +kernel
theorem dX7_purseOf_14 : decode cX7_purseOf 14 = .ok (.iconst 5, 1) := by decide +kernel
theorem dX7_purseOf_15 : decode cX7_purseOf 15 = .ok (.irem, 1) := by decide +kernel
theorem dX7_purseOf_16 : decode cX7_purseOf 16 = .ok (.invokestatic 15, 3) := by decide +kernel
theorem dX7_purseOf_19 : decode cX7_purseOf 19 = .ok (.istore_n 1, 1) := by decide +kernel
theorem dX7_purseOf_20 : decode cX7_purseOf 20 = .ok (.iload_n 2, 1) := by decide +kernel
theorem dX7_purseOf_21 : decode cX7_purseOf 21 = .ok (.iconst 5, 1) := by decide +kernel
theorem dX7_purseOf_22 : decode cX7_purseOf 22 = .ok (.idiv, 1) := by decide +kernel
theorem dX7_purseOf_23 : decode cX7_purseOf 23 = .ok (.istore_n 2, 1) := by decide +kernel
theorem dX7_purseOf_24 : decode cX7_purseOf 24 = .ok (.iinc 3 1, 3) := by decide +kernel
theorem dX7_purseOf_27 : decode cX7_purseOf 27 = .ok (.goto (-21), 3) := by decide +kernel
theorem dX7_purseOf_30 : decode cX7_purseOf 30 = .ok (.iload_n 1, 1) := by decide +kernel
theorem dX7_purseOf_31 : decode cX7_purseOf 31 = .ok (.ireturn, 1) := by decide +kernel
theorem dX8_init_0 : decode cX8_init 0 = .ok (.aload_n 0, 1) := by decide +kernel
theorem dX8_init_1 : decode cX8_init 1 = .ok (.invokespecial 3, 3) := by decide +kernel
theorem dX8_init_4 : decode cX8_init 4 = .ok (.aload_n 0, 1) := by decide +kernel
theorem dX8_init_5 : decode cX8_init 5 = .ok (.iconst 5, 1) := by decide +kernel
theorem dX8_init_6 : decode cX8_init 6 = .ok (.newarray .int, 2) := by decide +kernel
theorem dX8_init_8 : decode cX8_init 8 = .ok (.putfield 9, 3) := by decide +kernel
theorem dX8_init_11 : decode cX8_init 11 = .ok (.aload_n 0, 1) := by decide +kernel
theorem dX8_init_12 : decode cX8_init 12 = .ok (.bipush 64, 2) := by decide +kernel
theorem dX8_init_14 : decode cX8_init 14 = .ok (.newarray .int, 2) := by decide +kernel
theorem dX8_init_16 : decode cX8_init 16 = .ok (.putfield 17, 3) := by decide +kernel
theorem dX8_init_19 : decode cX8_init 19 = .ok (.aload_n 0, 1) := by decide +kernel
theorem dX8_init_20 : decode cX8_init 20 = .ok (.bipush 64, 2) := by decide +kernel
theorem dX8_init_22 : decode cX8_init 22 = .ok (.newarray .int, 2) := by decide +kernel
theorem dX8_init_24 : decode cX8_init 24 = .ok (.putfield 20, 3) := by decide +kernel
theorem dX8_init_27 : decode cX8_init 27 = .ok (.aload_n 0, 1) := by decide +kernel
theorem dX8_init_28 : decode cX8_init 28 = .ok (.getstatic 23, 3) := by decide +kernel
theorem dX8_init_31 : decode cX8_init 31 = .ok (.putfield 29, 3) := by decide +kernel
theorem dX8_init_34 : decode cX8_init 34 = .ok (.return_, 1) := by decide +kernel
theorem dX8_begin_0 : decode cX8_begin 0 = .ok (.aload_n 0, 1) := by decide +kernel
theorem dX8_begin_1 : decode cX8_begin 1 = .ok (.iconst 1, 1) := by decide +kernel
theorem dX8_begin_2 : decode cX8_begin 2 = .ok (.putfield 32, 3) := by decide +kernel
theorem dX8_begin_5 : decode cX8_begin 5 = .ok (.aload_n 0, 1) := by decide +kernel
theorem dX8_begin_6 : decode cX8_begin 6 = .ok (.aload_n 1, 1) := by decide +kernel
theorem dX8_begin_7 : decode cX8_begin 7 = .ok (.getfield 36, 3) := by decide +kernel
theorem dX8_begin_10 : decode cX8_begin 10 = .ok (.putfield 29, 3) := by decide +kernel
theorem dX8_begin_13 : decode cX8_begin 13 = .ok (.aload_n 0, 1) := by decide +kernel
theorem dX8_begin_14 : decode cX8_begin 14 = .ok (.aload_n 1, 1) := by decide +kernel
theorem dX8_begin_15 : decode cX8_begin 15 = .ok (.getfield 39, 3) := by decide +kernel
theorem dX8_begin_18 : decode cX8_begin 18 = .ok (.putfield 43, 3) := by decide +kernel
theorem dX8_begin_21 : decode cX8_begin 21 = .ok (.aload_n 0, 1) := by decide +kernel
theorem dX8_begin_22 : decode cX8_begin 22 = .ok (.iconst 0, 1) := by decide +kernel
theorem dX8_begin_23 : decode cX8_begin 23 = .ok (.putfield 46, 3) := by decide +kernel
theorem dX8_begin_26 : decode cX8_begin 26 = .ok (.return_, 1) := by decide +kernel
theorem dX8_add_0 : decode cX8_add 0 = .ok (.aload_n 0, 1) := by decide +kernel
theorem dX8_add_1 : decode cX8_add 1 = .ok (.getfield 46, 3) := by decide +kernel
theorem dX8_add_4 : decode cX8_add 4 = .ok (.aload_n 0, 1) := by decide +kernel
theorem dX8_add_5 : decode cX8_add 5 = .ok (.getfield 9, 3) := by decide +kernel
theorem dX8_add_8 : decode cX8_add 8 = .ok (.arraylength, 1) := by decide +kernel
theorem dX8_add_9 : decode cX8_add 9 = .ok (.if_icmp .lt 6, 3) := by decide +kernel
theorem dX8_add_12 : decode cX8_add 12 = .ok (.bipush (-104), 2) := by decide +kernel
theorem dX8_add_14 : decode cX8_add 14 = .ok (.ireturn, 1) := by decide +kernel
theorem dX8_add_15 : decode cX8_add 15 = .ok (.aload_n 0, 1) := by decide +kernel
theorem dX8_add_16 : decode cX8_add 16 = .ok (.getfield 9, 3) := by decide +kernel
theorem dX8_add_19 : decode cX8_add 19 = .ok (.aload_n 0, 1) := by decide +kernel
theorem dX8_add_20 : decode cX8_add 20 = .ok (.getfield 46, 3) := by decide +kernel
theorem dX8_add_23 : decode cX8_add 23 = .ok (.iload_n 1, 1) := by decide +kernel
theorem dX8_add_24 : decode cX8_add 24 = .ok (.iastore, 1) := by decide +kernel
theorem dX8_add_25 : decode cX8_add 25 = .ok (.aload_n 0, 1) := by decide +kernel
theorem dX8_add_26 : decode cX8_add 26 = .ok (.dup, 1) := by decide +kernel
theorem dX8_add_27 : decode cX8_add 27 = .ok (.getfield 46, 3) := by decide +kernel
theorem dX8_add_30 : decode cX8_add 30 = .ok (.iconst 1, 1) := by decide +kernel
theorem dX8_add_31 : decode cX8_add 31 = .ok (.iadd, 1) := by decide +kernel
theorem dX8_add_32 : decode cX8_add 32 = .ok (.putfield 46, 3) := by decide +kernel
theorem dX8_add_35 : decode cX8_add 35 = .ok (.aload_n 0, 1) := by decide +kernel
theorem dX8_add_36 : decode cX8_add 36 = .ok (.getfield 46, 3) := by decide +kernel
theorem dX8_add_39 : decode cX8_add 39 = .ok (.ireturn, 1) := by decide +kernel
theorem dX8_pursesTold_0 : decode cX8_pursesTold 0 = .ok (.aload_n 0, 1) := by decide +kernel
theorem dX8_pursesTold_1 : decode cX8_pursesTold 1 = .ok (.getfield 32, 3) := by decide +kernel
theorem dX8_pursesTold_4 : decode cX8_pursesTold 4 = .ok (.ifCond .eq 10, 3) := by decide +kernel
theorem dX8_pursesTold_7 : decode cX8_pursesTold 7 = .ok (.aload_n 0, 1) := by decide +kernel
theorem dX8_pursesTold_8 : decode cX8_pursesTold 8 = .ok (.getfield 46, 3) := by decide +kernel
theorem dX8_pursesTold_11 : decode cX8_pursesTold 11 = .ok (.goto 4, 3) := by decide +kernel
theorem dX8_pursesTold_14 : decode cX8_pursesTold 14 = .ok (.iconst 0, 1) := by decide +kernel
theorem dX8_pursesTold_15 : decode cX8_pursesTold 15 = .ok (.ireturn, 1) := by decide +kernel
set_option maxRecDepth 20000 in
theorem ggX8_follow_J7_fill_53178 : GoodIn wsX8_follow wsJ7_fill_53178 := goodIn_r _ [8] (by decide +kernel) (by decide +kernel)
set_option maxRecDepth 20000 in
theorem gX8_follow_J7_fill_53178 : GoodIn wsX8_follow (va_wsS RX8 49 yJ7_fill_53178 wsJ7_fill_53178) := goodIn_app (goodIn_of _ (by decide +kernel)) ggX8_follow_J7_fill_53178
set_option maxRecDepth 20000 in
theorem ggX8_follow_X7_placeOf : GoodIn wsX8_follow wsX7_placeOf := goodIn_r _ [12] (by decide +kernel) (by decide +kernel)
set_option maxRecDepth 20000 in
theorem gX8_follow_X7_placeOf : GoodIn wsX8_follow (va_wsS RX8 55 yX7_placeOf wsX7_placeOf) := goodIn_app (goodIn_of _ (by decide +kernel)) ggX8_follow_X7_placeOf
set_option maxRecDepth 20000 in
theorem ggX8_follow_X7_withoutPlace : GoodIn wsX8_follow wsX7_withoutPlace := goodIn_r _ [15] (by decide +kernel) (by decide +kernel)
set_option maxRecDepth 20000 in
theorem gX8_follow_X7_withoutPlace : GoodIn wsX8_follow (va_wsS RX8 59 yX7_withoutPlace wsX7_withoutPlace) := goodIn_app (goodIn_of _ (by decide +kernel)) ggX8_follow_X7_withoutPlace
set_option maxRecDepth 20000 in
theorem ggX8_follow_X8_followAct : GoodIn wsX8_follow wsX8_followAct := goodIn_r _ [20, 21, 1, 5, 6, 7, 8, 22, 23, 24, 25, 26, 27, 28, 29, 30, 31, 11, 32, 33, 34, 35, 36, 37, 38, 39, 40, 41, 42, 43, 44, 45, 46, 47, 48, 49, 50, 51, 52, 53, 54, 55, 56, 57, 58, 59, 60, 61, 62, 63, 13, 14, 15, 9, 10, 12, 64, 65, 66, 67, 68, 69, 70, 71, 72, 73, 74] (by decide +kernel) (by decide +kernel)
set_option maxRecDepth 20000 in
theorem gX8_follow_X8_followAct : GoodIn wsX8_follow (wsV RX8 62 RX8 yX8_followAct wsX8_followAct) := goodIn_app (goodIn_of _ (by decide +kernel)) ggX8_follow_X8_followAct
theorem dX8_follow_0 : decode cX8_follow 0 = .ok (.aload_n 0, 1) := by decide +kernel
theorem dX8_follow_1 : decode cX8_follow 1 = .ok (.getfield 17, 3) := by decide +kernel
theorem dX8_follow_4 : decode cX8_follow 4 = .ok (.iconst 0, 1) := by decide +kernel
theorem dX8_follow_5 : decode cX8_follow 5 = .ok (.invokestatic 49, 3) := by decide +kernel
theorem dX8_follow_8 : decode cX8_follow 8 = .ok (.aload_n 0, 1) := by decide +kernel
theorem dX8_follow_9 : decode cX8_follow 9 = .ok (.getfield 17, 3) := by decide +kernel
theorem dX8_follow_12 : decode cX8_follow 12 = .ok (.aload_n 0, 1) := by decide +kernel
theorem dX8_follow_13 : decode cX8_follow 13 = .ok (.getfield 43, 3) := by decide +kernel
theorem dX8_follow_16 : decode cX8_follow 16 = .ok (.invokestatic 55, 3) := by decide +kernel
theorem dX8_follow_19 : decode cX8_follow 19 = .ok (.iconst 1, 1) := by decide +kernel
theorem dX8_follow_20 : decode cX8_follow 20 = .ok (.iastore, 1) := by decide +kernel
theorem dX8_follow_21 : decode cX8_follow 21 = .ok (.aload_n 0, 1) := by decide +kernel
theorem dX8_follow_22 : decode cX8_follow 22 = .ok (.getfield 43, 3) := by decide +kernel
theorem dX8_follow_25 : decode cX8_follow 25 = .ok (.invokestatic 59, 3) := by decide +kernel
theorem dX8_follow_28 : decode cX8_follow 28 = .ok (.istore_n 2, 1) := by decide +kernel
theorem dX8_follow_29 : decode cX8_follow 29 = .ok (.iconst 0, 1) := by decide +kernel
theorem dX8_follow_30 : decode cX8_follow 30 = .ok (.istore_n 3, 1) := by decide +kernel
theorem dX8_follow_31 : decode cX8_follow 31 = .ok (.iload_n 3, 1) := by decide +kernel
theorem dX8_follow_32 : decode cX8_follow 32 = .ok (.aload_n 0, 1) := by decide +kernel
theorem dX8_follow_33 : decode cX8_follow 33 = .ok (.getfield 46, 3) := by decide +kernel
theorem dX8_follow_36 : decode cX8_follow 36 = .ok (.if_icmp .ge 28, 3) := by decide +kernel
theorem dX8_follow_39 : decode cX8_follow 39 = .ok (.aload_n 0, 1) := by decide +kernel
theorem dX8_follow_40 : decode cX8_follow 40 = .ok (.aload_n 1, 1) := by decide +kernel
theorem dX8_follow_41 : decode cX8_follow 41 = .ok (.iload_n 2, 1) := by decide +kernel
theorem dX8_follow_42 : decode cX8_follow 42 = .ok (.aload_n 0, 1) := by decide +kernel
theorem dX8_follow_43 : decode cX8_follow 43 = .ok (.getfield 9, 3) := by decide +kernel
theorem dX8_follow_46 : decode cX8_follow 46 = .ok (.iload_n 3, 1) := by decide +kernel
theorem dX8_follow_47 : decode cX8_follow 47 = .ok (.iaload, 1) := by decide +kernel
theorem dX8_follow_48 : decode cX8_follow 48 = .ok (.invokevirtual 62, 3) := by decide +kernel
theorem dX8_follow_51 : decode cX8_follow 51 = .ok (.aload_n 0, 1) := by decide +kernel
theorem dX8_follow_52 : decode cX8_follow 52 = .ok (.getfield 9, 3) := by decide +kernel
theorem dX8_follow_55 : decode cX8_follow 55 = .ok (.iload_n 3, 1) := by decide +kernel
theorem dX8_follow_56 : decode cX8_follow 56 = .ok (.iaload, 1) := by decide +kernel
theorem dX8_follow_57 : decode cX8_follow 57 = .ok (.istore_n 2, 1) := by decide +kernel
theorem dX8_follow_58 : decode cX8_follow 58 = .ok (.iinc 3 1, 3) := by decide +kernel
theorem dX8_follow_61 : decode cX8_follow 61 = .ok (.goto (-30), 3) := by decide +kernel
theorem dX8_follow_64 : decode cX8_follow 64 = .ok (.return_, 1) := by decide +kernel
theorem dX8_rows_0 : decode cX8_rows 0 = .ok (.iconst 0, 1) := by decide +kernel
theorem dX8_rows_1 : decode cX8_rows 1 = .ok (.istore_n 1, 1) := by decide +kernel
theorem dX8_rows_2 : decode cX8_rows 2 = .ok (.iconst 0, 1) := by decide +kernel
theorem dX8_rows_3 : decode cX8_rows 3 = .ok (.istore_n 2, 1) := by decide +kernel
theorem dX8_rows_4 : decode cX8_rows 4 = .ok (.iload_n 2, 1) := by decide +kernel
theorem dX8_rows_5 : decode cX8_rows 5 = .ok (.bipush 64, 2) := by decide +kernel
theorem dX8_rows_7 : decode cX8_rows 7 = .ok (.if_icmp .ge 18, 3) := by decide +kernel
theorem dX8_rows_10 : decode cX8_rows 10 = .ok (.iload_n 1, 1) := by decide +kernel
theorem dX8_rows_11 : decode cX8_rows 11 = .ok (.aload_n 0, 1) := by decide +kernel
theorem dX8_rows_12 : decode cX8_rows 12 = .ok (.getfield 17, 3) := by decide +kernel
theorem dX8_rows_15 : decode cX8_rows 15 = .ok (.iload_n 2, 1) := by decide +kernel
theorem dX8_rows_16 : decode cX8_rows 16 = .ok (.iaload, 1) := by decide +kernel
theorem dX8_rows_17 : decode cX8_rows 17 = .ok (.iadd, 1) := by decide +kernel
theorem dX8_rows_18 : decode cX8_rows 18 = .ok (.istore_n 1, 1) := by decide +kernel
theorem dX8_rows_19 : decode cX8_rows 19 = .ok (.iinc 2 1, 3) := by decide +kernel
theorem dX8_rows_22 : decode cX8_rows 22 = .ok (.goto (-18), 3) := by decide +kernel
theorem dX8_rows_25 : decode cX8_rows 25 = .ok (.iload_n 1, 1) := by decide +kernel
theorem dX8_rows_26 : decode cX8_rows 26 = .ok (.ireturn, 1) := by decide +kernel
set_option maxRecDepth 20000 in
theorem ggX8_towns_X7_townOf : GoodIn wsX8_towns wsX7_townOf := goodIn_r _ [5] (by decide +kernel) (by decide +kernel)
set_option maxRecDepth 20000 in
theorem gX8_towns_X7_townOf : GoodIn wsX8_towns (va_wsS RX8 66 yX7_townOf wsX7_townOf) := goodIn_app (goodIn_of _ (by decide +kernel)) ggX8_towns_X7_townOf
theorem dX8_towns_0 : decode cX8_towns 0 = .ok (.iconst 0, 1) := by decide +kernel
theorem dX8_towns_1 : decode cX8_towns 1 = .ok (.istore_n 1, 1) := by decide +kernel
theorem dX8_towns_2 : decode cX8_towns 2 = .ok (.iconst 0, 1) := by decide +kernel
theorem dX8_towns_3 : decode cX8_towns 3 = .ok (.istore_n 2, 1) := by decide +kernel
theorem dX8_towns_4 : decode cX8_towns 4 = .ok (.iload_n 2, 1) := by decide +kernel
theorem dX8_towns_5 : decode cX8_towns 5 = .ok (.bipush 64, 2) := by decide +kernel
theorem dX8_towns_7 : decode cX8_towns 7 = .ok (.if_icmp .ge 27, 3) := by decide +kernel
theorem dX8_towns_10 : decode cX8_towns 10 = .ok (.aload_n 0, 1) := by decide +kernel
theorem dX8_towns_11 : decode cX8_towns 11 = .ok (.getfield 17, 3) := by decide +kernel
theorem dX8_towns_14 : decode cX8_towns 14 = .ok (.iload_n 2, 1) := by decide +kernel
theorem dX8_towns_15 : decode cX8_towns 15 = .ok (.iaload, 1) := by decide +kernel
theorem dX8_towns_16 : decode cX8_towns 16 = .ok (.ifCond .le 12, 3) := by decide +kernel
theorem dX8_towns_19 : decode cX8_towns 19 = .ok (.iload_n 1, 1) := by decide +kernel
theorem dX8_towns_20 : decode cX8_towns 20 = .ok (.iconst 1, 1) := by decide +kernel
theorem dX8_towns_21 : decode cX8_towns 21 = .ok (.iload_n 2, 1) := by decide +kernel
theorem dX8_towns_22 : decode cX8_towns 22 = .ok (.invokestatic 66, 3) := by decide +kernel
theorem dX8_towns_25 : decode cX8_towns 25 = .ok (.ishl, 1) := by decide +kernel
theorem dX8_towns_26 : decode cX8_towns 26 = .ok (.ior, 1) := by decide +kernel
theorem dX8_towns_27 : decode cX8_towns 27 = .ok (.istore_n 1, 1) := by decide +kernel
theorem dX8_towns_28 : decode cX8_towns 28 = .ok (.iinc 2 1, 3) := by decide +kernel
theorem dX8_towns_31 : decode cX8_towns 31 = .ok (.goto (-27), 3) := by decide +kernel
theorem dX8_towns_34 : decode cX8_towns 34 = .ok (.iload_n 1, 1) := by decide +kernel
theorem dX8_towns_35 : decode cX8_towns 35 = .ok (.ireturn, 1) := by decide +kernel
set_option maxRecDepth 20000 in
theorem ggX8_followAct_J7_fill_53178 : GoodIn wsX8_followAct wsJ7_fill_53178 := goodIn_r _ [6] (by decide +kernel) (by decide +kernel)
set_option maxRecDepth 20000 in
theorem gX8_followAct_J7_fill_53178 : GoodIn wsX8_followAct (va_wsS RX8 49 yJ7_fill_53178 wsJ7_fill_53178) := goodIn_app (goodIn_of _ (by decide +kernel)) ggX8_followAct_J7_fill_53178
set_option maxRecDepth 20000 in
theorem ggX8_followAct_X0_after : GoodIn wsX8_followAct wsX0_after := goodIn_r _ [11, 12, 13, 10, 14, 15, 16, 17, 18, 19, 20, 21, 22, 23, 24, 25, 26, 27, 28, 29, 30, 31, 32, 33, 34, 35, 36, 37, 38, 39, 40, 41, 42, 43, 44, 45, 46, 47, 48, 49, 63, 64, 65, 66] (by decide +kernel) (by decide +kernel)
set_option maxRecDepth 20000 in
theorem gX8_followAct_X0_after : GoodIn wsX8_followAct (wsV RX8 74 RX0 yX0_after wsX0_after) := goodIn_app (goodIn_of _ (by decide +kernel)) ggX8_followAct_X0_after
set_option maxRecDepth 20000 in
theorem ggX8_followAct_X7_withoutPlace : GoodIn wsX8_followAct wsX7_withoutPlace := goodIn_r _ [52] (by decide +kernel) (by decide +kernel)
set_option maxRecDepth 20000 in
theorem gX8_followAct_X7_withoutPlace : GoodIn wsX8_followAct (va_wsS RX8 59 yX7_withoutPlace wsX7_withoutPlace) := goodIn_app (goodIn_of _ (by decide +kernel)) ggX8_followAct_X7_withoutPlace
set_option maxRecDepth 20000 in
theorem ggX8_followAct_X7_placeOf : GoodIn wsX8_followAct wsX7_placeOf := goodIn_r _ [55] (by decide +kernel) (by decide +kernel)
set_option maxRecDepth 20000 in
theorem gX8_followAct_X7_placeOf : GoodIn wsX8_followAct (va_wsS RX8 55 yX7_placeOf wsX7_placeOf) := goodIn_app (goodIn_of _ (by decide +kernel)) ggX8_followAct_X7_placeOf
theorem dX8_followAct_0 : decode cX8_followAct 0 = .ok (.aload_n 0, 1) := by decide +kernel
theorem dX8_followAct_1 : decode cX8_followAct 1 = .ok (.getfield 20, 3) := by decide +kernel
theorem dX8_followAct_4 : decode cX8_followAct 4 = .ok (.iconst 0, 1) := by decide +kernel
theorem dX8_followAct_5 : decode cX8_followAct 5 = .ok (.invokestatic 49, 3) := by decide +kernel
theorem dX8_followAct_8 : decode cX8_followAct 8 = .ok (.iconst 0, 1) := by decide +kernel
theorem dX8_followAct_9 : decode cX8_followAct 9 = .ok (.istore 4, 2) := by decide +kernel
theorem dX8_followAct_11 : decode cX8_followAct 11 = .ok (.iload 4, 2) := by decide +kernel
theorem dX8_followAct_13 : decode cX8_followAct 13 = .ok (.bipush 64, 2) := by decide +kernel
theorem dX8_followAct_15 : decode cX8_followAct 15 = .ok (.if_icmp .ge 103, 3) := by decide +kernel
theorem dX8_followAct_18 : decode cX8_followAct 18 = .ok (.getstatic 69, 3) := by decide +kernel
theorem dX8_followAct_21 : decode cX8_followAct 21 = .ok (.astore 5, 2) := by decide +kernel
theorem dX8_followAct_23 : decode cX8_followAct 23 = .ok (.aload 5, 2) := by decide +kernel
theorem dX8_followAct_25 : decode cX8_followAct 25 = .ok (.arraylength, 1) := by decide +kernel
theorem dX8_followAct_26 : decode cX8_followAct 26 = .ok (.istore 6, 2) := by decide +kernel
theorem dX8_followAct_28 : decode cX8_followAct 28 = .ok (.iconst 0, 1) := by decide +kernel
theorem dX8_followAct_29 : decode cX8_followAct 29 = .ok (.istore 7, 2) := by decide +kernel
theorem dX8_followAct_31 : decode cX8_followAct 31 = .ok (.iload 7, 2) := by decide +kernel
theorem dX8_followAct_33 : decode cX8_followAct 33 = .ok (.iload 6, 2) := by decide +kernel
theorem dX8_followAct_35 : decode cX8_followAct 35 = .ok (.if_icmp .ge 77, 3) := by decide +kernel
theorem dX8_followAct_38 : decode cX8_followAct 38 = .ok (.aload 5, 2) := by decide +kernel
theorem dX8_followAct_40 : decode cX8_followAct 40 = .ok (.iload 7, 2) := by decide +kernel
theorem dX8_followAct_42 : decode cX8_followAct 42 = .ok (.iaload, 1) := by decide +kernel
theorem dX8_followAct_43 : decode cX8_followAct 43 = .ok (.istore 8, 2) := by decide +kernel
theorem dX8_followAct_45 : decode cX8_followAct 45 = .ok (.aload_n 0, 1) := by decide +kernel
theorem dX8_followAct_46 : decode cX8_followAct 46 = .ok (.getfield 17, 3) := by decide +kernel
theorem dX8_followAct_49 : decode cX8_followAct 49 = .ok (.iload 4, 2) := by decide +kernel
theorem dX8_followAct_51 : decode cX8_followAct 51 = .ok (.iaload, 1) := by decide +kernel
theorem dX8_followAct_52 : decode cX8_followAct 52 = .ok (.ifCond .ne 7, 3) := by decide +kernel
theorem dX8_followAct_55 : decode cX8_followAct 55 = .ok (.iconst (-1), 1) := by decide +kernel
theorem dX8_followAct_56 : decode cX8_followAct 56 = .ok (.goto 13, 3) := by decide +kernel
theorem dX8_followAct_59 : decode cX8_followAct 59 = .ok (.aload_n 1, 1) := by decide +kernel
theorem dX8_followAct_60 : decode cX8_followAct 60 = .ok (.iload_n 2, 1) := by decide +kernel
theorem dX8_followAct_61 : decode cX8_followAct 61 = .ok (.iload 4, 2) := by decide +kernel
theorem dX8_followAct_63 : decode cX8_followAct 63 = .ok (.ior, 1) := by decide +kernel
theorem dX8_followAct_64 : decode cX8_followAct 64 = .ok (.iload 8, 2) := by decide +kernel
theorem dX8_followAct_66 : decode cX8_followAct 66 = .ok (.invokevirtual 74, 3) := by decide +kernel
theorem dX8_followAct_69 : decode cX8_followAct 69 = .ok (.istore 9, 2) := by decide +kernel
theorem dX8_followAct_71 : decode cX8_followAct 71 = .ok (.iload 9, 2) := by decide +kernel
theorem dX8_followAct_73 : decode cX8_followAct 73 = .ok (.iconst (-1), 1) := by decide +kernel
theorem dX8_followAct_74 : decode cX8_followAct 74 = .ok (.if_icmp .eq 32, 3) := by decide +kernel
theorem dX8_followAct_77 : decode cX8_followAct 77 = .ok (.iload 9, 2) := by decide +kernel
theorem dX8_followAct_79 : decode cX8_followAct 79 = .ok (.invokestatic 59, 3) := by decide +kernel
theorem dX8_followAct_82 : decode cX8_followAct 82 = .ok (.iload_n 3, 1) := by decide +kernel
theorem dX8_followAct_83 : decode cX8_followAct 83 = .ok (.if_icmp .ne 23, 3) := by decide +kernel
theorem dX8_followAct_86 : decode cX8_followAct 86 = .ok (.aload_n 0, 1) := by decide +kernel
theorem dX8_followAct_87 : decode cX8_followAct 87 = .ok (.getfield 20, 3) := by decide +kernel
theorem dX8_followAct_90 : decode cX8_followAct 90 = .ok (.iload 9, 2) := by decide +kernel
theorem dX8_followAct_92 : decode cX8_followAct 92 = .ok (.invokestatic 55, 3) := by decide +kernel
theorem dX8_followAct_95 : decode cX8_followAct 95 = .ok (.dup2, 1) := by decide +kernel
theorem dX8_followAct_96 : decode cX8_followAct 96 = .ok (.iaload, 1) := by decide +kernel
theorem dX8_followAct_97 : decode cX8_followAct 97 = .ok (.aload_n 0, 1) := by decide +kernel
theorem dX8_followAct_98 : decode cX8_followAct 98 = .ok (.getfield 17, 3) := by decide +kernel
theorem dX8_followAct_101 : decode cX8_followAct 101 = .ok (.iload 4, 2) := by decide +kernel
theorem dX8_followAct_103 : decode cX8_followAct 103 = .ok (.iaload, 1) := by decide +kernel
theorem dX8_followAct_104 : decode cX8_followAct 104 = .ok (.iadd, 1) := by decide +kernel
theorem dX8_followAct_105 : decode cX8_followAct 105 = .ok (.iastore, 1) := by decide +kernel
theorem dX8_followAct_106 : decode cX8_followAct 106 = .ok (.iinc 7 1, 3) := by decide +kernel
theorem dX8_followAct_109 : decode cX8_followAct 109 = .ok (.goto (-78), 3) := by decide +kernel
theorem dX8_followAct_112 : decode cX8_followAct 112 = .ok (.iinc 4 1, 3) := by decide +kernel
theorem dX8_followAct_115 : decode cX8_followAct 115 = .ok (.goto (-104), 3) := by decide +kernel
theorem dX8_followAct_118 : decode cX8_followAct 118 = .ok (.aload_n 0, 1) := by decide +kernel
theorem dX8_followAct_119 : decode cX8_followAct 119 = .ok (.getfield 17, 3) := by decide +kernel
theorem dX8_followAct_122 : decode cX8_followAct 122 = .ok (.astore 4, 2) := by decide +kernel
theorem dX8_followAct_124 : decode cX8_followAct 124 = .ok (.aload_n 0, 1) := by decide +kernel
theorem dX8_followAct_125 : decode cX8_followAct 125 = .ok (.aload_n 0, 1) := by decide +kernel
theorem dX8_followAct_126 : decode cX8_followAct 126 = .ok (.getfield 20, 3) := by decide +kernel
theorem dX8_followAct_129 : decode cX8_followAct 129 = .ok (.putfield 17, 3) := by decide +kernel
theorem dX8_followAct_132 : decode cX8_followAct 132 = .ok (.aload_n 0, 1) := by decide +kernel
theorem dX8_followAct_133 : decode cX8_followAct 133 = .ok (.aload 4, 2) := by decide +kernel
theorem dX8_followAct_135 : decode cX8_followAct 135 = .ok (.putfield 20, 3) := by decide +kernel
theorem dX8_followAct_138 : decode cX8_followAct 138 = .ok (.return_, 1) := by decide +kernel
end
section
set_option maxRecDepth 20000 in
theorem ggX9_init_X4_init : GoodIn wsX9_init wsX4_init := goodIn_r _ [34, 35, 2, 3, 36, 37, 76, 77] (by decide +kernel) (by decide +kernel)
set_option maxRecDepth 20000 in
theorem gX9_init_X4_init_n9 : GoodIn wsX9_init (wsX4_init) := ggX9_init_X4_init
set_option maxRecDepth 20000 in
theorem ggX9_init_X0_init : GoodIn wsX9_init wsX0_init := goodIn_r _ [39, 40, 2, 3, 36, 41, 42, 43, 44, 90, 91, 92, 93] (by decide +kernel) (by decide +kernel)
set_option maxRecDepth 20000 in
theorem gX9_init_X0_init_n24 : GoodIn wsX9_init (wsX0_init) := ggX9_init_X0_init
set_option maxRecDepth 20000 in
theorem ggX9_init_X6_init : GoodIn wsX9_init wsX6_init := goodIn_r _ [46, 47, 2, 3, 36, 48, 49, 50, 94, 95, 96, 97, 98, 99] (by decide +kernel) (by decide +kernel)
set_option maxRecDepth 20000 in
theorem gX9_init_X6_init_n31 : GoodIn wsX9_init (wsX6_init) := ggX9_init_X6_init
set_option maxRecDepth 20000 in
theorem ggX9_init_X8_init : GoodIn wsX9_init wsX8_init := goodIn_r _ [52, 53, 2, 3, 36, 54, 55, 56, 57, 58, 100, 101, 102, 103, 104, 105, 106] (by decide +kernel) (by decide +kernel)
set_option maxRecDepth 20000 in
theorem gX9_init_X8_init_n38 : GoodIn wsX9_init (wsX8_init) := ggX9_init_X8_init
set_option maxRecDepth 20000 in
theorem ggX9_init_X1_init : GoodIn wsX9_init wsX1_init := goodIn_r _ [60, 61, 2, 3, 36, 62, 63, 107, 108, 109, 110, 111] (by decide +kernel) (by decide +kernel)
set_option maxRecDepth 20000 in
theorem gX9_init_X1_init_n45 : GoodIn wsX9_init (wsX1_init) := ggX9_init_X1_init
set_option maxRecDepth 20000 in
theorem ggX9_init_X3_init : GoodIn wsX9_init wsX3_init := goodIn_r _ [65, 66, 2, 3, 36, 67, 68, 69, 70, 112, 113, 114, 115, 116, 117] (by decide +kernel) (by decide +kernel)
set_option maxRecDepth 20000 in
theorem gX9_init_X3_init_n52 : GoodIn wsX9_init (wsX3_init) := ggX9_init_X3_init
set_option maxRecDepth 20000 in
theorem ggX9_init_X5_init : GoodIn wsX9_init wsX5_init := goodIn_r _ [72, 73, 2, 3, 74, 75, 118, 119] (by decide +kernel) (by decide +kernel)
set_option maxRecDepth 20000 in
theorem gX9_init_X5_init_n60 : GoodIn wsX9_init (wsX5_init) := ggX9_init_X5_init
theorem dX9_init_0 : decode cX9_init 0 = .ok (.aload_n 0, 1) := by decide +kernel
theorem dX9_init_1 : decode cX9_init 1 = .ok (.invokespecial 1, 3) := by decide +kernel
theorem dX9_init_4 : decode cX9_init 4 = .ok (.aload_n 0, 1) := by decide +kernel
theorem dX9_init_5 : decode cX9_init 5 = .ok (.new 7, 3) := by decide +kernel
theorem dX9_init_8 : decode cX9_init 8 = .ok (.dup, 1) := by decide +kernel
theorem dX9_init_9 : decode cX9_init 9 = .ok (.invokespecial 9, 3) := by decide +kernel
theorem dX9_init_12 : decode cX9_init 12 = .ok (.putfield 10, 3) := by decide +kernel
theorem dX9_init_15 : decode cX9_init 15 = .ok (.aload_n 0, 1) := by decide +kernel
theorem dX9_init_16 : decode cX9_init 16 = .ok (.iconst 5, 1) := by decide +kernel
theorem dX9_init_17 : decode cX9_init 17 = .ok (.anewarray 16, 3) := by decide +kernel
theorem dX9_init_20 : decode cX9_init 20 = .ok (.putfield 18, 3) := by decide +kernel
theorem dX9_init_23 : decode cX9_init 23 = .ok (.aload_n 0, 1) := by decide +kernel
theorem dX9_init_24 : decode cX9_init 24 = .ok (.new 22, 3) := by decide +kernel
theorem dX9_init_27 : decode cX9_init 27 = .ok (.dup, 1) := by decide +kernel
theorem dX9_init_28 : decode cX9_init 28 = .ok (.invokespecial 24, 3) := by decide +kernel
theorem dX9_init_31 : decode cX9_init 31 = .ok (.putfield 25, 3) := by decide +kernel
theorem dX9_init_34 : decode cX9_init 34 = .ok (.aload_n 0, 1) := by decide +kernel
theorem dX9_init_35 : decode cX9_init 35 = .ok (.new 29, 3) := by decide +kernel
theorem dX9_init_38 : decode cX9_init 38 = .ok (.dup, 1) := by decide +kernel
theorem dX9_init_39 : decode cX9_init 39 = .ok (.invokespecial 31, 3) := by decide +kernel
theorem dX9_init_42 : decode cX9_init 42 = .ok (.putfield 32, 3) := by decide +kernel
theorem dX9_init_45 : decode cX9_init 45 = .ok (.aload_n 0, 1) := by decide +kernel
theorem dX9_init_46 : decode cX9_init 46 = .ok (.new 36, 3) := by decide +kernel
theorem dX9_init_49 : decode cX9_init 49 = .ok (.dup, 1) := by decide +kernel
theorem dX9_init_50 : decode cX9_init 50 = .ok (.invokespecial 38, 3) := by decide +kernel
theorem dX9_init_53 : decode cX9_init 53 = .ok (.putfield 39, 3) := by decide +kernel
theorem dX9_init_56 : decode cX9_init 56 = .ok (.aload_n 0, 1) := by decide +kernel
theorem dX9_init_57 : decode cX9_init 57 = .ok (.new 43, 3) := by decide +kernel
theorem dX9_init_60 : decode cX9_init 60 = .ok (.dup, 1) := by decide +kernel
theorem dX9_init_61 : decode cX9_init 61 = .ok (.invokespecial 45, 3) := by decide +kernel
theorem dX9_init_64 : decode cX9_init 64 = .ok (.putfield 46, 3) := by decide +kernel
theorem dX9_init_67 : decode cX9_init 67 = .ok (.aload_n 0, 1) := by decide +kernel
theorem dX9_init_68 : decode cX9_init 68 = .ok (.new 50, 3) := by decide +kernel
theorem dX9_init_71 : decode cX9_init 71 = .ok (.dup, 1) := by decide +kernel
theorem dX9_init_72 : decode cX9_init 72 = .ok (.invokespecial 52, 3) := by decide +kernel
theorem dX9_init_75 : decode cX9_init 75 = .ok (.putfield 53, 3) := by decide +kernel
theorem dX9_init_78 : decode cX9_init 78 = .ok (.aload_n 0, 1) := by decide +kernel
theorem dX9_init_79 : decode cX9_init 79 = .ok (.new 50, 3) := by decide +kernel
theorem dX9_init_82 : decode cX9_init 82 = .ok (.dup, 1) := by decide +kernel
theorem dX9_init_83 : decode cX9_init 83 = .ok (.invokespecial 52, 3) := by decide +kernel
theorem dX9_init_86 : decode cX9_init 86 = .ok (.putfield 57, 3) := by decide +kernel
theorem dX9_init_89 : decode cX9_init 89 = .ok (.iconst 0, 1) := by decide +kernel
theorem dX9_init_90 : decode cX9_init 90 = .ok (.istore_n 1, 1) := by decide +kernel
theorem dX9_init_91 : decode cX9_init 91 = .ok (.iload_n 1, 1) := by decide +kernel
theorem dX9_init_92 : decode cX9_init 92 = .ok (.iconst 5, 1) := by decide +kernel
theorem dX9_init_93 : decode cX9_init 93 = .ok (.if_icmp .ge 22, 3) := by decide +kernel
theorem dX9_init_96 : decode cX9_init 96 = .ok (.aload_n 0, 1) := by decide +kernel
theorem dX9_init_97 : decode cX9_init 97 = .ok (.getfield 18, 3) := by decide +kernel
theorem dX9_init_100 : decode cX9_init 100 = .ok (.iload_n 1, 1) := by decide +kernel
theorem dX9_init_101 : decode cX9_init 101 = .ok (.new 16, 3) := by decide +kernel
theorem dX9_init_104 : decode cX9_init 104 = .ok (.dup, 1) := by decide +kernel
theorem dX9_init_105 : decode cX9_init 105 = .ok (.invokespecial 60, 3) := by decide +kernel
theorem dX9_init_108 : decode cX9_init 108 = .ok (.aastore, 1) := by decide +kernel
theorem dX9_init_109 : decode cX9_init 109 = .ok (.iinc 1 1, 3) := by decide +kernel
theorem dX9_init_112 : decode cX9_init 112 = .ok (.goto (-21), 3) := by decide +kernel
theorem dX9_init_115 : decode cX9_init 115 = .ok (.return_, 1) := by decide +kernel
set_option maxRecDepth 20000 in
theorem ggX9_letters_X4_add : GoodIn wsX9_letters wsX4_add := goodIn_r _ [6, 7, 8, 9, 10, 5, 11, 12, 13, 14, 15, 28, 29] (by decide +kernel) (by decide +kernel)
set_option maxRecDepth 20000 in
theorem gX9_letters_X4_add : GoodIn wsX9_letters (wsV RX9 61 RX4 yX4_add wsX4_add) := goodIn_app (goodIn_of _ (by decide +kernel)) ggX9_letters_X4_add
theorem dX9_letters_0 : decode cX9_letters 0 = .ok (.aload_n 0, 1) := by decide +kernel
theorem dX9_letters_1 : decode cX9_letters 1 = .ok (.getfield 10, 3) := by decide +kernel
theorem dX9_letters_4 : decode cX9_letters 4 = .ok (.lload_n 1, 1) := by decide +kernel
theorem dX9_letters_5 : decode cX9_letters 5 = .ok (.invokevirtual 61, 3) := by decide +kernel
theorem dX9_letters_8 : decode cX9_letters 8 = .ok (.ireturn, 1) := by decide +kernel
set_option maxRecDepth 20000 in
theorem ggX9_blank_X4_clear : GoodIn wsX9_blank wsX4_clear := goodIn_r _ [6, 7, 20, 21] (by decide +kernel) (by decide +kernel)
set_option maxRecDepth 20000 in
theorem gX9_blank_X4_clear : GoodIn wsX9_blank (wsV RX9 65 RX4 yX4_clear wsX4_clear) := goodIn_app (goodIn_of _ (by decide +kernel)) ggX9_blank_X4_clear
theorem dX9_blank_0 : decode cX9_blank 0 = .ok (.aload_n 0, 1) := by decide +kernel
theorem dX9_blank_1 : decode cX9_blank 1 = .ok (.getfield 10, 3) := by decide +kernel
theorem dX9_blank_4 : decode cX9_blank 4 = .ok (.invokevirtual 65, 3) := by decide +kernel
theorem dX9_blank_7 : decode cX9_blank 7 = .ok (.ireturn, 1) := by decide +kernel
set_option maxRecDepth 20000 in
theorem ggX9_fault_X3_read : GoodIn wsX9_fault wsX3_read := goodIn_r _ [7, 8, 9, 10, 11, 12, 13, 14, 15, 16, 17, 18, 19, 6, 20, 21, 22, 23, 24, 25, 26, 27, 28, 29, 30, 31, 32, 33, 34, 35, 36, 37, 38, 39, 40, 41, 42, 43, 44, 45, 46, 47, 48, 61, 62, 63, 64, 65, 66, 67, 68] (by decide +kernel) (by decide +kernel)
set_option maxRecDepth 20000 in
theorem gX9_fault_X3_read : GoodIn wsX9_fault (wsV RX9 69 RX3 yX3_read wsX3_read) := goodIn_app (goodIn_of _ (by decide +kernel)) ggX9_fault_X3_read
theorem dX9_fault_0 : decode cX9_fault 0 = .ok (.aload_n 0, 1) := by decide +kernel
theorem dX9_fault_1 : decode cX9_fault 1 = .ok (.getfield 57, 3) := by decide +kernel
theorem dX9_fault_4 : decode cX9_fault 4 = .ok (.aload_n 0, 1) := by decide +kernel
theorem dX9_fault_5 : decode cX9_fault 5 = .ok (.getfield 10, 3) := by decide +kernel
theorem dX9_fault_8 : decode cX9_fault 8 = .ok (.invokevirtual 69, 3) := by decide +kernel
theorem dX9_fault_11 : decode cX9_fault 11 = .ok (.ireturn, 1) := by decide +kernel
set_option maxRecDepth 20000 in
theorem ggX9_law_X3_read : GoodIn wsX9_law wsX3_read := goodIn_r _ [16, 17, 18, 19, 20, 21, 22, 23, 24, 25, 26, 27, 28, 15, 29, 30, 31, 32, 33, 34, 35, 36, 37, 38, 39, 40, 41, 42, 43, 44, 45, 46, 47, 48, 49, 50, 51, 52, 53, 54, 55, 56, 57, 105, 106, 107, 108, 109, 110, 91, 92] (by decide +kernel) (by decide +kernel)
set_option maxRecDepth 20000 in
theorem gX9_law_X3_read : GoodIn wsX9_law (wsV RX9 69 RX3 yX3_read wsX3_read) := goodIn_app (goodIn_of _ (by decide +kernel)) ggX9_law_X3_read
set_option maxRecDepth 20000 in
theorem ggX9_law_X3_isWhole : GoodIn wsX9_law wsX3_isWhole := goodIn_r _ [61, 18, 19, 105, 106, 107, 108, 109, 110] (by decide +kernel) (by decide +kernel)
set_option maxRecDepth 20000 in
theorem gX9_law_X3_isWhole : GoodIn wsX9_law (wsV RX9 77 RX3 yX3_isWhole wsX3_isWhole) := goodIn_app (goodIn_of _ (by decide +kernel)) ggX9_law_X3_isWhole
set_option maxRecDepth 20000 in
theorem ggX9_law_X4_clear : GoodIn wsX9_law wsX4_clear := goodIn_r _ [66, 67, 91, 92] (by decide +kernel) (by decide +kernel)
set_option maxRecDepth 20000 in
theorem gX9_law_X4_clear : GoodIn wsX9_law (wsV RX9 65 RX4 yX4_clear wsX4_clear) := goodIn_app (goodIn_of _ (by decide +kernel)) ggX9_law_X4_clear
set_option maxRecDepth 20000 in
theorem ggX9_law_X3_coinsTaken : GoodIn wsX9_law wsX3_coinsTaken := goodIn_r _ [71, 17, 72, 73, 74, 75, 76, 77, 78, 105, 106, 107, 108, 109, 110] (by decide +kernel) (by decide +kernel)
set_option maxRecDepth 20000 in
theorem gX9_law_X3_coinsTaken : GoodIn wsX9_law (wsV RX9 97 RX3 yX3_coinsTaken wsX3_coinsTaken) := goodIn_app (goodIn_of _ (by decide +kernel)) ggX9_law_X3_coinsTaken
theorem dX9_law_0 : decode cX9_law 0 = .ok (.aload_n 0, 1) := by decide +kernel
theorem dX9_law_1 : decode cX9_law 1 = .ok (.getfield 57, 3) := by decide +kernel
theorem dX9_law_4 : decode cX9_law 4 = .ok (.aload_n 0, 1) := by decide +kernel
theorem dX9_law_5 : decode cX9_law 5 = .ok (.getfield 10, 3) := by decide +kernel
theorem dX9_law_8 : decode cX9_law 8 = .ok (.invokevirtual 69, 3) := by decide +kernel
theorem dX9_law_11 : decode cX9_law 11 = .ok (.aload_n 0, 1) := by decide +kernel
theorem dX9_law_12 : decode cX9_law 12 = .ok (.getfield 10, 3) := by decide +kernel
theorem dX9_law_15 : decode cX9_law 15 = .ok (.getfield 73, 3) := by decide +kernel
theorem dX9_law_18 : decode cX9_law 18 = .ok (.if_icmp .ne 13, 3) := by decide +kernel
theorem dX9_law_21 : decode cX9_law 21 = .ok (.aload_n 0, 1) := by decide +kernel
theorem dX9_law_22 : decode cX9_law 22 = .ok (.getfield 57, 3) := by decide +kernel
theorem dX9_law_25 : decode cX9_law 25 = .ok (.invokevirtual 77, 3) := by decide +kernel
theorem dX9_law_28 : decode cX9_law 28 = .ok (.ifCond .ne 6, 3) := by decide +kernel
theorem dX9_law_31 : decode cX9_law 31 = .ok (.bipush (-103), 2) := by decide +kernel
theorem dX9_law_33 : decode cX9_law 33 = .ok (.ireturn, 1) := by decide +kernel
theorem dX9_law_34 : decode cX9_law 34 = .ok (.aload_n 0, 1) := by decide +kernel
theorem dX9_law_35 : decode cX9_law 35 = .ok (.getfield 53, 3) := by decide +kernel
theorem dX9_law_38 : decode cX9_law 38 = .ok (.astore_n 1, 1) := by decide +kernel
theorem dX9_law_39 : decode cX9_law 39 = .ok (.aload_n 0, 1) := by decide +kernel
theorem dX9_law_40 : decode cX9_law 40 = .ok (.aload_n 0, 1) := by decide +kernel
theorem dX9_law_41 : decode cX9_law 41 = .ok (.getfield 57, 3) := by decide +kernel
theorem dX9_law_44 : decode cX9_law 44 = .ok (.putfield 53, 3) := by decide +kernel
theorem dX9_law_47 : decode cX9_law 47 = .ok (.aload_n 0, 1) := by decide +kernel
theorem dX9_law_48 : decode cX9_law 48 = .ok (.aload_n 1, 1) := by decide +kernel
theorem dX9_law_49 : decode cX9_law 49 = .ok (.putfield 57, 3) := by decide +kernel
theorem dX9_law_52 : decode cX9_law 52 = .ok (.aload_n 0, 1) := by decide +kernel
theorem dX9_law_53 : decode cX9_law 53 = .ok (.getfield 10, 3) := by decide +kernel
theorem dX9_law_56 : decode cX9_law 56 = .ok (.invokevirtual 65, 3) := by decide +kernel
theorem dX9_law_59 : decode cX9_law 59 = .ok (.pop, 1) := by decide +kernel
theorem dX9_law_60 : decode cX9_law 60 = .ok (.aload_n 0, 1) := by decide +kernel
theorem dX9_law_61 : decode cX9_law 61 = .ok (.getfield 39, 3) := by decide +kernel
theorem dX9_law_64 : decode cX9_law 64 = .ok (.iconst 0, 1) := by decide +kernel
theorem dX9_law_65 : decode cX9_law 65 = .ok (.putfield 81, 3) := by decide +kernel
theorem dX9_law_68 : decode cX9_law 68 = .ok (.aload_n 0, 1) := by decide +kernel
theorem dX9_law_69 : decode cX9_law 69 = .ok (.getfield 46, 3) := by decide +kernel
theorem dX9_law_72 : decode cX9_law 72 = .ok (.iconst 0, 1) := by decide +kernel
theorem dX9_law_73 : decode cX9_law 73 = .ok (.putfield 85, 3) := by decide +kernel
theorem dX9_law_76 : decode cX9_law 76 = .ok (.aload_n 0, 1) := by decide +kernel
theorem dX9_law_77 : decode cX9_law 77 = .ok (.iconst 0, 1) := by decide +kernel
theorem dX9_law_78 : decode cX9_law 78 = .ok (.putfield 88, 3) := by decide +kernel
theorem dX9_law_81 : decode cX9_law 81 = .ok (.aload_n 0, 1) := by decide +kernel
theorem dX9_law_82 : decode cX9_law 82 = .ok (.iconst 0, 1) := by decide +kernel
theorem dX9_law_83 : decode cX9_law 83 = .ok (.putfield 91, 3) := by decide +kernel
theorem dX9_law_86 : decode cX9_law 86 = .ok (.aload_n 0, 1) := by decide +kernel
theorem dX9_law_87 : decode cX9_law 87 = .ok (.dup, 1) := by decide +kernel
theorem dX9_law_88 : decode cX9_law 88 = .ok (.getfield 94, 3) := by decide +kernel
theorem dX9_law_91 : decode cX9_law 91 = .ok (.iconst 1, 1) := by decide +kernel
theorem dX9_law_92 : decode cX9_law 92 = .ok (.iadd, 1) := by decide +kernel
theorem dX9_law_93 : decode cX9_law 93 = .ok (.putfield 94, 3) := by decide +kernel
theorem dX9_law_96 : decode cX9_law 96 = .ok (.aload_n 0, 1) := by decide +kernel
theorem dX9_law_97 : decode cX9_law 97 = .ok (.getfield 53, 3) := by decide +kernel
theorem dX9_law_100 : decode cX9_law 100 = .ok (.invokevirtual 97, 3) := by decide +kernel
theorem dX9_law_103 : decode cX9_law 103 = .ok (.ireturn, 1) := by decide +kernel
set_option maxRecDepth 20000 in
theorem ggX9_town_X9_isTown : GoodIn wsX9_town wsX9_isTown := goodIn_r _ [9] (by decide +kernel) (by decide +kernel)
set_option maxRecDepth 20000 in
theorem gX9_town_X9_isTown : GoodIn wsX9_town (va_wsS RX9 100 yX9_isTown wsX9_isTown) := goodIn_app (goodIn_of _ (by decide +kernel)) ggX9_town_X9_isTown
set_option maxRecDepth 20000 in
theorem ggX9_town_X9_isLawless : GoodIn wsX9_town wsX9_isLawless := goodIn_r _ [13, 14, 26, 27, 28, 29, 30, 31, 32, 33, 34, 35, 36, 37] (by decide +kernel) (by decide +kernel)
set_option maxRecDepth 20000 in
theorem gX9_town_X9_isLawless : GoodIn wsX9_town (wsV RX9 104 RX9 yX9_isLawless wsX9_isLawless) := goodIn_app (goodIn_of _ (by decide +kernel)) ggX9_town_X9_isLawless
set_option maxRecDepth 20000 in
theorem ggX9_town_X9_peopleIn : GoodIn wsX9_town wsX9_peopleIn := goodIn_r _ [18, 19, 20, 21, 22, 23, 24, 25, 26, 27, 28, 29, 30, 31, 32, 33, 34, 35, 36, 37, 44, 45] (by decide +kernel) (by decide +kernel)
set_option maxRecDepth 20000 in
theorem gX9_town_X9_peopleIn : GoodIn wsX9_town (wsV RX9 120 RX9 yX9_peopleIn wsX9_peopleIn) := goodIn_app (goodIn_of _ (by decide +kernel)) ggX9_town_X9_peopleIn
theorem dX9_town_0 : decode cX9_town 0 = .ok (.iload_n 1, 1) := by decide +kernel
theorem dX9_town_1 : decode cX9_town 1 = .ok (.invokestatic 100, 3) := by decide +kernel
theorem dX9_town_4 : decode cX9_town 4 = .ok (.ifCond .ne 6, 3) := by decide +kernel
theorem dX9_town_7 : decode cX9_town 7 = .ok (.bipush (-101), 2) := by decide +kernel
theorem dX9_town_9 : decode cX9_town 9 = .ok (.ireturn, 1) := by decide +kernel
theorem dX9_town_10 : decode cX9_town 10 = .ok (.iload_n 2, 1) := by decide +kernel
theorem dX9_town_11 : decode cX9_town 11 = .ok (.ifCond .lt 8, 3) := by decide +kernel
theorem dX9_town_14 : decode cX9_town 14 = .ok (.iload_n 2, 1) := by decide +kernel
theorem dX9_town_15 : decode cX9_town 15 = .ok (.iconst 4, 1) := by decide +kernel
theorem dX9_town_16 : decode cX9_town 16 = .ok (.if_icmp .le 6, 3) := by decide +kernel
theorem dX9_town_19 : decode cX9_town 19 = .ok (.bipush (-102), 2) := by decide +kernel
theorem dX9_town_21 : decode cX9_town 21 = .ok (.ireturn, 1) := by decide +kernel
theorem dX9_town_22 : decode cX9_town 22 = .ok (.aload_n 0, 1) := by decide +kernel
theorem dX9_town_23 : decode cX9_town 23 = .ok (.invokevirtual 104, 3) := by decide +kernel
theorem dX9_town_26 : decode cX9_town 26 = .ok (.ifCond .eq 6, 3) := by decide +kernel
theorem dX9_town_29 : decode cX9_town 29 = .ok (.bipush (-103), 2) := by decide +kernel
theorem dX9_town_31 : decode cX9_town 31 = .ok (.ireturn, 1) := by decide +kernel
theorem dX9_town_32 : decode cX9_town 32 = .ok (.iload_n 2, 1) := by decide +kernel
theorem dX9_town_33 : decode cX9_town 33 = .ok (.tableswitch 71 0 3 #[31, 41, 51, 61], 31) := by decide +kernel
theorem dX9_town_64 : decode cX9_town 64 = .ok (.aload_n 0, 1) := by decide +kernel
theorem dX9_town_65 : decode cX9_town 65 = .ok (.getfield 53, 3) := by decide +kernel
theorem dX9_town_68 : decode cX9_town 68 = .ok (.getfield 107, 3) := by decide +kernel
theorem dX9_town_71 : decode cX9_town 71 = .ok (.iload_n 1, 1) := by decide +kernel
theorem dX9_town_72 : decode cX9_town 72 = .ok (.iaload, 1) := by decide +kernel
theorem dX9_town_73 : decode cX9_town 73 = .ok (.ireturn, 1) := by decide +kernel
theorem dX9_town_74 : decode cX9_town 74 = .ok (.aload_n 0, 1) := by decide +kernel
theorem dX9_town_75 : decode cX9_town 75 = .ok (.getfield 53, 3) := by decide +kernel
theorem dX9_town_78 : decode cX9_town 78 = .ok (.getfield 111, 3) := by decide +kernel
theorem dX9_town_81 : decode cX9_town 81 = .ok (.iload_n 1, 1) := by decide +kernel
theorem dX9_town_82 : decode cX9_town 82 = .ok (.iaload, 1) := by decide +kernel
theorem dX9_town_83 : decode cX9_town 83 = .ok (.ireturn, 1) := by decide +kernel
theorem dX9_town_84 : decode cX9_town 84 = .ok (.aload_n 0, 1) := by decide +kernel
theorem dX9_town_85 : decode cX9_town 85 = .ok (.getfield 53, 3) := by decide +kernel
theorem dX9_town_88 : decode cX9_town 88 = .ok (.getfield 114, 3) := by decide +kernel
theorem dX9_town_91 : decode cX9_town 91 = .ok (.iload_n 1, 1) := by decide +kernel
theorem dX9_town_92 : decode cX9_town 92 = .ok (.iaload, 1) := by decide +kernel
theorem dX9_town_93 : decode cX9_town 93 = .ok (.ireturn, 1) := by decide +kernel
theorem dX9_town_94 : decode cX9_town 94 = .ok (.aload_n 0, 1) := by decide +kernel
theorem dX9_town_95 : decode cX9_town 95 = .ok (.getfield 53, 3) := by decide +kernel
theorem dX9_town_98 : decode cX9_town 98 = .ok (.getfield 117, 3) := by decide +kernel
theorem dX9_town_101 : decode cX9_town 101 = .ok (.iload_n 1, 1) := by decide +kernel
theorem dX9_town_102 : decode cX9_town 102 = .ok (.iaload, 1) := by decide +kernel
theorem dX9_town_103 : decode cX9_town 103 = .ok (.ireturn, 1) := by decide +kernel
theorem dX9_town_104 : decode cX9_town 104 = .ok (.aload_n 0, 1) := by decide +kernel
theorem dX9_town_105 : decode cX9_town 105 = .ok (.iload_n 1, 1) := by decide +kernel
theorem dX9_town_106 : decode cX9_town 106 = .ok (.invokevirtual 120, 3) := by decide +kernel
theorem dX9_town_109 : decode cX9_town 109 = .ok (.ireturn, 1) := by decide +kernel
set_option maxRecDepth 20000 in
theorem ggX9_price_X9_isTown : GoodIn wsX9_price wsX9_isTown := goodIn_r _ [6] (by decide +kernel) (by decide +kernel)
set_option maxRecDepth 20000 in
theorem gX9_price_X9_isTown : GoodIn wsX9_price (va_wsS RX9 100 yX9_isTown wsX9_isTown) := goodIn_app (goodIn_of _ (by decide +kernel)) ggX9_price_X9_isTown
set_option maxRecDepth 20000 in
theorem ggX9_price_X9_isPrice : GoodIn wsX9_price wsX9_isPrice := goodIn_r _ [9] (by decide +kernel) (by decide +kernel)
set_option maxRecDepth 20000 in
theorem gX9_price_X9_isPrice : GoodIn wsX9_price (va_wsS RX9 124 yX9_isPrice wsX9_isPrice) := goodIn_app (goodIn_of _ (by decide +kernel)) ggX9_price_X9_isPrice
set_option maxRecDepth 20000 in
theorem ggX9_price_X9_isLawless : GoodIn wsX9_price wsX9_isLawless := goodIn_r _ [13, 14, 15, 16, 17, 18, 19, 20, 21, 22, 23, 24, 25, 26] (by decide +kernel) (by decide +kernel)
set_option maxRecDepth 20000 in
theorem gX9_price_X9_isLawless : GoodIn wsX9_price (wsV RX9 104 RX9 yX9_isLawless wsX9_isLawless) := goodIn_app (goodIn_of _ (by decide +kernel)) ggX9_price_X9_isLawless
theorem dX9_price_0 : decode cX9_price 0 = .ok (.iload_n 1, 1) := by decide +kernel
theorem dX9_price_1 : decode cX9_price 1 = .ok (.invokestatic 100, 3) := by decide +kernel
theorem dX9_price_4 : decode cX9_price 4 = .ok (.ifCond .ne 6, 3) := by decide +kernel
theorem dX9_price_7 : decode cX9_price 7 = .ok (.bipush (-101), 2) := by decide +kernel
theorem dX9_price_9 : decode cX9_price 9 = .ok (.ireturn, 1) := by decide +kernel
theorem dX9_price_10 : decode cX9_price 10 = .ok (.iload_n 2, 1) := by decide +kernel
theorem dX9_price_11 : decode cX9_price 11 = .ok (.invokestatic 124, 3) := by decide +kernel
theorem dX9_price_14 : decode cX9_price 14 = .ok (.ifCond .ne 6, 3) := by decide +kernel
theorem dX9_price_17 : decode cX9_price 17 = .ok (.bipush (-102), 2) := by decide +kernel
theorem dX9_price_19 : decode cX9_price 19 = .ok (.ireturn, 1) := by decide +kernel
theorem dX9_price_20 : decode cX9_price 20 = .ok (.aload_n 0, 1) := by decide +kernel
theorem dX9_price_21 : decode cX9_price 21 = .ok (.invokevirtual 104, 3) := by decide +kernel
theorem dX9_price_24 : decode cX9_price 24 = .ok (.ifCond .eq 6, 3) := by decide +kernel
theorem dX9_price_27 : decode cX9_price 27 = .ok (.bipush (-103), 2) := by decide +kernel
theorem dX9_price_29 : decode cX9_price 29 = .ok (.ireturn, 1) := by decide +kernel
theorem dX9_price_30 : decode cX9_price 30 = .ok (.aload_n 0, 1) := by decide +kernel
theorem dX9_price_31 : decode cX9_price 31 = .ok (.getfield 53, 3) := by decide +kernel
theorem dX9_price_34 : decode cX9_price 34 = .ok (.getfield 114, 3) := by decide +kernel
theorem dX9_price_37 : decode cX9_price 37 = .ok (.iload_n 1, 1) := by decide +kernel
theorem dX9_price_38 : decode cX9_price 38 = .ok (.iaload, 1) := by decide +kernel
theorem dX9_price_39 : decode cX9_price 39 = .ok (.istore_n 3, 1) := by decide +kernel
theorem dX9_price_40 : decode cX9_price 40 = .ok (.aload_n 0, 1) := by decide +kernel
theorem dX9_price_41 : decode cX9_price 41 = .ok (.getfield 53, 3) := by decide +kernel
theorem dX9_price_44 : decode cX9_price 44 = .ok (.getfield 114, 3) := by decide +kernel
theorem dX9_price_47 : decode cX9_price 47 = .ok (.iload_n 1, 1) := by decide +kernel
theorem dX9_price_48 : decode cX9_price 48 = .ok (.iload_n 2, 1) := by decide +kernel
theorem dX9_price_49 : decode cX9_price 49 = .ok (.iastore, 1) := by decide +kernel
theorem dX9_price_50 : decode cX9_price 50 = .ok (.iload_n 3, 1) := by decide +kernel
theorem dX9_price_51 : decode cX9_price 51 = .ok (.ireturn, 1) := by decide +kernel
set_option maxRecDepth 20000 in
theorem ggX9_person_X9_isTown : GoodIn wsX9_person wsX9_isTown := goodIn_r _ [9] (by decide +kernel) (by decide +kernel)
set_option maxRecDepth 20000 in
theorem gX9_person_X9_isTown : GoodIn wsX9_person (va_wsS RX9 100 yX9_isTown wsX9_isTown) := goodIn_app (goodIn_of _ (by decide +kernel)) ggX9_person_X9_isTown
set_option maxRecDepth 20000 in
theorem ggX9_person_X9_isKind : GoodIn wsX9_person wsX9_isKind := goodIn_r _ [12, 3] (by decide +kernel) (by decide +kernel)
set_option maxRecDepth 20000 in
theorem gX9_person_X9_isKind : GoodIn wsX9_person (va_wsS RX9 127 yX9_isKind wsX9_isKind) := goodIn_app (goodIn_of _ (by decide +kernel)) ggX9_person_X9_isKind
set_option maxRecDepth 20000 in
theorem ggX9_person_X9_isLawless : GoodIn wsX9_person wsX9_isLawless := goodIn_r _ [16, 17, 18, 19, 20, 21, 22, 23, 24, 25, 26, 27, 28, 29] (by decide +kernel) (by decide +kernel)
set_option maxRecDepth 20000 in
theorem gX9_person_X9_isLawless : GoodIn wsX9_person (wsV RX9 104 RX9 yX9_isLawless wsX9_isLawless) := goodIn_app (goodIn_of _ (by decide +kernel)) ggX9_person_X9_isLawless
theorem dX9_person_0 : decode cX9_person 0 = .ok (.iload_n 2, 1) := by decide +kernel
theorem dX9_person_1 : decode cX9_person 1 = .ok (.invokestatic 100, 3) := by decide +kernel
theorem dX9_person_4 : decode cX9_person 4 = .ok (.ifCond .ne 6, 3) := by decide +kernel
theorem dX9_person_7 : decode cX9_person 7 = .ok (.bipush (-101), 2) := by decide +kernel
theorem dX9_person_9 : decode cX9_person 9 = .ok (.ireturn, 1) := by decide +kernel
theorem dX9_person_10 : decode cX9_person 10 = .ok (.iload_n 1, 1) := by decide +kernel
theorem dX9_person_11 : decode cX9_person 11 = .ok (.invokestatic 127, 3) := by decide +kernel
theorem dX9_person_14 : decode cX9_person 14 = .ok (.ifCond .ne 6, 3) := by decide +kernel
theorem dX9_person_17 : decode cX9_person 17 = .ok (.bipush (-102), 2) := by decide +kernel
theorem dX9_person_19 : decode cX9_person 19 = .ok (.ireturn, 1) := by decide +kernel
theorem dX9_person_20 : decode cX9_person 20 = .ok (.aload_n 0, 1) := by decide +kernel
theorem dX9_person_21 : decode cX9_person 21 = .ok (.invokevirtual 104, 3) := by decide +kernel
theorem dX9_person_24 : decode cX9_person 24 = .ok (.ifCond .eq 6, 3) := by decide +kernel
theorem dX9_person_27 : decode cX9_person 27 = .ok (.bipush (-103), 2) := by decide +kernel
theorem dX9_person_29 : decode cX9_person 29 = .ok (.ireturn, 1) := by decide +kernel
theorem dX9_person_30 : decode cX9_person 30 = .ok (.aload_n 0, 1) := by decide +kernel
theorem dX9_person_31 : decode cX9_person 31 = .ok (.getfield 88, 3) := by decide +kernel
theorem dX9_person_34 : decode cX9_person 34 = .ok (.iconst 5, 1) := by decide +kernel
theorem dX9_person_35 : decode cX9_person 35 = .ok (.if_icmp .lt 6, 3) := by decide +kernel
theorem dX9_person_38 : decode cX9_person 38 = .ok (.bipush (-104), 2) := by decide +kernel
theorem dX9_person_40 : decode cX9_person 40 = .ok (.ireturn, 1) := by decide +kernel
theorem dX9_person_41 : decode cX9_person 41 = .ok (.aload_n 0, 1) := by decide +kernel
theorem dX9_person_42 : decode cX9_person 42 = .ok (.getfield 18, 3) := by decide +kernel
theorem dX9_person_45 : decode cX9_person 45 = .ok (.aload_n 0, 1) := by decide +kernel
theorem dX9_person_46 : decode cX9_person 46 = .ok (.getfield 88, 3) := by decide +kernel
theorem dX9_person_49 : decode cX9_person 49 = .ok (.aaload, 1) := by decide +kernel
theorem dX9_person_50 : decode cX9_person 50 = .ok (.astore_n 3, 1) := by decide +kernel
theorem dX9_person_51 : decode cX9_person 51 = .ok (.aload_n 3, 1) := by decide +kernel
theorem dX9_person_52 : decode cX9_person 52 = .ok (.getstatic 130, 3) := by decide +kernel
theorem dX9_person_55 : decode cX9_person 55 = .ok (.iload_n 1, 1) := by decide +kernel
theorem dX9_person_56 : decode cX9_person 56 = .ok (.aaload, 1) := by decide +kernel
theorem dX9_person_57 : decode cX9_person 57 = .ok (.putfield 134, 3) := by decide +kernel
theorem dX9_person_60 : decode cX9_person 60 = .ok (.aload_n 3, 1) := by decide +kernel
theorem dX9_person_61 : decode cX9_person 61 = .ok (.iload_n 2, 1) := by decide +kernel
theorem dX9_person_62 : decode cX9_person 62 = .ok (.putfield 138, 3) := by decide +kernel
theorem dX9_person_65 : decode cX9_person 65 = .ok (.aload_n 0, 1) := by decide +kernel
theorem dX9_person_66 : decode cX9_person 66 = .ok (.dup, 1) := by decide +kernel
theorem dX9_person_67 : decode cX9_person 67 = .ok (.getfield 88, 3) := by decide +kernel
theorem dX9_person_70 : decode cX9_person 70 = .ok (.iconst 1, 1) := by decide +kernel
theorem dX9_person_71 : decode cX9_person 71 = .ok (.iadd, 1) := by decide +kernel
theorem dX9_person_72 : decode cX9_person 72 = .ok (.putfield 88, 3) := by decide +kernel
theorem dX9_person_75 : decode cX9_person 75 = .ok (.aload_n 0, 1) := by decide +kernel
theorem dX9_person_76 : decode cX9_person 76 = .ok (.getfield 88, 3) := by decide +kernel
theorem dX9_person_79 : decode cX9_person 79 = .ok (.iconst 1, 1) := by decide +kernel
theorem dX9_person_80 : decode cX9_person 80 = .ok (.isub, 1) := by decide +kernel
theorem dX9_person_81 : decode cX9_person 81 = .ok (.ireturn, 1) := by decide +kernel
set_option maxRecDepth 20000 in
theorem ggX9_about_X9_isPerson : GoodIn wsX9_about wsX9_isPerson := goodIn_r _ [12, 13, 46, 47, 48, 49, 50, 51, 52, 53, 54, 55, 56, 57] (by decide +kernel) (by decide +kernel)
set_option maxRecDepth 20000 in
theorem gX9_about_X9_isPerson : GoodIn wsX9_about (wsV RX9 141 RX9 yX9_isPerson wsX9_isPerson) := goodIn_app (goodIn_of _ (by decide +kernel)) ggX9_about_X9_isPerson
set_option maxRecDepth 20000 in
theorem ggX9_about_X7_townOf : GoodIn wsX9_about wsX7_townOf := goodIn_r _ [17] (by decide +kernel) (by decide +kernel)
set_option maxRecDepth 20000 in
theorem gX9_about_X7_townOf : GoodIn wsX9_about (va_wsS RX9 144 yX7_townOf wsX7_townOf) := goodIn_app (goodIn_of _ (by decide +kernel)) ggX9_about_X7_townOf
set_option maxRecDepth 20000 in
theorem ggX9_about_X7_goodsOf : GoodIn wsX9_about wsX7_goodsOf := goodIn_r _ [20] (by decide +kernel) (by decide +kernel)
set_option maxRecDepth 20000 in
theorem gX9_about_X7_goodsOf : GoodIn wsX9_about (va_wsS RX9 154 yX7_goodsOf wsX7_goodsOf) := goodIn_app (goodIn_of _ (by decide +kernel)) ggX9_about_X7_goodsOf
set_option maxRecDepth 20000 in
theorem ggX9_about_X7_coinsTogether : GoodIn wsX9_about wsX7_coinsTogether := goodIn_r _ [23, 24, 25, 16, 26] (by decide +kernel) (by decide +kernel)
set_option maxRecDepth 20000 in
theorem gX9_about_X7_coinsTogether : GoodIn wsX9_about (va_wsS RX9 157 yX7_coinsTogether wsX7_coinsTogether) := goodIn_app (goodIn_of _ (by decide +kernel)) ggX9_about_X7_coinsTogether
set_option maxRecDepth 20000 in
theorem ggX9_about_X2_cost : GoodIn wsX9_about wsX2_cost := goodIn_r _ [31, 32, 33, 34, 35, 36] (by decide +kernel) (by decide +kernel)
set_option maxRecDepth 20000 in
theorem gX9_about_X2_cost : GoodIn wsX9_about (wsV RX9 160 RX2 yX2_cost wsX2_cost) := goodIn_app (goodIn_of _ (by decide +kernel)) ggX9_about_X2_cost
set_option maxRecDepth 20000 in
theorem ggX9_about_X2_gain : GoodIn wsX9_about wsX2_gain := goodIn_r _ [40, 41] (by decide +kernel) (by decide +kernel)
set_option maxRecDepth 20000 in
theorem gX9_about_X2_gain : GoodIn wsX9_about (wsV RX9 163 RX2 yX2_gain wsX2_gain) := goodIn_app (goodIn_of _ (by decide +kernel)) ggX9_about_X2_gain
set_option maxRecDepth 20000 in
theorem ggX9_about_X9_isCoin : GoodIn wsX9_about wsX9_isCoin := goodIn_r _ [44] (by decide +kernel) (by decide +kernel)
set_option maxRecDepth 20000 in
theorem gX9_about_X9_isCoin : GoodIn wsX9_about (va_wsS RX9 166 yX9_isCoin wsX9_isCoin) := goodIn_app (goodIn_of _ (by decide +kernel)) ggX9_about_X9_isCoin
set_option maxRecDepth 20000 in
theorem ggX9_about_X7_coinsOf : GoodIn wsX9_about wsX7_coinsOf := goodIn_r _ [26] (by decide +kernel) (by decide +kernel)
set_option maxRecDepth 20000 in
theorem gX9_about_X7_coinsOf : GoodIn wsX9_about (va_wsS RX9 169 yX7_coinsOf wsX7_coinsOf) := goodIn_app (goodIn_of _ (by decide +kernel)) ggX9_about_X7_coinsOf
theorem dX9_about_0 : decode cX9_about 0 = .ok (.aload_n 0, 1) := by decide +kernel
theorem dX9_about_1 : decode cX9_about 1 = .ok (.iload_n 1, 1) := by decide +kernel
theorem dX9_about_2 : decode cX9_about 2 = .ok (.invokevirtual 141, 3) := by decide +kernel
theorem dX9_about_5 : decode cX9_about 5 = .ok (.ifCond .ne 6, 3) := by decide +kernel
theorem dX9_about_8 : decode cX9_about 8 = .ok (.bipush (-101), 2) := by decide +kernel
theorem dX9_about_10 : decode cX9_about 10 = .ok (.ireturn, 1) := by decide +kernel
theorem dX9_about_11 : decode cX9_about 11 = .ok (.aload_n 0, 1) := by decide +kernel
theorem dX9_about_12 : decode cX9_about 12 = .ok (.getfield 18, 3) := by decide +kernel
theorem dX9_about_15 : decode cX9_about 15 = .ok (.iload_n 1, 1) := by decide +kernel
theorem dX9_about_16 : decode cX9_about 16 = .ok (.aaload, 1) := by decide +kernel
theorem dX9_about_17 : decode cX9_about 17 = .ok (.astore_n 3, 1) := by decide +kernel
theorem dX9_about_18 : decode cX9_about 18 = .ok (.aload_n 3, 1) := by decide +kernel
theorem dX9_about_19 : decode cX9_about 19 = .ok (.getfield 138, 3) := by decide +kernel
theorem dX9_about_22 : decode cX9_about 22 = .ok (.invokestatic 144, 3) := by decide +kernel
theorem dX9_about_25 : decode cX9_about 25 = .ok (.istore 4, 2) := by decide +kernel
theorem dX9_about_27 : decode cX9_about 27 = .ok (.iload_n 2, 1) := by decide +kernel
theorem dX9_about_28 : decode cX9_about 28 = .ok (.tableswitch 103 0 5 #[40, 48, 51, 59, 67, 85], 40) := by decide +kernel
theorem dX9_about_68 : decode cX9_about 68 = .ok (.aload_n 3, 1) := by decide +kernel
theorem dX9_about_69 : decode cX9_about 69 = .ok (.getfield 134, 3) := by decide +kernel
theorem dX9_about_72 : decode cX9_about 72 = .ok (.getfield 149, 3) := by decide +kernel
theorem dX9_about_75 : decode cX9_about 75 = .ok (.ireturn, 1) := by decide +kernel
theorem dX9_about_76 : decode cX9_about 76 = .ok (.iload 4, 2) := by decide +kernel
theorem dX9_about_78 : decode cX9_about 78 = .ok (.ireturn, 1) := by decide +kernel
theorem dX9_about_79 : decode cX9_about 79 = .ok (.aload_n 3, 1) := by decide +kernel
theorem dX9_about_80 : decode cX9_about 80 = .ok (.getfield 138, 3) := by decide +kernel
theorem dX9_about_83 : decode cX9_about 83 = .ok (.invokestatic 154, 3) := by decide +kernel
theorem dX9_about_86 : decode cX9_about 86 = .ok (.ireturn, 1) := by decide +kernel
theorem dX9_about_87 : decode cX9_about 87 = .ok (.aload_n 3, 1) := by decide +kernel
theorem dX9_about_88 : decode cX9_about 88 = .ok (.getfield 138, 3) := by decide +kernel
theorem dX9_about_91 : decode cX9_about 91 = .ok (.invokestatic 157, 3) := by decide +kernel
theorem dX9_about_94 : decode cX9_about 94 = .ok (.ireturn, 1) := by decide +kernel
theorem dX9_about_95 : decode cX9_about 95 = .ok (.aload_n 3, 1) := by decide +kernel
theorem dX9_about_96 : decode cX9_about 96 = .ok (.getfield 134, 3) := by decide +kernel
theorem dX9_about_99 : decode cX9_about 99 = .ok (.aload_n 0, 1) := by decide +kernel
theorem dX9_about_100 : decode cX9_about 100 = .ok (.getfield 53, 3) := by decide +kernel
theorem dX9_about_103 : decode cX9_about 103 = .ok (.getfield 114, 3) := by decide +kernel
theorem dX9_about_106 : decode cX9_about 106 = .ok (.iload 4, 2) := by decide +kernel
theorem dX9_about_108 : decode cX9_about 108 = .ok (.iaload, 1) := by decide +kernel
theorem dX9_about_109 : decode cX9_about 109 = .ok (.invokevirtual 160, 3) := by decide +kernel
theorem dX9_about_112 : decode cX9_about 112 = .ok (.ireturn, 1) := by decide +kernel
theorem dX9_about_113 : decode cX9_about 113 = .ok (.aload_n 3, 1) := by decide +kernel
theorem dX9_about_114 : decode cX9_about 114 = .ok (.getfield 134, 3) := by decide +kernel
theorem dX9_about_117 : decode cX9_about 117 = .ok (.aload_n 0, 1) := by decide +kernel
theorem dX9_about_118 : decode cX9_about 118 = .ok (.getfield 53, 3) := by decide +kernel
theorem dX9_about_121 : decode cX9_about 121 = .ok (.getfield 117, 3) := by decide +kernel
theorem dX9_about_124 : decode cX9_about 124 = .ok (.iload 4, 2) := by decide +kernel
theorem dX9_about_126 : decode cX9_about 126 = .ok (.iaload, 1) := by decide +kernel
theorem dX9_about_127 : decode cX9_about 127 = .ok (.invokevirtual 163, 3) := by decide +kernel
theorem dX9_about_130 : decode cX9_about 130 = .ok (.ireturn, 1) := by decide +kernel
theorem dX9_about_131 : decode cX9_about 131 = .ok (.iload_n 2, 1) := by decide +kernel
theorem dX9_about_132 : decode cX9_about 132 = .ok (.bipush 10, 2) := by decide +kernel
theorem dX9_about_134 : decode cX9_about 134 = .ok (.isub, 1) := by decide +kernel
theorem dX9_about_135 : decode cX9_about 135 = .ok (.invokestatic 166, 3) := by decide +kernel
theorem dX9_about_138 : decode cX9_about 138 = .ok (.ifCond .eq 17, 3) := by decide +kernel
theorem dX9_about_141 : decode cX9_about 141 = .ok (.aload_n 3, 1) := by decide +kernel
theorem dX9_about_142 : decode cX9_about 142 = .ok (.getfield 138, 3) := by decide +kernel
theorem dX9_about_145 : decode cX9_about 145 = .ok (.iload_n 2, 1) := by decide +kernel
theorem dX9_about_146 : decode cX9_about 146 = .ok (.bipush 10, 2) := by decide +kernel
theorem dX9_about_148 : decode cX9_about 148 = .ok (.isub, 1) := by decide +kernel
theorem dX9_about_149 : decode cX9_about 149 = .ok (.invokestatic 169, 3) := by decide +kernel
theorem dX9_about_152 : decode cX9_about 152 = .ok (.goto 5, 3) := by decide +kernel
theorem dX9_about_155 : decode cX9_about 155 = .ok (.bipush (-102), 2) := by decide +kernel
theorem dX9_about_157 : decode cX9_about 157 = .ok (.ireturn, 1) := by decide +kernel
set_option maxRecDepth 20000 in
theorem ggX9_as_X9_isPerson : GoodIn wsX9_as wsX9_isPerson := goodIn_r _ [8, 9, 21, 22, 23, 24, 25, 26, 27, 28, 29, 30, 31, 32] (by decide +kernel) (by decide +kernel)
set_option maxRecDepth 20000 in
theorem gX9_as_X9_isPerson : GoodIn wsX9_as (wsV RX9 141 RX9 yX9_isPerson wsX9_isPerson) := goodIn_app (goodIn_of _ (by decide +kernel)) ggX9_as_X9_isPerson
set_option maxRecDepth 20000 in
theorem ggX9_as_X9_isKind : GoodIn wsX9_as wsX9_isKind := goodIn_r _ [12, 3] (by decide +kernel) (by decide +kernel)
set_option maxRecDepth 20000 in
theorem gX9_as_X9_isKind : GoodIn wsX9_as (va_wsS RX9 127 yX9_isKind wsX9_isKind) := goodIn_app (goodIn_of _ (by decide +kernel)) ggX9_as_X9_isKind
set_option maxRecDepth 20000 in
theorem ggX9_as_X2_isAlso : GoodIn wsX9_as wsX2_isAlso := goodIn_r _ [17, 18, 19, 20] (by decide +kernel) (by decide +kernel)
set_option maxRecDepth 20000 in
theorem gX9_as_X2_isAlso : GoodIn wsX9_as (wsV RX9 173 RX2 yX2_isAlso wsX2_isAlso) := goodIn_app (goodIn_of _ (by decide +kernel)) ggX9_as_X2_isAlso
theorem dX9_as_0 : decode cX9_as 0 = .ok (.aload_n 0, 1) := by decide +kernel
theorem dX9_as_1 : decode cX9_as 1 = .ok (.iload_n 1, 1) := by decide +kernel
theorem dX9_as_2 : decode cX9_as 2 = .ok (.invokevirtual 141, 3) := by decide +kernel
theorem dX9_as_5 : decode cX9_as 5 = .ok (.ifCond .ne 6, 3) := by decide +kernel
theorem dX9_as_8 : decode cX9_as 8 = .ok (.bipush (-101), 2) := by decide +kernel
theorem dX9_as_10 : decode cX9_as 10 = .ok (.ireturn, 1) := by decide +kernel
theorem dX9_as_11 : decode cX9_as 11 = .ok (.iload_n 2, 1) := by decide +kernel
theorem dX9_as_12 : decode cX9_as 12 = .ok (.invokestatic 127, 3) := by decide +kernel
theorem dX9_as_15 : decode cX9_as 15 = .ok (.ifCond .ne 6, 3) := by decide +kernel
theorem dX9_as_18 : decode cX9_as 18 = .ok (.bipush (-102), 2) := by decide +kernel
theorem dX9_as_20 : decode cX9_as 20 = .ok (.ireturn, 1) := by decide +kernel
theorem dX9_as_21 : decode cX9_as 21 = .ok (.aload_n 0, 1) := by decide +kernel
theorem dX9_as_22 : decode cX9_as 22 = .ok (.getfield 18, 3) := by decide +kernel
theorem dX9_as_25 : decode cX9_as 25 = .ok (.iload_n 1, 1) := by decide +kernel
theorem dX9_as_26 : decode cX9_as 26 = .ok (.aaload, 1) := by decide +kernel
theorem dX9_as_27 : decode cX9_as 27 = .ok (.getfield 134, 3) := by decide +kernel
theorem dX9_as_30 : decode cX9_as 30 = .ok (.getstatic 130, 3) := by decide +kernel
theorem dX9_as_33 : decode cX9_as 33 = .ok (.iload_n 2, 1) := by decide +kernel
theorem dX9_as_34 : decode cX9_as 34 = .ok (.aaload, 1) := by decide +kernel
theorem dX9_as_35 : decode cX9_as 35 = .ok (.invokevirtual 173, 3) := by decide +kernel
theorem dX9_as_38 : decode cX9_as 38 = .ok (.ifCond .eq 7, 3) := by decide +kernel
theorem dX9_as_41 : decode cX9_as 41 = .ok (.iload_n 1, 1) := by decide +kernel
theorem dX9_as_42 : decode cX9_as 42 = .ok (.goto 4, 3) := by decide +kernel
theorem dX9_as_45 : decode cX9_as 45 = .ok (.iconst (-1), 1) := by decide +kernel
theorem dX9_as_46 : decode cX9_as 46 = .ok (.ireturn, 1) := by decide +kernel
set_option maxRecDepth 20000 in
theorem ggX9_purse_X9_isPerson : GoodIn wsX9_purse wsX9_isPerson := goodIn_r _ [7, 8, 19, 20, 21, 22, 23, 24, 25, 26, 27, 28, 29, 30] (by decide +kernel) (by decide +kernel)
set_option maxRecDepth 20000 in
theorem gX9_purse_X9_isPerson : GoodIn wsX9_purse (wsV RX9 141 RX9 yX9_isPerson wsX9_isPerson) := goodIn_app (goodIn_of _ (by decide +kernel)) ggX9_purse_X9_isPerson
set_option maxRecDepth 20000 in
theorem ggX9_purse_X9_isCoin : GoodIn wsX9_purse wsX9_isCoin := goodIn_r _ [11] (by decide +kernel) (by decide +kernel)
set_option maxRecDepth 20000 in
theorem gX9_purse_X9_isCoin : GoodIn wsX9_purse (va_wsS RX9 166 yX9_isCoin wsX9_isCoin) := goodIn_app (goodIn_of _ (by decide +kernel)) ggX9_purse_X9_isCoin
set_option maxRecDepth 20000 in
theorem ggX9_purse_X7_coinsOf : GoodIn wsX9_purse wsX7_coinsOf := goodIn_r _ [15] (by decide +kernel) (by decide +kernel)
set_option maxRecDepth 20000 in
theorem gX9_purse_X7_coinsOf : GoodIn wsX9_purse (va_wsS RX9 169 yX7_coinsOf wsX7_coinsOf) := goodIn_app (goodIn_of _ (by decide +kernel)) ggX9_purse_X7_coinsOf
set_option maxRecDepth 20000 in
theorem ggX9_purse_X7_withMore : GoodIn wsX9_purse wsX7_withMore := goodIn_r _ [18] (by decide +kernel) (by decide +kernel)
set_option maxRecDepth 20000 in
theorem gX9_purse_X7_withMore : GoodIn wsX9_purse (va_wsS RX9 177 yX7_withMore wsX7_withMore) := goodIn_app (goodIn_of _ (by decide +kernel)) ggX9_purse_X7_withMore
theorem dX9_purse_0 : decode cX9_purse 0 = .ok (.aload_n 0, 1) := by decide +kernel
theorem dX9_purse_1 : decode cX9_purse 1 = .ok (.iload_n 1, 1) := by decide +kernel
theorem dX9_purse_2 : decode cX9_purse 2 = .ok (.invokevirtual 141, 3) := by decide +kernel
theorem dX9_purse_5 : decode cX9_purse 5 = .ok (.ifCond .eq 10, 3) := by decide +kernel
theorem dX9_purse_8 : decode cX9_purse 8 = .ok (.iload_n 2, 1) := by decide +kernel
theorem dX9_purse_9 : decode cX9_purse 9 = .ok (.invokestatic 166, 3) := by decide +kernel
theorem dX9_purse_12 : decode cX9_purse 12 = .ok (.ifCond .ne 6, 3) := by decide +kernel
theorem dX9_purse_15 : decode cX9_purse 15 = .ok (.bipush (-101), 2) := by decide +kernel
theorem dX9_purse_17 : decode cX9_purse 17 = .ok (.ireturn, 1) := by decide +kernel
theorem dX9_purse_18 : decode cX9_purse 18 = .ok (.iload_n 3, 1) := by decide +kernel
theorem dX9_purse_19 : decode cX9_purse 19 = .ok (.ifCond .lt 8, 3) := by decide +kernel
theorem dX9_purse_22 : decode cX9_purse 22 = .ok (.iload_n 3, 1) := by decide +kernel
theorem dX9_purse_23 : decode cX9_purse 23 = .ok (.iconst 4, 1) := by decide +kernel
theorem dX9_purse_24 : decode cX9_purse 24 = .ok (.if_icmp .le 6, 3) := by decide +kernel
theorem dX9_purse_27 : decode cX9_purse 27 = .ok (.bipush (-102), 2) := by decide +kernel
theorem dX9_purse_29 : decode cX9_purse 29 = .ok (.ireturn, 1) := by decide +kernel
theorem dX9_purse_30 : decode cX9_purse 30 = .ok (.aload_n 0, 1) := by decide +kernel
theorem dX9_purse_31 : decode cX9_purse 31 = .ok (.getfield 18, 3) := by decide +kernel
theorem dX9_purse_34 : decode cX9_purse 34 = .ok (.iload_n 1, 1) := by decide +kernel
theorem dX9_purse_35 : decode cX9_purse 35 = .ok (.aaload, 1) := by decide +kernel
theorem dX9_purse_36 : decode cX9_purse 36 = .ok (.astore 4, 2) := by decide +kernel
theorem dX9_purse_38 : decode cX9_purse 38 = .ok (.aload 4, 2) := by decide +kernel
theorem dX9_purse_40 : decode cX9_purse 40 = .ok (.getfield 138, 3) := by decide +kernel
theorem dX9_purse_43 : decode cX9_purse 43 = .ok (.iload_n 2, 1) := by decide +kernel
theorem dX9_purse_44 : decode cX9_purse 44 = .ok (.invokestatic 169, 3) := by decide +kernel
theorem dX9_purse_47 : decode cX9_purse 47 = .ok (.istore 5, 2) := by decide +kernel
theorem dX9_purse_49 : decode cX9_purse 49 = .ok (.aload 4, 2) := by decide +kernel
theorem dX9_purse_51 : decode cX9_purse 51 = .ok (.aload 4, 2) := by decide +kernel
theorem dX9_purse_53 : decode cX9_purse 53 = .ok (.getfield 138, 3) := by decide +kernel
theorem dX9_purse_56 : decode cX9_purse 56 = .ok (.iload_n 2, 1) := by decide +kernel
theorem dX9_purse_57 : decode cX9_purse 57 = .ok (.iload_n 3, 1) := by decide +kernel
theorem dX9_purse_58 : decode cX9_purse 58 = .ok (.iload 5, 2) := by decide +kernel
theorem dX9_purse_60 : decode cX9_purse 60 = .ok (.isub, 1) := by decide +kernel
theorem dX9_purse_61 : decode cX9_purse 61 = .ok (.invokestatic 177, 3) := by decide +kernel
theorem dX9_purse_64 : decode cX9_purse 64 = .ok (.putfield 138, 3) := by decide +kernel
theorem dX9_purse_67 : decode cX9_purse 67 = .ok (.iload 5, 2) := by decide +kernel
theorem dX9_purse_69 : decode cX9_purse 69 = .ok (.ireturn, 1) := by decide +kernel
set_option maxRecDepth 20000 in
theorem ggX9_may_X9_isPerson : GoodIn wsX9_may wsX9_isPerson := goodIn_r _ [7, 8, 87, 88, 89, 90, 91, 92, 93, 94, 95, 96, 97, 98] (by decide +kernel) (by decide +kernel)
set_option maxRecDepth 20000 in
theorem gX9_may_X9_isPerson : GoodIn wsX9_may (wsV RX9 141 RX9 yX9_isPerson wsX9_isPerson) := goodIn_app (goodIn_of _ (by decide +kernel)) ggX9_may_X9_isPerson
set_option maxRecDepth 20000 in
theorem ggX9_may_X9_isAct : GoodIn wsX9_may wsX9_isAct := goodIn_r _ [11, 12] (by decide +kernel) (by decide +kernel)
set_option maxRecDepth 20000 in
theorem gX9_may_X9_isAct : GoodIn wsX9_may (va_wsS RX9 181 yX9_isAct wsX9_isAct) := goodIn_app (goodIn_of _ (by decide +kernel)) ggX9_may_X9_isAct
set_option maxRecDepth 20000 in
theorem ggX9_may_X9_dealFor : GoodIn wsX9_may wsX9_dealFor := goodIn_r _ [16, 17, 18, 1, 19, 20, 21, 22, 23, 24, 25, 26, 27, 28, 29, 30, 31, 32, 33, 34, 35, 36, 37, 38, 39, 40, 41, 42, 43, 44, 45, 46, 47, 48, 87, 88, 89, 90, 91, 92, 93, 94, 95, 96, 97, 98, 99, 100, 101, 102, 103, 104, 105, 106, 107, 108, 109, 110] (by decide +kernel) (by decide +kernel)
set_option maxRecDepth 20000 in
theorem gX9_may_X9_dealFor : GoodIn wsX9_may (wsV RX9 184 RX9 yX9_dealFor wsX9_dealFor) := goodIn_app (goodIn_of _ (by decide +kernel)) ggX9_may_X9_dealFor
set_option maxRecDepth 20000 in
theorem ggX9_may_X0_after : GoodIn wsX9_may wsX0_after := goodIn_r _ [52, 53, 54, 23, 55, 56, 57, 58, 59, 60, 61, 62, 63, 64, 65, 66, 25, 67, 68, 69, 70, 71, 72, 73, 74, 75, 76, 31, 77, 78, 79, 80, 81, 82, 83, 84, 85, 86, 29, 27, 101, 102, 103, 104] (by decide +kernel) (by decide +kernel)
set_option maxRecDepth 20000 in
theorem gX9_may_X0_after : GoodIn wsX9_may (wsV RX9 188 RX0 yX0_after wsX0_after) := goodIn_app (goodIn_of _ (by decide +kernel)) ggX9_may_X0_after
theorem dX9_may_0 : decode cX9_may 0 = .ok (.aload_n 0, 1) := by decide +kernel
theorem dX9_may_1 : decode cX9_may 1 = .ok (.iload_n 1, 1) := by decide +kernel
theorem dX9_may_2 : decode cX9_may 2 = .ok (.invokevirtual 141, 3) := by decide +kernel
theorem dX9_may_5 : decode cX9_may 5 = .ok (.ifCond .eq 10, 3) := by decide +kernel
theorem dX9_may_8 : decode cX9_may 8 = .ok (.iload_n 2, 1) := by decide +kernel
theorem dX9_may_9 : decode cX9_may 9 = .ok (.invokestatic 181, 3) := by decide +kernel
theorem dX9_may_12 : decode cX9_may 12 = .ok (.ifCond .ne 6, 3) := by decide +kernel
theorem dX9_may_15 : decode cX9_may 15 = .ok (.bipush (-101), 2) := by decide +kernel
theorem dX9_may_17 : decode cX9_may 17 = .ok (.ireturn, 1) := by decide +kernel
theorem dX9_may_18 : decode cX9_may 18 = .ok (.aload_n 0, 1) := by decide +kernel
theorem dX9_may_19 : decode cX9_may 19 = .ok (.iload_n 1, 1) := by decide +kernel
theorem dX9_may_20 : decode cX9_may 20 = .ok (.invokevirtual 184, 3) := by decide +kernel
theorem dX9_may_23 : decode cX9_may 23 = .ok (.aload_n 0, 1) := by decide +kernel
theorem dX9_may_24 : decode cX9_may 24 = .ok (.getfield 18, 3) := by decide +kernel
theorem dX9_may_27 : decode cX9_may 27 = .ok (.iload_n 1, 1) := by decide +kernel
theorem dX9_may_28 : decode cX9_may 28 = .ok (.aaload, 1) := by decide +kernel
theorem dX9_may_29 : decode cX9_may 29 = .ok (.getfield 138, 3) := by decide +kernel
theorem dX9_may_32 : decode cX9_may 32 = .ok (.iload_n 2, 1) := by decide +kernel
theorem dX9_may_33 : decode cX9_may 33 = .ok (.invokevirtual 188, 3) := by decide +kernel
theorem dX9_may_36 : decode cX9_may 36 = .ok (.iconst (-1), 1) := by decide +kernel
theorem dX9_may_37 : decode cX9_may 37 = .ok (.if_icmp .ne 7, 3) := by decide +kernel
theorem dX9_may_40 : decode cX9_may 40 = .ok (.iconst 0, 1) := by decide +kernel
theorem dX9_may_41 : decode cX9_may 41 = .ok (.goto 4, 3) := by decide +kernel
theorem dX9_may_44 : decode cX9_may 44 = .ok (.iconst 1, 1) := by decide +kernel
theorem dX9_may_45 : decode cX9_may 45 = .ok (.ireturn, 1) := by decide +kernel
set_option maxRecDepth 20000 in
theorem ggX9_act_X9_isPerson : GoodIn wsX9_act wsX9_isPerson := goodIn_r _ [8, 9, 92, 93, 94, 95, 96, 97, 98, 99, 100, 101, 102, 103] (by decide +kernel) (by decide +kernel)
set_option maxRecDepth 20000 in
theorem gX9_act_X9_isPerson : GoodIn wsX9_act (wsV RX9 141 RX9 yX9_isPerson wsX9_isPerson) := goodIn_app (goodIn_of _ (by decide +kernel)) ggX9_act_X9_isPerson
set_option maxRecDepth 20000 in
theorem ggX9_act_X9_isAct : GoodIn wsX9_act wsX9_isAct := goodIn_r _ [12, 13] (by decide +kernel) (by decide +kernel)
set_option maxRecDepth 20000 in
theorem gX9_act_X9_isAct : GoodIn wsX9_act (va_wsS RX9 181 yX9_isAct wsX9_isAct) := goodIn_app (goodIn_of _ (by decide +kernel)) ggX9_act_X9_isAct
set_option maxRecDepth 20000 in
theorem ggX9_act_X9_dealFor : GoodIn wsX9_act wsX9_dealFor := goodIn_r _ [17, 18, 19, 1, 20, 21, 22, 23, 24, 25, 26, 27, 28, 29, 30, 31, 32, 33, 34, 35, 36, 37, 38, 39, 40, 41, 42, 43, 44, 45, 46, 47, 48, 49, 92, 93, 94, 95, 96, 97, 98, 99, 100, 101, 102, 103, 104, 105, 106, 107, 108, 109, 110, 111, 112, 113, 114, 115] (by decide +kernel) (by decide +kernel)
set_option maxRecDepth 20000 in
theorem gX9_act_X9_dealFor : GoodIn wsX9_act (wsV RX9 184 RX9 yX9_dealFor wsX9_dealFor) := goodIn_app (goodIn_of _ (by decide +kernel)) ggX9_act_X9_dealFor
set_option maxRecDepth 20000 in
theorem ggX9_act_X0_after : GoodIn wsX9_act wsX0_after := goodIn_r _ [53, 54, 55, 24, 56, 57, 58, 59, 60, 61, 62, 63, 64, 65, 66, 67, 26, 68, 69, 70, 71, 72, 73, 74, 75, 76, 77, 32, 78, 79, 80, 81, 82, 83, 84, 85, 86, 87, 30, 28, 106, 107, 108, 109] (by decide +kernel) (by decide +kernel)
set_option maxRecDepth 20000 in
theorem gX9_act_X0_after : GoodIn wsX9_act (wsV RX9 188 RX0 yX0_after wsX0_after) := goodIn_app (goodIn_of _ (by decide +kernel)) ggX9_act_X0_after
set_option maxRecDepth 20000 in
theorem ggX9_act_X7_coinsTogether : GoodIn wsX9_act wsX7_coinsTogether := goodIn_r _ [90, 91, 72, 59, 73] (by decide +kernel) (by decide +kernel)
set_option maxRecDepth 20000 in
theorem gX9_act_X7_coinsTogether : GoodIn wsX9_act (va_wsS RX9 157 yX7_coinsTogether wsX7_coinsTogether) := goodIn_app (goodIn_of _ (by decide +kernel)) ggX9_act_X7_coinsTogether
theorem dX9_act_0 : decode cX9_act 0 = .ok (.aload_n 0, 1) := by decide +kernel
theorem dX9_act_1 : decode cX9_act 1 = .ok (.iload_n 1, 1) := by decide +kernel
theorem dX9_act_2 : decode cX9_act 2 = .ok (.invokevirtual 141, 3) := by decide +kernel
theorem dX9_act_5 : decode cX9_act 5 = .ok (.ifCond .eq 10, 3) := by decide +kernel
theorem dX9_act_8 : decode cX9_act 8 = .ok (.iload_n 2, 1) := by decide +kernel
theorem dX9_act_9 : decode cX9_act 9 = .ok (.invokestatic 181, 3) := by decide +kernel
theorem dX9_act_12 : decode cX9_act 12 = .ok (.ifCond .ne 6, 3) := by decide +kernel
theorem dX9_act_15 : decode cX9_act 15 = .ok (.bipush (-101), 2) := by decide +kernel
theorem dX9_act_17 : decode cX9_act 17 = .ok (.ireturn, 1) := by decide +kernel
theorem dX9_act_18 : decode cX9_act 18 = .ok (.aload_n 0, 1) := by decide +kernel
theorem dX9_act_19 : decode cX9_act 19 = .ok (.getfield 18, 3) := by decide +kernel
theorem dX9_act_22 : decode cX9_act 22 = .ok (.iload_n 1, 1) := by decide +kernel
theorem dX9_act_23 : decode cX9_act 23 = .ok (.aaload, 1) := by decide +kernel
theorem dX9_act_24 : decode cX9_act 24 = .ok (.astore_n 3, 1) := by decide +kernel
theorem dX9_act_25 : decode cX9_act 25 = .ok (.aload_n 0, 1) := by decide +kernel
theorem dX9_act_26 : decode cX9_act 26 = .ok (.iload_n 1, 1) := by decide +kernel
theorem dX9_act_27 : decode cX9_act 27 = .ok (.invokevirtual 184, 3) := by decide +kernel
theorem dX9_act_30 : decode cX9_act 30 = .ok (.aload_n 3, 1) := by decide +kernel
theorem dX9_act_31 : decode cX9_act 31 = .ok (.getfield 138, 3) := by decide +kernel
theorem dX9_act_34 : decode cX9_act 34 = .ok (.iload_n 2, 1) := by decide +kernel
theorem dX9_act_35 : decode cX9_act 35 = .ok (.invokevirtual 188, 3) := by decide +kernel
theorem dX9_act_38 : decode cX9_act 38 = .ok (.istore 4, 2) := by decide +kernel
theorem dX9_act_40 : decode cX9_act 40 = .ok (.iload 4, 2) := by decide +kernel
theorem dX9_act_42 : decode cX9_act 42 = .ok (.iconst (-1), 1) := by decide +kernel
theorem dX9_act_43 : decode cX9_act 43 = .ok (.if_icmp .ne 6, 3) := by decide +kernel
theorem dX9_act_46 : decode cX9_act 46 = .ok (.bipush (-103), 2) := by decide +kernel
theorem dX9_act_48 : decode cX9_act 48 = .ok (.ireturn, 1) := by decide +kernel
theorem dX9_act_49 : decode cX9_act 49 = .ok (.aload_n 3, 1) := by decide +kernel
theorem dX9_act_50 : decode cX9_act 50 = .ok (.iload 4, 2) := by decide +kernel
theorem dX9_act_52 : decode cX9_act 52 = .ok (.putfield 138, 3) := by decide +kernel
theorem dX9_act_55 : decode cX9_act 55 = .ok (.aload_n 0, 1) := by decide +kernel
theorem dX9_act_56 : decode cX9_act 56 = .ok (.dup, 1) := by decide +kernel
theorem dX9_act_57 : decode cX9_act 57 = .ok (.getfield 91, 3) := by decide +kernel
theorem dX9_act_60 : decode cX9_act 60 = .ok (.iconst 1, 1) := by decide +kernel
theorem dX9_act_61 : decode cX9_act 61 = .ok (.iadd, 1) := by decide +kernel
theorem dX9_act_62 : decode cX9_act 62 = .ok (.putfield 91, 3) := by decide +kernel
theorem dX9_act_65 : decode cX9_act 65 = .ok (.iload 4, 2) := by decide +kernel
theorem dX9_act_67 : decode cX9_act 67 = .ok (.invokestatic 157, 3) := by decide +kernel
theorem dX9_act_70 : decode cX9_act 70 = .ok (.ireturn, 1) := by decide +kernel
set_option maxRecDepth 20000 in
theorem ggX9_change_X9_isPerson : GoodIn wsX9_change wsX9_isPerson := goodIn_r _ [7, 8, 33, 34, 35, 36, 37, 38, 39, 40, 41, 42, 43, 44] (by decide +kernel) (by decide +kernel)
set_option maxRecDepth 20000 in
theorem gX9_change_X9_isPerson : GoodIn wsX9_change (wsV RX9 141 RX9 yX9_isPerson wsX9_isPerson) := goodIn_app (goodIn_of _ (by decide +kernel)) ggX9_change_X9_isPerson
set_option maxRecDepth 20000 in
theorem ggX9_change_X9_isCoin : GoodIn wsX9_change wsX9_isCoin := goodIn_r _ [11] (by decide +kernel) (by decide +kernel)
set_option maxRecDepth 20000 in
theorem gX9_change_X9_isCoin : GoodIn wsX9_change (va_wsS RX9 166 yX9_isCoin wsX9_isCoin) := goodIn_app (goodIn_of _ (by decide +kernel)) ggX9_change_X9_isCoin
set_option maxRecDepth 20000 in
theorem ggX9_change_X7_townOf : GoodIn wsX9_change wsX7_townOf := goodIn_r _ [15] (by decide +kernel) (by decide +kernel)
set_option maxRecDepth 20000 in
theorem gX9_change_X7_townOf : GoodIn wsX9_change (va_wsS RX9 144 yX7_townOf wsX7_townOf) := goodIn_app (goodIn_of _ (by decide +kernel)) ggX9_change_X7_townOf
set_option maxRecDepth 20000 in
theorem ggX9_change_X5_canSwap : GoodIn wsX9_change wsX5_canSwap := goodIn_r _ [20, 21, 22, 23, 14, 24, 45, 46] (by decide +kernel) (by decide +kernel)
set_option maxRecDepth 20000 in
theorem gX9_change_X5_canSwap : GoodIn wsX9_change (wsV RX9 191 RX5 yX5_canSwap wsX5_canSwap) := goodIn_app (goodIn_of _ (by decide +kernel)) ggX9_change_X5_canSwap
set_option maxRecDepth 20000 in
theorem ggX9_change_X5_swap : GoodIn wsX9_change wsX5_swap := goodIn_r _ [28, 21, 29, 30, 14, 31, 45, 46] (by decide +kernel) (by decide +kernel)
set_option maxRecDepth 20000 in
theorem gX9_change_X5_swap : GoodIn wsX9_change (wsV RX9 195 RX5 yX5_swap wsX5_swap) := goodIn_app (goodIn_of _ (by decide +kernel)) ggX9_change_X5_swap
set_option maxRecDepth 20000 in
theorem ggX9_change_X7_coinsOf : GoodIn wsX9_change wsX7_coinsOf := goodIn_r _ [24] (by decide +kernel) (by decide +kernel)
set_option maxRecDepth 20000 in
theorem gX9_change_X7_coinsOf : GoodIn wsX9_change (va_wsS RX9 169 yX7_coinsOf wsX7_coinsOf) := goodIn_app (goodIn_of _ (by decide +kernel)) ggX9_change_X7_coinsOf
theorem dX9_change_0 : decode cX9_change 0 = .ok (.aload_n 0, 1) := by decide +kernel
theorem dX9_change_1 : decode cX9_change 1 = .ok (.iload_n 1, 1) := by decide +kernel
theorem dX9_change_2 : decode cX9_change 2 = .ok (.invokevirtual 141, 3) := by decide +kernel
theorem dX9_change_5 : decode cX9_change 5 = .ok (.ifCond .eq 31, 3) := by decide +kernel
theorem dX9_change_8 : decode cX9_change 8 = .ok (.aload_n 0, 1) := by decide +kernel
theorem dX9_change_9 : decode cX9_change 9 = .ok (.iload_n 3, 1) := by decide +kernel
theorem dX9_change_10 : decode cX9_change 10 = .ok (.invokevirtual 141, 3) := by decide +kernel
theorem dX9_change_13 : decode cX9_change 13 = .ok (.ifCond .eq 23, 3) := by decide +kernel
theorem dX9_change_16 : decode cX9_change 16 = .ok (.iload_n 1, 1) := by decide +kernel
theorem dX9_change_17 : decode cX9_change 17 = .ok (.iload_n 3, 1) := by decide +kernel
theorem dX9_change_18 : decode cX9_change 18 = .ok (.if_icmp .eq 18, 3) := by decide +kernel
theorem dX9_change_21 : decode cX9_change 21 = .ok (.iload_n 2, 1) := by decide +kernel
theorem dX9_change_22 : decode cX9_change 22 = .ok (.invokestatic 166, 3) := by decide +kernel
theorem dX9_change_25 : decode cX9_change 25 = .ok (.ifCond .eq 11, 3) := by decide +kernel
theorem dX9_change_28 : decode cX9_change 28 = .ok (.iload 4, 2) := by decide +kernel
theorem dX9_change_30 : decode cX9_change 30 = .ok (.invokestatic 166, 3) := by decide +kernel
theorem dX9_change_33 : decode cX9_change 33 = .ok (.ifCond .ne 6, 3) := by decide +kernel
theorem dX9_change_36 : decode cX9_change 36 = .ok (.bipush (-101), 2) := by decide +kernel
theorem dX9_change_38 : decode cX9_change 38 = .ok (.ireturn, 1) := by decide +kernel
theorem dX9_change_39 : decode cX9_change 39 = .ok (.aload_n 0, 1) := by decide +kernel
theorem dX9_change_40 : decode cX9_change 40 = .ok (.getfield 18, 3) := by decide +kernel
theorem dX9_change_43 : decode cX9_change 43 = .ok (.iload_n 1, 1) := by decide +kernel
theorem dX9_change_44 : decode cX9_change 44 = .ok (.aaload, 1) := by decide +kernel
theorem dX9_change_45 : decode cX9_change 45 = .ok (.astore 5, 2) := by decide +kernel
theorem dX9_change_47 : decode cX9_change 47 = .ok (.aload_n 0, 1) := by decide +kernel
theorem dX9_change_48 : decode cX9_change 48 = .ok (.getfield 18, 3) := by decide +kernel
theorem dX9_change_51 : decode cX9_change 51 = .ok (.iload_n 3, 1) := by decide +kernel
theorem dX9_change_52 : decode cX9_change 52 = .ok (.aaload, 1) := by decide +kernel
theorem dX9_change_53 : decode cX9_change 53 = .ok (.astore 6, 2) := by decide +kernel
theorem dX9_change_55 : decode cX9_change 55 = .ok (.aload 5, 2) := by decide +kernel
theorem dX9_change_57 : decode cX9_change 57 = .ok (.getfield 138, 3) := by decide +kernel
theorem dX9_change_60 : decode cX9_change 60 = .ok (.invokestatic 144, 3) := by decide +kernel
theorem dX9_change_63 : decode cX9_change 63 = .ok (.aload 6, 2) := by decide +kernel
theorem dX9_change_65 : decode cX9_change 65 = .ok (.getfield 138, 3) := by decide +kernel
theorem dX9_change_68 : decode cX9_change 68 = .ok (.invokestatic 144, 3) := by decide +kernel
theorem dX9_change_71 : decode cX9_change 71 = .ok (.if_icmp .ne 25, 3) := by decide +kernel
theorem dX9_change_74 : decode cX9_change 74 = .ok (.aload 5, 2) := by decide +kernel
theorem dX9_change_76 : decode cX9_change 76 = .ok (.iload_n 2, 1) := by decide +kernel
theorem dX9_change_77 : decode cX9_change 77 = .ok (.iload 4, 2) := by decide +kernel
theorem dX9_change_79 : decode cX9_change 79 = .ok (.invokevirtual 191, 3) := by decide +kernel
theorem dX9_change_82 : decode cX9_change 82 = .ok (.ifCond .eq 14, 3) := by decide +kernel
theorem dX9_change_85 : decode cX9_change 85 = .ok (.aload 6, 2) := by decide +kernel
theorem dX9_change_87 : decode cX9_change 87 = .ok (.iload 4, 2) := by decide +kernel
theorem dX9_change_89 : decode cX9_change 89 = .ok (.iload_n 2, 1) := by decide +kernel
theorem dX9_change_90 : decode cX9_change 90 = .ok (.invokevirtual 191, 3) := by decide +kernel
theorem dX9_change_93 : decode cX9_change 93 = .ok (.ifCond .ne 6, 3) := by decide +kernel
theorem dX9_change_96 : decode cX9_change 96 = .ok (.bipush (-103), 2) := by decide +kernel
theorem dX9_change_98 : decode cX9_change 98 = .ok (.ireturn, 1) := by decide +kernel
theorem dX9_change_99 : decode cX9_change 99 = .ok (.aload 5, 2) := by decide +kernel
theorem dX9_change_101 : decode cX9_change 101 = .ok (.iload_n 2, 1) := by decide +kernel
theorem dX9_change_102 : decode cX9_change 102 = .ok (.iload 4, 2) := by decide +kernel
theorem dX9_change_104 : decode cX9_change 104 = .ok (.invokevirtual 195, 3) := by decide +kernel
theorem dX9_change_107 : decode cX9_change 107 = .ok (.aload 6, 2) := by decide +kernel
theorem dX9_change_109 : decode cX9_change 109 = .ok (.iload 4, 2) := by decide +kernel
theorem dX9_change_111 : decode cX9_change 111 = .ok (.iload_n 2, 1) := by decide +kernel
theorem dX9_change_112 : decode cX9_change 112 = .ok (.invokevirtual 195, 3) := by decide +kernel
theorem dX9_change_115 : decode cX9_change 115 = .ok (.aload 5, 2) := by decide +kernel
theorem dX9_change_117 : decode cX9_change 117 = .ok (.getfield 138, 3) := by decide +kernel
theorem dX9_change_120 : decode cX9_change 120 = .ok (.iload_n 2, 1) := by decide +kernel
theorem dX9_change_121 : decode cX9_change 121 = .ok (.invokestatic 169, 3) := by decide +kernel
theorem dX9_change_124 : decode cX9_change 124 = .ok (.ireturn, 1) := by decide +kernel
set_option maxRecDepth 20000 in
theorem ggX9_fewest_X9_isPerson : GoodIn wsX9_fewest wsX9_isPerson := goodIn_r _ [10, 11, 135, 136, 137, 138, 139, 140, 141, 142, 143, 144, 145, 146] (by decide +kernel) (by decide +kernel)
set_option maxRecDepth 20000 in
theorem gX9_fewest_X9_isPerson : GoodIn wsX9_fewest (wsV RX9 141 RX9 yX9_isPerson wsX9_isPerson) := goodIn_app (goodIn_of _ (by decide +kernel)) ggX9_fewest_X9_isPerson
set_option maxRecDepth 20000 in
theorem ggX9_fewest_X9_isTown : GoodIn wsX9_fewest wsX9_isTown := goodIn_r _ [14] (by decide +kernel) (by decide +kernel)
set_option maxRecDepth 20000 in
theorem gX9_fewest_X9_isTown : GoodIn wsX9_fewest (va_wsS RX9 100 yX9_isTown wsX9_isTown) := goodIn_app (goodIn_of _ (by decide +kernel)) ggX9_fewest_X9_isTown
set_option maxRecDepth 20000 in
theorem ggX9_fewest_X7_hasGood : GoodIn wsX9_fewest wsX7_hasGood := goodIn_r _ [18] (by decide +kernel) (by decide +kernel)
set_option maxRecDepth 20000 in
theorem gX9_fewest_X7_hasGood : GoodIn wsX9_fewest (va_wsS RX9 202 yX7_hasGood wsX7_hasGood) := goodIn_app (goodIn_of _ (by decide +kernel)) ggX9_fewest_X7_hasGood
set_option maxRecDepth 20000 in
theorem ggX9_fewest_X9_dealFor : GoodIn wsX9_fewest wsX9_dealFor := goodIn_r _ [22, 23, 24, 2, 25, 26, 27, 28, 29, 30, 31, 32, 33, 34, 35, 36, 37, 38, 39, 40, 41, 42, 43, 44, 45, 46, 47, 48, 49, 50, 51, 52, 53, 54, 135, 136, 137, 138, 139, 140, 141, 142, 143, 144, 145, 146, 147, 148, 155, 156, 157, 158, 159, 160, 161, 162, 163, 164] (by decide +kernel) (by decide +kernel)
set_option maxRecDepth 20000 in
theorem gX9_fewest_X9_dealFor : GoodIn wsX9_fewest (wsV RX9 184 RX9 yX9_dealFor wsX9_dealFor) := goodIn_app (goodIn_of _ (by decide +kernel)) ggX9_fewest_X9_dealFor
set_option maxRecDepth 20000 in
theorem ggX9_fewest_X6_firstToward : GoodIn wsX9_fewest wsX6_firstToward := goodIn_r _ [59, 60, 61, 62, 63, 64, 65, 66, 58, 67, 68, 69, 70, 71, 72, 73, 74, 75, 76, 77, 78, 79, 80, 81, 82, 83, 84, 85, 86, 87, 88, 89, 90, 17, 91, 92, 93, 94, 95, 96, 97, 29, 98, 37, 99, 100, 101, 102, 103, 104, 105, 106, 107, 108, 109, 110, 111, 112, 113, 114, 115, 116, 117, 118, 119, 120, 121, 31, 122, 16, 18, 123, 124, 125, 126, 127, 128, 129, 130, 131, 132, 133, 134, 35, 33, 149, 150, 151, 152, 153, 154, 155, 156, 157, 158] (by decide +kernel) (by decide +kernel)
set_option maxRecDepth 20000 in
theorem gX9_fewest_X6_firstToward : GoodIn wsX9_fewest (wsV RX9 205 RX6 yX6_firstToward wsX6_firstToward) := goodIn_app (goodIn_of _ (by decide +kernel)) ggX9_fewest_X6_firstToward
theorem dX9_fewest_0 : decode cX9_fewest 0 = .ok (.aload_n 0, 1) := by decide +kernel
theorem dX9_fewest_1 : decode cX9_fewest 1 = .ok (.iload_n 1, 1) := by decide +kernel
theorem dX9_fewest_2 : decode cX9_fewest 2 = .ok (.invokevirtual 141, 3) := by decide +kernel
theorem dX9_fewest_5 : decode cX9_fewest 5 = .ok (.ifCond .eq 10, 3) := by decide +kernel
theorem dX9_fewest_8 : decode cX9_fewest 8 = .ok (.iload_n 2, 1) := by decide +kernel
theorem dX9_fewest_9 : decode cX9_fewest 9 = .ok (.invokestatic 100, 3) := by decide +kernel
theorem dX9_fewest_12 : decode cX9_fewest 12 = .ok (.ifCond .ne 6, 3) := by decide +kernel
theorem dX9_fewest_15 : decode cX9_fewest 15 = .ok (.bipush (-101), 2) := by decide +kernel
theorem dX9_fewest_17 : decode cX9_fewest 17 = .ok (.ireturn, 1) := by decide +kernel
theorem dX9_fewest_18 : decode cX9_fewest 18 = .ok (.iload_n 3, 1) := by decide +kernel
theorem dX9_fewest_19 : decode cX9_fewest 19 = .ok (.ifCond .lt 8, 3) := by decide +kernel
theorem dX9_fewest_22 : decode cX9_fewest 22 = .ok (.iload_n 3, 1) := by decide +kernel
theorem dX9_fewest_23 : decode cX9_fewest 23 = .ok (.iconst 1, 1) := by decide +kernel
theorem dX9_fewest_24 : decode cX9_fewest 24 = .ok (.if_icmp .le 6, 3) := by decide +kernel
theorem dX9_fewest_27 : decode cX9_fewest 27 = .ok (.bipush (-102), 2) := by decide +kernel
theorem dX9_fewest_29 : decode cX9_fewest 29 = .ok (.ireturn, 1) := by decide +kernel
theorem dX9_fewest_30 : decode cX9_fewest 30 = .ok (.aload_n 0, 1) := by decide +kernel
theorem dX9_fewest_31 : decode cX9_fewest 31 = .ok (.getfield 199, 3) := by decide +kernel
theorem dX9_fewest_34 : decode cX9_fewest 34 = .ok (.bipush 40, 2) := by decide +kernel
theorem dX9_fewest_36 : decode cX9_fewest 36 = .ok (.if_icmp .lt 6, 3) := by decide +kernel
theorem dX9_fewest_39 : decode cX9_fewest 39 = .ok (.bipush (-103), 2) := by decide +kernel
theorem dX9_fewest_41 : decode cX9_fewest 41 = .ok (.ireturn, 1) := by decide +kernel
theorem dX9_fewest_42 : decode cX9_fewest 42 = .ok (.aload_n 0, 1) := by decide +kernel
theorem dX9_fewest_43 : decode cX9_fewest 43 = .ok (.dup, 1) := by decide +kernel
theorem dX9_fewest_44 : decode cX9_fewest 44 = .ok (.getfield 199, 3) := by decide +kernel
theorem dX9_fewest_47 : decode cX9_fewest 47 = .ok (.iconst 1, 1) := by decide +kernel
theorem dX9_fewest_48 : decode cX9_fewest 48 = .ok (.iadd, 1) := by decide +kernel
theorem dX9_fewest_49 : decode cX9_fewest 49 = .ok (.putfield 199, 3) := by decide +kernel
theorem dX9_fewest_52 : decode cX9_fewest 52 = .ok (.aload_n 0, 1) := by decide +kernel
theorem dX9_fewest_53 : decode cX9_fewest 53 = .ok (.getfield 18, 3) := by decide +kernel
theorem dX9_fewest_56 : decode cX9_fewest 56 = .ok (.iload_n 1, 1) := by decide +kernel
theorem dX9_fewest_57 : decode cX9_fewest 57 = .ok (.aaload, 1) := by decide +kernel
theorem dX9_fewest_58 : decode cX9_fewest 58 = .ok (.getfield 138, 3) := by decide +kernel
theorem dX9_fewest_61 : decode cX9_fewest 61 = .ok (.istore 4, 2) := by decide +kernel
theorem dX9_fewest_63 : decode cX9_fewest 63 = .ok (.iload 4, 2) := by decide +kernel
theorem dX9_fewest_65 : decode cX9_fewest 65 = .ok (.iload_n 2, 1) := by decide +kernel
theorem dX9_fewest_66 : decode cX9_fewest 66 = .ok (.invokestatic 202, 3) := by decide +kernel
theorem dX9_fewest_69 : decode cX9_fewest 69 = .ok (.ifCond .eq 13, 3) := by decide +kernel
theorem dX9_fewest_72 : decode cX9_fewest 72 = .ok (.iload_n 3, 1) := by decide +kernel
theorem dX9_fewest_73 : decode cX9_fewest 73 = .ok (.ifCond .ne 7, 3) := by decide +kernel
theorem dX9_fewest_76 : decode cX9_fewest 76 = .ok (.iconst 0, 1) := by decide +kernel
theorem dX9_fewest_77 : decode cX9_fewest 77 = .ok (.goto 4, 3) := by decide +kernel
theorem dX9_fewest_80 : decode cX9_fewest 80 = .ok (.iconst (-1), 1) := by decide +kernel
theorem dX9_fewest_81 : decode cX9_fewest 81 = .ok (.ireturn, 1) := by decide +kernel
theorem dX9_fewest_82 : decode cX9_fewest 82 = .ok (.aload_n 0, 1) := by decide +kernel
theorem dX9_fewest_83 : decode cX9_fewest 83 = .ok (.getfield 32, 3) := by decide +kernel
theorem dX9_fewest_86 : decode cX9_fewest 86 = .ok (.aload_n 0, 1) := by decide +kernel
theorem dX9_fewest_87 : decode cX9_fewest 87 = .ok (.iload_n 1, 1) := by decide +kernel
theorem dX9_fewest_88 : decode cX9_fewest 88 = .ok (.invokevirtual 184, 3) := by decide +kernel
theorem dX9_fewest_91 : decode cX9_fewest 91 = .ok (.iload 4, 2) := by decide +kernel
theorem dX9_fewest_93 : decode cX9_fewest 93 = .ok (.iload_n 2, 1) := by decide +kernel
theorem dX9_fewest_94 : decode cX9_fewest 94 = .ok (.invokevirtual 205, 3) := by decide +kernel
theorem dX9_fewest_97 : decode cX9_fewest 97 = .ok (.istore 5, 2) := by decide +kernel
theorem dX9_fewest_99 : decode cX9_fewest 99 = .ok (.iload_n 3, 1) := by decide +kernel
theorem dX9_fewest_100 : decode cX9_fewest 100 = .ok (.iconst 1, 1) := by decide +kernel
theorem dX9_fewest_101 : decode cX9_fewest 101 = .ok (.if_icmp .eq 9, 3) := by decide +kernel
theorem dX9_fewest_104 : decode cX9_fewest 104 = .ok (.iload 5, 2) := by decide +kernel
theorem dX9_fewest_106 : decode cX9_fewest 106 = .ok (.iconst (-1), 1) := by decide +kernel
theorem dX9_fewest_107 : decode cX9_fewest 107 = .ok (.if_icmp .ne 8, 3) := by decide +kernel
theorem dX9_fewest_110 : decode cX9_fewest 110 = .ok (.iload 5, 2) := by decide +kernel
theorem dX9_fewest_112 : decode cX9_fewest 112 = .ok (.goto 12, 3) := by decide +kernel
theorem dX9_fewest_115 : decode cX9_fewest 115 = .ok (.aload_n 0, 1) := by decide +kernel
theorem dX9_fewest_116 : decode cX9_fewest 116 = .ok (.getfield 32, 3) := by decide +kernel
theorem dX9_fewest_119 : decode cX9_fewest 119 = .ok (.getfield 209, 3) := by decide +kernel
theorem dX9_fewest_122 : decode cX9_fewest 122 = .ok (.iconst 1, 1) := by decide +kernel
theorem dX9_fewest_123 : decode cX9_fewest 123 = .ok (.iadd, 1) := by decide +kernel
theorem dX9_fewest_124 : decode cX9_fewest 124 = .ok (.ireturn, 1) := by decide +kernel
set_option maxRecDepth 20000 in
theorem ggX9_richest_X9_isPerson : GoodIn wsX9_richest wsX9_isPerson := goodIn_r _ [9, 10, 126, 127, 128, 129, 130, 131, 132, 133, 134, 135, 136, 137] (by decide +kernel) (by decide +kernel)
set_option maxRecDepth 20000 in
theorem gX9_richest_X9_isPerson : GoodIn wsX9_richest (wsV RX9 141 RX9 yX9_isPerson wsX9_isPerson) := goodIn_app (goodIn_of _ (by decide +kernel)) ggX9_richest_X9_isPerson
set_option maxRecDepth 20000 in
theorem ggX9_richest_X9_dealFor : GoodIn wsX9_richest wsX9_dealFor := goodIn_r _ [14, 15, 16, 3, 17, 18, 19, 20, 21, 22, 23, 24, 25, 26, 27, 28, 29, 30, 31, 32, 33, 34, 35, 36, 37, 38, 39, 40, 41, 42, 43, 44, 45, 46, 126, 127, 128, 129, 130, 131, 132, 133, 134, 135, 136, 137, 138, 139, 140, 141, 142, 143, 144, 145, 146, 147, 148, 149] (by decide +kernel) (by decide +kernel)
set_option maxRecDepth 20000 in
theorem gX9_richest_X9_dealFor : GoodIn wsX9_richest (wsV RX9 184 RX9 yX9_dealFor wsX9_dealFor) := goodIn_app (goodIn_of _ (by decide +kernel)) ggX9_richest_X9_dealFor
set_option maxRecDepth 20000 in
theorem ggX9_richest_X6_mostCoins : GoodIn wsX9_richest wsX6_mostCoins := goodIn_r _ [51, 52, 53, 54, 39, 40, 41, 55, 56, 57, 50, 58, 59, 60, 61, 62, 63, 64, 65, 66, 67, 68, 69, 70, 71, 72, 73, 74, 75, 76, 77, 78, 79, 80, 81, 82, 21, 83, 84, 85, 86, 87, 88, 89, 90, 91, 92, 93, 94, 95, 96, 97, 23, 98, 99, 100, 101, 102, 103, 104, 105, 106, 107, 29, 108, 109, 110, 111, 112, 113, 114, 115, 116, 117, 27, 25, 118, 119, 120, 121, 122, 123, 124, 125, 150, 151, 152, 153, 154, 155, 140, 141, 142, 143] (by decide +kernel) (by decide +kernel)
set_option maxRecDepth 20000 in
theorem gX9_richest_X6_mostCoins : GoodIn wsX9_richest (wsV RX9 212 RX6 yX6_mostCoins wsX6_mostCoins) := goodIn_app (goodIn_of _ (by decide +kernel)) ggX9_richest_X6_mostCoins
theorem dX9_richest_0 : decode cX9_richest 0 = .ok (.aload_n 0, 1) := by decide +kernel
theorem dX9_richest_1 : decode cX9_richest 1 = .ok (.iload_n 1, 1) := by decide +kernel
theorem dX9_richest_2 : decode cX9_richest 2 = .ok (.invokevirtual 141, 3) := by decide +kernel
theorem dX9_richest_5 : decode cX9_richest 5 = .ok (.ifCond .ne 6, 3) := by decide +kernel
theorem dX9_richest_8 : decode cX9_richest 8 = .ok (.bipush (-101), 2) := by decide +kernel
theorem dX9_richest_10 : decode cX9_richest 10 = .ok (.ireturn, 1) := by decide +kernel
theorem dX9_richest_11 : decode cX9_richest 11 = .ok (.iload_n 2, 1) := by decide +kernel
theorem dX9_richest_12 : decode cX9_richest 12 = .ok (.ifCond .lt 9, 3) := by decide +kernel
theorem dX9_richest_15 : decode cX9_richest 15 = .ok (.iload_n 2, 1) := by decide +kernel
theorem dX9_richest_16 : decode cX9_richest 16 = .ok (.bipush 8, 2) := by decide +kernel
theorem dX9_richest_18 : decode cX9_richest 18 = .ok (.if_icmp .le 6, 3) := by decide +kernel
theorem dX9_richest_21 : decode cX9_richest 21 = .ok (.bipush (-102), 2) := by decide +kernel
theorem dX9_richest_23 : decode cX9_richest 23 = .ok (.ireturn, 1) := by decide +kernel
theorem dX9_richest_24 : decode cX9_richest 24 = .ok (.aload_n 0, 1) := by decide +kernel
theorem dX9_richest_25 : decode cX9_richest 25 = .ok (.getfield 199, 3) := by decide +kernel
theorem dX9_richest_28 : decode cX9_richest 28 = .ok (.bipush 40, 2) := by decide +kernel
theorem dX9_richest_30 : decode cX9_richest 30 = .ok (.if_icmp .lt 6, 3) := by decide +kernel
theorem dX9_richest_33 : decode cX9_richest 33 = .ok (.bipush (-103), 2) := by decide +kernel
theorem dX9_richest_35 : decode cX9_richest 35 = .ok (.ireturn, 1) := by decide +kernel
theorem dX9_richest_36 : decode cX9_richest 36 = .ok (.aload_n 0, 1) := by decide +kernel
theorem dX9_richest_37 : decode cX9_richest 37 = .ok (.dup, 1) := by decide +kernel
theorem dX9_richest_38 : decode cX9_richest 38 = .ok (.getfield 199, 3) := by decide +kernel
theorem dX9_richest_41 : decode cX9_richest 41 = .ok (.iconst 1, 1) := by decide +kernel
theorem dX9_richest_42 : decode cX9_richest 42 = .ok (.iadd, 1) := by decide +kernel
theorem dX9_richest_43 : decode cX9_richest 43 = .ok (.putfield 199, 3) := by decide +kernel
theorem dX9_richest_46 : decode cX9_richest 46 = .ok (.aload_n 0, 1) := by decide +kernel
theorem dX9_richest_47 : decode cX9_richest 47 = .ok (.getfield 32, 3) := by decide +kernel
theorem dX9_richest_50 : decode cX9_richest 50 = .ok (.aload_n 0, 1) := by decide +kernel
theorem dX9_richest_51 : decode cX9_richest 51 = .ok (.iload_n 1, 1) := by decide +kernel
theorem dX9_richest_52 : decode cX9_richest 52 = .ok (.invokevirtual 184, 3) := by decide +kernel
theorem dX9_richest_55 : decode cX9_richest 55 = .ok (.aload_n 0, 1) := by decide +kernel
theorem dX9_richest_56 : decode cX9_richest 56 = .ok (.getfield 18, 3) := by decide +kernel
theorem dX9_richest_59 : decode cX9_richest 59 = .ok (.iload_n 1, 1) := by decide +kernel
theorem dX9_richest_60 : decode cX9_richest 60 = .ok (.aaload, 1) := by decide +kernel
theorem dX9_richest_61 : decode cX9_richest 61 = .ok (.getfield 138, 3) := by decide +kernel
theorem dX9_richest_64 : decode cX9_richest 64 = .ok (.iload_n 2, 1) := by decide +kernel
theorem dX9_richest_65 : decode cX9_richest 65 = .ok (.invokevirtual 212, 3) := by decide +kernel
theorem dX9_richest_68 : decode cX9_richest 68 = .ok (.ireturn, 1) := by decide +kernel
set_option maxRecDepth 20000 in
theorem ggX9_dead_X9_isPerson : GoodIn wsX9_dead wsX9_isPerson := goodIn_r _ [7, 8, 53, 54, 55, 56, 57, 58, 59, 60, 61, 62, 63, 64] (by decide +kernel) (by decide +kernel)
set_option maxRecDepth 20000 in
theorem gX9_dead_X9_isPerson : GoodIn wsX9_dead (wsV RX9 141 RX9 yX9_isPerson wsX9_isPerson) := goodIn_app (goodIn_of _ (by decide +kernel)) ggX9_dead_X9_isPerson
set_option maxRecDepth 20000 in
theorem ggX9_dead_X9_dealFor : GoodIn wsX9_dead wsX9_dealFor := goodIn_r _ [12, 13, 14, 1, 15, 16, 17, 18, 19, 20, 21, 22, 23, 24, 25, 26, 27, 28, 29, 30, 31, 32, 33, 34, 35, 36, 37, 38, 39, 40, 41, 42, 43, 44, 53, 54, 55, 56, 57, 58, 59, 60, 61, 62, 63, 64, 65, 66, 67, 68, 69, 70, 71, 72, 73, 74, 75, 76] (by decide +kernel) (by decide +kernel)
set_option maxRecDepth 20000 in
theorem gX9_dead_X9_dealFor : GoodIn wsX9_dead (wsV RX9 184 RX9 yX9_dealFor wsX9_dealFor) := goodIn_app (goodIn_of _ (by decide +kernel)) ggX9_dead_X9_dealFor
set_option maxRecDepth 20000 in
theorem ggX9_dead_X0_paysAnywhere : GoodIn wsX9_dead wsX0_paysAnywhere := goodIn_r _ [48, 27, 67, 68, 69, 70] (by decide +kernel) (by decide +kernel)
set_option maxRecDepth 20000 in
theorem gX9_dead_X0_paysAnywhere : GoodIn wsX9_dead (wsV RX9 215 RX0 yX0_paysAnywhere wsX0_paysAnywhere) := goodIn_app (goodIn_of _ (by decide +kernel)) ggX9_dead_X0_paysAnywhere
set_option maxRecDepth 20000 in
theorem ggX9_dead_X7_coinsOf : GoodIn wsX9_dead wsX7_coinsOf := goodIn_r _ [52] (by decide +kernel) (by decide +kernel)
set_option maxRecDepth 20000 in
theorem gX9_dead_X7_coinsOf : GoodIn wsX9_dead (va_wsS RX9 169 yX7_coinsOf wsX7_coinsOf) := goodIn_app (goodIn_of _ (by decide +kernel)) ggX9_dead_X7_coinsOf
theorem dX9_dead_0 : decode cX9_dead 0 = .ok (.aload_n 0, 1) := by decide +kernel
theorem dX9_dead_1 : decode cX9_dead 1 = .ok (.iload_n 1, 1) := by decide +kernel
theorem dX9_dead_2 : decode cX9_dead 2 = .ok (.invokevirtual 141, 3) := by decide +kernel
theorem dX9_dead_5 : decode cX9_dead 5 = .ok (.ifCond .ne 6, 3) := by decide +kernel
theorem dX9_dead_8 : decode cX9_dead 8 = .ok (.bipush (-101), 2) := by decide +kernel
theorem dX9_dead_10 : decode cX9_dead 10 = .ok (.ireturn, 1) := by decide +kernel
theorem dX9_dead_11 : decode cX9_dead 11 = .ok (.aload_n 0, 1) := by decide +kernel
theorem dX9_dead_12 : decode cX9_dead 12 = .ok (.iload_n 1, 1) := by decide +kernel
theorem dX9_dead_13 : decode cX9_dead 13 = .ok (.invokevirtual 184, 3) := by decide +kernel
theorem dX9_dead_16 : decode cX9_dead 16 = .ok (.astore_n 2, 1) := by decide +kernel
theorem dX9_dead_17 : decode cX9_dead 17 = .ok (.iconst 0, 1) := by decide +kernel
theorem dX9_dead_18 : decode cX9_dead 18 = .ok (.istore_n 3, 1) := by decide +kernel
theorem dX9_dead_19 : decode cX9_dead 19 = .ok (.iconst 0, 1) := by decide +kernel
theorem dX9_dead_20 : decode cX9_dead 20 = .ok (.istore 4, 2) := by decide +kernel
theorem dX9_dead_22 : decode cX9_dead 22 = .ok (.iload 4, 2) := by decide +kernel
theorem dX9_dead_24 : decode cX9_dead 24 = .ok (.iconst 4, 1) := by decide +kernel
theorem dX9_dead_25 : decode cX9_dead 25 = .ok (.if_icmp .ge 35, 3) := by decide +kernel
theorem dX9_dead_28 : decode cX9_dead 28 = .ok (.aload_n 2, 1) := by decide +kernel
theorem dX9_dead_29 : decode cX9_dead 29 = .ok (.iload 4, 2) := by decide +kernel
theorem dX9_dead_31 : decode cX9_dead 31 = .ok (.invokevirtual 215, 3) := by decide +kernel
theorem dX9_dead_34 : decode cX9_dead 34 = .ok (.ifCond .ne 20, 3) := by decide +kernel
theorem dX9_dead_37 : decode cX9_dead 37 = .ok (.iload_n 3, 1) := by decide +kernel
theorem dX9_dead_38 : decode cX9_dead 38 = .ok (.aload_n 0, 1) := by decide +kernel
theorem dX9_dead_39 : decode cX9_dead 39 = .ok (.getfield 18, 3) := by decide +kernel
theorem dX9_dead_42 : decode cX9_dead 42 = .ok (.iload_n 1, 1) := by decide +kernel
theorem dX9_dead_43 : decode cX9_dead 43 = .ok (.aaload, 1) := by decide +kernel
theorem dX9_dead_44 : decode cX9_dead 44 = .ok (.getfield 138, 3) := by decide +kernel
theorem dX9_dead_47 : decode cX9_dead 47 = .ok (.iload 4, 2) := by decide +kernel
theorem dX9_dead_49 : decode cX9_dead 49 = .ok (.invokestatic 169, 3) := by decide +kernel
theorem dX9_dead_52 : decode cX9_dead 52 = .ok (.iadd, 1) := by decide +kernel
theorem dX9_dead_53 : decode cX9_dead 53 = .ok (.istore_n 3, 1) := by decide +kernel
theorem dX9_dead_54 : decode cX9_dead 54 = .ok (.iinc 4 1, 3) := by decide +kernel
theorem dX9_dead_57 : decode cX9_dead 57 = .ok (.goto (-35), 3) := by decide +kernel
theorem dX9_dead_60 : decode cX9_dead 60 = .ok (.iload_n 3, 1) := by decide +kernel
theorem dX9_dead_61 : decode cX9_dead 61 = .ok (.ireturn, 1) := by decide +kernel
set_option maxRecDepth 20000 in
theorem ggX9_gains_X9_isTown : GoodIn wsX9_gains wsX9_isTown := goodIn_r _ [9] (by decide +kernel) (by decide +kernel)
set_option maxRecDepth 20000 in
theorem gX9_gains_X9_isTown : GoodIn wsX9_gains (va_wsS RX9 100 yX9_isTown wsX9_isTown) := goodIn_app (goodIn_of _ (by decide +kernel)) ggX9_gains_X9_isTown
set_option maxRecDepth 20000 in
theorem ggX9_gains_X9_isPrice : GoodIn wsX9_gains wsX9_isPrice := goodIn_r _ [12] (by decide +kernel) (by decide +kernel)
set_option maxRecDepth 20000 in
theorem gX9_gains_X9_isPrice : GoodIn wsX9_gains (va_wsS RX9 124 yX9_isPrice wsX9_isPrice) := goodIn_app (goodIn_of _ (by decide +kernel)) ggX9_gains_X9_isPrice
set_option maxRecDepth 20000 in
theorem ggX9_gains_X9_isLawless : GoodIn wsX9_gains wsX9_isLawless := goodIn_r _ [16, 17, 138, 139, 140, 141, 142, 143, 144, 145, 146, 147, 148, 149] (by decide +kernel) (by decide +kernel)
set_option maxRecDepth 20000 in
theorem gX9_gains_X9_isLawless : GoodIn wsX9_gains (wsV RX9 104 RX9 yX9_isLawless wsX9_isLawless) := goodIn_app (goodIn_of _ (by decide +kernel)) ggX9_gains_X9_isLawless
set_option maxRecDepth 20000 in
theorem ggX9_gains_X9_dealFor : GoodIn wsX9_gains wsX9_dealFor := goodIn_r _ [21, 22, 23, 2, 5, 24, 25, 26, 27, 28, 29, 30, 31, 32, 33, 34, 35, 36, 37, 38, 39, 40, 41, 42, 43, 44, 45, 46, 47, 48, 49, 50, 51, 52, 138, 139, 140, 141, 142, 143, 144, 145, 146, 147, 148, 149, 150, 151, 152, 153, 154, 155, 156, 157, 158, 159, 160, 161] (by decide +kernel) (by decide +kernel)
set_option maxRecDepth 20000 in
theorem gX9_gains_X9_dealFor : GoodIn wsX9_gains (wsV RX9 184 RX9 yX9_dealFor wsX9_dealFor) := goodIn_app (goodIn_of _ (by decide +kernel)) ggX9_gains_X9_dealFor
set_option maxRecDepth 20000 in
theorem ggX9_gains_X2_cost : GoodIn wsX9_gains wsX2_cost := goodIn_r _ [42, 43, 44, 45, 46, 47] (by decide +kernel) (by decide +kernel)
set_option maxRecDepth 20000 in
theorem gX9_gains_X2_cost : GoodIn wsX9_gains (wsV RX9 160 RX2 yX2_cost wsX2_cost) := goodIn_app (goodIn_of _ (by decide +kernel)) ggX9_gains_X2_cost
set_option maxRecDepth 20000 in
theorem ggX9_gains_X6_isSooner : GoodIn wsX9_gains wsX6_isSooner := goodIn_r _ [58, 59, 60, 61, 62, 63, 64, 65, 66, 67, 68, 69, 57, 70, 71, 72, 73, 74, 75, 76, 77, 78, 79, 80, 81, 82, 83, 84, 85, 86, 87, 88, 89, 90, 91, 92, 93, 94, 95, 96, 97, 98, 99, 100, 27, 101, 35, 102, 103, 104, 105, 106, 107, 108, 109, 110, 111, 112, 113, 114, 115, 116, 117, 118, 119, 120, 121, 122, 123, 124, 29, 125, 126, 127, 128, 129, 130, 131, 132, 133, 134, 135, 136, 137, 33, 31, 152, 153, 154, 155, 162, 163, 164, 165, 166, 167] (by decide +kernel) (by decide +kernel)
set_option maxRecDepth 20000 in
theorem gX9_gains_X6_isSooner : GoodIn wsX9_gains (wsV RX9 218 RX6 yX6_isSooner wsX6_isSooner) := goodIn_app (goodIn_of _ (by decide +kernel)) ggX9_gains_X6_isSooner
theorem dX9_gains_0 : decode cX9_gains 0 = .ok (.iload_n 1, 1) := by decide +kernel
theorem dX9_gains_1 : decode cX9_gains 1 = .ok (.invokestatic 100, 3) := by decide +kernel
theorem dX9_gains_4 : decode cX9_gains 4 = .ok (.ifCond .ne 6, 3) := by decide +kernel
theorem dX9_gains_7 : decode cX9_gains 7 = .ok (.bipush (-101), 2) := by decide +kernel
theorem dX9_gains_9 : decode cX9_gains 9 = .ok (.ireturn, 1) := by decide +kernel
theorem dX9_gains_10 : decode cX9_gains 10 = .ok (.iload_n 2, 1) := by decide +kernel
theorem dX9_gains_11 : decode cX9_gains 11 = .ok (.invokestatic 124, 3) := by decide +kernel
theorem dX9_gains_14 : decode cX9_gains 14 = .ok (.ifCond .ne 6, 3) := by decide +kernel
theorem dX9_gains_17 : decode cX9_gains 17 = .ok (.bipush (-102), 2) := by decide +kernel
theorem dX9_gains_19 : decode cX9_gains 19 = .ok (.ireturn, 1) := by decide +kernel
theorem dX9_gains_20 : decode cX9_gains 20 = .ok (.aload_n 0, 1) := by decide +kernel
theorem dX9_gains_21 : decode cX9_gains 21 = .ok (.invokevirtual 104, 3) := by decide +kernel
theorem dX9_gains_24 : decode cX9_gains 24 = .ok (.ifCond .eq 6, 3) := by decide +kernel
theorem dX9_gains_27 : decode cX9_gains 27 = .ok (.bipush (-103), 2) := by decide +kernel
theorem dX9_gains_29 : decode cX9_gains 29 = .ok (.ireturn, 1) := by decide +kernel
theorem dX9_gains_30 : decode cX9_gains 30 = .ok (.iconst 0, 1) := by decide +kernel
theorem dX9_gains_31 : decode cX9_gains 31 = .ok (.istore_n 3, 1) := by decide +kernel
theorem dX9_gains_32 : decode cX9_gains 32 = .ok (.iconst 0, 1) := by decide +kernel
theorem dX9_gains_33 : decode cX9_gains 33 = .ok (.istore 4, 2) := by decide +kernel
theorem dX9_gains_35 : decode cX9_gains 35 = .ok (.iload 4, 2) := by decide +kernel
theorem dX9_gains_37 : decode cX9_gains 37 = .ok (.aload_n 0, 1) := by decide +kernel
theorem dX9_gains_38 : decode cX9_gains 38 = .ok (.getfield 88, 3) := by decide +kernel
theorem dX9_gains_41 : decode cX9_gains 41 = .ok (.if_icmp .ge 56, 3) := by decide +kernel
theorem dX9_gains_44 : decode cX9_gains 44 = .ok (.aload_n 0, 1) := by decide +kernel
theorem dX9_gains_45 : decode cX9_gains 45 = .ok (.getfield 18, 3) := by decide +kernel
theorem dX9_gains_48 : decode cX9_gains 48 = .ok (.iload 4, 2) := by decide +kernel
theorem dX9_gains_50 : decode cX9_gains 50 = .ok (.aaload, 1) := by decide +kernel
theorem dX9_gains_51 : decode cX9_gains 51 = .ok (.astore 5, 2) := by decide +kernel
theorem dX9_gains_53 : decode cX9_gains 53 = .ok (.aload_n 0, 1) := by decide +kernel
theorem dX9_gains_54 : decode cX9_gains 54 = .ok (.getfield 32, 3) := by decide +kernel
theorem dX9_gains_57 : decode cX9_gains 57 = .ok (.aload_n 0, 1) := by decide +kernel
theorem dX9_gains_58 : decode cX9_gains 58 = .ok (.iload 4, 2) := by decide +kernel
theorem dX9_gains_60 : decode cX9_gains 60 = .ok (.invokevirtual 184, 3) := by decide +kernel
theorem dX9_gains_63 : decode cX9_gains 63 = .ok (.aload 5, 2) := by decide +kernel
theorem dX9_gains_65 : decode cX9_gains 65 = .ok (.getfield 138, 3) := by decide +kernel
theorem dX9_gains_68 : decode cX9_gains 68 = .ok (.iload_n 1, 1) := by decide +kernel
theorem dX9_gains_69 : decode cX9_gains 69 = .ok (.aload 5, 2) := by decide +kernel
theorem dX9_gains_71 : decode cX9_gains 71 = .ok (.getfield 134, 3) := by decide +kernel
theorem dX9_gains_74 : decode cX9_gains 74 = .ok (.iload_n 2, 1) := by decide +kernel
theorem dX9_gains_75 : decode cX9_gains 75 = .ok (.invokevirtual 160, 3) := by decide +kernel
theorem dX9_gains_78 : decode cX9_gains 78 = .ok (.invokevirtual 218, 3) := by decide +kernel
theorem dX9_gains_81 : decode cX9_gains 81 = .ok (.ifCond .eq 10, 3) := by decide +kernel
theorem dX9_gains_84 : decode cX9_gains 84 = .ok (.iload_n 3, 1) := by decide +kernel
theorem dX9_gains_85 : decode cX9_gains 85 = .ok (.iconst 1, 1) := by decide +kernel
theorem dX9_gains_86 : decode cX9_gains 86 = .ok (.iload 4, 2) := by decide +kernel
theorem dX9_gains_88 : decode cX9_gains 88 = .ok (.ishl, 1) := by decide +kernel
theorem dX9_gains_89 : decode cX9_gains 89 = .ok (.ior, 1) := by decide +kernel
theorem dX9_gains_90 : decode cX9_gains 90 = .ok (.istore_n 3, 1) := by decide +kernel
theorem dX9_gains_91 : decode cX9_gains 91 = .ok (.iinc 4 1, 3) := by decide +kernel
theorem dX9_gains_94 : decode cX9_gains 94 = .ok (.goto (-59), 3) := by decide +kernel
theorem dX9_gains_97 : decode cX9_gains 97 = .ok (.iload_n 3, 1) := by decide +kernel
theorem dX9_gains_98 : decode cX9_gains 98 = .ok (.ireturn, 1) := by decide +kernel
set_option maxRecDepth 20000 in
theorem ggX9_trail_X9_isPerson : GoodIn wsX9_trail wsX9_isPerson := goodIn_r _ [7, 8, 24, 25, 26, 27, 28, 29, 30, 31, 32, 33, 34, 35] (by decide +kernel) (by decide +kernel)
set_option maxRecDepth 20000 in
theorem gX9_trail_X9_isPerson : GoodIn wsX9_trail (wsV RX9 141 RX9 yX9_isPerson wsX9_isPerson) := goodIn_app (goodIn_of _ (by decide +kernel)) ggX9_trail_X9_isPerson
set_option maxRecDepth 20000 in
theorem ggX9_trail_X8_pursesTold : GoodIn wsX9_trail wsX8_pursesTold := goodIn_r _ [13, 14, 15, 36, 37, 38, 39, 40, 41, 42] (by decide +kernel) (by decide +kernel)
set_option maxRecDepth 20000 in
theorem gX9_trail_X8_pursesTold : GoodIn wsX9_trail (wsV RX9 222 RX8 yX8_pursesTold wsX8_pursesTold) := goodIn_app (goodIn_of _ (by decide +kernel)) ggX9_trail_X8_pursesTold
set_option maxRecDepth 20000 in
theorem ggX9_trail_X8_begin : GoodIn wsX9_trail wsX8_begin := goodIn_r _ [19, 14, 20, 21, 22, 23, 15, 36, 37, 38, 39, 40, 41, 42, 43, 44] (by decide +kernel) (by decide +kernel)
set_option maxRecDepth 20000 in
theorem gX9_trail_X8_begin : GoodIn wsX9_trail (wsV RX9 225 RX8 yX8_begin wsX8_begin) := goodIn_app (goodIn_of _ (by decide +kernel)) ggX9_trail_X8_begin
theorem dX9_trail_0 : decode cX9_trail 0 = .ok (.aload_n 0, 1) := by decide +kernel
theorem dX9_trail_1 : decode cX9_trail 1 = .ok (.iload_n 1, 1) := by decide +kernel
theorem dX9_trail_2 : decode cX9_trail 2 = .ok (.invokevirtual 141, 3) := by decide +kernel
theorem dX9_trail_5 : decode cX9_trail 5 = .ok (.ifCond .ne 6, 3) := by decide +kernel
theorem dX9_trail_8 : decode cX9_trail 8 = .ok (.bipush (-101), 2) := by decide +kernel
theorem dX9_trail_10 : decode cX9_trail 10 = .ok (.ireturn, 1) := by decide +kernel
theorem dX9_trail_11 : decode cX9_trail 11 = .ok (.aload_n 0, 1) := by decide +kernel
theorem dX9_trail_12 : decode cX9_trail 12 = .ok (.getfield 39, 3) := by decide +kernel
theorem dX9_trail_15 : decode cX9_trail 15 = .ok (.invokevirtual 222, 3) := by decide +kernel
theorem dX9_trail_18 : decode cX9_trail 18 = .ok (.istore_n 2, 1) := by decide +kernel
theorem dX9_trail_19 : decode cX9_trail 19 = .ok (.aload_n 0, 1) := by decide +kernel
theorem dX9_trail_20 : decode cX9_trail 20 = .ok (.getfield 39, 3) := by decide +kernel
theorem dX9_trail_23 : decode cX9_trail 23 = .ok (.aload_n 0, 1) := by decide +kernel
theorem dX9_trail_24 : decode cX9_trail 24 = .ok (.getfield 18, 3) := by decide +kernel
theorem dX9_trail_27 : decode cX9_trail 27 = .ok (.iload_n 1, 1) := by decide +kernel
theorem dX9_trail_28 : decode cX9_trail 28 = .ok (.aaload, 1) := by decide +kernel
theorem dX9_trail_29 : decode cX9_trail 29 = .ok (.invokevirtual 225, 3) := by decide +kernel
theorem dX9_trail_32 : decode cX9_trail 32 = .ok (.iload_n 2, 1) := by decide +kernel
theorem dX9_trail_33 : decode cX9_trail 33 = .ok (.ireturn, 1) := by decide +kernel
set_option maxRecDepth 20000 in
theorem ggX9_next_X7_purseOf : GoodIn wsX9_next wsX7_purseOf := goodIn_r _ [6, 7, 8, 5, 9] (by decide +kernel) (by decide +kernel)
set_option maxRecDepth 20000 in
theorem gX9_next_X7_purseOf : GoodIn wsX9_next (va_wsS RX9 229 yX7_purseOf wsX7_purseOf) := goodIn_app (goodIn_of _ (by decide +kernel)) ggX9_next_X7_purseOf
set_option maxRecDepth 20000 in
theorem ggX9_next_X8_add : GoodIn wsX9_next wsX8_add := goodIn_r _ [14, 15, 16, 29, 30, 31, 32, 33, 34, 35] (by decide +kernel) (by decide +kernel)
set_option maxRecDepth 20000 in
theorem gX9_next_X8_add : GoodIn wsX9_next (wsV RX9 232 RX8 yX8_add wsX8_add) := goodIn_app (goodIn_of _ (by decide +kernel)) ggX9_next_X8_add
theorem dX9_next_0 : decode cX9_next 0 = .ok (.aload_n 0, 1) := by decide +kernel
theorem dX9_next_1 : decode cX9_next 1 = .ok (.getfield 39, 3) := by decide +kernel
theorem dX9_next_4 : decode cX9_next 4 = .ok (.getfield 81, 3) := by decide +kernel
theorem dX9_next_7 : decode cX9_next 7 = .ok (.ifCond .ne 6, 3) := by decide +kernel
theorem dX9_next_10 : decode cX9_next 10 = .ok (.bipush (-103), 2) := by decide +kernel
theorem dX9_next_12 : decode cX9_next 12 = .ok (.ireturn, 1) := by decide +kernel
theorem dX9_next_13 : decode cX9_next 13 = .ok (.iload_n 1, 1) := by decide +kernel
theorem dX9_next_14 : decode cX9_next 14 = .ok (.ifCond .lt 10, 3) := by decide +kernel
theorem dX9_next_17 : decode cX9_next 17 = .ok (.iload_n 1, 1) := by decide +kernel
theorem dX9_next_18 : decode cX9_next 18 = .ok (.sipush 625, 3) := by decide +kernel
theorem dX9_next_21 : decode cX9_next 21 = .ok (.if_icmp .lt 6, 3) := by decide +kernel
theorem dX9_next_24 : decode cX9_next 24 = .ok (.bipush (-102), 2) := by decide +kernel
theorem dX9_next_26 : decode cX9_next 26 = .ok (.ireturn, 1) := by decide +kernel
theorem dX9_next_27 : decode cX9_next 27 = .ok (.aload_n 0, 1) := by decide +kernel
theorem dX9_next_28 : decode cX9_next 28 = .ok (.getfield 39, 3) := by decide +kernel
theorem dX9_next_31 : decode cX9_next 31 = .ok (.iload_n 1, 1) := by decide +kernel
theorem dX9_next_32 : decode cX9_next 32 = .ok (.invokestatic 229, 3) := by decide +kernel
theorem dX9_next_35 : decode cX9_next 35 = .ok (.invokevirtual 232, 3) := by decide +kernel
theorem dX9_next_38 : decode cX9_next 38 = .ok (.ireturn, 1) := by decide +kernel
set_option maxRecDepth 20000 in
theorem ggX9_ways_X0_set : GoodIn wsX9_ways wsX0_set := goodIn_r _ [10, 11, 12, 13, 14, 15, 16, 17, 18, 19, 20, 21, 22, 23, 24, 25, 26, 27, 28, 29, 30, 31, 32, 33, 34, 120, 121, 122, 123, 124, 125, 126, 127, 128, 129] (by decide +kernel) (by decide +kernel)
set_option maxRecDepth 20000 in
theorem gX9_ways_X0_set : GoodIn wsX9_ways (wsV RX9 235 RX0 yX0_set wsX0_set) := goodIn_app (goodIn_of _ (by decide +kernel)) ggX9_ways_X0_set
set_option maxRecDepth 20000 in
theorem ggX9_ways_X8_follow : GoodIn wsX9_ways wsX8_follow := goodIn_r _ [39, 40, 41, 42, 43, 44, 45, 46, 47, 48, 49, 50, 51, 52, 53, 54, 55, 56, 57, 38, 58, 59, 60, 61, 62, 9, 63, 64, 65, 66, 67, 68, 69, 70, 71, 72, 73, 74, 75, 76, 11, 77, 78, 79, 80, 81, 82, 83, 84, 85, 86, 17, 87, 88, 89, 90, 91, 92, 93, 94, 95, 96, 15, 13, 113, 114, 115, 116, 117, 118, 119, 120, 121, 122, 123] (by decide +kernel) (by decide +kernel)
set_option maxRecDepth 20000 in
theorem gX9_ways_X8_follow : GoodIn wsX9_ways (wsV RX9 239 RX8 yX8_follow wsX8_follow) := goodIn_app (goodIn_of _ (by decide +kernel)) ggX9_ways_X8_follow
set_option maxRecDepth 20000 in
theorem ggX9_ways_X8_rows : GoodIn wsX9_ways wsX8_rows := goodIn_r _ [100, 40, 113, 114, 115, 116, 117, 118, 119] (by decide +kernel) (by decide +kernel)
set_option maxRecDepth 20000 in
theorem gX9_ways_X8_rows : GoodIn wsX9_ways (wsV RX9 243 RX8 yX8_rows wsX8_rows) := goodIn_app (goodIn_of _ (by decide +kernel)) ggX9_ways_X8_rows
theorem dX9_ways_0 : decode cX9_ways 0 = .ok (.aload_n 0, 1) := by decide +kernel
theorem dX9_ways_1 : decode cX9_ways 1 = .ok (.getfield 39, 3) := by decide +kernel
theorem dX9_ways_4 : decode cX9_ways 4 = .ok (.getfield 81, 3) := by decide +kernel
theorem dX9_ways_7 : decode cX9_ways 7 = .ok (.ifCond .ne 6, 3) := by decide +kernel
theorem dX9_ways_10 : decode cX9_ways 10 = .ok (.bipush (-103), 2) := by decide +kernel
theorem dX9_ways_12 : decode cX9_ways 12 = .ok (.ireturn, 1) := by decide +kernel
theorem dX9_ways_13 : decode cX9_ways 13 = .ok (.aload_n 0, 1) := by decide +kernel
theorem dX9_ways_14 : decode cX9_ways 14 = .ok (.getfield 39, 3) := by decide +kernel
theorem dX9_ways_17 : decode cX9_ways 17 = .ok (.aload_n 0, 1) := by decide +kernel
theorem dX9_ways_18 : decode cX9_ways 18 = .ok (.getfield 25, 3) := by decide +kernel
theorem dX9_ways_21 : decode cX9_ways 21 = .ok (.aload_n 0, 1) := by decide +kernel
theorem dX9_ways_22 : decode cX9_ways 22 = .ok (.getfield 53, 3) := by decide +kernel
theorem dX9_ways_25 : decode cX9_ways 25 = .ok (.aload_n 0, 1) := by decide +kernel
theorem dX9_ways_26 : decode cX9_ways 26 = .ok (.getfield 39, 3) := by decide +kernel
theorem dX9_ways_29 : decode cX9_ways 29 = .ok (.getfield 234, 3) := by decide +kernel
theorem dX9_ways_32 : decode cX9_ways 32 = .ok (.invokevirtual 235, 3) := by decide +kernel
theorem dX9_ways_35 : decode cX9_ways 35 = .ok (.invokevirtual 239, 3) := by decide +kernel
theorem dX9_ways_38 : decode cX9_ways 38 = .ok (.aload_n 0, 1) := by decide +kernel
theorem dX9_ways_39 : decode cX9_ways 39 = .ok (.getfield 39, 3) := by decide +kernel
theorem dX9_ways_42 : decode cX9_ways 42 = .ok (.invokevirtual 243, 3) := by decide +kernel
theorem dX9_ways_45 : decode cX9_ways 45 = .ok (.ireturn, 1) := by decide +kernel
set_option maxRecDepth 20000 in
theorem ggX9_ends_X0_set : GoodIn wsX9_ends wsX0_set := goodIn_r _ [10, 11, 12, 13, 14, 15, 16, 17, 18, 19, 20, 21, 22, 23, 24, 25, 26, 27, 28, 29, 30, 31, 32, 33, 34, 121, 122, 123, 124, 125, 126, 127, 128, 129, 130] (by decide +kernel) (by decide +kernel)
set_option maxRecDepth 20000 in
theorem gX9_ends_X0_set : GoodIn wsX9_ends (wsV RX9 235 RX0 yX0_set wsX0_set) := goodIn_app (goodIn_of _ (by decide +kernel)) ggX9_ends_X0_set
set_option maxRecDepth 20000 in
theorem ggX9_ends_X8_follow : GoodIn wsX9_ends wsX8_follow := goodIn_r _ [39, 40, 41, 42, 43, 44, 45, 46, 47, 48, 49, 50, 51, 52, 53, 54, 55, 56, 57, 38, 58, 59, 60, 61, 62, 9, 63, 64, 65, 66, 67, 68, 69, 70, 71, 72, 73, 74, 75, 76, 11, 77, 78, 79, 80, 81, 82, 83, 84, 85, 86, 17, 87, 88, 89, 90, 91, 92, 93, 94, 95, 96, 15, 13, 114, 115, 116, 117, 118, 119, 120, 121, 122, 123, 124] (by decide +kernel) (by decide +kernel)
set_option maxRecDepth 20000 in
theorem gX9_ends_X8_follow : GoodIn wsX9_ends (wsV RX9 239 RX8 yX8_follow wsX8_follow) := goodIn_app (goodIn_of _ (by decide +kernel)) ggX9_ends_X8_follow
set_option maxRecDepth 20000 in
theorem ggX9_ends_X8_towns : GoodIn wsX9_ends wsX8_towns := goodIn_r _ [100, 40, 101, 68, 50, 69, 114, 115, 116, 117, 118, 119, 120] (by decide +kernel) (by decide +kernel)
set_option maxRecDepth 20000 in
theorem gX9_ends_X8_towns : GoodIn wsX9_ends (wsV RX9 246 RX8 yX8_towns wsX8_towns) := goodIn_app (goodIn_of _ (by decide +kernel)) ggX9_ends_X8_towns
theorem dX9_ends_0 : decode cX9_ends 0 = .ok (.aload_n 0, 1) := by decide +kernel
theorem dX9_ends_1 : decode cX9_ends 1 = .ok (.getfield 39, 3) := by decide +kernel
theorem dX9_ends_4 : decode cX9_ends 4 = .ok (.getfield 81, 3) := by decide +kernel
theorem dX9_ends_7 : decode cX9_ends 7 = .ok (.ifCond .ne 6, 3) := by decide +kernel
theorem dX9_ends_10 : decode cX9_ends 10 = .ok (.bipush (-103), 2) := by decide +kernel
theorem dX9_ends_12 : decode cX9_ends 12 = .ok (.ireturn, 1) := by decide +kernel
theorem dX9_ends_13 : decode cX9_ends 13 = .ok (.aload_n 0, 1) := by decide +kernel
theorem dX9_ends_14 : decode cX9_ends 14 = .ok (.getfield 39, 3) := by decide +kernel
theorem dX9_ends_17 : decode cX9_ends 17 = .ok (.aload_n 0, 1) := by decide +kernel
theorem dX9_ends_18 : decode cX9_ends 18 = .ok (.getfield 25, 3) := by decide +kernel
theorem dX9_ends_21 : decode cX9_ends 21 = .ok (.aload_n 0, 1) := by decide +kernel
theorem dX9_ends_22 : decode cX9_ends 22 = .ok (.getfield 53, 3) := by decide +kernel
theorem dX9_ends_25 : decode cX9_ends 25 = .ok (.aload_n 0, 1) := by decide +kernel
theorem dX9_ends_26 : decode cX9_ends 26 = .ok (.getfield 39, 3) := by decide +kernel
theorem dX9_ends_29 : decode cX9_ends 29 = .ok (.getfield 234, 3) := by decide +kernel
theorem dX9_ends_32 : decode cX9_ends 32 = .ok (.invokevirtual 235, 3) := by decide +kernel
theorem dX9_ends_35 : decode cX9_ends 35 = .ok (.invokevirtual 239, 3) := by decide +kernel
theorem dX9_ends_38 : decode cX9_ends 38 = .ok (.aload_n 0, 1) := by decide +kernel
theorem dX9_ends_39 : decode cX9_ends 39 = .ok (.getfield 39, 3) := by decide +kernel
theorem dX9_ends_42 : decode cX9_ends 42 = .ok (.invokevirtual 246, 3) := by decide +kernel
theorem dX9_ends_45 : decode cX9_ends 45 = .ok (.ireturn, 1) := by decide +kernel
set_option maxRecDepth 20000 in
theorem ggX9_walk_X9_isPerson : GoodIn wsX9_walk wsX9_isPerson := goodIn_r _ [8, 9, 106, 107, 108, 109, 110, 111, 112, 113, 114, 115, 116, 117] (by decide +kernel) (by decide +kernel)
set_option maxRecDepth 20000 in
theorem gX9_walk_X9_isPerson : GoodIn wsX9_walk (wsV RX9 141 RX9 yX9_isPerson wsX9_isPerson) := goodIn_app (goodIn_of _ (by decide +kernel)) ggX9_walk_X9_isPerson
set_option maxRecDepth 20000 in
theorem ggX9_walk_X9_dealFor : GoodIn wsX9_walk wsX9_dealFor := goodIn_r _ [13, 14, 15, 1, 16, 17, 18, 19, 20, 21, 22, 23, 24, 25, 26, 27, 28, 29, 30, 31, 32, 33, 34, 35, 36, 37, 38, 39, 40, 41, 42, 43, 44, 45, 106, 107, 108, 109, 110, 111, 112, 113, 114, 115, 116, 117, 118, 119, 120, 121, 122, 123, 124, 125, 126, 127, 128, 129] (by decide +kernel) (by decide +kernel)
set_option maxRecDepth 20000 in
theorem gX9_walk_X9_dealFor : GoodIn wsX9_walk (wsV RX9 184 RX9 yX9_dealFor wsX9_dealFor) := goodIn_app (goodIn_of _ (by decide +kernel)) ggX9_walk_X9_dealFor
set_option maxRecDepth 20000 in
theorem ggX9_walk_X9_seedBehind : GoodIn wsX9_walk wsX9_seedBehind := goodIn_r _ [48, 49, 50, 51] (by decide +kernel) (by decide +kernel)
set_option maxRecDepth 20000 in
theorem gX9_walk_X9_seedBehind : GoodIn wsX9_walk (va_wsS RX9 249 yX9_seedBehind wsX9_seedBehind) := goodIn_app (goodIn_of _ (by decide +kernel)) ggX9_walk_X9_seedBehind
set_option maxRecDepth 20000 in
theorem ggX9_walk_X0_afterDraw : GoodIn wsX9_walk wsX0_afterDraw := goodIn_r _ [55, 56, 57, 58, 20, 59, 60, 61, 62, 63, 64, 65, 66, 67, 68, 69, 70, 71, 72, 73, 74, 75, 76, 77, 22, 78, 79, 80, 81, 82, 83, 84, 85, 86, 87, 28, 88, 89, 90, 91, 92, 93, 94, 95, 96, 97, 26, 24, 120, 121, 122, 123] (by decide +kernel) (by decide +kernel)
set_option maxRecDepth 20000 in
theorem gX9_walk_X0_afterDraw : GoodIn wsX9_walk (wsV RX9 253 RX0 yX0_afterDraw wsX0_afterDraw) := goodIn_app (goodIn_of _ (by decide +kernel)) ggX9_walk_X0_afterDraw
set_option maxRecDepth 20000 in
theorem ggX9_walk_X7_townOf : GoodIn wsX9_walk wsX7_townOf := goodIn_r _ [70] (by decide +kernel) (by decide +kernel)
set_option maxRecDepth 20000 in
theorem gX9_walk_X7_townOf : GoodIn wsX9_walk (va_wsS RX9 144 yX7_townOf wsX7_townOf) := goodIn_app (goodIn_of _ (by decide +kernel)) ggX9_walk_X7_townOf
set_option maxRecDepth 20000 in
theorem ggX9_walk_X7_coinsTogether : GoodIn wsX9_walk wsX7_coinsTogether := goodIn_r _ [101, 102, 82, 69, 83] (by decide +kernel) (by decide +kernel)
set_option maxRecDepth 20000 in
theorem gX9_walk_X7_coinsTogether : GoodIn wsX9_walk (va_wsS RX9 157 yX7_coinsTogether wsX7_coinsTogether) := goodIn_app (goodIn_of _ (by decide +kernel)) ggX9_walk_X7_coinsTogether
set_option maxRecDepth 20000 in
theorem ggX9_walk_X7_goodsOf : GoodIn wsX9_walk wsX7_goodsOf := goodIn_r _ [105] (by decide +kernel) (by decide +kernel)
set_option maxRecDepth 20000 in
theorem gX9_walk_X7_goodsOf : GoodIn wsX9_walk (va_wsS RX9 154 yX7_goodsOf wsX7_goodsOf) := goodIn_app (goodIn_of _ (by decide +kernel)) ggX9_walk_X7_goodsOf
theorem dX9_walk_0 : decode cX9_walk 0 = .ok (.aload_n 0, 1) := by decide +kernel
theorem dX9_walk_1 : decode cX9_walk 1 = .ok (.iload_n 1, 1) := by decide +kernel
theorem dX9_walk_2 : decode cX9_walk 2 = .ok (.invokevirtual 141, 3) := by decide +kernel
theorem dX9_walk_5 : decode cX9_walk 5 = .ok (.ifCond .ne 6, 3) := by decide +kernel
theorem dX9_walk_8 : decode cX9_walk 8 = .ok (.bipush (-101), 2) := by decide +kernel
theorem dX9_walk_10 : decode cX9_walk 10 = .ok (.ireturn, 1) := by decide +kernel
theorem dX9_walk_11 : decode cX9_walk 11 = .ok (.iload_n 2, 1) := by decide +kernel
theorem dX9_walk_12 : decode cX9_walk 12 = .ok (.iconst 1, 1) := by decide +kernel
theorem dX9_walk_13 : decode cX9_walk 13 = .ok (.if_icmp .lt 24, 3) := by decide +kernel
theorem dX9_walk_16 : decode cX9_walk 16 = .ok (.iload_n 2, 1) := by decide +kernel
theorem dX9_walk_17 : decode cX9_walk 17 = .ok (.bipush 60, 2) := by decide +kernel
theorem dX9_walk_19 : decode cX9_walk 19 = .ok (.if_icmp .gt 18, 3) := by decide +kernel
theorem dX9_walk_22 : decode cX9_walk 22 = .ok (.iload_n 3, 1) := by decide +kernel
theorem dX9_walk_23 : decode cX9_walk 23 = .ok (.ifCond .lt 14, 3) := by decide +kernel
theorem dX9_walk_26 : decode cX9_walk 26 = .ok (.iload 4, 2) := by decide +kernel
theorem dX9_walk_28 : decode cX9_walk 28 = .ok (.ifCond .lt 9, 3) := by decide +kernel
theorem dX9_walk_31 : decode cX9_walk 31 = .ok (.iload 4, 2) := by decide +kernel
theorem dX9_walk_33 : decode cX9_walk 33 = .ok (.iconst 3, 1) := by decide +kernel
theorem dX9_walk_34 : decode cX9_walk 34 = .ok (.if_icmp .le 6, 3) := by decide +kernel
theorem dX9_walk_37 : decode cX9_walk 37 = .ok (.bipush (-102), 2) := by decide +kernel
theorem dX9_walk_39 : decode cX9_walk 39 = .ok (.ireturn, 1) := by decide +kernel
theorem dX9_walk_40 : decode cX9_walk 40 = .ok (.aload_n 0, 1) := by decide +kernel
theorem dX9_walk_41 : decode cX9_walk 41 = .ok (.iload_n 1, 1) := by decide +kernel
theorem dX9_walk_42 : decode cX9_walk 42 = .ok (.invokevirtual 184, 3) := by decide +kernel
theorem dX9_walk_45 : decode cX9_walk 45 = .ok (.astore 5, 2) := by decide +kernel
theorem dX9_walk_47 : decode cX9_walk 47 = .ok (.aload_n 0, 1) := by decide +kernel
theorem dX9_walk_48 : decode cX9_walk 48 = .ok (.getfield 18, 3) := by decide +kernel
theorem dX9_walk_51 : decode cX9_walk 51 = .ok (.iload_n 1, 1) := by decide +kernel
theorem dX9_walk_52 : decode cX9_walk 52 = .ok (.aaload, 1) := by decide +kernel
theorem dX9_walk_53 : decode cX9_walk 53 = .ok (.getfield 138, 3) := by decide +kernel
theorem dX9_walk_56 : decode cX9_walk 56 = .ok (.istore 6, 2) := by decide +kernel
theorem dX9_walk_58 : decode cX9_walk 58 = .ok (.iload_n 3, 1) := by decide +kernel
theorem dX9_walk_59 : decode cX9_walk 59 = .ok (.istore 7, 2) := by decide +kernel
theorem dX9_walk_61 : decode cX9_walk 61 = .ok (.iconst 0, 1) := by decide +kernel
theorem dX9_walk_62 : decode cX9_walk 62 = .ok (.istore 8, 2) := by decide +kernel
theorem dX9_walk_64 : decode cX9_walk 64 = .ok (.iload 8, 2) := by decide +kernel
theorem dX9_walk_66 : decode cX9_walk 66 = .ok (.iload_n 2, 1) := by decide +kernel
theorem dX9_walk_67 : decode cX9_walk 67 = .ok (.if_icmp .ge 30, 3) := by decide +kernel
theorem dX9_walk_70 : decode cX9_walk 70 = .ok (.iload 7, 2) := by decide +kernel
theorem dX9_walk_72 : decode cX9_walk 72 = .ok (.invokestatic 249, 3) := by decide +kernel
theorem dX9_walk_75 : decode cX9_walk 75 = .ok (.istore 7, 2) := by decide +kernel
theorem dX9_walk_77 : decode cX9_walk 77 = .ok (.aload 5, 2) := by decide +kernel
theorem dX9_walk_79 : decode cX9_walk 79 = .ok (.iload 6, 2) := by decide +kernel
theorem dX9_walk_81 : decode cX9_walk 81 = .ok (.iload 7, 2) := by decide +kernel
theorem dX9_walk_83 : decode cX9_walk 83 = .ok (.ldc 252, 2) := by decide +kernel
theorem dX9_walk_85 : decode cX9_walk 85 = .ok (.idiv, 1) := by decide +kernel
theorem dX9_walk_86 : decode cX9_walk 86 = .ok (.invokevirtual 253, 3) := by decide +kernel
theorem dX9_walk_89 : decode cX9_walk 89 = .ok (.istore 6, 2) := by decide +kernel
theorem dX9_walk_91 : decode cX9_walk 91 = .ok (.iinc 8 1, 3) := by decide +kernel
theorem dX9_walk_94 : decode cX9_walk 94 = .ok (.goto (-30), 3) := by decide +kernel
theorem dX9_walk_97 : decode cX9_walk 97 = .ok (.iload 4, 2) := by decide +kernel
theorem dX9_walk_99 : decode cX9_walk 99 = .ok (.tableswitch 43 0 2 #[25, 31, 37], 25) := by decide +kernel
theorem dX9_walk_124 : decode cX9_walk 124 = .ok (.iload 6, 2) := by decide +kernel
theorem dX9_walk_126 : decode cX9_walk 126 = .ok (.invokestatic 144, 3) := by decide +kernel
theorem dX9_walk_129 : decode cX9_walk 129 = .ok (.ireturn, 1) := by decide +kernel
theorem dX9_walk_130 : decode cX9_walk 130 = .ok (.iload 6, 2) := by decide +kernel
theorem dX9_walk_132 : decode cX9_walk 132 = .ok (.invokestatic 157, 3) := by decide +kernel
theorem dX9_walk_135 : decode cX9_walk 135 = .ok (.ireturn, 1) := by decide +kernel
theorem dX9_walk_136 : decode cX9_walk 136 = .ok (.iload 6, 2) := by decide +kernel
theorem dX9_walk_138 : decode cX9_walk 138 = .ok (.invokestatic 154, 3) := by decide +kernel
theorem dX9_walk_141 : decode cX9_walk 141 = .ok (.ireturn, 1) := by decide +kernel
theorem dX9_walk_142 : decode cX9_walk 142 = .ok (.iload 7, 2) := by decide +kernel
theorem dX9_walk_144 : decode cX9_walk 144 = .ok (.ireturn, 1) := by decide +kernel
set_option maxRecDepth 20000 in
theorem ggX9_image_X9_isLawless : GoodIn wsX9_image wsX9_isLawless := goodIn_r _ [17, 18, 19, 20, 21, 22, 23, 24, 25, 26, 27, 28, 29, 30] (by decide +kernel) (by decide +kernel)
set_option maxRecDepth 20000 in
theorem gX9_image_X9_isLawless : GoodIn wsX9_image (wsV RX9 104 RX9 yX9_isLawless wsX9_isLawless) := goodIn_app (goodIn_of _ (by decide +kernel)) ggX9_image_X9_isLawless
theorem dX9_image_0 : decode cX9_image 0 = .ok (.aload_n 0, 1) := by decide +kernel
theorem dX9_image_1 : decode cX9_image 1 = .ok (.invokevirtual 104, 3) := by decide +kernel
theorem dX9_image_4 : decode cX9_image 4 = .ok (.ifCond .eq 6, 3) := by decide +kernel
theorem dX9_image_7 : decode cX9_image 7 = .ok (.bipush (-103), 2) := by decide +kernel
theorem dX9_image_9 : decode cX9_image 9 = .ok (.ireturn, 1) := by decide +kernel
theorem dX9_image_10 : decode cX9_image 10 = .ok (.aload_n 0, 1) := by decide +kernel
theorem dX9_image_11 : decode cX9_image 11 = .ok (.getfield 46, 3) := by decide +kernel
theorem dX9_image_14 : decode cX9_image 14 = .ok (.iconst 1, 1) := by decide +kernel
theorem dX9_image_15 : decode cX9_image 15 = .ok (.putfield 85, 3) := by decide +kernel
theorem dX9_image_18 : decode cX9_image 18 = .ok (.aload_n 0, 1) := by decide +kernel
theorem dX9_image_19 : decode cX9_image 19 = .ok (.getfield 46, 3) := by decide +kernel
theorem dX9_image_22 : decode cX9_image 22 = .ok (.aload_n 0, 1) := by decide +kernel
theorem dX9_image_23 : decode cX9_image 23 = .ok (.getfield 88, 3) := by decide +kernel
theorem dX9_image_26 : decode cX9_image 26 = .ok (.putfield 256, 3) := by decide +kernel
theorem dX9_image_29 : decode cX9_image 29 = .ok (.aload_n 0, 1) := by decide +kernel
theorem dX9_image_30 : decode cX9_image 30 = .ok (.getfield 46, 3) := by decide +kernel
theorem dX9_image_33 : decode cX9_image 33 = .ok (.aload_n 0, 1) := by decide +kernel
theorem dX9_image_34 : decode cX9_image 34 = .ok (.getfield 91, 3) := by decide +kernel
theorem dX9_image_37 : decode cX9_image 37 = .ok (.putfield 257, 3) := by decide +kernel
theorem dX9_image_40 : decode cX9_image 40 = .ok (.iconst 0, 1) := by decide +kernel
theorem dX9_image_41 : decode cX9_image 41 = .ok (.istore_n 1, 1) := by decide +kernel
theorem dX9_image_42 : decode cX9_image 42 = .ok (.iload_n 1, 1) := by decide +kernel
theorem dX9_image_43 : decode cX9_image 43 = .ok (.iconst 5, 1) := by decide +kernel
theorem dX9_image_44 : decode cX9_image 44 = .ok (.if_icmp .ge 27, 3) := by decide +kernel
theorem dX9_image_47 : decode cX9_image 47 = .ok (.aload_n 0, 1) := by decide +kernel
theorem dX9_image_48 : decode cX9_image 48 = .ok (.getfield 46, 3) := by decide +kernel
theorem dX9_image_51 : decode cX9_image 51 = .ok (.getfield 258, 3) := by decide +kernel
theorem dX9_image_54 : decode cX9_image 54 = .ok (.iload_n 1, 1) := by decide +kernel
theorem dX9_image_55 : decode cX9_image 55 = .ok (.aload_n 0, 1) := by decide +kernel
theorem dX9_image_56 : decode cX9_image 56 = .ok (.getfield 18, 3) := by decide +kernel
theorem dX9_image_59 : decode cX9_image 59 = .ok (.iload_n 1, 1) := by decide +kernel
theorem dX9_image_60 : decode cX9_image 60 = .ok (.aaload, 1) := by decide +kernel
theorem dX9_image_61 : decode cX9_image 61 = .ok (.getfield 138, 3) := by decide +kernel
theorem dX9_image_64 : decode cX9_image 64 = .ok (.iastore, 1) := by decide +kernel
theorem dX9_image_65 : decode cX9_image 65 = .ok (.iinc 1 1, 3) := by decide +kernel
theorem dX9_image_68 : decode cX9_image 68 = .ok (.goto (-26), 3) := by decide +kernel
theorem dX9_image_71 : decode cX9_image 71 = .ok (.iconst 0, 1) := by decide +kernel
theorem dX9_image_72 : decode cX9_image 72 = .ok (.istore_n 1, 1) := by decide +kernel
theorem dX9_image_73 : decode cX9_image 73 = .ok (.iload_n 1, 1) := by decide +kernel
theorem dX9_image_74 : decode cX9_image 74 = .ok (.iconst 4, 1) := by decide +kernel
theorem dX9_image_75 : decode cX9_image 75 = .ok (.if_icmp .ge 27, 3) := by decide +kernel
theorem dX9_image_78 : decode cX9_image 78 = .ok (.aload_n 0, 1) := by decide +kernel
theorem dX9_image_79 : decode cX9_image 79 = .ok (.getfield 46, 3) := by decide +kernel
theorem dX9_image_82 : decode cX9_image 82 = .ok (.getfield 260, 3) := by decide +kernel
theorem dX9_image_85 : decode cX9_image 85 = .ok (.iload_n 1, 1) := by decide +kernel
theorem dX9_image_86 : decode cX9_image 86 = .ok (.aload_n 0, 1) := by decide +kernel
theorem dX9_image_87 : decode cX9_image 87 = .ok (.getfield 53, 3) := by decide +kernel
theorem dX9_image_90 : decode cX9_image 90 = .ok (.getfield 114, 3) := by decide +kernel
theorem dX9_image_93 : decode cX9_image 93 = .ok (.iload_n 1, 1) := by decide +kernel
theorem dX9_image_94 : decode cX9_image 94 = .ok (.iaload, 1) := by decide +kernel
theorem dX9_image_95 : decode cX9_image 95 = .ok (.iastore, 1) := by decide +kernel
theorem dX9_image_96 : decode cX9_image 96 = .ok (.iinc 1 1, 3) := by decide +kernel
theorem dX9_image_99 : decode cX9_image 99 = .ok (.goto (-26), 3) := by decide +kernel
theorem dX9_image_102 : decode cX9_image 102 = .ok (.aload_n 0, 1) := by decide +kernel
theorem dX9_image_103 : decode cX9_image 103 = .ok (.getfield 88, 3) := by decide +kernel
theorem dX9_image_106 : decode cX9_image 106 = .ok (.ireturn, 1) := by decide +kernel
theorem dX9_restore_0 : decode cX9_restore 0 = .ok (.aload_n 0, 1) := by decide +kernel
theorem dX9_restore_1 : decode cX9_restore 1 = .ok (.getfield 46, 3) := by decide +kernel
theorem dX9_restore_4 : decode cX9_restore 4 = .ok (.getfield 85, 3) := by decide +kernel
theorem dX9_restore_7 : decode cX9_restore 7 = .ok (.ifCond .ne 6, 3) := by decide +kernel
theorem dX9_restore_10 : decode cX9_restore 10 = .ok (.bipush (-103), 2) := by decide +kernel
theorem dX9_restore_12 : decode cX9_restore 12 = .ok (.ireturn, 1) := by decide +kernel
theorem dX9_restore_13 : decode cX9_restore 13 = .ok (.aload_n 0, 1) := by decide +kernel
theorem dX9_restore_14 : decode cX9_restore 14 = .ok (.getfield 39, 3) := by decide +kernel
theorem dX9_restore_17 : decode cX9_restore 17 = .ok (.iconst 0, 1) := by decide +kernel
theorem dX9_restore_18 : decode cX9_restore 18 = .ok (.putfield 81, 3) := by decide +kernel
theorem dX9_restore_21 : decode cX9_restore 21 = .ok (.aload_n 0, 1) := by decide +kernel
theorem dX9_restore_22 : decode cX9_restore 22 = .ok (.aload_n 0, 1) := by decide +kernel
theorem dX9_restore_23 : decode cX9_restore 23 = .ok (.getfield 46, 3) := by decide +kernel
theorem dX9_restore_26 : decode cX9_restore 26 = .ok (.getfield 256, 3) := by decide +kernel
theorem dX9_restore_29 : decode cX9_restore 29 = .ok (.putfield 88, 3) := by decide +kernel
theorem dX9_restore_32 : decode cX9_restore 32 = .ok (.aload_n 0, 1) := by decide +kernel
theorem dX9_restore_33 : decode cX9_restore 33 = .ok (.aload_n 0, 1) := by decide +kernel
theorem dX9_restore_34 : decode cX9_restore 34 = .ok (.getfield 46, 3) := by decide +kernel
theorem dX9_restore_37 : decode cX9_restore 37 = .ok (.getfield 257, 3) := by decide +kernel
theorem dX9_restore_40 : decode cX9_restore 40 = .ok (.putfield 91, 3) := by decide +kernel
theorem dX9_restore_43 : decode cX9_restore 43 = .ok (.iconst 0, 1) := by decide +kernel
theorem dX9_restore_44 : decode cX9_restore 44 = .ok (.istore_n 1, 1) := by decide +kernel
theorem dX9_restore_45 : decode cX9_restore 45 = .ok (.iload_n 1, 1) := by decide +kernel
theorem dX9_restore_46 : decode cX9_restore 46 = .ok (.iconst 5, 1) := by decide +kernel
theorem dX9_restore_47 : decode cX9_restore 47 = .ok (.if_icmp .ge 27, 3) := by decide +kernel
theorem dX9_restore_50 : decode cX9_restore 50 = .ok (.aload_n 0, 1) := by decide +kernel
theorem dX9_restore_51 : decode cX9_restore 51 = .ok (.getfield 18, 3) := by decide +kernel
theorem dX9_restore_54 : decode cX9_restore 54 = .ok (.iload_n 1, 1) := by decide +kernel
theorem dX9_restore_55 : decode cX9_restore 55 = .ok (.aaload, 1) := by decide +kernel
theorem dX9_restore_56 : decode cX9_restore 56 = .ok (.aload_n 0, 1) := by decide +kernel
theorem dX9_restore_57 : decode cX9_restore 57 = .ok (.getfield 46, 3) := by decide +kernel
theorem dX9_restore_60 : decode cX9_restore 60 = .ok (.getfield 258, 3) := by decide +kernel
theorem dX9_restore_63 : decode cX9_restore 63 = .ok (.iload_n 1, 1) := by decide +kernel
theorem dX9_restore_64 : decode cX9_restore 64 = .ok (.iaload, 1) := by decide +kernel
theorem dX9_restore_65 : decode cX9_restore 65 = .ok (.putfield 138, 3) := by decide +kernel
theorem dX9_restore_68 : decode cX9_restore 68 = .ok (.iinc 1 1, 3) := by decide +kernel
theorem dX9_restore_71 : decode cX9_restore 71 = .ok (.goto (-26), 3) := by decide +kernel
theorem dX9_restore_74 : decode cX9_restore 74 = .ok (.iconst 0, 1) := by decide +kernel
theorem dX9_restore_75 : decode cX9_restore 75 = .ok (.istore_n 1, 1) := by decide +kernel
theorem dX9_restore_76 : decode cX9_restore 76 = .ok (.iload_n 1, 1) := by decide +kernel
theorem dX9_restore_77 : decode cX9_restore 77 = .ok (.iconst 4, 1) := by decide +kernel
theorem dX9_restore_78 : decode cX9_restore 78 = .ok (.if_icmp .ge 27, 3) := by decide +kernel
theorem dX9_restore_81 : decode cX9_restore 81 = .ok (.aload_n 0, 1) := by decide +kernel
theorem dX9_restore_82 : decode cX9_restore 82 = .ok (.getfield 53, 3) := by decide +kernel
theorem dX9_restore_85 : decode cX9_restore 85 = .ok (.getfield 114, 3) := by decide +kernel
theorem dX9_restore_88 : decode cX9_restore 88 = .ok (.iload_n 1, 1) := by decide +kernel
theorem dX9_restore_89 : decode cX9_restore 89 = .ok (.aload_n 0, 1) := by decide +kernel
theorem dX9_restore_90 : decode cX9_restore 90 = .ok (.getfield 46, 3) := by decide +kernel
theorem dX9_restore_93 : decode cX9_restore 93 = .ok (.getfield 260, 3) := by decide +kernel
theorem dX9_restore_96 : decode cX9_restore 96 = .ok (.iload_n 1, 1) := by decide +kernel
theorem dX9_restore_97 : decode cX9_restore 97 = .ok (.iaload, 1) := by decide +kernel
theorem dX9_restore_98 : decode cX9_restore 98 = .ok (.iastore, 1) := by decide +kernel
theorem dX9_restore_99 : decode cX9_restore 99 = .ok (.iinc 1 1, 3) := by decide +kernel
theorem dX9_restore_102 : decode cX9_restore 102 = .ok (.goto (-26), 3) := by decide +kernel
theorem dX9_restore_105 : decode cX9_restore 105 = .ok (.aload_n 0, 1) := by decide +kernel
theorem dX9_restore_106 : decode cX9_restore 106 = .ok (.getfield 88, 3) := by decide +kernel
theorem dX9_restore_109 : decode cX9_restore 109 = .ok (.ireturn, 1) := by decide +kernel
set_option maxRecDepth 20000 in
theorem ggX9_count_X9_coinsOfAll : GoodIn wsX9_count wsX9_coinsOfAll := goodIn_r _ [12, 1, 13, 14, 15, 16, 17, 18, 19, 20, 21, 43, 44, 45, 46, 47, 48, 49, 50, 51, 52, 53, 54, 57, 58] (by decide +kernel) (by decide +kernel)
set_option maxRecDepth 20000 in
theorem gX9_count_X9_coinsOfAll : GoodIn wsX9_count (wsV RX9 261 RX9 yX9_coinsOfAll wsX9_coinsOfAll) := goodIn_app (goodIn_of _ (by decide +kernel)) ggX9_count_X9_coinsOfAll
set_option maxRecDepth 20000 in
theorem ggX9_count_X9_goodsOfAll : GoodIn wsX9_count wsX9_goodsOfAll := goodIn_r _ [25, 1, 13, 14, 26, 27, 17, 28, 29, 30, 31, 32, 33, 34, 35, 43, 44, 45, 46, 47, 48, 49, 50, 51, 52, 53, 54, 57, 58] (by decide +kernel) (by decide +kernel)
set_option maxRecDepth 20000 in
theorem gX9_count_X9_goodsOfAll : GoodIn wsX9_count (wsV RX9 264 RX9 yX9_goodsOfAll wsX9_goodsOfAll) := goodIn_app (goodIn_of _ (by decide +kernel)) ggX9_count_X9_goodsOfAll
set_option maxRecDepth 20000 in
theorem ggX9_count_X8_pursesTold : GoodIn wsX9_count wsX8_pursesTold := goodIn_r _ [40, 41, 42, 59, 60, 61, 62, 63, 64, 65] (by decide +kernel) (by decide +kernel)
set_option maxRecDepth 20000 in
theorem gX9_count_X8_pursesTold : GoodIn wsX9_count (wsV RX9 222 RX8 yX8_pursesTold wsX8_pursesTold) := goodIn_app (goodIn_of _ (by decide +kernel)) ggX9_count_X8_pursesTold
theorem dX9_count_0 : decode cX9_count 0 = .ok (.iload_n 1, 1) := by decide +kernel
theorem dX9_count_1 : decode cX9_count 1 = .ok (.tableswitch 93 0 7 #[47, 52, 57, 62, 67, 75, 83, 88], 47) := by decide +kernel
theorem dX9_count_48 : decode cX9_count 48 = .ok (.aload_n 0, 1) := by decide +kernel
theorem dX9_count_49 : decode cX9_count 49 = .ok (.invokevirtual 261, 3) := by decide +kernel
theorem dX9_count_52 : decode cX9_count 52 = .ok (.ireturn, 1) := by decide +kernel
theorem dX9_count_53 : decode cX9_count 53 = .ok (.aload_n 0, 1) := by decide +kernel
theorem dX9_count_54 : decode cX9_count 54 = .ok (.getfield 88, 3) := by decide +kernel
theorem dX9_count_57 : decode cX9_count 57 = .ok (.ireturn, 1) := by decide +kernel
theorem dX9_count_58 : decode cX9_count 58 = .ok (.aload_n 0, 1) := by decide +kernel
theorem dX9_count_59 : decode cX9_count 59 = .ok (.invokevirtual 264, 3) := by decide +kernel
theorem dX9_count_62 : decode cX9_count 62 = .ok (.ireturn, 1) := by decide +kernel
theorem dX9_count_63 : decode cX9_count 63 = .ok (.aload_n 0, 1) := by decide +kernel
theorem dX9_count_64 : decode cX9_count 64 = .ok (.getfield 91, 3) := by decide +kernel
theorem dX9_count_67 : decode cX9_count 67 = .ok (.ireturn, 1) := by decide +kernel
theorem dX9_count_68 : decode cX9_count 68 = .ok (.aload_n 0, 1) := by decide +kernel
theorem dX9_count_69 : decode cX9_count 69 = .ok (.getfield 39, 3) := by decide +kernel
theorem dX9_count_72 : decode cX9_count 72 = .ok (.invokevirtual 222, 3) := by decide +kernel
theorem dX9_count_75 : decode cX9_count 75 = .ok (.ireturn, 1) := by decide +kernel
theorem dX9_count_76 : decode cX9_count 76 = .ok (.aload_n 0, 1) := by decide +kernel
theorem dX9_count_77 : decode cX9_count 77 = .ok (.getfield 10, 3) := by decide +kernel
theorem dX9_count_80 : decode cX9_count 80 = .ok (.getfield 73, 3) := by decide +kernel
theorem dX9_count_83 : decode cX9_count 83 = .ok (.ireturn, 1) := by decide +kernel
theorem dX9_count_84 : decode cX9_count 84 = .ok (.aload_n 0, 1) := by decide +kernel
theorem dX9_count_85 : decode cX9_count 85 = .ok (.getfield 94, 3) := by decide +kernel
theorem dX9_count_88 : decode cX9_count 88 = .ok (.ireturn, 1) := by decide +kernel
theorem dX9_count_89 : decode cX9_count 89 = .ok (.aload_n 0, 1) := by decide +kernel
theorem dX9_count_90 : decode cX9_count 90 = .ok (.getfield 199, 3) := by decide +kernel
theorem dX9_count_93 : decode cX9_count 93 = .ok (.ireturn, 1) := by decide +kernel
theorem dX9_count_94 : decode cX9_count 94 = .ok (.bipush (-102), 2) := by decide +kernel
theorem dX9_count_96 : decode cX9_count 96 = .ok (.ireturn, 1) := by decide +kernel
set_option maxRecDepth 20000 in
theorem ggX9_digest_X9_isLawless : GoodIn wsX9_digest wsX9_isLawless := goodIn_r _ [12, 13, 217, 218, 219, 220, 221, 222, 223, 224, 225, 226, 227, 228] (by decide +kernel) (by decide +kernel)
set_option maxRecDepth 20000 in
theorem gX9_digest_X9_isLawless : GoodIn wsX9_digest (wsV RX9 104 RX9 yX9_isLawless wsX9_isLawless) := goodIn_app (goodIn_of _ (by decide +kernel)) ggX9_digest_X9_isLawless
set_option maxRecDepth 20000 in
theorem ggX9_digest_X9_town : GoodIn wsX9_digest wsX9_town := goodIn_r _ [17, 18, 19, 20, 21, 22, 23, 24, 11, 25, 8, 9, 10, 12, 13, 26, 27, 28, 29, 2, 30, 31, 32, 33, 34, 35, 217, 218, 219, 220, 221, 222, 223, 224, 225, 226, 227, 228, 238, 239, 240, 241, 242, 243, 244, 245] (by decide +kernel) (by decide +kernel)
set_option maxRecDepth 20000 in
theorem gX9_digest_X9_town : GoodIn wsX9_digest (wsV RX9 269 RX9 yX9_town wsX9_town) := goodIn_app (goodIn_of _ (by decide +kernel)) ggX9_digest_X9_town
set_option maxRecDepth 20000 in
theorem ggX9_digest_X9_fold : GoodIn wsX9_digest wsX9_fold := goodIn_r _ [38, 39] (by decide +kernel) (by decide +kernel)
set_option maxRecDepth 20000 in
theorem gX9_digest_X9_fold : GoodIn wsX9_digest (va_wsS RX9 272 yX9_fold wsX9_fold) := goodIn_app (goodIn_of _ (by decide +kernel)) ggX9_digest_X9_fold
set_option maxRecDepth 20000 in
theorem ggX9_digest_X9_foldPerson : GoodIn wsX9_digest wsX9_foldPerson := goodIn_r _ [43, 30, 31, 44, 45, 46, 11, 47, 48, 49, 18, 21, 22, 50, 51, 52, 53, 2, 32, 33, 34, 35, 54, 55, 56, 57, 58, 59, 60, 61, 62, 63, 64, 65, 66, 67, 68, 69, 70, 71, 72, 73, 74, 75, 76, 77, 78, 79, 80, 81, 36, 37, 38, 39, 82, 83, 84, 85, 86, 87, 88, 89, 90, 91, 92, 93, 94, 95, 96, 97, 98, 99, 100, 101, 102, 103, 104, 105, 106, 107, 108, 109, 110, 111, 112, 113, 114, 115, 116, 117, 118, 119, 120, 121, 122, 123, 124, 125, 126, 127, 128, 129, 130, 131, 132, 133, 134, 135, 136, 137, 138, 139, 140, 141, 142, 143, 144, 145, 146, 147, 217, 218, 219, 220, 221, 222, 223, 224, 225, 226, 227, 228, 244, 245, 238, 239, 240, 241, 242, 243, 246, 247, 248, 249] (by decide +kernel) (by decide +kernel)
set_option maxRecDepth 20000 in
theorem gX9_digest_X9_foldPerson : GoodIn wsX9_digest (wsV RX9 276 RX9 yX9_foldPerson wsX9_foldPerson) := goodIn_app (goodIn_of _ (by decide +kernel)) ggX9_digest_X9_foldPerson
set_option maxRecDepth 20000 in
theorem ggX9_digest_X9_ways : GoodIn wsX9_digest wsX9_ways := goodIn_r _ [151, 3, 4, 90, 18, 152, 91, 92, 93, 94, 95, 96, 97, 98, 99, 100, 101, 102, 103, 104, 105, 64, 65, 66, 67, 68, 69, 70, 71, 72, 106, 74, 75, 76, 77, 153, 154, 155, 156, 157, 158, 159, 160, 161, 162, 163, 164, 165, 166, 167, 34, 168, 169, 170, 171, 172, 173, 174, 175, 176, 177, 116, 117, 118, 119, 120, 121, 122, 33, 35, 123, 124, 125, 126, 127, 128, 129, 130, 131, 132, 133, 61, 62, 134, 135, 136, 137, 138, 139, 140, 141, 142, 143, 144, 145, 146, 147, 178, 179, 180, 181, 217, 218, 219, 220, 221, 222, 223, 224, 225, 226, 227, 228, 229, 230, 231, 232, 233, 234, 235, 246, 247, 248, 249, 238, 239, 240, 241, 242, 243] (by decide +kernel) (by decide +kernel)
set_option maxRecDepth 20000 in
theorem gX9_digest_X9_ways : GoodIn wsX9_digest (wsV RX9 280 RX9 yX9_ways wsX9_ways) := goodIn_app (goodIn_of _ (by decide +kernel)) ggX9_digest_X9_ways
set_option maxRecDepth 20000 in
theorem ggX9_digest_X9_ends : GoodIn wsX9_digest wsX9_ends := goodIn_r _ [185, 3, 4, 90, 18, 152, 91, 92, 93, 94, 95, 96, 97, 98, 99, 100, 101, 102, 103, 104, 105, 64, 65, 66, 67, 68, 69, 70, 71, 72, 106, 74, 75, 76, 77, 153, 154, 155, 156, 157, 158, 159, 160, 161, 162, 163, 164, 165, 166, 167, 34, 168, 169, 170, 171, 172, 173, 174, 175, 176, 177, 116, 117, 118, 119, 120, 121, 122, 33, 35, 123, 124, 125, 126, 127, 128, 129, 130, 131, 132, 133, 61, 62, 134, 135, 136, 137, 138, 139, 140, 141, 142, 143, 144, 145, 146, 147, 186, 187, 188, 189, 190, 217, 218, 219, 220, 221, 222, 223, 224, 225, 226, 227, 228, 229, 230, 231, 232, 233, 234, 235, 246, 247, 248, 249, 238, 239, 240, 241, 242, 243] (by decide +kernel) (by decide +kernel)
set_option maxRecDepth 20000 in
theorem gX9_digest_X9_ends : GoodIn wsX9_digest (wsV RX9 283 RX9 yX9_ends wsX9_ends) := goodIn_app (goodIn_of _ (by decide +kernel)) ggX9_digest_X9_ends
set_option maxRecDepth 20000 in
theorem ggX9_digest_X9_count : GoodIn wsX9_digest wsX9_count := goodIn_r _ [194, 2, 195, 3, 5, 6, 13, 196, 197, 198, 199, 11, 200, 30, 31, 57, 58, 34, 59, 60, 61, 62, 201, 202, 203, 204, 54, 55, 56, 205, 206, 207, 208, 209, 210, 211, 212, 213, 214, 156, 215, 216, 160, 217, 218, 219, 220, 221, 222, 223, 224, 225, 226, 227, 228, 236, 237, 244, 245, 229, 230, 231, 232, 233, 234, 235] (by decide +kernel) (by decide +kernel)
set_option maxRecDepth 20000 in
theorem gX9_digest_X9_count : GoodIn wsX9_digest (wsV RX9 289 RX9 yX9_count wsX9_count) := goodIn_app (goodIn_of _ (by decide +kernel)) ggX9_digest_X9_count
theorem dX9_digest_0 : decode cX9_digest 0 = .ok (.ldc2_w 267, 3) := by decide +kernel
theorem dX9_digest_3 : decode cX9_digest 3 = .ok (.lstore_n 1, 1) := by decide +kernel
theorem dX9_digest_4 : decode cX9_digest 4 = .ok (.aload_n 0, 1) := by decide +kernel
theorem dX9_digest_5 : decode cX9_digest 5 = .ok (.invokevirtual 104, 3) := by decide +kernel
theorem dX9_digest_8 : decode cX9_digest 8 = .ok (.ifCond .ne 44, 3) := by decide +kernel
theorem dX9_digest_11 : decode cX9_digest 11 = .ok (.iconst 0, 1) := by decide +kernel
theorem dX9_digest_12 : decode cX9_digest 12 = .ok (.istore_n 3, 1) := by decide +kernel
theorem dX9_digest_13 : decode cX9_digest 13 = .ok (.iload_n 3, 1) := by decide +kernel
theorem dX9_digest_14 : decode cX9_digest 14 = .ok (.iconst 4, 1) := by decide +kernel
theorem dX9_digest_15 : decode cX9_digest 15 = .ok (.if_icmp .ge 37, 3) := by decide +kernel
theorem dX9_digest_18 : decode cX9_digest 18 = .ok (.iconst 0, 1) := by decide +kernel
theorem dX9_digest_19 : decode cX9_digest 19 = .ok (.istore 4, 2) := by decide +kernel
theorem dX9_digest_21 : decode cX9_digest 21 = .ok (.iload 4, 2) := by decide +kernel
theorem dX9_digest_23 : decode cX9_digest 23 = .ok (.iconst 4, 1) := by decide +kernel
theorem dX9_digest_24 : decode cX9_digest 24 = .ok (.if_icmp .gt 22, 3) := by decide +kernel
theorem dX9_digest_27 : decode cX9_digest 27 = .ok (.lload_n 1, 1) := by decide +kernel
theorem dX9_digest_28 : decode cX9_digest 28 = .ok (.aload_n 0, 1) := by decide +kernel
theorem dX9_digest_29 : decode cX9_digest 29 = .ok (.iload_n 3, 1) := by decide +kernel
theorem dX9_digest_30 : decode cX9_digest 30 = .ok (.iload 4, 2) := by decide +kernel
theorem dX9_digest_32 : decode cX9_digest 32 = .ok (.invokevirtual 269, 3) := by decide +kernel
theorem dX9_digest_35 : decode cX9_digest 35 = .ok (.i2l, 1) := by decide +kernel
theorem dX9_digest_36 : decode cX9_digest 36 = .ok (.invokestatic 272, 3) := by decide +kernel
theorem dX9_digest_39 : decode cX9_digest 39 = .ok (.lstore_n 1, 1) := by decide +kernel
theorem dX9_digest_40 : decode cX9_digest 40 = .ok (.iinc 4 1, 3) := by decide +kernel
theorem dX9_digest_43 : decode cX9_digest 43 = .ok (.goto (-22), 3) := by decide +kernel
theorem dX9_digest_46 : decode cX9_digest 46 = .ok (.iinc 3 1, 3) := by decide +kernel
theorem dX9_digest_49 : decode cX9_digest 49 = .ok (.goto (-36), 3) := by decide +kernel
theorem dX9_digest_52 : decode cX9_digest 52 = .ok (.iconst 0, 1) := by decide +kernel
theorem dX9_digest_53 : decode cX9_digest 53 = .ok (.istore_n 3, 1) := by decide +kernel
theorem dX9_digest_54 : decode cX9_digest 54 = .ok (.iload_n 3, 1) := by decide +kernel
theorem dX9_digest_55 : decode cX9_digest 55 = .ok (.aload_n 0, 1) := by decide +kernel
theorem dX9_digest_56 : decode cX9_digest 56 = .ok (.getfield 88, 3) := by decide +kernel
theorem dX9_digest_59 : decode cX9_digest 59 = .ok (.if_icmp .ge 16, 3) := by decide +kernel
theorem dX9_digest_62 : decode cX9_digest 62 = .ok (.aload_n 0, 1) := by decide +kernel
theorem dX9_digest_63 : decode cX9_digest 63 = .ok (.lload_n 1, 1) := by decide +kernel
theorem dX9_digest_64 : decode cX9_digest 64 = .ok (.iload_n 3, 1) := by decide +kernel
theorem dX9_digest_65 : decode cX9_digest 65 = .ok (.invokevirtual 276, 3) := by decide +kernel
theorem dX9_digest_68 : decode cX9_digest 68 = .ok (.lstore_n 1, 1) := by decide +kernel
theorem dX9_digest_69 : decode cX9_digest 69 = .ok (.iinc 3 1, 3) := by decide +kernel
theorem dX9_digest_72 : decode cX9_digest 72 = .ok (.goto (-18), 3) := by decide +kernel
theorem dX9_digest_75 : decode cX9_digest 75 = .ok (.aload_n 0, 1) := by decide +kernel
theorem dX9_digest_76 : decode cX9_digest 76 = .ok (.getfield 39, 3) := by decide +kernel
theorem dX9_digest_79 : decode cX9_digest 79 = .ok (.getfield 81, 3) := by decide +kernel
theorem dX9_digest_82 : decode cX9_digest 82 = .ok (.ifCond .eq 21, 3) := by decide +kernel
theorem dX9_digest_85 : decode cX9_digest 85 = .ok (.lload_n 1, 1) := by decide +kernel
theorem dX9_digest_86 : decode cX9_digest 86 = .ok (.aload_n 0, 1) := by decide +kernel
theorem dX9_digest_87 : decode cX9_digest 87 = .ok (.invokevirtual 280, 3) := by decide +kernel
theorem dX9_digest_90 : decode cX9_digest 90 = .ok (.i2l, 1) := by decide +kernel
theorem dX9_digest_91 : decode cX9_digest 91 = .ok (.invokestatic 272, 3) := by decide +kernel
theorem dX9_digest_94 : decode cX9_digest 94 = .ok (.aload_n 0, 1) := by decide +kernel
theorem dX9_digest_95 : decode cX9_digest 95 = .ok (.invokevirtual 283, 3) := by decide +kernel
theorem dX9_digest_98 : decode cX9_digest 98 = .ok (.i2l, 1) := by decide +kernel
theorem dX9_digest_99 : decode cX9_digest 99 = .ok (.invokestatic 272, 3) := by decide +kernel
theorem dX9_digest_102 : decode cX9_digest 102 = .ok (.lstore_n 1, 1) := by decide +kernel
theorem dX9_digest_103 : decode cX9_digest 103 = .ok (.iconst 0, 1) := by decide +kernel
theorem dX9_digest_104 : decode cX9_digest 104 = .ok (.istore_n 3, 1) := by decide +kernel
theorem dX9_digest_105 : decode cX9_digest 105 = .ok (.iload_n 3, 1) := by decide +kernel
theorem dX9_digest_106 : decode cX9_digest 106 = .ok (.aload_n 0, 1) := by decide +kernel
theorem dX9_digest_107 : decode cX9_digest 107 = .ok (.getfield 10, 3) := by decide +kernel
theorem dX9_digest_110 : decode cX9_digest 110 = .ok (.getfield 73, 3) := by decide +kernel
theorem dX9_digest_113 : decode cX9_digest 113 = .ok (.if_icmp .ge 24, 3) := by decide +kernel
theorem dX9_digest_116 : decode cX9_digest 116 = .ok (.lload_n 1, 1) := by decide +kernel
theorem dX9_digest_117 : decode cX9_digest 117 = .ok (.aload_n 0, 1) := by decide +kernel
theorem dX9_digest_118 : decode cX9_digest 118 = .ok (.getfield 10, 3) := by decide +kernel
theorem dX9_digest_121 : decode cX9_digest 121 = .ok (.getfield 286, 3) := by decide +kernel
theorem dX9_digest_124 : decode cX9_digest 124 = .ok (.iload_n 3, 1) := by decide +kernel
theorem dX9_digest_125 : decode cX9_digest 125 = .ok (.iaload, 1) := by decide +kernel
theorem dX9_digest_126 : decode cX9_digest 126 = .ok (.i2l, 1) := by decide +kernel
theorem dX9_digest_127 : decode cX9_digest 127 = .ok (.invokestatic 272, 3) := by decide +kernel
theorem dX9_digest_130 : decode cX9_digest 130 = .ok (.lstore_n 1, 1) := by decide +kernel
theorem dX9_digest_131 : decode cX9_digest 131 = .ok (.iinc 3 1, 3) := by decide +kernel
theorem dX9_digest_134 : decode cX9_digest 134 = .ok (.goto (-29), 3) := by decide +kernel
theorem dX9_digest_137 : decode cX9_digest 137 = .ok (.iconst 0, 1) := by decide +kernel
theorem dX9_digest_138 : decode cX9_digest 138 = .ok (.istore_n 3, 1) := by decide +kernel
theorem dX9_digest_139 : decode cX9_digest 139 = .ok (.iload_n 3, 1) := by decide +kernel
theorem dX9_digest_140 : decode cX9_digest 140 = .ok (.bipush 7, 2) := by decide +kernel
theorem dX9_digest_142 : decode cX9_digest 142 = .ok (.if_icmp .gt 20, 3) := by decide +kernel
theorem dX9_digest_145 : decode cX9_digest 145 = .ok (.lload_n 1, 1) := by decide +kernel
theorem dX9_digest_146 : decode cX9_digest 146 = .ok (.aload_n 0, 1) := by decide +kernel
theorem dX9_digest_147 : decode cX9_digest 147 = .ok (.iload_n 3, 1) := by decide +kernel
theorem dX9_digest_148 : decode cX9_digest 148 = .ok (.invokevirtual 289, 3) := by decide +kernel
theorem dX9_digest_151 : decode cX9_digest 151 = .ok (.i2l, 1) := by decide +kernel
theorem dX9_digest_152 : decode cX9_digest 152 = .ok (.invokestatic 272, 3) := by decide +kernel
theorem dX9_digest_155 : decode cX9_digest 155 = .ok (.lstore_n 1, 1) := by decide +kernel
theorem dX9_digest_156 : decode cX9_digest 156 = .ok (.iinc 3 1, 3) := by decide +kernel
theorem dX9_digest_159 : decode cX9_digest 159 = .ok (.goto (-20), 3) := by decide +kernel
theorem dX9_digest_162 : decode cX9_digest 162 = .ok (.lload_n 1, 1) := by decide +kernel
theorem dX9_digest_163 : decode cX9_digest 163 = .ok (.lreturn, 1) := by decide +kernel
theorem dX9_fold_0 : decode cX9_fold 0 = .ok (.ldc2_w 292, 3) := by decide +kernel
theorem dX9_fold_3 : decode cX9_fold 3 = .ok (.lload_n 0, 1) := by decide +kernel
theorem dX9_fold_4 : decode cX9_fold 4 = .ok (.lmul, 1) := by decide +kernel
theorem dX9_fold_5 : decode cX9_fold 5 = .ok (.lload_n 2, 1) := by decide +kernel
theorem dX9_fold_6 : decode cX9_fold 6 = .ok (.ladd, 1) := by decide +kernel
theorem dX9_fold_7 : decode cX9_fold 7 = .ok (.lreturn, 1) := by decide +kernel
set_option maxRecDepth 20000 in
theorem ggX9_foldPerson_X9_about : GoodIn wsX9_foldPerson wsX9_about := goodIn_r _ [7, 1, 2, 8, 9, 10, 11, 12, 13, 14, 15, 6, 16, 17, 18, 19, 20, 21, 22, 23, 24, 25, 26, 27, 28, 29, 30, 31, 32, 33, 34, 35, 36, 37, 38, 39, 40, 41, 42, 43, 44, 45, 46, 47, 48, 49, 120, 121, 122, 123, 124, 125, 126, 127, 128, 129, 130, 131, 132, 133, 134, 135, 136, 137, 138, 139] (by decide +kernel) (by decide +kernel)
set_option maxRecDepth 20000 in
theorem gX9_foldPerson_X9_about : GoodIn wsX9_foldPerson (wsV RX9 294 RX9 yX9_about wsX9_about) := goodIn_app (goodIn_of _ (by decide +kernel)) ggX9_foldPerson_X9_about
set_option maxRecDepth 20000 in
theorem ggX9_foldPerson_X9_fold : GoodIn wsX9_foldPerson wsX9_fold := goodIn_r _ [52, 53] (by decide +kernel) (by decide +kernel)
set_option maxRecDepth 20000 in
theorem gX9_foldPerson_X9_fold : GoodIn wsX9_foldPerson (va_wsS RX9 272 yX9_fold wsX9_fold) := goodIn_app (goodIn_of _ (by decide +kernel)) ggX9_foldPerson_X9_fold
set_option maxRecDepth 20000 in
theorem ggX9_foldPerson_X9_dead : GoodIn wsX9_foldPerson wsX9_dead := goodIn_r _ [57, 1, 2, 13, 14, 15, 6, 16, 17, 58, 59, 60, 61, 62, 10, 8, 63, 64, 65, 66, 67, 68, 69, 70, 71, 72, 73, 74, 75, 76, 77, 32, 33, 34, 35, 36, 37, 38, 39, 40, 78, 42, 43, 44, 45, 79, 80, 81, 82, 49, 29, 20, 30, 120, 121, 122, 123, 124, 125, 126, 127, 128, 129, 130, 131, 132, 133, 140, 141, 142, 143, 134, 135, 136, 137, 138, 139] (by decide +kernel) (by decide +kernel)
set_option maxRecDepth 20000 in
theorem gX9_foldPerson_X9_dead : GoodIn wsX9_foldPerson (wsV RX9 297 RX9 yX9_dead wsX9_dead) := goodIn_app (goodIn_of _ (by decide +kernel)) ggX9_foldPerson_X9_dead
set_option maxRecDepth 20000 in
theorem ggX9_foldPerson_X9_dealFor : GoodIn wsX9_foldPerson wsX9_dealFor := goodIn_r _ [61, 62, 10, 1, 8, 63, 64, 65, 66, 67, 68, 69, 70, 71, 72, 73, 74, 75, 76, 77, 32, 33, 34, 35, 36, 37, 38, 39, 40, 78, 42, 43, 44, 45, 120, 121, 122, 123, 124, 125, 126, 127, 128, 129, 130, 131, 132, 133, 140, 141, 142, 143, 134, 135, 136, 137, 138, 139] (by decide +kernel) (by decide +kernel)
set_option maxRecDepth 20000 in
theorem gX9_foldPerson_X9_dealFor : GoodIn wsX9_foldPerson (wsV RX9 184 RX9 yX9_dealFor wsX9_dealFor) := goodIn_app (goodIn_of _ (by decide +kernel)) ggX9_foldPerson_X9_dealFor
set_option maxRecDepth 20000 in
theorem ggX9_foldPerson_X0_actsOpen : GoodIn wsX9_foldPerson wsX0_actsOpen := goodIn_r _ [86, 87, 88, 89, 66, 90, 91, 92, 93, 94, 19, 20, 21, 95, 96, 97, 98, 99, 100, 101, 68, 102, 103, 104, 105, 29, 30, 106, 107, 108, 109, 74, 110, 111, 112, 113, 114, 115, 116, 117, 118, 119, 72, 70, 140, 141, 142, 143] (by decide +kernel) (by decide +kernel)
set_option maxRecDepth 20000 in
theorem gX9_foldPerson_X0_actsOpen : GoodIn wsX9_foldPerson (wsV RX9 300 RX0 yX0_actsOpen wsX0_actsOpen) := goodIn_app (goodIn_of _ (by decide +kernel)) ggX9_foldPerson_X0_actsOpen
theorem dX9_foldPerson_0 : decode cX9_foldPerson 0 = .ok (.lload_n 1, 1) := by decide +kernel
theorem dX9_foldPerson_1 : decode cX9_foldPerson 1 = .ok (.lstore 4, 2) := by decide +kernel
theorem dX9_foldPerson_3 : decode cX9_foldPerson 3 = .ok (.iconst 0, 1) := by decide +kernel
theorem dX9_foldPerson_4 : decode cX9_foldPerson 4 = .ok (.istore 6, 2) := by decide +kernel
theorem dX9_foldPerson_6 : decode cX9_foldPerson 6 = .ok (.iload 6, 2) := by decide +kernel
theorem dX9_foldPerson_8 : decode cX9_foldPerson 8 = .ok (.iconst 5, 1) := by decide +kernel
theorem dX9_foldPerson_9 : decode cX9_foldPerson 9 = .ok (.if_icmp .gt 24, 3) := by decide +kernel
theorem dX9_foldPerson_12 : decode cX9_foldPerson 12 = .ok (.lload 4, 2) := by decide +kernel
theorem dX9_foldPerson_14 : decode cX9_foldPerson 14 = .ok (.aload_n 0, 1) := by decide +kernel
theorem dX9_foldPerson_15 : decode cX9_foldPerson 15 = .ok (.iload_n 3, 1) := by decide +kernel
theorem dX9_foldPerson_16 : decode cX9_foldPerson 16 = .ok (.iload 6, 2) := by decide +kernel
theorem dX9_foldPerson_18 : decode cX9_foldPerson 18 = .ok (.invokevirtual 294, 3) := by decide +kernel
theorem dX9_foldPerson_21 : decode cX9_foldPerson 21 = .ok (.i2l, 1) := by decide +kernel
theorem dX9_foldPerson_22 : decode cX9_foldPerson 22 = .ok (.invokestatic 272, 3) := by decide +kernel
theorem dX9_foldPerson_25 : decode cX9_foldPerson 25 = .ok (.lstore 4, 2) := by decide +kernel
theorem dX9_foldPerson_27 : decode cX9_foldPerson 27 = .ok (.iinc 6 1, 3) := by decide +kernel
theorem dX9_foldPerson_30 : decode cX9_foldPerson 30 = .ok (.goto (-24), 3) := by decide +kernel
theorem dX9_foldPerson_33 : decode cX9_foldPerson 33 = .ok (.bipush 10, 2) := by decide +kernel
theorem dX9_foldPerson_35 : decode cX9_foldPerson 35 = .ok (.istore 6, 2) := by decide +kernel
theorem dX9_foldPerson_37 : decode cX9_foldPerson 37 = .ok (.iload 6, 2) := by decide +kernel
theorem dX9_foldPerson_39 : decode cX9_foldPerson 39 = .ok (.bipush 13, 2) := by decide +kernel
theorem dX9_foldPerson_41 : decode cX9_foldPerson 41 = .ok (.if_icmp .gt 24, 3) := by decide +kernel
theorem dX9_foldPerson_44 : decode cX9_foldPerson 44 = .ok (.lload 4, 2) := by decide +kernel
theorem dX9_foldPerson_46 : decode cX9_foldPerson 46 = .ok (.aload_n 0, 1) := by decide +kernel
theorem dX9_foldPerson_47 : decode cX9_foldPerson 47 = .ok (.iload_n 3, 1) := by decide +kernel
theorem dX9_foldPerson_48 : decode cX9_foldPerson 48 = .ok (.iload 6, 2) := by decide +kernel
theorem dX9_foldPerson_50 : decode cX9_foldPerson 50 = .ok (.invokevirtual 294, 3) := by decide +kernel
theorem dX9_foldPerson_53 : decode cX9_foldPerson 53 = .ok (.i2l, 1) := by decide +kernel
theorem dX9_foldPerson_54 : decode cX9_foldPerson 54 = .ok (.invokestatic 272, 3) := by decide +kernel
theorem dX9_foldPerson_57 : decode cX9_foldPerson 57 = .ok (.lstore 4, 2) := by decide +kernel
theorem dX9_foldPerson_59 : decode cX9_foldPerson 59 = .ok (.iinc 6 1, 3) := by decide +kernel
theorem dX9_foldPerson_62 : decode cX9_foldPerson 62 = .ok (.goto (-25), 3) := by decide +kernel
theorem dX9_foldPerson_65 : decode cX9_foldPerson 65 = .ok (.lload 4, 2) := by decide +kernel
theorem dX9_foldPerson_67 : decode cX9_foldPerson 67 = .ok (.aload_n 0, 1) := by decide +kernel
theorem dX9_foldPerson_68 : decode cX9_foldPerson 68 = .ok (.iload_n 3, 1) := by decide +kernel
theorem dX9_foldPerson_69 : decode cX9_foldPerson 69 = .ok (.invokevirtual 297, 3) := by decide +kernel
theorem dX9_foldPerson_72 : decode cX9_foldPerson 72 = .ok (.i2l, 1) := by decide +kernel
theorem dX9_foldPerson_73 : decode cX9_foldPerson 73 = .ok (.invokestatic 272, 3) := by decide +kernel
theorem dX9_foldPerson_76 : decode cX9_foldPerson 76 = .ok (.lstore 4, 2) := by decide +kernel
theorem dX9_foldPerson_78 : decode cX9_foldPerson 78 = .ok (.lload 4, 2) := by decide +kernel
theorem dX9_foldPerson_80 : decode cX9_foldPerson 80 = .ok (.aload_n 0, 1) := by decide +kernel
theorem dX9_foldPerson_81 : decode cX9_foldPerson 81 = .ok (.iload_n 3, 1) := by decide +kernel
theorem dX9_foldPerson_82 : decode cX9_foldPerson 82 = .ok (.invokevirtual 184, 3) := by decide +kernel
theorem dX9_foldPerson_85 : decode cX9_foldPerson 85 = .ok (.aload_n 0, 1) := by decide +kernel
theorem dX9_foldPerson_86 : decode cX9_foldPerson 86 = .ok (.getfield 18, 3) := by decide +kernel
theorem dX9_foldPerson_89 : decode cX9_foldPerson 89 = .ok (.iload_n 3, 1) := by decide +kernel
theorem dX9_foldPerson_90 : decode cX9_foldPerson 90 = .ok (.aaload, 1) := by decide +kernel
theorem dX9_foldPerson_91 : decode cX9_foldPerson 91 = .ok (.getfield 138, 3) := by decide +kernel
theorem dX9_foldPerson_94 : decode cX9_foldPerson 94 = .ok (.invokevirtual 300, 3) := by decide +kernel
theorem dX9_foldPerson_97 : decode cX9_foldPerson 97 = .ok (.i2l, 1) := by decide +kernel
theorem dX9_foldPerson_98 : decode cX9_foldPerson 98 = .ok (.invokestatic 272, 3) := by decide +kernel
theorem dX9_foldPerson_101 : decode cX9_foldPerson 101 = .ok (.lreturn, 1) := by decide +kernel
theorem dX9_isTown_0 : decode cX9_isTown 0 = .ok (.iload_n 0, 1) := by decide +kernel
theorem dX9_isTown_1 : decode cX9_isTown 1 = .ok (.ifCond .lt 12, 3) := by decide +kernel
theorem dX9_isTown_4 : decode cX9_isTown 4 = .ok (.iload_n 0, 1) := by decide +kernel
theorem dX9_isTown_5 : decode cX9_isTown 5 = .ok (.iconst 4, 1) := by decide +kernel
theorem dX9_isTown_6 : decode cX9_isTown 6 = .ok (.if_icmp .ge 7, 3) := by decide +kernel
theorem dX9_isTown_9 : decode cX9_isTown 9 = .ok (.iconst 1, 1) := by decide +kernel
theorem dX9_isTown_10 : decode cX9_isTown 10 = .ok (.goto 4, 3) := by decide +kernel
theorem dX9_isTown_13 : decode cX9_isTown 13 = .ok (.iconst 0, 1) := by decide +kernel
theorem dX9_isTown_14 : decode cX9_isTown 14 = .ok (.ireturn, 1) := by decide +kernel
theorem dX9_isCoin_0 : decode cX9_isCoin 0 = .ok (.iload_n 0, 1) := by decide +kernel
theorem dX9_isCoin_1 : decode cX9_isCoin 1 = .ok (.ifCond .lt 12, 3) := by decide +kernel
theorem dX9_isCoin_4 : decode cX9_isCoin 4 = .ok (.iload_n 0, 1) := by decide +kernel
theorem dX9_isCoin_5 : decode cX9_isCoin 5 = .ok (.iconst 4, 1) := by decide +kernel
theorem dX9_isCoin_6 : decode cX9_isCoin 6 = .ok (.if_icmp .ge 7, 3) := by decide +kernel
theorem dX9_isCoin_9 : decode cX9_isCoin 9 = .ok (.iconst 1, 1) := by decide +kernel
theorem dX9_isCoin_10 : decode cX9_isCoin 10 = .ok (.goto 4, 3) := by decide +kernel
theorem dX9_isCoin_13 : decode cX9_isCoin 13 = .ok (.iconst 0, 1) := by decide +kernel
theorem dX9_isCoin_14 : decode cX9_isCoin 14 = .ok (.ireturn, 1) := by decide +kernel
theorem dX9_isKind_0 : decode cX9_isKind 0 = .ok (.iload_n 0, 1) := by decide +kernel
theorem dX9_isKind_1 : decode cX9_isKind 1 = .ok (.ifCond .lt 15, 3) := by decide +kernel
theorem dX9_isKind_4 : decode cX9_isKind 4 = .ok (.iload_n 0, 1) := by decide +kernel
theorem dX9_isKind_5 : decode cX9_isKind 5 = .ok (.getstatic 130, 3) := by decide +kernel
theorem dX9_isKind_8 : decode cX9_isKind 8 = .ok (.arraylength, 1) := by decide +kernel
theorem dX9_isKind_9 : decode cX9_isKind 9 = .ok (.if_icmp .ge 7, 3) := by decide +kernel
theorem dX9_isKind_12 : decode cX9_isKind 12 = .ok (.iconst 1, 1) := by decide +kernel
theorem dX9_isKind_13 : decode cX9_isKind 13 = .ok (.goto 4, 3) := by decide +kernel
theorem dX9_isKind_16 : decode cX9_isKind 16 = .ok (.iconst 0, 1) := by decide +kernel
theorem dX9_isKind_17 : decode cX9_isKind 17 = .ok (.ireturn, 1) := by decide +kernel
theorem dX9_isPrice_0 : decode cX9_isPrice 0 = .ok (.iload_n 0, 1) := by decide +kernel
theorem dX9_isPrice_1 : decode cX9_isPrice 1 = .ok (.iconst 1, 1) := by decide +kernel
theorem dX9_isPrice_2 : decode cX9_isPrice 2 = .ok (.if_icmp .lt 12, 3) := by decide +kernel
theorem dX9_isPrice_5 : decode cX9_isPrice 5 = .ok (.iload_n 0, 1) := by decide +kernel
theorem dX9_isPrice_6 : decode cX9_isPrice 6 = .ok (.iconst 4, 1) := by decide +kernel
theorem dX9_isPrice_7 : decode cX9_isPrice 7 = .ok (.if_icmp .gt 7, 3) := by decide +kernel
theorem dX9_isPrice_10 : decode cX9_isPrice 10 = .ok (.iconst 1, 1) := by decide +kernel
theorem dX9_isPrice_11 : decode cX9_isPrice 11 = .ok (.goto 4, 3) := by decide +kernel
theorem dX9_isPrice_14 : decode cX9_isPrice 14 = .ok (.iconst 0, 1) := by decide +kernel
theorem dX9_isPrice_15 : decode cX9_isPrice 15 = .ok (.ireturn, 1) := by decide +kernel
theorem dX9_isAct_0 : decode cX9_isAct 0 = .ok (.getstatic 303, 3) := by decide +kernel
theorem dX9_isAct_3 : decode cX9_isAct 3 = .ok (.astore_n 1, 1) := by decide +kernel
theorem dX9_isAct_4 : decode cX9_isAct 4 = .ok (.aload_n 1, 1) := by decide +kernel
theorem dX9_isAct_5 : decode cX9_isAct 5 = .ok (.arraylength, 1) := by decide +kernel
theorem dX9_isAct_6 : decode cX9_isAct 6 = .ok (.istore_n 2, 1) := by decide +kernel
theorem dX9_isAct_7 : decode cX9_isAct 7 = .ok (.iconst 0, 1) := by decide +kernel
theorem dX9_isAct_8 : decode cX9_isAct 8 = .ok (.istore_n 3, 1) := by decide +kernel
theorem dX9_isAct_9 : decode cX9_isAct 9 = .ok (.iload_n 3, 1) := by decide +kernel
theorem dX9_isAct_10 : decode cX9_isAct 10 = .ok (.iload_n 2, 1) := by decide +kernel
theorem dX9_isAct_11 : decode cX9_isAct 11 = .ok (.if_icmp .ge 22, 3) := by decide +kernel
theorem dX9_isAct_14 : decode cX9_isAct 14 = .ok (.aload_n 1, 1) := by decide +kernel
theorem dX9_isAct_15 : decode cX9_isAct 15 = .ok (.iload_n 3, 1) := by decide +kernel
theorem dX9_isAct_16 : decode cX9_isAct 16 = .ok (.iaload, 1) := by decide +kernel
theorem dX9_isAct_17 : decode cX9_isAct 17 = .ok (.istore 4, 2) := by decide +kernel
theorem dX9_isAct_19 : decode cX9_isAct 19 = .ok (.iload 4, 2) := by decide +kernel
theorem dX9_isAct_21 : decode cX9_isAct 21 = .ok (.iload_n 0, 1) := by decide +kernel
theorem dX9_isAct_22 : decode cX9_isAct 22 = .ok (.if_icmp .ne 5, 3) := by decide +kernel
theorem dX9_isAct_25 : decode cX9_isAct 25 = .ok (.iconst 1, 1) := by decide +kernel
theorem dX9_isAct_26 : decode cX9_isAct 26 = .ok (.ireturn, 1) := by decide +kernel
theorem dX9_isAct_27 : decode cX9_isAct 27 = .ok (.iinc 3 1, 3) := by decide +kernel
theorem dX9_isAct_30 : decode cX9_isAct 30 = .ok (.goto (-21), 3) := by decide +kernel
theorem dX9_isAct_33 : decode cX9_isAct 33 = .ok (.iconst 0, 1) := by decide +kernel
theorem dX9_isAct_34 : decode cX9_isAct 34 = .ok (.ireturn, 1) := by decide +kernel
theorem dX9_seedBehind_0 : decode cX9_seedBehind 0 = .ok (.ldc2_w 306, 3) := by decide +kernel
theorem dX9_seedBehind_3 : decode cX9_seedBehind 3 = .ok (.iload_n 0, 1) := by decide +kernel
theorem dX9_seedBehind_4 : decode cX9_seedBehind 4 = .ok (.i2l, 1) := by decide +kernel
theorem dX9_seedBehind_5 : decode cX9_seedBehind 5 = .ok (.lmul, 1) := by decide +kernel
theorem dX9_seedBehind_6 : decode cX9_seedBehind 6 = .ok (.ldc2_w 308, 3) := by decide +kernel
theorem dX9_seedBehind_9 : decode cX9_seedBehind 9 = .ok (.ladd, 1) := by decide +kernel
theorem dX9_seedBehind_10 : decode cX9_seedBehind 10 = .ok (.ldc2_w 310, 3) := by decide +kernel
theorem dX9_seedBehind_13 : decode cX9_seedBehind 13 = .ok (.lrem, 1) := by decide +kernel
theorem dX9_seedBehind_14 : decode cX9_seedBehind 14 = .ok (.l2i, 1) := by decide +kernel
theorem dX9_seedBehind_15 : decode cX9_seedBehind 15 = .ok (.ireturn, 1) := by decide +kernel
theorem dX9_isPerson_0 : decode cX9_isPerson 0 = .ok (.iload_n 1, 1) := by decide +kernel
theorem dX9_isPerson_1 : decode cX9_isPerson 1 = .ok (.ifCond .lt 15, 3) := by decide +kernel
theorem dX9_isPerson_4 : decode cX9_isPerson 4 = .ok (.iload_n 1, 1) := by decide +kernel
theorem dX9_isPerson_5 : decode cX9_isPerson 5 = .ok (.aload_n 0, 1) := by decide +kernel
theorem dX9_isPerson_6 : decode cX9_isPerson 6 = .ok (.getfield 88, 3) := by decide +kernel
theorem dX9_isPerson_9 : decode cX9_isPerson 9 = .ok (.if_icmp .ge 7, 3) := by decide +kernel
theorem dX9_isPerson_12 : decode cX9_isPerson 12 = .ok (.iconst 1, 1) := by decide +kernel
theorem dX9_isPerson_13 : decode cX9_isPerson 13 = .ok (.goto 4, 3) := by decide +kernel
theorem dX9_isPerson_16 : decode cX9_isPerson 16 = .ok (.iconst 0, 1) := by decide +kernel
theorem dX9_isPerson_17 : decode cX9_isPerson 17 = .ok (.ireturn, 1) := by decide +kernel
theorem dX9_isLawless_0 : decode cX9_isLawless 0 = .ok (.aload_n 0, 1) := by decide +kernel
theorem dX9_isLawless_1 : decode cX9_isLawless 1 = .ok (.getfield 94, 3) := by decide +kernel
theorem dX9_isLawless_4 : decode cX9_isLawless 4 = .ok (.ifCond .ne 7, 3) := by decide +kernel
theorem dX9_isLawless_7 : decode cX9_isLawless 7 = .ok (.iconst 1, 1) := by decide +kernel
theorem dX9_isLawless_8 : decode cX9_isLawless 8 = .ok (.goto 4, 3) := by decide +kernel
theorem dX9_isLawless_11 : decode cX9_isLawless 11 = .ok (.iconst 0, 1) := by decide +kernel
theorem dX9_isLawless_12 : decode cX9_isLawless 12 = .ok (.ireturn, 1) := by decide +kernel
set_option maxRecDepth 20000 in
theorem ggX9_dealFor_X0_set : GoodIn wsX9_dealFor wsX0_set := goodIn_r _ [9, 10, 11, 12, 13, 14, 15, 16, 17, 18, 19, 20, 21, 22, 23, 24, 25, 26, 27, 28, 29, 30, 31, 32, 33, 48, 49, 50, 51, 52, 53, 54, 55, 56, 57] (by decide +kernel) (by decide +kernel)
set_option maxRecDepth 20000 in
theorem gX9_dealFor_X0_set : GoodIn wsX9_dealFor (wsV RX9 235 RX0 yX0_set wsX0_set) := goodIn_app (goodIn_of _ (by decide +kernel)) ggX9_dealFor_X0_set
theorem dX9_dealFor_0 : decode cX9_dealFor 0 = .ok (.aload_n 0, 1) := by decide +kernel
theorem dX9_dealFor_1 : decode cX9_dealFor 1 = .ok (.getfield 25, 3) := by decide +kernel
theorem dX9_dealFor_4 : decode cX9_dealFor 4 = .ok (.aload_n 0, 1) := by decide +kernel
theorem dX9_dealFor_5 : decode cX9_dealFor 5 = .ok (.getfield 53, 3) := by decide +kernel
theorem dX9_dealFor_8 : decode cX9_dealFor 8 = .ok (.aload_n 0, 1) := by decide +kernel
theorem dX9_dealFor_9 : decode cX9_dealFor 9 = .ok (.getfield 18, 3) := by decide +kernel
theorem dX9_dealFor_12 : decode cX9_dealFor 12 = .ok (.iload_n 1, 1) := by decide +kernel
theorem dX9_dealFor_13 : decode cX9_dealFor 13 = .ok (.aaload, 1) := by decide +kernel
theorem dX9_dealFor_14 : decode cX9_dealFor 14 = .ok (.getfield 134, 3) := by decide +kernel
theorem dX9_dealFor_17 : decode cX9_dealFor 17 = .ok (.invokevirtual 235, 3) := by decide +kernel
theorem dX9_dealFor_20 : decode cX9_dealFor 20 = .ok (.areturn, 1) := by decide +kernel
set_option maxRecDepth 20000 in
theorem ggX9_peopleIn_X7_townOf : GoodIn wsX9_peopleIn wsX7_townOf := goodIn_r _ [7] (by decide +kernel) (by decide +kernel)
set_option maxRecDepth 20000 in
theorem gX9_peopleIn_X7_townOf : GoodIn wsX9_peopleIn (va_wsS RX9 144 yX7_townOf wsX7_townOf) := goodIn_app (goodIn_of _ (by decide +kernel)) ggX9_peopleIn_X7_townOf
theorem dX9_peopleIn_0 : decode cX9_peopleIn 0 = .ok (.iconst 0, 1) := by decide +kernel
theorem dX9_peopleIn_1 : decode cX9_peopleIn 1 = .ok (.istore_n 2, 1) := by decide +kernel
theorem dX9_peopleIn_2 : decode cX9_peopleIn 2 = .ok (.iconst 0, 1) := by decide +kernel
theorem dX9_peopleIn_3 : decode cX9_peopleIn 3 = .ok (.istore_n 3, 1) := by decide +kernel
theorem dX9_peopleIn_4 : decode cX9_peopleIn 4 = .ok (.iload_n 3, 1) := by decide +kernel
theorem dX9_peopleIn_5 : decode cX9_peopleIn 5 = .ok (.aload_n 0, 1) := by decide +kernel
theorem dX9_peopleIn_6 : decode cX9_peopleIn 6 = .ok (.getfield 88, 3) := by decide +kernel
theorem dX9_peopleIn_9 : decode cX9_peopleIn 9 = .ok (.if_icmp .ge 28, 3) := by decide +kernel
theorem dX9_peopleIn_12 : decode cX9_peopleIn 12 = .ok (.aload_n 0, 1) := by decide +kernel
theorem dX9_peopleIn_13 : decode cX9_peopleIn 13 = .ok (.getfield 18, 3) := by decide +kernel
theorem dX9_peopleIn_16 : decode cX9_peopleIn 16 = .ok (.iload_n 3, 1) := by decide +kernel
theorem dX9_peopleIn_17 : decode cX9_peopleIn 17 = .ok (.aaload, 1) := by decide +kernel
theorem dX9_peopleIn_18 : decode cX9_peopleIn 18 = .ok (.getfield 138, 3) := by decide +kernel
theorem dX9_peopleIn_21 : decode cX9_peopleIn 21 = .ok (.invokestatic 144, 3) := by decide +kernel
theorem dX9_peopleIn_24 : decode cX9_peopleIn 24 = .ok (.iload_n 1, 1) := by decide +kernel
theorem dX9_peopleIn_25 : decode cX9_peopleIn 25 = .ok (.if_icmp .ne 6, 3) := by decide +kernel
theorem dX9_peopleIn_28 : decode cX9_peopleIn 28 = .ok (.iinc 2 1, 3) := by decide +kernel
theorem dX9_peopleIn_31 : decode cX9_peopleIn 31 = .ok (.iinc 3 1, 3) := by decide +kernel
theorem dX9_peopleIn_34 : decode cX9_peopleIn 34 = .ok (.goto (-30), 3) := by decide +kernel
theorem dX9_peopleIn_37 : decode cX9_peopleIn 37 = .ok (.iload_n 2, 1) := by decide +kernel
theorem dX9_peopleIn_38 : decode cX9_peopleIn 38 = .ok (.ireturn, 1) := by decide +kernel
set_option maxRecDepth 20000 in
theorem ggX9_coinsOfAll_X7_coinsTogether : GoodIn wsX9_coinsOfAll wsX7_coinsTogether := goodIn_r _ [7, 8, 9, 6, 10] (by decide +kernel) (by decide +kernel)
set_option maxRecDepth 20000 in
theorem gX9_coinsOfAll_X7_coinsTogether : GoodIn wsX9_coinsOfAll (va_wsS RX9 157 yX7_coinsTogether wsX7_coinsTogether) := goodIn_app (goodIn_of _ (by decide +kernel)) ggX9_coinsOfAll_X7_coinsTogether
theorem dX9_coinsOfAll_0 : decode cX9_coinsOfAll 0 = .ok (.iconst 0, 1) := by decide +kernel
theorem dX9_coinsOfAll_1 : decode cX9_coinsOfAll 1 = .ok (.istore_n 1, 1) := by decide +kernel
theorem dX9_coinsOfAll_2 : decode cX9_coinsOfAll 2 = .ok (.iconst 0, 1) := by decide +kernel
theorem dX9_coinsOfAll_3 : decode cX9_coinsOfAll 3 = .ok (.istore_n 2, 1) := by decide +kernel
theorem dX9_coinsOfAll_4 : decode cX9_coinsOfAll 4 = .ok (.iload_n 2, 1) := by decide +kernel
theorem dX9_coinsOfAll_5 : decode cX9_coinsOfAll 5 = .ok (.aload_n 0, 1) := by decide +kernel
theorem dX9_coinsOfAll_6 : decode cX9_coinsOfAll 6 = .ok (.getfield 88, 3) := by decide +kernel
theorem dX9_coinsOfAll_9 : decode cX9_coinsOfAll 9 = .ok (.if_icmp .ge 24, 3) := by decide +kernel
theorem dX9_coinsOfAll_12 : decode cX9_coinsOfAll 12 = .ok (.iload_n 1, 1) := by decide +kernel
theorem dX9_coinsOfAll_13 : decode cX9_coinsOfAll 13 = .ok (.aload_n 0, 1) := by decide +kernel
theorem dX9_coinsOfAll_14 : decode cX9_coinsOfAll 14 = .ok (.getfield 18, 3) := by decide +kernel
theorem dX9_coinsOfAll_17 : decode cX9_coinsOfAll 17 = .ok (.iload_n 2, 1) := by decide +kernel
theorem dX9_coinsOfAll_18 : decode cX9_coinsOfAll 18 = .ok (.aaload, 1) := by decide +kernel
theorem dX9_coinsOfAll_19 : decode cX9_coinsOfAll 19 = .ok (.getfield 138, 3) := by decide +kernel
theorem dX9_coinsOfAll_22 : decode cX9_coinsOfAll 22 = .ok (.invokestatic 157, 3) := by decide +kernel
theorem dX9_coinsOfAll_25 : decode cX9_coinsOfAll 25 = .ok (.iadd, 1) := by decide +kernel
theorem dX9_coinsOfAll_26 : decode cX9_coinsOfAll 26 = .ok (.istore_n 1, 1) := by decide +kernel
theorem dX9_coinsOfAll_27 : decode cX9_coinsOfAll 27 = .ok (.iinc 2 1, 3) := by decide +kernel
theorem dX9_coinsOfAll_30 : decode cX9_coinsOfAll 30 = .ok (.goto (-26), 3) := by decide +kernel
theorem dX9_coinsOfAll_33 : decode cX9_coinsOfAll 33 = .ok (.iload_n 1, 1) := by decide +kernel
theorem dX9_coinsOfAll_34 : decode cX9_coinsOfAll 34 = .ok (.ireturn, 1) := by decide +kernel
set_option maxRecDepth 20000 in
theorem ggX9_goodsOfAll_X7_goodsOf : GoodIn wsX9_goodsOfAll wsX7_goodsOf := goodIn_r _ [7] (by decide +kernel) (by decide +kernel)
set_option maxRecDepth 20000 in
theorem gX9_goodsOfAll_X7_goodsOf : GoodIn wsX9_goodsOfAll (va_wsS RX9 154 yX7_goodsOf wsX7_goodsOf) := goodIn_app (goodIn_of _ (by decide +kernel)) ggX9_goodsOfAll_X7_goodsOf
set_option maxRecDepth 20000 in
theorem ggX9_goodsOfAll_J6_bitCount_0f7a4 : GoodIn wsX9_goodsOfAll wsJ6_bitCount_0f7a4 := goodIn_r _ [11, 12, 13, 14] (by decide +kernel) (by decide +kernel)
set_option maxRecDepth 20000 in
theorem gX9_goodsOfAll_J6_bitCount_0f7a4 : GoodIn wsX9_goodsOfAll (va_wsS RX9 312 yJ6_bitCount_0f7a4 wsJ6_bitCount_0f7a4) := goodIn_app (goodIn_of _ (by decide +kernel)) ggX9_goodsOfAll_J6_bitCount_0f7a4
theorem dX9_goodsOfAll_0 : decode cX9_goodsOfAll 0 = .ok (.iconst 0, 1) := by decide +kernel
theorem dX9_goodsOfAll_1 : decode cX9_goodsOfAll 1 = .ok (.istore_n 1, 1) := by decide +kernel
theorem dX9_goodsOfAll_2 : decode cX9_goodsOfAll 2 = .ok (.iconst 0, 1) := by decide +kernel
theorem dX9_goodsOfAll_3 : decode cX9_goodsOfAll 3 = .ok (.istore_n 2, 1) := by decide +kernel
theorem dX9_goodsOfAll_4 : decode cX9_goodsOfAll 4 = .ok (.iload_n 2, 1) := by decide +kernel
theorem dX9_goodsOfAll_5 : decode cX9_goodsOfAll 5 = .ok (.aload_n 0, 1) := by decide +kernel
theorem dX9_goodsOfAll_6 : decode cX9_goodsOfAll 6 = .ok (.getfield 88, 3) := by decide +kernel
theorem dX9_goodsOfAll_9 : decode cX9_goodsOfAll 9 = .ok (.if_icmp .ge 27, 3) := by decide +kernel
theorem dX9_goodsOfAll_12 : decode cX9_goodsOfAll 12 = .ok (.iload_n 1, 1) := by decide +kernel
theorem dX9_goodsOfAll_13 : decode cX9_goodsOfAll 13 = .ok (.aload_n 0, 1) := by decide +kernel
theorem dX9_goodsOfAll_14 : decode cX9_goodsOfAll 14 = .ok (.getfield 18, 3) := by decide +kernel
theorem dX9_goodsOfAll_17 : decode cX9_goodsOfAll 17 = .ok (.iload_n 2, 1) := by decide +kernel
theorem dX9_goodsOfAll_18 : decode cX9_goodsOfAll 18 = .ok (.aaload, 1) := by decide +kernel
theorem dX9_goodsOfAll_19 : decode cX9_goodsOfAll 19 = .ok (.getfield 138, 3) := by decide +kernel
theorem dX9_goodsOfAll_22 : decode cX9_goodsOfAll 22 = .ok (.invokestatic 154, 3) := by decide +kernel
theorem dX9_goodsOfAll_25 : decode cX9_goodsOfAll 25 = .ok (.invokestatic 312, 3) := by decide +kernel
theorem dX9_goodsOfAll_28 : decode cX9_goodsOfAll 28 = .ok (.iadd, 1) := by decide +kernel
theorem dX9_goodsOfAll_29 : decode cX9_goodsOfAll 29 = .ok (.istore_n 1, 1) := by decide +kernel
theorem dX9_goodsOfAll_30 : decode cX9_goodsOfAll 30 = .ok (.iinc 2 1, 3) := by decide +kernel
theorem dX9_goodsOfAll_33 : decode cX9_goodsOfAll 33 = .ok (.goto (-29), 3) := by decide +kernel
theorem dX9_goodsOfAll_36 : decode cX9_goodsOfAll 36 = .ok (.iload_n 1, 1) := by decide +kernel
theorem dX9_goodsOfAll_37 : decode cX9_goodsOfAll 37 = .ok (.ireturn, 1) := by decide +kernel
end
section
theorem dX10_init_0 : decode cX10_init 0 = .ok (.aload_n 0, 1) := by decide +kernel
theorem dX10_init_1 : decode cX10_init 1 = .ok (.invokespecial 1, 3) := by decide +kernel
theorem dX10_init_4 : decode cX10_init 4 = .ok (.aload_n 0, 1) := by decide +kernel
theorem dX10_init_5 : decode cX10_init 5 = .ok (.iconst 4, 1) := by decide +kernel
theorem dX10_init_6 : decode cX10_init 6 = .ok (.newarray .int, 2) := by decide +kernel
theorem dX10_init_8 : decode cX10_init 8 = .ok (.putfield 7, 3) := by decide +kernel
theorem dX10_init_11 : decode cX10_init 11 = .ok (.aload_n 0, 1) := by decide +kernel
theorem dX10_init_12 : decode cX10_init 12 = .ok (.iconst 4, 1) := by decide +kernel
theorem dX10_init_13 : decode cX10_init 13 = .ok (.newarray .int, 2) := by decide +kernel
theorem dX10_init_15 : decode cX10_init 15 = .ok (.putfield 13, 3) := by decide +kernel
theorem dX10_init_18 : decode cX10_init 18 = .ok (.aload_n 0, 1) := by decide +kernel
theorem dX10_init_19 : decode cX10_init 19 = .ok (.iconst 4, 1) := by decide +kernel
theorem dX10_init_20 : decode cX10_init 20 = .ok (.newarray .int, 2) := by decide +kernel
theorem dX10_init_22 : decode cX10_init 22 = .ok (.putfield 16, 3) := by decide +kernel
theorem dX10_init_25 : decode cX10_init 25 = .ok (.aload_n 0, 1) := by decide +kernel
theorem dX10_init_26 : decode cX10_init 26 = .ok (.iconst 4, 1) := by decide +kernel
theorem dX10_init_27 : decode cX10_init 27 = .ok (.newarray .int, 2) := by decide +kernel
theorem dX10_init_29 : decode cX10_init 29 = .ok (.putfield 19, 3) := by decide +kernel
theorem dX10_init_32 : decode cX10_init 32 = .ok (.aload_n 0, 1) := by decide +kernel
theorem dX10_init_33 : decode cX10_init 33 = .ok (.iconst 5, 1) := by decide +kernel
theorem dX10_init_34 : decode cX10_init 34 = .ok (.newarray .int, 2) := by decide +kernel
theorem dX10_init_36 : decode cX10_init 36 = .ok (.putfield 22, 3) := by decide +kernel
theorem dX10_init_39 : decode cX10_init 39 = .ok (.aload_n 0, 1) := by decide +kernel
theorem dX10_init_40 : decode cX10_init 40 = .ok (.iconst 5, 1) := by decide +kernel
theorem dX10_init_41 : decode cX10_init 41 = .ok (.newarray .int, 2) := by decide +kernel
theorem dX10_init_43 : decode cX10_init 43 = .ok (.putfield 25, 3) := by decide +kernel
theorem dX10_init_46 : decode cX10_init 46 = .ok (.aload_n 0, 1) := by decide +kernel
theorem dX10_init_47 : decode cX10_init 47 = .ok (.iconst (-1), 1) := by decide +kernel
theorem dX10_init_48 : decode cX10_init 48 = .ok (.putfield 28, 3) := by decide +kernel
theorem dX10_init_51 : decode cX10_init 51 = .ok (.aload_n 0, 1) := by decide +kernel
theorem dX10_init_52 : decode cX10_init 52 = .ok (.iconst 5, 1) := by decide +kernel
theorem dX10_init_53 : decode cX10_init 53 = .ok (.newarray .int, 2) := by decide +kernel
theorem dX10_init_55 : decode cX10_init 55 = .ok (.putfield 32, 3) := by decide +kernel
theorem dX10_init_58 : decode cX10_init 58 = .ok (.aload_n 0, 1) := by decide +kernel
theorem dX10_init_59 : decode cX10_init 59 = .ok (.bipush 32, 2) := by decide +kernel
theorem dX10_init_61 : decode cX10_init 61 = .ok (.newarray .byte, 2) := by decide +kernel
theorem dX10_init_63 : decode cX10_init 63 = .ok (.putfield 35, 3) := by decide +kernel
theorem dX10_init_66 : decode cX10_init 66 = .ok (.aload_n 0, 1) := by decide +kernel
theorem dX10_init_67 : decode cX10_init 67 = .ok (.iconst 4, 1) := by decide +kernel
theorem dX10_init_68 : decode cX10_init 68 = .ok (.newarray .int, 2) := by decide +kernel
theorem dX10_init_70 : decode cX10_init 70 = .ok (.putfield 39, 3) := by decide +kernel
theorem dX10_init_73 : decode cX10_init 73 = .ok (.aload_n 0, 1) := by decide +kernel
theorem dX10_init_74 : decode cX10_init 74 = .ok (.iconst 4, 1) := by decide +kernel
theorem dX10_init_75 : decode cX10_init 75 = .ok (.newarray .int, 2) := by decide +kernel
theorem dX10_init_77 : decode cX10_init 77 = .ok (.putfield 42, 3) := by decide +kernel
theorem dX10_init_80 : decode cX10_init 80 = .ok (.aload_n 0, 1) := by decide +kernel
theorem dX10_init_81 : decode cX10_init 81 = .ok (.iconst 4, 1) := by decide +kernel
theorem dX10_init_82 : decode cX10_init 82 = .ok (.newarray .int, 2) := by decide +kernel
theorem dX10_init_84 : decode cX10_init 84 = .ok (.putfield 45, 3) := by decide +kernel
theorem dX10_init_87 : decode cX10_init 87 = .ok (.aload_n 0, 1) := by decide +kernel
theorem dX10_init_88 : decode cX10_init 88 = .ok (.iconst 4, 1) := by decide +kernel
theorem dX10_init_89 : decode cX10_init 89 = .ok (.newarray .int, 2) := by decide +kernel
theorem dX10_init_91 : decode cX10_init 91 = .ok (.putfield 48, 3) := by decide +kernel
theorem dX10_init_94 : decode cX10_init 94 = .ok (.aload_n 0, 1) := by decide +kernel
theorem dX10_init_95 : decode cX10_init 95 = .ok (.ldc 51, 2) := by decide +kernel
theorem dX10_init_97 : decode cX10_init 97 = .ok (.newarray .byte, 2) := by decide +kernel
theorem dX10_init_99 : decode cX10_init 99 = .ok (.putfield 52, 3) := by decide +kernel
theorem dX10_init_102 : decode cX10_init 102 = .ok (.aload_n 0, 1) := by decide +kernel
theorem dX10_init_103 : decode cX10_init 103 = .ok (.ldc 51, 2) := by decide +kernel
theorem dX10_init_105 : decode cX10_init 105 = .ok (.newarray .int, 2) := by decide +kernel
theorem dX10_init_107 : decode cX10_init 107 = .ok (.putfield 55, 3) := by decide +kernel
theorem dX10_init_110 : decode cX10_init 110 = .ok (.aload_n 0, 1) := by decide +kernel
theorem dX10_init_111 : decode cX10_init 111 = .ok (.bipush 64, 2) := by decide +kernel
theorem dX10_init_113 : decode cX10_init 113 = .ok (.newarray .int, 2) := by decide +kernel
theorem dX10_init_115 : decode cX10_init 115 = .ok (.putfield 58, 3) := by decide +kernel
theorem dX10_init_118 : decode cX10_init 118 = .ok (.aload_n 0, 1) := by decide +kernel
theorem dX10_init_119 : decode cX10_init 119 = .ok (.bipush 64, 2) := by decide +kernel
theorem dX10_init_121 : decode cX10_init 121 = .ok (.newarray .int, 2) := by decide +kernel
theorem dX10_init_123 : decode cX10_init 123 = .ok (.putfield 61, 3) := by decide +kernel
theorem dX10_init_126 : decode cX10_init 126 = .ok (.aload_n 0, 1) := by decide +kernel
theorem dX10_init_127 : decode cX10_init 127 = .ok (.iconst 5, 1) := by decide +kernel
theorem dX10_init_128 : decode cX10_init 128 = .ok (.newarray .int, 2) := by decide +kernel
theorem dX10_init_130 : decode cX10_init 130 = .ok (.putfield 64, 3) := by decide +kernel
theorem dX10_init_133 : decode cX10_init 133 = .ok (.aload_n 0, 1) := by decide +kernel
theorem dX10_init_134 : decode cX10_init 134 = .ok (.iconst 4, 1) := by decide +kernel
theorem dX10_init_135 : decode cX10_init 135 = .ok (.newarray .int, 2) := by decide +kernel
theorem dX10_init_137 : decode cX10_init 137 = .ok (.putfield 67, 3) := by decide +kernel
theorem dX10_init_140 : decode cX10_init 140 = .ok (.return_, 1) := by decide +kernel
theorem dX10_within_0 : decode cX10_within 0 = .ok (.iload_n 0, 1) := by decide +kernel
theorem dX10_within_1 : decode cX10_within 1 = .ok (.iload_n 1, 1) := by decide +kernel
theorem dX10_within_2 : decode cX10_within 2 = .ok (.if_icmp .lt 12, 3) := by decide +kernel
theorem dX10_within_5 : decode cX10_within 5 = .ok (.iload_n 0, 1) := by decide +kernel
theorem dX10_within_6 : decode cX10_within 6 = .ok (.iload_n 2, 1) := by decide +kernel
theorem dX10_within_7 : decode cX10_within 7 = .ok (.if_icmp .gt 7, 3) := by decide +kernel
theorem dX10_within_10 : decode cX10_within 10 = .ok (.iconst 1, 1) := by decide +kernel
theorem dX10_within_11 : decode cX10_within 11 = .ok (.goto 4, 3) := by decide +kernel
theorem dX10_within_14 : decode cX10_within 14 = .ok (.iconst 0, 1) := by decide +kernel
theorem dX10_within_15 : decode cX10_within 15 = .ok (.ireturn, 1) := by decide +kernel
theorem dX10_has_0 : decode cX10_has 0 = .ok (.iload_n 0, 1) := by decide +kernel
theorem dX10_has_1 : decode cX10_has 1 = .ok (.iload_n 1, 1) := by decide +kernel
theorem dX10_has_2 : decode cX10_has 2 = .ok (.ishr, 1) := by decide +kernel
theorem dX10_has_3 : decode cX10_has 3 = .ok (.iconst 1, 1) := by decide +kernel
theorem dX10_has_4 : decode cX10_has 4 = .ok (.iand, 1) := by decide +kernel
theorem dX10_has_5 : decode cX10_has 5 = .ok (.iconst 1, 1) := by decide +kernel
theorem dX10_has_6 : decode cX10_has 6 = .ok (.if_icmp .ne 7, 3) := by decide +kernel
theorem dX10_has_9 : decode cX10_has 9 = .ok (.iconst 1, 1) := by decide +kernel
theorem dX10_has_10 : decode cX10_has 10 = .ok (.goto 4, 3) := by decide +kernel
theorem dX10_has_13 : decode cX10_has 13 = .ok (.iconst 0, 1) := by decide +kernel
theorem dX10_has_14 : decode cX10_has 14 = .ok (.ireturn, 1) := by decide +kernel
theorem dX10_size_0 : decode cX10_size 0 = .ok (.iconst 0, 1) := by decide +kernel
theorem dX10_size_1 : decode cX10_size 1 = .ok (.istore_n 1, 1) := by decide +kernel
theorem dX10_size_2 : decode cX10_size 2 = .ok (.iconst 0, 1) := by decide +kernel
theorem dX10_size_3 : decode cX10_size 3 = .ok (.istore_n 2, 1) := by decide +kernel
theorem dX10_size_4 : decode cX10_size 4 = .ok (.iload_n 2, 1) := by decide +kernel
theorem dX10_size_5 : decode cX10_size 5 = .ok (.iconst 4, 1) := by decide +kernel
theorem dX10_size_6 : decode cX10_size 6 = .ok (.if_icmp .ge 17, 3) := by decide +kernel
theorem dX10_size_9 : decode cX10_size 9 = .ok (.iload_n 1, 1) := by decide +kernel
theorem dX10_size_10 : decode cX10_size 10 = .ok (.iload_n 0, 1) := by decide +kernel
theorem dX10_size_11 : decode cX10_size 11 = .ok (.iload_n 2, 1) := by decide +kernel
theorem dX10_size_12 : decode cX10_size 12 = .ok (.ishr, 1) := by decide +kernel
theorem dX10_size_13 : decode cX10_size 13 = .ok (.iconst 1, 1) := by decide +kernel
theorem dX10_size_14 : decode cX10_size 14 = .ok (.iand, 1) := by decide +kernel
theorem dX10_size_15 : decode cX10_size 15 = .ok (.iadd, 1) := by decide +kernel
theorem dX10_size_16 : decode cX10_size 16 = .ok (.istore_n 1, 1) := by decide +kernel
theorem dX10_size_17 : decode cX10_size 17 = .ok (.iinc 2 1, 3) := by decide +kernel
theorem dX10_size_20 : decode cX10_size 20 = .ok (.goto (-16), 3) := by decide +kernel
theorem dX10_size_23 : decode cX10_size 23 = .ok (.iload_n 1, 1) := by decide +kernel
theorem dX10_size_24 : decode cX10_size 24 = .ok (.ireturn, 1) := by decide +kernel
theorem dX10_letters_0 : decode cX10_letters 0 = .ok (.iconst 0, 1) := by decide +kernel
theorem dX10_letters_1 : decode cX10_letters 1 = .ok (.istore_n 3, 1) := by decide +kernel
theorem dX10_letters_2 : decode cX10_letters 2 = .ok (.iconst 0, 1) := by decide +kernel
theorem dX10_letters_3 : decode cX10_letters 3 = .ok (.istore 4, 2) := by decide +kernel
theorem dX10_letters_5 : decode cX10_letters 5 = .ok (.iconst 0, 1) := by decide +kernel
theorem dX10_letters_6 : decode cX10_letters 6 = .ok (.istore 5, 2) := by decide +kernel
theorem dX10_letters_8 : decode cX10_letters 8 = .ok (.iload 5, 2) := by decide +kernel
theorem dX10_letters_10 : decode cX10_letters 10 = .ok (.bipush 8, 2) := by decide +kernel
theorem dX10_letters_12 : decode cX10_letters 12 = .ok (.if_icmp .ge 73, 3) := by decide +kernel
theorem dX10_letters_15 : decode cX10_letters 15 = .ok (.lload_n 1, 1) := by decide +kernel
theorem dX10_letters_16 : decode cX10_letters 16 = .ok (.bipush 8, 2) := by decide +kernel
theorem dX10_letters_18 : decode cX10_letters 18 = .ok (.iload 5, 2) := by decide +kernel
theorem dX10_letters_20 : decode cX10_letters 20 = .ok (.imul, 1) := by decide +kernel
theorem dX10_letters_21 : decode cX10_letters 21 = .ok (.lshr, 1) := by decide +kernel
theorem dX10_letters_22 : decode cX10_letters 22 = .ok (.ldc2_w 70, 3) := by decide +kernel
theorem dX10_letters_25 : decode cX10_letters 25 = .ok (.land, 1) := by decide +kernel
theorem dX10_letters_26 : decode cX10_letters 26 = .ok (.l2i, 1) := by decide +kernel
theorem dX10_letters_27 : decode cX10_letters 27 = .ok (.istore 6, 2) := by decide +kernel
theorem dX10_letters_29 : decode cX10_letters 29 = .ok (.iload 6, 2) := by decide +kernel
theorem dX10_letters_31 : decode cX10_letters 31 = .ok (.bipush 126, 2) := by decide +kernel
theorem dX10_letters_33 : decode cX10_letters 33 = .ok (.if_icmp .gt 13, 3) := by decide +kernel
theorem dX10_letters_36 : decode cX10_letters 36 = .ok (.iload 4, 2) := by decide +kernel
theorem dX10_letters_38 : decode cX10_letters 38 = .ok (.ifCond .eq 11, 3) := by decide +kernel
theorem dX10_letters_41 : decode cX10_letters 41 = .ok (.iload 6, 2) := by decide +kernel
theorem dX10_letters_43 : decode cX10_letters 43 = .ok (.ifCond .eq 6, 3) := by decide +kernel
theorem dX10_letters_46 : decode cX10_letters 46 = .ok (.bipush (-102), 2) := by decide +kernel
theorem dX10_letters_48 : decode cX10_letters 48 = .ok (.ireturn, 1) := by decide +kernel
theorem dX10_letters_49 : decode cX10_letters 49 = .ok (.iload 4, 2) := by decide +kernel
theorem dX10_letters_51 : decode cX10_letters 51 = .ok (.ifCond .ne 8, 3) := by decide +kernel
theorem dX10_letters_54 : decode cX10_letters 54 = .ok (.iload 6, 2) := by decide +kernel
theorem dX10_letters_56 : decode cX10_letters 56 = .ok (.ifCond .ne 7, 3) := by decide +kernel
theorem dX10_letters_59 : decode cX10_letters 59 = .ok (.iconst 1, 1) := by decide +kernel
theorem dX10_letters_60 : decode cX10_letters 60 = .ok (.goto 4, 3) := by decide +kernel
theorem dX10_letters_63 : decode cX10_letters 63 = .ok (.iconst 0, 1) := by decide +kernel
theorem dX10_letters_64 : decode cX10_letters 64 = .ok (.istore 4, 2) := by decide +kernel
theorem dX10_letters_66 : decode cX10_letters 66 = .ok (.iload_n 3, 1) := by decide +kernel
theorem dX10_letters_67 : decode cX10_letters 67 = .ok (.iload 6, 2) := by decide +kernel
theorem dX10_letters_69 : decode cX10_letters 69 = .ok (.ifCond .ne 7, 3) := by decide +kernel
theorem dX10_letters_72 : decode cX10_letters 72 = .ok (.iconst 0, 1) := by decide +kernel
theorem dX10_letters_73 : decode cX10_letters 73 = .ok (.goto 4, 3) := by decide +kernel
theorem dX10_letters_76 : decode cX10_letters 76 = .ok (.iconst 1, 1) := by decide +kernel
theorem dX10_letters_77 : decode cX10_letters 77 = .ok (.iadd, 1) := by decide +kernel
theorem dX10_letters_78 : decode cX10_letters 78 = .ok (.istore_n 3, 1) := by decide +kernel
theorem dX10_letters_79 : decode cX10_letters 79 = .ok (.iinc 5 1, 3) := by decide +kernel
theorem dX10_letters_82 : decode cX10_letters 82 = .ok (.goto (-74), 3) := by decide +kernel
theorem dX10_letters_85 : decode cX10_letters 85 = .ok (.aload_n 0, 1) := by decide +kernel
theorem dX10_letters_86 : decode cX10_letters 86 = .ok (.getfield 72, 3) := by decide +kernel
theorem dX10_letters_89 : decode cX10_letters 89 = .ok (.iload_n 3, 1) := by decide +kernel
theorem dX10_letters_90 : decode cX10_letters 90 = .ok (.iadd, 1) := by decide +kernel
theorem dX10_letters_91 : decode cX10_letters 91 = .ok (.bipush 32, 2) := by decide +kernel
theorem dX10_letters_93 : decode cX10_letters 93 = .ok (.if_icmp .le 6, 3) := by decide +kernel
theorem dX10_letters_96 : decode cX10_letters 96 = .ok (.bipush (-104), 2) := by decide +kernel
theorem dX10_letters_98 : decode cX10_letters 98 = .ok (.ireturn, 1) := by decide +kernel
theorem dX10_letters_99 : decode cX10_letters 99 = .ok (.iconst 0, 1) := by decide +kernel
theorem dX10_letters_100 : decode cX10_letters 100 = .ok (.istore 5, 2) := by decide +kernel
theorem dX10_letters_102 : decode cX10_letters 102 = .ok (.iload 5, 2) := by decide +kernel
theorem dX10_letters_104 : decode cX10_letters 104 = .ok (.iload_n 3, 1) := by decide +kernel
theorem dX10_letters_105 : decode cX10_letters 105 = .ok (.if_icmp .ge 30, 3) := by decide +kernel
theorem dX10_letters_108 : decode cX10_letters 108 = .ok (.aload_n 0, 1) := by decide +kernel
theorem dX10_letters_109 : decode cX10_letters 109 = .ok (.getfield 35, 3) := by decide +kernel
theorem dX10_letters_112 : decode cX10_letters 112 = .ok (.aload_n 0, 1) := by decide +kernel
theorem dX10_letters_113 : decode cX10_letters 113 = .ok (.getfield 72, 3) := by decide +kernel
theorem dX10_letters_116 : decode cX10_letters 116 = .ok (.iload 5, 2) := by decide +kernel
theorem dX10_letters_118 : decode cX10_letters 118 = .ok (.iadd, 1) := by decide +kernel
theorem dX10_letters_119 : decode cX10_letters 119 = .ok (.lload_n 1, 1) := by decide +kernel
theorem dX10_letters_120 : decode cX10_letters 120 = .ok (.bipush 8, 2) := by decide +kernel
theorem dX10_letters_122 : decode cX10_letters 122 = .ok (.iload 5, 2) := by decide +kernel
theorem dX10_letters_124 : decode cX10_letters 124 = .ok (.imul, 1) := by decide +kernel
theorem dX10_letters_125 : decode cX10_letters 125 = .ok (.lshr, 1) := by decide +kernel
theorem dX10_letters_126 : decode cX10_letters 126 = .ok (.l2i, 1) := by decide +kernel
theorem dX10_letters_127 : decode cX10_letters 127 = .ok (.i2b, 1) := by decide +kernel
theorem dX10_letters_128 : decode cX10_letters 128 = .ok (.bastore, 1) := by decide +kernel
theorem dX10_letters_129 : decode cX10_letters 129 = .ok (.iinc 5 1, 3) := by decide +kernel
theorem dX10_letters_132 : decode cX10_letters 132 = .ok (.goto (-30), 3) := by decide +kernel
theorem dX10_letters_135 : decode cX10_letters 135 = .ok (.aload_n 0, 1) := by decide +kernel
theorem dX10_letters_136 : decode cX10_letters 136 = .ok (.dup, 1) := by decide +kernel
theorem dX10_letters_137 : decode cX10_letters 137 = .ok (.getfield 72, 3) := by decide +kernel
theorem dX10_letters_140 : decode cX10_letters 140 = .ok (.iload_n 3, 1) := by decide +kernel
theorem dX10_letters_141 : decode cX10_letters 141 = .ok (.iadd, 1) := by decide +kernel
theorem dX10_letters_142 : decode cX10_letters 142 = .ok (.putfield 72, 3) := by decide +kernel
theorem dX10_letters_145 : decode cX10_letters 145 = .ok (.aload_n 0, 1) := by decide +kernel
theorem dX10_letters_146 : decode cX10_letters 146 = .ok (.getfield 72, 3) := by decide +kernel
theorem dX10_letters_149 : decode cX10_letters 149 = .ok (.ireturn, 1) := by decide +kernel
theorem dX10_blank_0 : decode cX10_blank 0 = .ok (.aload_n 0, 1) := by decide +kernel
theorem dX10_blank_1 : decode cX10_blank 1 = .ok (.getfield 72, 3) := by decide +kernel
theorem dX10_blank_4 : decode cX10_blank 4 = .ok (.istore_n 1, 1) := by decide +kernel
theorem dX10_blank_5 : decode cX10_blank 5 = .ok (.aload_n 0, 1) := by decide +kernel
theorem dX10_blank_6 : decode cX10_blank 6 = .ok (.iconst 0, 1) := by decide +kernel
theorem dX10_blank_7 : decode cX10_blank 7 = .ok (.putfield 72, 3) := by decide +kernel
theorem dX10_blank_10 : decode cX10_blank 10 = .ok (.iload_n 1, 1) := by decide +kernel
theorem dX10_blank_11 : decode cX10_blank 11 = .ok (.ireturn, 1) := by decide +kernel
set_option maxRecDepth 20000 in
theorem ggX10_nextState_X10_within : GoodIn wsX10_nextState wsX10_within := goodIn_r _ [9] (by decide +kernel) (by decide +kernel)
set_option maxRecDepth 20000 in
theorem gX10_nextState_X10_within : GoodIn wsX10_nextState (va_wsS RX10 75 yX10_within wsX10_within) := goodIn_app (goodIn_of _ (by decide +kernel)) ggX10_nextState_X10_within
set_option maxRecDepth 20000 in
theorem ggX10_nextState_X10_has : GoodIn wsX10_nextState wsX10_has := goodIn_r _ [12] (by decide +kernel) (by decide +kernel)
set_option maxRecDepth 20000 in
theorem gX10_nextState_X10_has : GoodIn wsX10_nextState (va_wsS RX10 82 yX10_has wsX10_has) := goodIn_app (goodIn_of _ (by decide +kernel)) ggX10_nextState_X10_has
theorem dX10_nextState_0 : decode cX10_nextState 0 = .ok (.iload_n 2, 1) := by decide +kernel
theorem dX10_nextState_1 : decode cX10_nextState 1 = .ok (.bipush 48, 2) := by decide +kernel
theorem dX10_nextState_3 : decode cX10_nextState 3 = .ok (.isub, 1) := by decide +kernel
theorem dX10_nextState_4 : decode cX10_nextState 4 = .ok (.istore_n 3, 1) := by decide +kernel
theorem dX10_nextState_5 : decode cX10_nextState 5 = .ok (.iload_n 3, 1) := by decide +kernel
theorem dX10_nextState_6 : decode cX10_nextState 6 = .ok (.iconst 0, 1) := by decide +kernel
theorem dX10_nextState_7 : decode cX10_nextState 7 = .ok (.iconst 3, 1) := by decide +kernel
theorem dX10_nextState_8 : decode cX10_nextState 8 = .ok (.invokestatic 75, 3) := by decide +kernel
theorem dX10_nextState_11 : decode cX10_nextState 11 = .ok (.ifCond .eq 15, 3) := by decide +kernel
theorem dX10_nextState_14 : decode cX10_nextState 14 = .ok (.iload_n 3, 1) := by decide +kernel
theorem dX10_nextState_15 : decode cX10_nextState 15 = .ok (.aload_n 0, 1) := by decide +kernel
theorem dX10_nextState_16 : decode cX10_nextState 16 = .ok (.getfield 79, 3) := by decide +kernel
theorem dX10_nextState_19 : decode cX10_nextState 19 = .ok (.if_icmp .eq 7, 3) := by decide +kernel
theorem dX10_nextState_22 : decode cX10_nextState 22 = .ok (.iconst 1, 1) := by decide +kernel
theorem dX10_nextState_23 : decode cX10_nextState 23 = .ok (.goto 4, 3) := by decide +kernel
theorem dX10_nextState_26 : decode cX10_nextState 26 = .ok (.iconst 0, 1) := by decide +kernel
theorem dX10_nextState_27 : decode cX10_nextState 27 = .ok (.istore 4, 2) := by decide +kernel
theorem dX10_nextState_29 : decode cX10_nextState 29 = .ok (.iload_n 1, 1) := by decide +kernel
theorem dX10_nextState_30 : decode cX10_nextState 30 = .ok (.iconst 2, 1) := by decide +kernel
theorem dX10_nextState_31 : decode cX10_nextState 31 = .ok (.if_icmp .ge 58, 3) := by decide +kernel
theorem dX10_nextState_34 : decode cX10_nextState 34 = .ok (.iload 4, 2) := by decide +kernel
theorem dX10_nextState_36 : decode cX10_nextState 36 = .ok (.ifCond .eq 36, 3) := by decide +kernel
theorem dX10_nextState_39 : decode cX10_nextState 39 = .ok (.aload_n 0, 1) := by decide +kernel
theorem dX10_nextState_40 : decode cX10_nextState 40 = .ok (.getfield 39, 3) := by decide +kernel
theorem dX10_nextState_43 : decode cX10_nextState 43 = .ok (.aload_n 0, 1) := by decide +kernel
theorem dX10_nextState_44 : decode cX10_nextState 44 = .ok (.getfield 79, 3) := by decide +kernel
theorem dX10_nextState_47 : decode cX10_nextState 47 = .ok (.iaload, 1) := by decide +kernel
theorem dX10_nextState_48 : decode cX10_nextState 48 = .ok (.iload_n 3, 1) := by decide +kernel
theorem dX10_nextState_49 : decode cX10_nextState 49 = .ok (.invokestatic 82, 3) := by decide +kernel
theorem dX10_nextState_52 : decode cX10_nextState 52 = .ok (.ifCond .ne 20, 3) := by decide +kernel
theorem dX10_nextState_55 : decode cX10_nextState 55 = .ok (.aload_n 0, 1) := by decide +kernel
theorem dX10_nextState_56 : decode cX10_nextState 56 = .ok (.getfield 39, 3) := by decide +kernel
theorem dX10_nextState_59 : decode cX10_nextState 59 = .ok (.aload_n 0, 1) := by decide +kernel
theorem dX10_nextState_60 : decode cX10_nextState 60 = .ok (.getfield 79, 3) := by decide +kernel
theorem dX10_nextState_63 : decode cX10_nextState 63 = .ok (.dup2, 1) := by decide +kernel
theorem dX10_nextState_64 : decode cX10_nextState 64 = .ok (.iaload, 1) := by decide +kernel
theorem dX10_nextState_65 : decode cX10_nextState 65 = .ok (.iconst 1, 1) := by decide +kernel
theorem dX10_nextState_66 : decode cX10_nextState 66 = .ok (.iload_n 3, 1) := by decide +kernel
theorem dX10_nextState_67 : decode cX10_nextState 67 = .ok (.ishl, 1) := by decide +kernel
theorem dX10_nextState_68 : decode cX10_nextState 68 = .ok (.ior, 1) := by decide +kernel
theorem dX10_nextState_69 : decode cX10_nextState 69 = .ok (.iastore, 1) := by decide +kernel
theorem dX10_nextState_70 : decode cX10_nextState 70 = .ok (.iconst 1, 1) := by decide +kernel
theorem dX10_nextState_71 : decode cX10_nextState 71 = .ok (.ireturn, 1) := by decide +kernel
theorem dX10_nextState_72 : decode cX10_nextState 72 = .ok (.iload_n 1, 1) := by decide +kernel
theorem dX10_nextState_73 : decode cX10_nextState 73 = .ok (.iconst 1, 1) := by decide +kernel
theorem dX10_nextState_74 : decode cX10_nextState 74 = .ok (.if_icmp .ne 13, 3) := by decide +kernel
theorem dX10_nextState_77 : decode cX10_nextState 77 = .ok (.iload_n 2, 1) := by decide +kernel
theorem dX10_nextState_78 : decode cX10_nextState 78 = .ok (.bipush 58, 2) := by decide +kernel
theorem dX10_nextState_80 : decode cX10_nextState 80 = .ok (.if_icmp .ne 7, 3) := by decide +kernel
theorem dX10_nextState_83 : decode cX10_nextState 83 = .ok (.iconst 2, 1) := by decide +kernel
theorem dX10_nextState_84 : decode cX10_nextState 84 = .ok (.goto 4, 3) := by decide +kernel
theorem dX10_nextState_87 : decode cX10_nextState 87 = .ok (.iconst (-1), 1) := by decide +kernel
theorem dX10_nextState_88 : decode cX10_nextState 88 = .ok (.ireturn, 1) := by decide +kernel
theorem dX10_nextState_89 : decode cX10_nextState 89 = .ok (.iload_n 1, 1) := by decide +kernel
theorem dX10_nextState_90 : decode cX10_nextState 90 = .ok (.iconst 2, 1) := by decide +kernel
theorem dX10_nextState_91 : decode cX10_nextState 91 = .ok (.if_icmp .ne 24, 3) := by decide +kernel
theorem dX10_nextState_94 : decode cX10_nextState 94 = .ok (.aload_n 0, 1) := by decide +kernel
theorem dX10_nextState_95 : decode cX10_nextState 95 = .ok (.getfield 42, 3) := by decide +kernel
theorem dX10_nextState_98 : decode cX10_nextState 98 = .ok (.aload_n 0, 1) := by decide +kernel
theorem dX10_nextState_99 : decode cX10_nextState 99 = .ok (.getfield 79, 3) := by decide +kernel
theorem dX10_nextState_102 : decode cX10_nextState 102 = .ok (.iload_n 3, 1) := by decide +kernel
theorem dX10_nextState_103 : decode cX10_nextState 103 = .ok (.iastore, 1) := by decide +kernel
theorem dX10_nextState_104 : decode cX10_nextState 104 = .ok (.iload 4, 2) := by decide +kernel
theorem dX10_nextState_106 : decode cX10_nextState 106 = .ok (.ifCond .eq 7, 3) := by decide +kernel
theorem dX10_nextState_109 : decode cX10_nextState 109 = .ok (.iconst 3, 1) := by decide +kernel
theorem dX10_nextState_110 : decode cX10_nextState 110 = .ok (.goto 4, 3) := by decide +kernel
theorem dX10_nextState_113 : decode cX10_nextState 113 = .ok (.iconst (-1), 1) := by decide +kernel
theorem dX10_nextState_114 : decode cX10_nextState 114 = .ok (.ireturn, 1) := by decide +kernel
theorem dX10_nextState_115 : decode cX10_nextState 115 = .ok (.iload_n 1, 1) := by decide +kernel
theorem dX10_nextState_116 : decode cX10_nextState 116 = .ok (.iconst 3, 1) := by decide +kernel
theorem dX10_nextState_117 : decode cX10_nextState 117 = .ok (.if_icmp .ne 28, 3) := by decide +kernel
theorem dX10_nextState_120 : decode cX10_nextState 120 = .ok (.aload_n 0, 1) := by decide +kernel
theorem dX10_nextState_121 : decode cX10_nextState 121 = .ok (.getfield 45, 3) := by decide +kernel
theorem dX10_nextState_124 : decode cX10_nextState 124 = .ok (.aload_n 0, 1) := by decide +kernel
theorem dX10_nextState_125 : decode cX10_nextState 125 = .ok (.getfield 79, 3) := by decide +kernel
theorem dX10_nextState_128 : decode cX10_nextState 128 = .ok (.iload_n 3, 1) := by decide +kernel
theorem dX10_nextState_129 : decode cX10_nextState 129 = .ok (.iastore, 1) := by decide +kernel
theorem dX10_nextState_130 : decode cX10_nextState 130 = .ok (.iload_n 3, 1) := by decide +kernel
theorem dX10_nextState_131 : decode cX10_nextState 131 = .ok (.iconst 1, 1) := by decide +kernel
theorem dX10_nextState_132 : decode cX10_nextState 132 = .ok (.iconst 4, 1) := by decide +kernel
theorem dX10_nextState_133 : decode cX10_nextState 133 = .ok (.invokestatic 75, 3) := by decide +kernel
theorem dX10_nextState_136 : decode cX10_nextState 136 = .ok (.ifCond .eq 7, 3) := by decide +kernel
theorem dX10_nextState_139 : decode cX10_nextState 139 = .ok (.iconst 4, 1) := by decide +kernel
theorem dX10_nextState_140 : decode cX10_nextState 140 = .ok (.goto 4, 3) := by decide +kernel
theorem dX10_nextState_143 : decode cX10_nextState 143 = .ok (.iconst (-1), 1) := by decide +kernel
theorem dX10_nextState_144 : decode cX10_nextState 144 = .ok (.ireturn, 1) := by decide +kernel
theorem dX10_nextState_145 : decode cX10_nextState 145 = .ok (.iload_n 1, 1) := by decide +kernel
theorem dX10_nextState_146 : decode cX10_nextState 146 = .ok (.iconst 4, 1) := by decide +kernel
theorem dX10_nextState_147 : decode cX10_nextState 147 = .ok (.if_icmp .ne 28, 3) := by decide +kernel
theorem dX10_nextState_150 : decode cX10_nextState 150 = .ok (.aload_n 0, 1) := by decide +kernel
theorem dX10_nextState_151 : decode cX10_nextState 151 = .ok (.getfield 48, 3) := by decide +kernel
theorem dX10_nextState_154 : decode cX10_nextState 154 = .ok (.aload_n 0, 1) := by decide +kernel
theorem dX10_nextState_155 : decode cX10_nextState 155 = .ok (.getfield 79, 3) := by decide +kernel
theorem dX10_nextState_158 : decode cX10_nextState 158 = .ok (.iload_n 3, 1) := by decide +kernel
theorem dX10_nextState_159 : decode cX10_nextState 159 = .ok (.iastore, 1) := by decide +kernel
theorem dX10_nextState_160 : decode cX10_nextState 160 = .ok (.iload_n 3, 1) := by decide +kernel
theorem dX10_nextState_161 : decode cX10_nextState 161 = .ok (.iconst 0, 1) := by decide +kernel
theorem dX10_nextState_162 : decode cX10_nextState 162 = .ok (.iconst 4, 1) := by decide +kernel
theorem dX10_nextState_163 : decode cX10_nextState 163 = .ok (.invokestatic 75, 3) := by decide +kernel
theorem dX10_nextState_166 : decode cX10_nextState 166 = .ok (.ifCond .eq 7, 3) := by decide +kernel
theorem dX10_nextState_169 : decode cX10_nextState 169 = .ok (.iconst 5, 1) := by decide +kernel
theorem dX10_nextState_170 : decode cX10_nextState 170 = .ok (.goto 4, 3) := by decide +kernel
theorem dX10_nextState_173 : decode cX10_nextState 173 = .ok (.iconst (-1), 1) := by decide +kernel
theorem dX10_nextState_174 : decode cX10_nextState 174 = .ok (.ireturn, 1) := by decide +kernel
theorem dX10_nextState_175 : decode cX10_nextState 175 = .ok (.iload_n 2, 1) := by decide +kernel
theorem dX10_nextState_176 : decode cX10_nextState 176 = .ok (.bipush 47, 2) := by decide +kernel
theorem dX10_nextState_178 : decode cX10_nextState 178 = .ok (.if_icmp .ne 11, 3) := by decide +kernel
theorem dX10_nextState_181 : decode cX10_nextState 181 = .ok (.aload_n 0, 1) := by decide +kernel
theorem dX10_nextState_182 : decode cX10_nextState 182 = .ok (.getfield 79, 3) := by decide +kernel
theorem dX10_nextState_185 : decode cX10_nextState 185 = .ok (.iconst 3, 1) := by decide +kernel
theorem dX10_nextState_186 : decode cX10_nextState 186 = .ok (.if_icmp .ne 5, 3) := by decide +kernel
theorem dX10_nextState_189 : decode cX10_nextState 189 = .ok (.iconst (-1), 1) := by decide +kernel
theorem dX10_nextState_190 : decode cX10_nextState 190 = .ok (.ireturn, 1) := by decide +kernel
theorem dX10_nextState_191 : decode cX10_nextState 191 = .ok (.aload_n 0, 1) := by decide +kernel
theorem dX10_nextState_192 : decode cX10_nextState 192 = .ok (.dup, 1) := by decide +kernel
theorem dX10_nextState_193 : decode cX10_nextState 193 = .ok (.getfield 79, 3) := by decide +kernel
theorem dX10_nextState_196 : decode cX10_nextState 196 = .ok (.iconst 1, 1) := by decide +kernel
theorem dX10_nextState_197 : decode cX10_nextState 197 = .ok (.iadd, 1) := by decide +kernel
theorem dX10_nextState_198 : decode cX10_nextState 198 = .ok (.putfield 79, 3) := by decide +kernel
theorem dX10_nextState_201 : decode cX10_nextState 201 = .ok (.iconst 0, 1) := by decide +kernel
theorem dX10_nextState_202 : decode cX10_nextState 202 = .ok (.ireturn, 1) := by decide +kernel
set_option maxRecDepth 20000 in
theorem ggX10_readLaw_X10_nextState : GoodIn wsX10_readLaw wsX10_nextState := goodIn_r _ [11, 1, 2, 12, 13, 14, 15, 16, 10, 17, 18, 19, 20, 21, 22, 23, 24, 25, 26, 27, 28, 29, 30, 31, 32, 33, 34, 35, 36, 37, 38, 39, 40, 41, 42, 43, 44, 45, 46, 47, 48, 49, 50, 51, 52, 53, 54, 55, 56, 57, 58] (by decide +kernel) (by decide +kernel)
set_option maxRecDepth 20000 in
theorem gX10_readLaw_X10_nextState : GoodIn wsX10_readLaw (wsV RX10 86 RX10 yX10_nextState wsX10_nextState) := goodIn_app (goodIn_of _ (by decide +kernel)) ggX10_readLaw_X10_nextState
theorem dX10_readLaw_0 : decode cX10_readLaw 0 = .ok (.aload_n 0, 1) := by decide +kernel
theorem dX10_readLaw_1 : decode cX10_readLaw 1 = .ok (.iconst 0, 1) := by decide +kernel
theorem dX10_readLaw_2 : decode cX10_readLaw 2 = .ok (.putfield 79, 3) := by decide +kernel
theorem dX10_readLaw_5 : decode cX10_readLaw 5 = .ok (.iconst 0, 1) := by decide +kernel
theorem dX10_readLaw_6 : decode cX10_readLaw 6 = .ok (.istore_n 1, 1) := by decide +kernel
theorem dX10_readLaw_7 : decode cX10_readLaw 7 = .ok (.iload_n 1, 1) := by decide +kernel
theorem dX10_readLaw_8 : decode cX10_readLaw 8 = .ok (.iconst 4, 1) := by decide +kernel
theorem dX10_readLaw_9 : decode cX10_readLaw 9 = .ok (.if_icmp .ge 16, 3) := by decide +kernel
theorem dX10_readLaw_12 : decode cX10_readLaw 12 = .ok (.aload_n 0, 1) := by decide +kernel
theorem dX10_readLaw_13 : decode cX10_readLaw 13 = .ok (.getfield 39, 3) := by decide +kernel
theorem dX10_readLaw_16 : decode cX10_readLaw 16 = .ok (.iload_n 1, 1) := by decide +kernel
theorem dX10_readLaw_17 : decode cX10_readLaw 17 = .ok (.iconst 0, 1) := by decide +kernel
theorem dX10_readLaw_18 : decode cX10_readLaw 18 = .ok (.iastore, 1) := by decide +kernel
theorem dX10_readLaw_19 : decode cX10_readLaw 19 = .ok (.iinc 1 1, 3) := by decide +kernel
theorem dX10_readLaw_22 : decode cX10_readLaw 22 = .ok (.goto (-15), 3) := by decide +kernel
theorem dX10_readLaw_25 : decode cX10_readLaw 25 = .ok (.iconst 0, 1) := by decide +kernel
theorem dX10_readLaw_26 : decode cX10_readLaw 26 = .ok (.istore_n 1, 1) := by decide +kernel
theorem dX10_readLaw_27 : decode cX10_readLaw 27 = .ok (.iconst 0, 1) := by decide +kernel
theorem dX10_readLaw_28 : decode cX10_readLaw 28 = .ok (.istore_n 2, 1) := by decide +kernel
theorem dX10_readLaw_29 : decode cX10_readLaw 29 = .ok (.iconst 1, 1) := by decide +kernel
theorem dX10_readLaw_30 : decode cX10_readLaw 30 = .ok (.istore_n 3, 1) := by decide +kernel
theorem dX10_readLaw_31 : decode cX10_readLaw 31 = .ok (.iload_n 2, 1) := by decide +kernel
theorem dX10_readLaw_32 : decode cX10_readLaw 32 = .ok (.aload_n 0, 1) := by decide +kernel
theorem dX10_readLaw_33 : decode cX10_readLaw 33 = .ok (.getfield 72, 3) := by decide +kernel
theorem dX10_readLaw_36 : decode cX10_readLaw 36 = .ok (.if_icmp .ge 58, 3) := by decide +kernel
theorem dX10_readLaw_39 : decode cX10_readLaw 39 = .ok (.iload_n 3, 1) := by decide +kernel
theorem dX10_readLaw_40 : decode cX10_readLaw 40 = .ok (.ifCond .eq 54, 3) := by decide +kernel
theorem dX10_readLaw_43 : decode cX10_readLaw 43 = .ok (.aload_n 0, 1) := by decide +kernel
theorem dX10_readLaw_44 : decode cX10_readLaw 44 = .ok (.iload_n 1, 1) := by decide +kernel
theorem dX10_readLaw_45 : decode cX10_readLaw 45 = .ok (.aload_n 0, 1) := by decide +kernel
theorem dX10_readLaw_46 : decode cX10_readLaw 46 = .ok (.getfield 35, 3) := by decide +kernel
theorem dX10_readLaw_49 : decode cX10_readLaw 49 = .ok (.iload_n 2, 1) := by decide +kernel
theorem dX10_readLaw_50 : decode cX10_readLaw 50 = .ok (.baload, 1) := by decide +kernel
theorem dX10_readLaw_51 : decode cX10_readLaw 51 = .ok (.invokevirtual 86, 3) := by decide +kernel
theorem dX10_readLaw_54 : decode cX10_readLaw 54 = .ok (.istore 4, 2) := by decide +kernel
theorem dX10_readLaw_56 : decode cX10_readLaw 56 = .ok (.iload 4, 2) := by decide +kernel
theorem dX10_readLaw_58 : decode cX10_readLaw 58 = .ok (.iconst (-1), 1) := by decide +kernel
theorem dX10_readLaw_59 : decode cX10_readLaw 59 = .ok (.if_icmp .eq 7, 3) := by decide +kernel
theorem dX10_readLaw_62 : decode cX10_readLaw 62 = .ok (.iconst 1, 1) := by decide +kernel
theorem dX10_readLaw_63 : decode cX10_readLaw 63 = .ok (.goto 4, 3) := by decide +kernel
theorem dX10_readLaw_66 : decode cX10_readLaw 66 = .ok (.iconst 0, 1) := by decide +kernel
theorem dX10_readLaw_67 : decode cX10_readLaw 67 = .ok (.istore_n 3, 1) := by decide +kernel
theorem dX10_readLaw_68 : decode cX10_readLaw 68 = .ok (.iload_n 3, 1) := by decide +kernel
theorem dX10_readLaw_69 : decode cX10_readLaw 69 = .ok (.ifCond .eq 8, 3) := by decide +kernel
theorem dX10_readLaw_72 : decode cX10_readLaw 72 = .ok (.iload 4, 2) := by decide +kernel
theorem dX10_readLaw_74 : decode cX10_readLaw 74 = .ok (.goto 4, 3) := by decide +kernel
theorem dX10_readLaw_77 : decode cX10_readLaw 77 = .ok (.iload_n 1, 1) := by decide +kernel
theorem dX10_readLaw_78 : decode cX10_readLaw 78 = .ok (.istore_n 1, 1) := by decide +kernel
theorem dX10_readLaw_79 : decode cX10_readLaw 79 = .ok (.iload_n 2, 1) := by decide +kernel
theorem dX10_readLaw_80 : decode cX10_readLaw 80 = .ok (.iload_n 3, 1) := by decide +kernel
theorem dX10_readLaw_81 : decode cX10_readLaw 81 = .ok (.ifCond .eq 7, 3) := by decide +kernel
theorem dX10_readLaw_84 : decode cX10_readLaw 84 = .ok (.iconst 1, 1) := by decide +kernel
theorem dX10_readLaw_85 : decode cX10_readLaw 85 = .ok (.goto 4, 3) := by decide +kernel
theorem dX10_readLaw_88 : decode cX10_readLaw 88 = .ok (.iconst 0, 1) := by decide +kernel
theorem dX10_readLaw_89 : decode cX10_readLaw 89 = .ok (.iadd, 1) := by decide +kernel
theorem dX10_readLaw_90 : decode cX10_readLaw 90 = .ok (.istore_n 2, 1) := by decide +kernel
theorem dX10_readLaw_91 : decode cX10_readLaw 91 = .ok (.goto (-60), 3) := by decide +kernel
theorem dX10_readLaw_94 : decode cX10_readLaw 94 = .ok (.aload_n 0, 1) := by decide +kernel
theorem dX10_readLaw_95 : decode cX10_readLaw 95 = .ok (.iload_n 2, 1) := by decide +kernel
theorem dX10_readLaw_96 : decode cX10_readLaw 96 = .ok (.putfield 90, 3) := by decide +kernel
theorem dX10_readLaw_99 : decode cX10_readLaw 99 = .ok (.aload_n 0, 1) := by decide +kernel
theorem dX10_readLaw_100 : decode cX10_readLaw 100 = .ok (.iload_n 2, 1) := by decide +kernel
theorem dX10_readLaw_101 : decode cX10_readLaw 101 = .ok (.aload_n 0, 1) := by decide +kernel
theorem dX10_readLaw_102 : decode cX10_readLaw 102 = .ok (.getfield 72, 3) := by decide +kernel
theorem dX10_readLaw_105 : decode cX10_readLaw 105 = .ok (.if_icmp .ne 20, 3) := by decide +kernel
theorem dX10_readLaw_108 : decode cX10_readLaw 108 = .ok (.iload_n 1, 1) := by decide +kernel
theorem dX10_readLaw_109 : decode cX10_readLaw 109 = .ok (.iconst 5, 1) := by decide +kernel
theorem dX10_readLaw_110 : decode cX10_readLaw 110 = .ok (.if_icmp .ne 15, 3) := by decide +kernel
theorem dX10_readLaw_113 : decode cX10_readLaw 113 = .ok (.aload_n 0, 1) := by decide +kernel
theorem dX10_readLaw_114 : decode cX10_readLaw 114 = .ok (.getfield 79, 3) := by decide +kernel
theorem dX10_readLaw_117 : decode cX10_readLaw 117 = .ok (.iconst 3, 1) := by decide +kernel
theorem dX10_readLaw_118 : decode cX10_readLaw 118 = .ok (.if_icmp .ne 7, 3) := by decide +kernel
theorem dX10_readLaw_121 : decode cX10_readLaw 121 = .ok (.iconst 1, 1) := by decide +kernel
theorem dX10_readLaw_122 : decode cX10_readLaw 122 = .ok (.goto 4, 3) := by decide +kernel
theorem dX10_readLaw_125 : decode cX10_readLaw 125 = .ok (.iconst 0, 1) := by decide +kernel
theorem dX10_readLaw_126 : decode cX10_readLaw 126 = .ok (.putfield 93, 3) := by decide +kernel
theorem dX10_readLaw_129 : decode cX10_readLaw 129 = .ok (.return_, 1) := by decide +kernel
set_option maxRecDepth 20000 in
theorem ggX10_fault_X10_readLaw : GoodIn wsX10_fault wsX10_readLaw := goodIn_r _ [6, 7, 8, 9, 10, 1, 11, 12, 13, 14, 5, 15, 16, 17, 18, 19, 20, 21, 22, 23, 24, 25, 26, 27, 28, 29, 30, 31, 32, 33, 34, 35, 36, 37, 38, 39, 40, 41, 42, 43, 44, 45, 46, 47, 48, 49, 50, 51, 52, 53, 54, 55, 56, 57, 58, 59, 60, 61, 62] (by decide +kernel) (by decide +kernel)
set_option maxRecDepth 20000 in
theorem gX10_fault_X10_readLaw : GoodIn wsX10_fault (wsV RX10 97 RX10 yX10_readLaw wsX10_readLaw) := goodIn_app (goodIn_of _ (by decide +kernel)) ggX10_fault_X10_readLaw
theorem dX10_fault_0 : decode cX10_fault 0 = .ok (.aload_n 0, 1) := by decide +kernel
theorem dX10_fault_1 : decode cX10_fault 1 = .ok (.invokevirtual 97, 3) := by decide +kernel
theorem dX10_fault_4 : decode cX10_fault 4 = .ok (.aload_n 0, 1) := by decide +kernel
theorem dX10_fault_5 : decode cX10_fault 5 = .ok (.getfield 90, 3) := by decide +kernel
theorem dX10_fault_8 : decode cX10_fault 8 = .ok (.ireturn, 1) := by decide +kernel
set_option maxRecDepth 20000 in
theorem ggX10_law_X10_readLaw : GoodIn wsX10_law wsX10_readLaw := goodIn_r _ [21, 22, 3, 16, 23, 24, 1, 25, 26, 27, 20, 28, 5, 7, 9, 29, 30, 31, 32, 33, 34, 38, 39, 40, 41, 42, 43, 44, 45, 46, 47, 48, 49, 50, 51, 52, 53, 54, 55, 56, 57, 58, 59, 60, 61, 62, 63, 64, 65, 66, 67, 68, 69, 70, 71, 72, 73, 74, 75] (by decide +kernel) (by decide +kernel)
set_option maxRecDepth 20000 in
theorem gX10_law_X10_readLaw : GoodIn wsX10_law (wsV RX10 97 RX10 yX10_readLaw wsX10_readLaw) := goodIn_app (goodIn_of _ (by decide +kernel)) ggX10_law_X10_readLaw
set_option maxRecDepth 20000 in
theorem ggX10_law_X10_size : GoodIn wsX10_law wsX10_size := goodIn_r _ [37] (by decide +kernel) (by decide +kernel)
set_option maxRecDepth 20000 in
theorem gX10_law_X10_size : GoodIn wsX10_law (va_wsS RX10 100 yX10_size wsX10_size) := goodIn_app (goodIn_of _ (by decide +kernel)) ggX10_law_X10_size
theorem dX10_law_0 : decode cX10_law 0 = .ok (.aload_n 0, 1) := by decide +kernel
theorem dX10_law_1 : decode cX10_law 1 = .ok (.invokevirtual 97, 3) := by decide +kernel
theorem dX10_law_4 : decode cX10_law 4 = .ok (.aload_n 0, 1) := by decide +kernel
theorem dX10_law_5 : decode cX10_law 5 = .ok (.getfield 93, 3) := by decide +kernel
theorem dX10_law_8 : decode cX10_law 8 = .ok (.ifCond .ne 6, 3) := by decide +kernel
theorem dX10_law_11 : decode cX10_law 11 = .ok (.bipush (-103), 2) := by decide +kernel
theorem dX10_law_13 : decode cX10_law 13 = .ok (.ireturn, 1) := by decide +kernel
theorem dX10_law_14 : decode cX10_law 14 = .ok (.iconst 0, 1) := by decide +kernel
theorem dX10_law_15 : decode cX10_law 15 = .ok (.istore_n 1, 1) := by decide +kernel
theorem dX10_law_16 : decode cX10_law 16 = .ok (.iconst 0, 1) := by decide +kernel
theorem dX10_law_17 : decode cX10_law 17 = .ok (.istore_n 2, 1) := by decide +kernel
theorem dX10_law_18 : decode cX10_law 18 = .ok (.iload_n 2, 1) := by decide +kernel
theorem dX10_law_19 : decode cX10_law 19 = .ok (.iconst 4, 1) := by decide +kernel
theorem dX10_law_20 : decode cX10_law 20 = .ok (.if_icmp .ge 69, 3) := by decide +kernel
theorem dX10_law_23 : decode cX10_law 23 = .ok (.aload_n 0, 1) := by decide +kernel
theorem dX10_law_24 : decode cX10_law 24 = .ok (.getfield 7, 3) := by decide +kernel
theorem dX10_law_27 : decode cX10_law 27 = .ok (.iload_n 2, 1) := by decide +kernel
theorem dX10_law_28 : decode cX10_law 28 = .ok (.aload_n 0, 1) := by decide +kernel
theorem dX10_law_29 : decode cX10_law 29 = .ok (.getfield 39, 3) := by decide +kernel
theorem dX10_law_32 : decode cX10_law 32 = .ok (.iload_n 2, 1) := by decide +kernel
theorem dX10_law_33 : decode cX10_law 33 = .ok (.iaload, 1) := by decide +kernel
theorem dX10_law_34 : decode cX10_law 34 = .ok (.iastore, 1) := by decide +kernel
theorem dX10_law_35 : decode cX10_law 35 = .ok (.aload_n 0, 1) := by decide +kernel
theorem dX10_law_36 : decode cX10_law 36 = .ok (.getfield 13, 3) := by decide +kernel
theorem dX10_law_39 : decode cX10_law 39 = .ok (.iload_n 2, 1) := by decide +kernel
theorem dX10_law_40 : decode cX10_law 40 = .ok (.aload_n 0, 1) := by decide +kernel
theorem dX10_law_41 : decode cX10_law 41 = .ok (.getfield 42, 3) := by decide +kernel
theorem dX10_law_44 : decode cX10_law 44 = .ok (.iload_n 2, 1) := by decide +kernel
theorem dX10_law_45 : decode cX10_law 45 = .ok (.iaload, 1) := by decide +kernel
theorem dX10_law_46 : decode cX10_law 46 = .ok (.iastore, 1) := by decide +kernel
theorem dX10_law_47 : decode cX10_law 47 = .ok (.aload_n 0, 1) := by decide +kernel
theorem dX10_law_48 : decode cX10_law 48 = .ok (.getfield 16, 3) := by decide +kernel
theorem dX10_law_51 : decode cX10_law 51 = .ok (.iload_n 2, 1) := by decide +kernel
theorem dX10_law_52 : decode cX10_law 52 = .ok (.aload_n 0, 1) := by decide +kernel
theorem dX10_law_53 : decode cX10_law 53 = .ok (.getfield 45, 3) := by decide +kernel
theorem dX10_law_56 : decode cX10_law 56 = .ok (.iload_n 2, 1) := by decide +kernel
theorem dX10_law_57 : decode cX10_law 57 = .ok (.iaload, 1) := by decide +kernel
theorem dX10_law_58 : decode cX10_law 58 = .ok (.iastore, 1) := by decide +kernel
theorem dX10_law_59 : decode cX10_law 59 = .ok (.aload_n 0, 1) := by decide +kernel
theorem dX10_law_60 : decode cX10_law 60 = .ok (.getfield 19, 3) := by decide +kernel
theorem dX10_law_63 : decode cX10_law 63 = .ok (.iload_n 2, 1) := by decide +kernel
theorem dX10_law_64 : decode cX10_law 64 = .ok (.aload_n 0, 1) := by decide +kernel
theorem dX10_law_65 : decode cX10_law 65 = .ok (.getfield 48, 3) := by decide +kernel
theorem dX10_law_68 : decode cX10_law 68 = .ok (.iload_n 2, 1) := by decide +kernel
theorem dX10_law_69 : decode cX10_law 69 = .ok (.iaload, 1) := by decide +kernel
theorem dX10_law_70 : decode cX10_law 70 = .ok (.iastore, 1) := by decide +kernel
theorem dX10_law_71 : decode cX10_law 71 = .ok (.iload_n 1, 1) := by decide +kernel
theorem dX10_law_72 : decode cX10_law 72 = .ok (.aload_n 0, 1) := by decide +kernel
theorem dX10_law_73 : decode cX10_law 73 = .ok (.getfield 39, 3) := by decide +kernel
theorem dX10_law_76 : decode cX10_law 76 = .ok (.iload_n 2, 1) := by decide +kernel
theorem dX10_law_77 : decode cX10_law 77 = .ok (.iaload, 1) := by decide +kernel
theorem dX10_law_78 : decode cX10_law 78 = .ok (.invokestatic 100, 3) := by decide +kernel
theorem dX10_law_81 : decode cX10_law 81 = .ok (.iadd, 1) := by decide +kernel
theorem dX10_law_82 : decode cX10_law 82 = .ok (.istore_n 1, 1) := by decide +kernel
theorem dX10_law_83 : decode cX10_law 83 = .ok (.iinc 2 1, 3) := by decide +kernel
theorem dX10_law_86 : decode cX10_law 86 = .ok (.goto (-68), 3) := by decide +kernel
theorem dX10_law_89 : decode cX10_law 89 = .ok (.aload_n 0, 1) := by decide +kernel
theorem dX10_law_90 : decode cX10_law 90 = .ok (.iconst 1, 1) := by decide +kernel
theorem dX10_law_91 : decode cX10_law 91 = .ok (.putfield 104, 3) := by decide +kernel
theorem dX10_law_94 : decode cX10_law 94 = .ok (.aload_n 0, 1) := by decide +kernel
theorem dX10_law_95 : decode cX10_law 95 = .ok (.dup, 1) := by decide +kernel
theorem dX10_law_96 : decode cX10_law 96 = .ok (.getfield 107, 3) := by decide +kernel
theorem dX10_law_99 : decode cX10_law 99 = .ok (.iconst 1, 1) := by decide +kernel
theorem dX10_law_100 : decode cX10_law 100 = .ok (.iadd, 1) := by decide +kernel
theorem dX10_law_101 : decode cX10_law 101 = .ok (.putfield 107, 3) := by decide +kernel
theorem dX10_law_104 : decode cX10_law 104 = .ok (.aload_n 0, 1) := by decide +kernel
theorem dX10_law_105 : decode cX10_law 105 = .ok (.iconst 0, 1) := by decide +kernel
theorem dX10_law_106 : decode cX10_law 106 = .ok (.putfield 110, 3) := by decide +kernel
theorem dX10_law_109 : decode cX10_law 109 = .ok (.aload_n 0, 1) := by decide +kernel
theorem dX10_law_110 : decode cX10_law 110 = .ok (.iconst 0, 1) := by decide +kernel
theorem dX10_law_111 : decode cX10_law 111 = .ok (.putfield 113, 3) := by decide +kernel
theorem dX10_law_114 : decode cX10_law 114 = .ok (.aload_n 0, 1) := by decide +kernel
theorem dX10_law_115 : decode cX10_law 115 = .ok (.iconst (-1), 1) := by decide +kernel
theorem dX10_law_116 : decode cX10_law 116 = .ok (.putfield 28, 3) := by decide +kernel
theorem dX10_law_119 : decode cX10_law 119 = .ok (.aload_n 0, 1) := by decide +kernel
theorem dX10_law_120 : decode cX10_law 120 = .ok (.iconst 0, 1) := by decide +kernel
theorem dX10_law_121 : decode cX10_law 121 = .ok (.putfield 116, 3) := by decide +kernel
theorem dX10_law_124 : decode cX10_law 124 = .ok (.aload_n 0, 1) := by decide +kernel
theorem dX10_law_125 : decode cX10_law 125 = .ok (.iconst 0, 1) := by decide +kernel
theorem dX10_law_126 : decode cX10_law 126 = .ok (.putfield 72, 3) := by decide +kernel
theorem dX10_law_129 : decode cX10_law 129 = .ok (.iload_n 1, 1) := by decide +kernel
theorem dX10_law_130 : decode cX10_law 130 = .ok (.ireturn, 1) := by decide +kernel
set_option maxRecDepth 20000 in
theorem ggX10_isTown_X10_within : GoodIn wsX10_isTown wsX10_within := goodIn_r _ [4] (by decide +kernel) (by decide +kernel)
set_option maxRecDepth 20000 in
theorem gX10_isTown_X10_within : GoodIn wsX10_isTown (va_wsS RX10 75 yX10_within wsX10_within) := goodIn_app (goodIn_of _ (by decide +kernel)) ggX10_isTown_X10_within
theorem dX10_isTown_0 : decode cX10_isTown 0 = .ok (.iload_n 0, 1) := by decide +kernel
theorem dX10_isTown_1 : decode cX10_isTown 1 = .ok (.iconst 0, 1) := by decide +kernel
theorem dX10_isTown_2 : decode cX10_isTown 2 = .ok (.iconst 3, 1) := by decide +kernel
theorem dX10_isTown_3 : decode cX10_isTown 3 = .ok (.invokestatic 75, 3) := by decide +kernel
theorem dX10_isTown_6 : decode cX10_isTown 6 = .ok (.ireturn, 1) := by decide +kernel
set_option maxRecDepth 20000 in
theorem ggX10_townNow_X10_townIn : GoodIn wsX10_townNow wsX10_townIn := goodIn_r _ [10] (by decide +kernel) (by decide +kernel)
set_option maxRecDepth 20000 in
theorem gX10_townNow_X10_townIn : GoodIn wsX10_townNow (va_wsS RX10 119 yX10_townIn wsX10_townIn) := goodIn_app (goodIn_of _ (by decide +kernel)) ggX10_townNow_X10_townIn
theorem dX10_townNow_0 : decode cX10_townNow 0 = .ok (.iload_n 2, 1) := by decide +kernel
theorem dX10_townNow_1 : decode cX10_townNow 1 = .ok (.tableswitch 59 0 3 #[31, 38, 45, 52], 31) := by decide +kernel
theorem dX10_townNow_32 : decode cX10_townNow 32 = .ok (.aload_n 0, 1) := by decide +kernel
theorem dX10_townNow_33 : decode cX10_townNow 33 = .ok (.getfield 7, 3) := by decide +kernel
theorem dX10_townNow_36 : decode cX10_townNow 36 = .ok (.iload_n 1, 1) := by decide +kernel
theorem dX10_townNow_37 : decode cX10_townNow 37 = .ok (.iaload, 1) := by decide +kernel
theorem dX10_townNow_38 : decode cX10_townNow 38 = .ok (.ireturn, 1) := by decide +kernel
theorem dX10_townNow_39 : decode cX10_townNow 39 = .ok (.aload_n 0, 1) := by decide +kernel
theorem dX10_townNow_40 : decode cX10_townNow 40 = .ok (.getfield 13, 3) := by decide +kernel
theorem dX10_townNow_43 : decode cX10_townNow 43 = .ok (.iload_n 1, 1) := by decide +kernel
theorem dX10_townNow_44 : decode cX10_townNow 44 = .ok (.iaload, 1) := by decide +kernel
theorem dX10_townNow_45 : decode cX10_townNow 45 = .ok (.ireturn, 1) := by decide +kernel
theorem dX10_townNow_46 : decode cX10_townNow 46 = .ok (.aload_n 0, 1) := by decide +kernel
theorem dX10_townNow_47 : decode cX10_townNow 47 = .ok (.getfield 16, 3) := by decide +kernel
theorem dX10_townNow_50 : decode cX10_townNow 50 = .ok (.iload_n 1, 1) := by decide +kernel
theorem dX10_townNow_51 : decode cX10_townNow 51 = .ok (.iaload, 1) := by decide +kernel
theorem dX10_townNow_52 : decode cX10_townNow 52 = .ok (.ireturn, 1) := by decide +kernel
theorem dX10_townNow_53 : decode cX10_townNow 53 = .ok (.aload_n 0, 1) := by decide +kernel
theorem dX10_townNow_54 : decode cX10_townNow 54 = .ok (.getfield 19, 3) := by decide +kernel
theorem dX10_townNow_57 : decode cX10_townNow 57 = .ok (.iload_n 1, 1) := by decide +kernel
theorem dX10_townNow_58 : decode cX10_townNow 58 = .ok (.iaload, 1) := by decide +kernel
theorem dX10_townNow_59 : decode cX10_townNow 59 = .ok (.ireturn, 1) := by decide +kernel
theorem dX10_townNow_60 : decode cX10_townNow 60 = .ok (.iconst 0, 1) := by decide +kernel
theorem dX10_townNow_61 : decode cX10_townNow 61 = .ok (.istore_n 3, 1) := by decide +kernel
theorem dX10_townNow_62 : decode cX10_townNow 62 = .ok (.iconst 0, 1) := by decide +kernel
theorem dX10_townNow_63 : decode cX10_townNow 63 = .ok (.istore 4, 2) := by decide +kernel
theorem dX10_townNow_65 : decode cX10_townNow 65 = .ok (.iload 4, 2) := by decide +kernel
theorem dX10_townNow_67 : decode cX10_townNow 67 = .ok (.aload_n 0, 1) := by decide +kernel
theorem dX10_townNow_68 : decode cX10_townNow 68 = .ok (.getfield 110, 3) := by decide +kernel
theorem dX10_townNow_71 : decode cX10_townNow 71 = .ok (.if_icmp .ge 31, 3) := by decide +kernel
theorem dX10_townNow_74 : decode cX10_townNow 74 = .ok (.iload_n 3, 1) := by decide +kernel
theorem dX10_townNow_75 : decode cX10_townNow 75 = .ok (.aload_n 0, 1) := by decide +kernel
theorem dX10_townNow_76 : decode cX10_townNow 76 = .ok (.getfield 25, 3) := by decide +kernel
theorem dX10_townNow_79 : decode cX10_townNow 79 = .ok (.iload 4, 2) := by decide +kernel
theorem dX10_townNow_81 : decode cX10_townNow 81 = .ok (.iaload, 1) := by decide +kernel
theorem dX10_townNow_82 : decode cX10_townNow 82 = .ok (.invokestatic 119, 3) := by decide +kernel
theorem dX10_townNow_85 : decode cX10_townNow 85 = .ok (.iload_n 1, 1) := by decide +kernel
theorem dX10_townNow_86 : decode cX10_townNow 86 = .ok (.if_icmp .ne 7, 3) := by decide +kernel
theorem dX10_townNow_89 : decode cX10_townNow 89 = .ok (.iconst 1, 1) := by decide +kernel
theorem dX10_townNow_90 : decode cX10_townNow 90 = .ok (.goto 4, 3) := by decide +kernel
theorem dX10_townNow_93 : decode cX10_townNow 93 = .ok (.iconst 0, 1) := by decide +kernel
theorem dX10_townNow_94 : decode cX10_townNow 94 = .ok (.iadd, 1) := by decide +kernel
theorem dX10_townNow_95 : decode cX10_townNow 95 = .ok (.istore_n 3, 1) := by decide +kernel
theorem dX10_townNow_96 : decode cX10_townNow 96 = .ok (.iinc 4 1, 3) := by decide +kernel
theorem dX10_townNow_99 : decode cX10_townNow 99 = .ok (.goto (-34), 3) := by decide +kernel
theorem dX10_townNow_102 : decode cX10_townNow 102 = .ok (.iload_n 3, 1) := by decide +kernel
theorem dX10_townNow_103 : decode cX10_townNow 103 = .ok (.ireturn, 1) := by decide +kernel
set_option maxRecDepth 20000 in
theorem ggX10_town_X10_isTown : GoodIn wsX10_town wsX10_isTown := goodIn_r _ [5, 6, 7, 4, 8] (by decide +kernel) (by decide +kernel)
set_option maxRecDepth 20000 in
theorem gX10_town_X10_isTown : GoodIn wsX10_town (va_wsS RX10 122 yX10_isTown wsX10_isTown) := goodIn_app (goodIn_of _ (by decide +kernel)) ggX10_town_X10_isTown
set_option maxRecDepth 20000 in
theorem ggX10_town_X10_within : GoodIn wsX10_town wsX10_within := goodIn_r _ [8] (by decide +kernel) (by decide +kernel)
set_option maxRecDepth 20000 in
theorem gX10_town_X10_within : GoodIn wsX10_town (va_wsS RX10 75 yX10_within wsX10_within) := goodIn_app (goodIn_of _ (by decide +kernel)) ggX10_town_X10_within
set_option maxRecDepth 20000 in
theorem ggX10_town_X10_townNow : GoodIn wsX10_town wsX10_townNow := goodIn_r _ [12, 13, 14, 15, 16, 17, 18, 19, 20, 4, 21, 22, 23, 24, 25, 26, 27, 28, 29, 30, 31, 32, 33, 34, 35, 36, 37, 38, 39, 40, 41, 42, 43, 44, 45, 46, 47, 48, 49, 50, 51, 52, 53, 54, 55, 56, 57, 58, 59] (by decide +kernel) (by decide +kernel)
set_option maxRecDepth 20000 in
theorem gX10_town_X10_townNow : GoodIn wsX10_town (wsV RX10 126 RX10 yX10_townNow wsX10_townNow) := goodIn_app (goodIn_of _ (by decide +kernel)) ggX10_town_X10_townNow
theorem dX10_town_0 : decode cX10_town 0 = .ok (.iload_n 1, 1) := by decide +kernel
theorem dX10_town_1 : decode cX10_town 1 = .ok (.invokestatic 122, 3) := by decide +kernel
theorem dX10_town_4 : decode cX10_town 4 = .ok (.ifCond .ne 6, 3) := by decide +kernel
theorem dX10_town_7 : decode cX10_town 7 = .ok (.bipush (-101), 2) := by decide +kernel
theorem dX10_town_9 : decode cX10_town 9 = .ok (.ireturn, 1) := by decide +kernel
theorem dX10_town_10 : decode cX10_town 10 = .ok (.iload_n 2, 1) := by decide +kernel
theorem dX10_town_11 : decode cX10_town 11 = .ok (.iconst 0, 1) := by decide +kernel
theorem dX10_town_12 : decode cX10_town 12 = .ok (.iconst 4, 1) := by decide +kernel
theorem dX10_town_13 : decode cX10_town 13 = .ok (.invokestatic 75, 3) := by decide +kernel
theorem dX10_town_16 : decode cX10_town 16 = .ok (.ifCond .ne 6, 3) := by decide +kernel
theorem dX10_town_19 : decode cX10_town 19 = .ok (.bipush (-102), 2) := by decide +kernel
theorem dX10_town_21 : decode cX10_town 21 = .ok (.ireturn, 1) := by decide +kernel
theorem dX10_town_22 : decode cX10_town 22 = .ok (.aload_n 0, 1) := by decide +kernel
theorem dX10_town_23 : decode cX10_town 23 = .ok (.getfield 104, 3) := by decide +kernel
theorem dX10_town_26 : decode cX10_town 26 = .ok (.ifCond .eq 12, 3) := by decide +kernel
theorem dX10_town_29 : decode cX10_town 29 = .ok (.aload_n 0, 1) := by decide +kernel
theorem dX10_town_30 : decode cX10_town 30 = .ok (.iload_n 1, 1) := by decide +kernel
theorem dX10_town_31 : decode cX10_town 31 = .ok (.iload_n 2, 1) := by decide +kernel
theorem dX10_town_32 : decode cX10_town 32 = .ok (.invokevirtual 126, 3) := by decide +kernel
theorem dX10_town_35 : decode cX10_town 35 = .ok (.goto 5, 3) := by decide +kernel
theorem dX10_town_38 : decode cX10_town 38 = .ok (.bipush (-103), 2) := by decide +kernel
theorem dX10_town_40 : decode cX10_town 40 = .ok (.ireturn, 1) := by decide +kernel
set_option maxRecDepth 20000 in
theorem ggX10_price_X10_isTown : GoodIn wsX10_price wsX10_isTown := goodIn_r _ [6, 7, 8, 5, 9] (by decide +kernel) (by decide +kernel)
set_option maxRecDepth 20000 in
theorem gX10_price_X10_isTown : GoodIn wsX10_price (va_wsS RX10 122 yX10_isTown wsX10_isTown) := goodIn_app (goodIn_of _ (by decide +kernel)) ggX10_price_X10_isTown
set_option maxRecDepth 20000 in
theorem ggX10_price_X10_within : GoodIn wsX10_price wsX10_within := goodIn_r _ [9] (by decide +kernel) (by decide +kernel)
set_option maxRecDepth 20000 in
theorem gX10_price_X10_within : GoodIn wsX10_price (va_wsS RX10 75 yX10_within wsX10_within) := goodIn_app (goodIn_of _ (by decide +kernel)) ggX10_price_X10_within
theorem dX10_price_0 : decode cX10_price 0 = .ok (.iload_n 1, 1) := by decide +kernel
theorem dX10_price_1 : decode cX10_price 1 = .ok (.invokestatic 122, 3) := by decide +kernel
theorem dX10_price_4 : decode cX10_price 4 = .ok (.ifCond .ne 6, 3) := by decide +kernel
theorem dX10_price_7 : decode cX10_price 7 = .ok (.bipush (-101), 2) := by decide +kernel
theorem dX10_price_9 : decode cX10_price 9 = .ok (.ireturn, 1) := by decide +kernel
theorem dX10_price_10 : decode cX10_price 10 = .ok (.iload_n 2, 1) := by decide +kernel
theorem dX10_price_11 : decode cX10_price 11 = .ok (.iconst 1, 1) := by decide +kernel
theorem dX10_price_12 : decode cX10_price 12 = .ok (.iconst 4, 1) := by decide +kernel
theorem dX10_price_13 : decode cX10_price 13 = .ok (.invokestatic 75, 3) := by decide +kernel
theorem dX10_price_16 : decode cX10_price 16 = .ok (.ifCond .ne 6, 3) := by decide +kernel
theorem dX10_price_19 : decode cX10_price 19 = .ok (.bipush (-102), 2) := by decide +kernel
theorem dX10_price_21 : decode cX10_price 21 = .ok (.ireturn, 1) := by decide +kernel
theorem dX10_price_22 : decode cX10_price 22 = .ok (.aload_n 0, 1) := by decide +kernel
theorem dX10_price_23 : decode cX10_price 23 = .ok (.getfield 104, 3) := by decide +kernel
theorem dX10_price_26 : decode cX10_price 26 = .ok (.ifCond .ne 6, 3) := by decide +kernel
theorem dX10_price_29 : decode cX10_price 29 = .ok (.bipush (-103), 2) := by decide +kernel
theorem dX10_price_31 : decode cX10_price 31 = .ok (.ireturn, 1) := by decide +kernel
theorem dX10_price_32 : decode cX10_price 32 = .ok (.aload_n 0, 1) := by decide +kernel
theorem dX10_price_33 : decode cX10_price 33 = .ok (.getfield 16, 3) := by decide +kernel
theorem dX10_price_36 : decode cX10_price 36 = .ok (.iload_n 1, 1) := by decide +kernel
theorem dX10_price_37 : decode cX10_price 37 = .ok (.iaload, 1) := by decide +kernel
theorem dX10_price_38 : decode cX10_price 38 = .ok (.istore_n 3, 1) := by decide +kernel
theorem dX10_price_39 : decode cX10_price 39 = .ok (.aload_n 0, 1) := by decide +kernel
theorem dX10_price_40 : decode cX10_price 40 = .ok (.getfield 16, 3) := by decide +kernel
theorem dX10_price_43 : decode cX10_price 43 = .ok (.iload_n 1, 1) := by decide +kernel
theorem dX10_price_44 : decode cX10_price 44 = .ok (.iload_n 2, 1) := by decide +kernel
theorem dX10_price_45 : decode cX10_price 45 = .ok (.iastore, 1) := by decide +kernel
theorem dX10_price_46 : decode cX10_price 46 = .ok (.iload_n 3, 1) := by decide +kernel
theorem dX10_price_47 : decode cX10_price 47 = .ok (.ireturn, 1) := by decide +kernel
theorem dX10_townIn_0 : decode cX10_townIn 0 = .ok (.iload_n 0, 1) := by decide +kernel
theorem dX10_townIn_1 : decode cX10_townIn 1 = .ok (.iconst 4, 1) := by decide +kernel
theorem dX10_townIn_2 : decode cX10_townIn 2 = .ok (.irem, 1) := by decide +kernel
theorem dX10_townIn_3 : decode cX10_townIn 3 = .ok (.ireturn, 1) := by decide +kernel
theorem dX10_purseIn_0 : decode cX10_purseIn 0 = .ok (.iload_n 0, 1) := by decide +kernel
theorem dX10_purseIn_1 : decode cX10_purseIn 1 = .ok (.iconst 4, 1) := by decide +kernel
theorem dX10_purseIn_2 : decode cX10_purseIn 2 = .ok (.idiv, 1) := by decide +kernel
theorem dX10_purseIn_3 : decode cX10_purseIn 3 = .ok (.sipush 625, 3) := by decide +kernel
theorem dX10_purseIn_6 : decode cX10_purseIn 6 = .ok (.irem, 1) := by decide +kernel
theorem dX10_purseIn_7 : decode cX10_purseIn 7 = .ok (.ireturn, 1) := by decide +kernel
theorem dX10_goodsIn_0 : decode cX10_goodsIn 0 = .ok (.iload_n 0, 1) := by decide +kernel
theorem dX10_goodsIn_1 : decode cX10_goodsIn 1 = .ok (.sipush 2500, 3) := by decide +kernel
theorem dX10_goodsIn_4 : decode cX10_goodsIn 4 = .ok (.idiv, 1) := by decide +kernel
theorem dX10_goodsIn_5 : decode cX10_goodsIn 5 = .ok (.ireturn, 1) := by decide +kernel
theorem dX10_weight_0 : decode cX10_weight 0 = .ok (.iload_n 0, 1) := by decide +kernel
theorem dX10_weight_1 : decode cX10_weight 1 = .ok (.ifCond .ne 7, 3) := by decide +kernel
theorem dX10_weight_4 : decode cX10_weight 4 = .ok (.iconst 1, 1) := by decide +kernel
theorem dX10_weight_5 : decode cX10_weight 5 = .ok (.goto 24, 3) := by decide +kernel
theorem dX10_weight_8 : decode cX10_weight 8 = .ok (.iload_n 0, 1) := by decide +kernel
theorem dX10_weight_9 : decode cX10_weight 9 = .ok (.iconst 1, 1) := by decide +kernel
theorem dX10_weight_10 : decode cX10_weight 10 = .ok (.if_icmp .ne 7, 3) := by decide +kernel
theorem dX10_weight_13 : decode cX10_weight 13 = .ok (.iconst 5, 1) := by decide +kernel
theorem dX10_weight_14 : decode cX10_weight 14 = .ok (.goto 15, 3) := by decide +kernel
theorem dX10_weight_17 : decode cX10_weight 17 = .ok (.iload_n 0, 1) := by decide +kernel
theorem dX10_weight_18 : decode cX10_weight 18 = .ok (.iconst 2, 1) := by decide +kernel
theorem dX10_weight_19 : decode cX10_weight 19 = .ok (.if_icmp .ne 8, 3) := by decide +kernel
theorem dX10_weight_22 : decode cX10_weight 22 = .ok (.bipush 25, 2) := by decide +kernel
theorem dX10_weight_24 : decode cX10_weight 24 = .ok (.goto 5, 3) := by decide +kernel
theorem dX10_weight_27 : decode cX10_weight 27 = .ok (.bipush 125, 2) := by decide +kernel
theorem dX10_weight_29 : decode cX10_weight 29 = .ok (.ireturn, 1) := by decide +kernel
set_option maxRecDepth 20000 in
theorem ggX10_coins_X10_purseIn : GoodIn wsX10_coins wsX10_purseIn := goodIn_r _ [4] (by decide +kernel) (by decide +kernel)
set_option maxRecDepth 20000 in
theorem gX10_coins_X10_purseIn : GoodIn wsX10_coins (va_wsS RX10 129 yX10_purseIn wsX10_purseIn) := goodIn_app (goodIn_of _ (by decide +kernel)) ggX10_coins_X10_purseIn
set_option maxRecDepth 20000 in
theorem ggX10_coins_X10_weight : GoodIn wsX10_coins wsX10_weight := goodIn_r _ [7] (by decide +kernel) (by decide +kernel)
set_option maxRecDepth 20000 in
theorem gX10_coins_X10_weight : GoodIn wsX10_coins (va_wsS RX10 132 yX10_weight wsX10_weight) := goodIn_app (goodIn_of _ (by decide +kernel)) ggX10_coins_X10_weight
theorem dX10_coins_0 : decode cX10_coins 0 = .ok (.iload_n 0, 1) := by decide +kernel
theorem dX10_coins_1 : decode cX10_coins 1 = .ok (.invokestatic 129, 3) := by decide +kernel
theorem dX10_coins_4 : decode cX10_coins 4 = .ok (.iload_n 1, 1) := by decide +kernel
theorem dX10_coins_5 : decode cX10_coins 5 = .ok (.invokestatic 132, 3) := by decide +kernel
theorem dX10_coins_8 : decode cX10_coins 8 = .ok (.idiv, 1) := by decide +kernel
theorem dX10_coins_9 : decode cX10_coins 9 = .ok (.iconst 5, 1) := by decide +kernel
theorem dX10_coins_10 : decode cX10_coins 10 = .ok (.irem, 1) := by decide +kernel
theorem dX10_coins_11 : decode cX10_coins 11 = .ok (.ireturn, 1) := by decide +kernel
set_option maxRecDepth 20000 in
theorem ggX10_coinsAll_X10_coins : GoodIn wsX10_coinsAll wsX10_coins := goodIn_r _ [4, 5, 6, 3, 7, 8, 9, 10] (by decide +kernel) (by decide +kernel)
set_option maxRecDepth 20000 in
theorem gX10_coinsAll_X10_coins : GoodIn wsX10_coinsAll (va_wsS RX10 135 yX10_coins wsX10_coins) := goodIn_app (goodIn_of _ (by decide +kernel)) ggX10_coinsAll_X10_coins
theorem dX10_coinsAll_0 : decode cX10_coinsAll 0 = .ok (.iload_n 0, 1) := by decide +kernel
theorem dX10_coinsAll_1 : decode cX10_coinsAll 1 = .ok (.iconst 0, 1) := by decide +kernel
theorem dX10_coinsAll_2 : decode cX10_coinsAll 2 = .ok (.invokestatic 135, 3) := by decide +kernel
theorem dX10_coinsAll_5 : decode cX10_coinsAll 5 = .ok (.iload_n 0, 1) := by decide +kernel
theorem dX10_coinsAll_6 : decode cX10_coinsAll 6 = .ok (.iconst 1, 1) := by decide +kernel
theorem dX10_coinsAll_7 : decode cX10_coinsAll 7 = .ok (.invokestatic 135, 3) := by decide +kernel
theorem dX10_coinsAll_10 : decode cX10_coinsAll 10 = .ok (.iadd, 1) := by decide +kernel
theorem dX10_coinsAll_11 : decode cX10_coinsAll 11 = .ok (.iload_n 0, 1) := by decide +kernel
theorem dX10_coinsAll_12 : decode cX10_coinsAll 12 = .ok (.iconst 2, 1) := by decide +kernel
theorem dX10_coinsAll_13 : decode cX10_coinsAll 13 = .ok (.invokestatic 135, 3) := by decide +kernel
theorem dX10_coinsAll_16 : decode cX10_coinsAll 16 = .ok (.iadd, 1) := by decide +kernel
theorem dX10_coinsAll_17 : decode cX10_coinsAll 17 = .ok (.iload_n 0, 1) := by decide +kernel
theorem dX10_coinsAll_18 : decode cX10_coinsAll 18 = .ok (.iconst 3, 1) := by decide +kernel
theorem dX10_coinsAll_19 : decode cX10_coinsAll 19 = .ok (.invokestatic 135, 3) := by decide +kernel
theorem dX10_coinsAll_22 : decode cX10_coinsAll 22 = .ok (.iadd, 1) := by decide +kernel
theorem dX10_coinsAll_23 : decode cX10_coinsAll 23 = .ok (.ireturn, 1) := by decide +kernel
set_option maxRecDepth 20000 in
theorem ggX10_withCoins_X10_weight : GoodIn wsX10_withCoins wsX10_weight := goodIn_r _ [4] (by decide +kernel) (by decide +kernel)
set_option maxRecDepth 20000 in
theorem gX10_withCoins_X10_weight : GoodIn wsX10_withCoins (va_wsS RX10 132 yX10_weight wsX10_weight) := goodIn_app (goodIn_of _ (by decide +kernel)) ggX10_withCoins_X10_weight
theorem dX10_withCoins_0 : decode cX10_withCoins 0 = .ok (.iload_n 0, 1) := by decide +kernel
theorem dX10_withCoins_1 : decode cX10_withCoins 1 = .ok (.iconst 4, 1) := by decide +kernel
theorem dX10_withCoins_2 : decode cX10_withCoins 2 = .ok (.iload_n 1, 1) := by decide +kernel
theorem dX10_withCoins_3 : decode cX10_withCoins 3 = .ok (.invokestatic 132, 3) := by decide +kernel
theorem dX10_withCoins_6 : decode cX10_withCoins 6 = .ok (.imul, 1) := by decide +kernel
theorem dX10_withCoins_7 : decode cX10_withCoins 7 = .ok (.iload_n 2, 1) := by decide +kernel
theorem dX10_withCoins_8 : decode cX10_withCoins 8 = .ok (.imul, 1) := by decide +kernel
theorem dX10_withCoins_9 : decode cX10_withCoins 9 = .ok (.iadd, 1) := by decide +kernel
theorem dX10_withCoins_10 : decode cX10_withCoins 10 = .ok (.ireturn, 1) := by decide +kernel
theorem dX10_costs_0 : decode cX10_costs 0 = .ok (.iload_n 1, 1) := by decide +kernel
theorem dX10_costs_1 : decode cX10_costs 1 = .ok (.iconst 1, 1) := by decide +kernel
theorem dX10_costs_2 : decode cX10_costs 2 = .ok (.if_icmp .ne 24, 3) := by decide +kernel
theorem dX10_costs_5 : decode cX10_costs 5 = .ok (.aload_n 0, 1) := by decide +kernel
theorem dX10_costs_6 : decode cX10_costs 6 = .ok (.getfield 16, 3) := by decide +kernel
theorem dX10_costs_9 : decode cX10_costs 9 = .ok (.iload_n 2, 1) := by decide +kernel
theorem dX10_costs_10 : decode cX10_costs 10 = .ok (.iaload, 1) := by decide +kernel
theorem dX10_costs_11 : decode cX10_costs 11 = .ok (.iconst 1, 1) := by decide +kernel
theorem dX10_costs_12 : decode cX10_costs 12 = .ok (.if_icmp .le 14, 3) := by decide +kernel
theorem dX10_costs_15 : decode cX10_costs 15 = .ok (.aload_n 0, 1) := by decide +kernel
theorem dX10_costs_16 : decode cX10_costs 16 = .ok (.getfield 16, 3) := by decide +kernel
theorem dX10_costs_19 : decode cX10_costs 19 = .ok (.iload_n 2, 1) := by decide +kernel
theorem dX10_costs_20 : decode cX10_costs 20 = .ok (.iaload, 1) := by decide +kernel
theorem dX10_costs_21 : decode cX10_costs 21 = .ok (.iconst 1, 1) := by decide +kernel
theorem dX10_costs_22 : decode cX10_costs 22 = .ok (.isub, 1) := by decide +kernel
theorem dX10_costs_23 : decode cX10_costs 23 = .ok (.goto 9, 3) := by decide +kernel
theorem dX10_costs_26 : decode cX10_costs 26 = .ok (.aload_n 0, 1) := by decide +kernel
theorem dX10_costs_27 : decode cX10_costs 27 = .ok (.getfield 16, 3) := by decide +kernel
theorem dX10_costs_30 : decode cX10_costs 30 = .ok (.iload_n 2, 1) := by decide +kernel
theorem dX10_costs_31 : decode cX10_costs 31 = .ok (.iaload, 1) := by decide +kernel
theorem dX10_costs_32 : decode cX10_costs 32 = .ok (.ireturn, 1) := by decide +kernel
theorem dX10_gets_0 : decode cX10_gets 0 = .ok (.aload_n 0, 1) := by decide +kernel
theorem dX10_gets_1 : decode cX10_gets 1 = .ok (.getfield 19, 3) := by decide +kernel
theorem dX10_gets_4 : decode cX10_gets 4 = .ok (.iload_n 2, 1) := by decide +kernel
theorem dX10_gets_5 : decode cX10_gets 5 = .ok (.iaload, 1) := by decide +kernel
theorem dX10_gets_6 : decode cX10_gets 6 = .ok (.iload_n 1, 1) := by decide +kernel
theorem dX10_gets_7 : decode cX10_gets 7 = .ok (.iconst 3, 1) := by decide +kernel
theorem dX10_gets_8 : decode cX10_gets 8 = .ok (.if_icmp .ne 7, 3) := by decide +kernel
theorem dX10_gets_11 : decode cX10_gets 11 = .ok (.iconst 1, 1) := by decide +kernel
theorem dX10_gets_12 : decode cX10_gets 12 = .ok (.goto 13, 3) := by decide +kernel
theorem dX10_gets_15 : decode cX10_gets 15 = .ok (.iload_n 1, 1) := by decide +kernel
theorem dX10_gets_16 : decode cX10_gets 16 = .ok (.iconst 4, 1) := by decide +kernel
theorem dX10_gets_17 : decode cX10_gets 17 = .ok (.if_icmp .ne 7, 3) := by decide +kernel
theorem dX10_gets_20 : decode cX10_gets 20 = .ok (.iconst 2, 1) := by decide +kernel
theorem dX10_gets_21 : decode cX10_gets 21 = .ok (.goto 4, 3) := by decide +kernel
theorem dX10_gets_24 : decode cX10_gets 24 = .ok (.iconst 0, 1) := by decide +kernel
theorem dX10_gets_25 : decode cX10_gets 25 = .ok (.iadd, 1) := by decide +kernel
theorem dX10_gets_26 : decode cX10_gets 26 = .ok (.ireturn, 1) := by decide +kernel
set_option maxRecDepth 20000 in
theorem ggX10_mayPay_X10_has : GoodIn wsX10_mayPay wsX10_has := goodIn_r _ [5] (by decide +kernel) (by decide +kernel)
set_option maxRecDepth 20000 in
theorem gX10_mayPay_X10_has : GoodIn wsX10_mayPay (va_wsS RX10 82 yX10_has wsX10_has) := goodIn_app (goodIn_of _ (by decide +kernel)) ggX10_mayPay_X10_has
theorem dX10_mayPay_0 : decode cX10_mayPay 0 = .ok (.iload_n 1, 1) := by decide +kernel
theorem dX10_mayPay_1 : decode cX10_mayPay 1 = .ok (.iconst 2, 1) := by decide +kernel
theorem dX10_mayPay_2 : decode cX10_mayPay 2 = .ok (.if_icmp .eq 21, 3) := by decide +kernel
theorem dX10_mayPay_5 : decode cX10_mayPay 5 = .ok (.iload_n 1, 1) := by decide +kernel
theorem dX10_mayPay_6 : decode cX10_mayPay 6 = .ok (.iconst 4, 1) := by decide +kernel
theorem dX10_mayPay_7 : decode cX10_mayPay 7 = .ok (.if_icmp .eq 16, 3) := by decide +kernel
theorem dX10_mayPay_10 : decode cX10_mayPay 10 = .ok (.aload_n 0, 1) := by decide +kernel
theorem dX10_mayPay_11 : decode cX10_mayPay 11 = .ok (.getfield 7, 3) := by decide +kernel
theorem dX10_mayPay_14 : decode cX10_mayPay 14 = .ok (.iload_n 2, 1) := by decide +kernel
theorem dX10_mayPay_15 : decode cX10_mayPay 15 = .ok (.iaload, 1) := by decide +kernel
theorem dX10_mayPay_16 : decode cX10_mayPay 16 = .ok (.iload_n 3, 1) := by decide +kernel
theorem dX10_mayPay_17 : decode cX10_mayPay 17 = .ok (.invokestatic 82, 3) := by decide +kernel
theorem dX10_mayPay_20 : decode cX10_mayPay 20 = .ok (.ifCond .eq 7, 3) := by decide +kernel
theorem dX10_mayPay_23 : decode cX10_mayPay 23 = .ok (.iconst 1, 1) := by decide +kernel
theorem dX10_mayPay_24 : decode cX10_mayPay 24 = .ok (.goto 4, 3) := by decide +kernel
theorem dX10_mayPay_27 : decode cX10_mayPay 27 = .ok (.iconst 0, 1) := by decide +kernel
theorem dX10_mayPay_28 : decode cX10_mayPay 28 = .ok (.ireturn, 1) := by decide +kernel
set_option maxRecDepth 20000 in
theorem ggX10_behind_X10_townIn : GoodIn wsX10_behind wsX10_townIn := goodIn_r _ [5] (by decide +kernel) (by decide +kernel)
set_option maxRecDepth 20000 in
theorem gX10_behind_X10_townIn : GoodIn wsX10_behind (va_wsS RX10 119 yX10_townIn wsX10_townIn) := goodIn_app (goodIn_of _ (by decide +kernel)) ggX10_behind_X10_townIn
set_option maxRecDepth 20000 in
theorem ggX10_behind_X10_mayPay : GoodIn wsX10_behind wsX10_mayPay := goodIn_r _ [9, 10, 11, 12, 4, 13, 39, 40, 41, 42, 43, 44, 45, 46, 47, 48, 49, 50, 51, 52, 53, 54, 55, 56, 57, 58, 59, 60, 61, 62, 63, 64, 65, 66, 67, 68, 69, 70, 71, 72, 73, 74, 75, 76] (by decide +kernel) (by decide +kernel)
set_option maxRecDepth 20000 in
theorem gX10_behind_X10_mayPay : GoodIn wsX10_behind (wsV RX10 138 RX10 yX10_mayPay wsX10_mayPay) := goodIn_app (goodIn_of _ (by decide +kernel)) ggX10_behind_X10_mayPay
set_option maxRecDepth 20000 in
theorem ggX10_behind_X10_goodsIn : GoodIn wsX10_behind wsX10_goodsIn := goodIn_r _ [16] (by decide +kernel) (by decide +kernel)
set_option maxRecDepth 20000 in
theorem gX10_behind_X10_goodsIn : GoodIn wsX10_behind (va_wsS RX10 141 yX10_goodsIn wsX10_goodsIn) := goodIn_app (goodIn_of _ (by decide +kernel)) ggX10_behind_X10_goodsIn
set_option maxRecDepth 20000 in
theorem ggX10_behind_X10_has : GoodIn wsX10_behind wsX10_has := goodIn_r _ [13] (by decide +kernel) (by decide +kernel)
set_option maxRecDepth 20000 in
theorem gX10_behind_X10_has : GoodIn wsX10_behind (va_wsS RX10 82 yX10_has wsX10_has) := goodIn_app (goodIn_of _ (by decide +kernel)) ggX10_behind_X10_has
set_option maxRecDepth 20000 in
theorem ggX10_behind_X10_coins : GoodIn wsX10_behind wsX10_coins := goodIn_r _ [19, 20, 21, 4, 22, 23, 24, 25] (by decide +kernel) (by decide +kernel)
set_option maxRecDepth 20000 in
theorem gX10_behind_X10_coins : GoodIn wsX10_behind (va_wsS RX10 135 yX10_coins wsX10_coins) := goodIn_app (goodIn_of _ (by decide +kernel)) ggX10_behind_X10_coins
set_option maxRecDepth 20000 in
theorem ggX10_behind_X10_costs : GoodIn wsX10_behind wsX10_costs := goodIn_r _ [29, 30, 39, 40, 41, 42, 43, 44, 45, 46, 47, 48, 49, 50, 51, 52, 53, 54, 55, 56, 57, 58, 59, 60, 61, 62, 63, 64, 65, 66, 67, 68, 69, 70, 71, 72, 73, 74, 75, 76] (by decide +kernel) (by decide +kernel)
set_option maxRecDepth 20000 in
theorem gX10_behind_X10_costs : GoodIn wsX10_behind (wsV RX10 144 RX10 yX10_costs wsX10_costs) := goodIn_app (goodIn_of _ (by decide +kernel)) ggX10_behind_X10_costs
set_option maxRecDepth 20000 in
theorem ggX10_behind_X10_withCoins : GoodIn wsX10_behind wsX10_withCoins := goodIn_r _ [33, 23, 24, 4, 25] (by decide +kernel) (by decide +kernel)
set_option maxRecDepth 20000 in
theorem gX10_behind_X10_withCoins : GoodIn wsX10_behind (va_wsS RX10 147 yX10_withCoins wsX10_withCoins) := goodIn_app (goodIn_of _ (by decide +kernel)) ggX10_behind_X10_withCoins
set_option maxRecDepth 20000 in
theorem ggX10_behind_X10_gets : GoodIn wsX10_behind wsX10_gets := goodIn_r _ [37, 38, 39, 40, 41, 42, 43, 44, 45, 46, 47, 48, 49, 50, 51, 52, 53, 54, 55, 56, 57, 58, 59, 60, 61, 62, 63, 64, 65, 66, 67, 68, 69, 70, 71, 72, 73, 74, 75, 76] (by decide +kernel) (by decide +kernel)
set_option maxRecDepth 20000 in
theorem gX10_behind_X10_gets : GoodIn wsX10_behind (wsV RX10 151 RX10 yX10_gets wsX10_gets) := goodIn_app (goodIn_of _ (by decide +kernel)) ggX10_behind_X10_gets
theorem dX10_behind_0 : decode cX10_behind 0 = .ok (.iload_n 2, 1) := by decide +kernel
theorem dX10_behind_1 : decode cX10_behind 1 = .ok (.invokestatic 119, 3) := by decide +kernel
theorem dX10_behind_4 : decode cX10_behind 4 = .ok (.istore 4, 2) := by decide +kernel
theorem dX10_behind_6 : decode cX10_behind 6 = .ok (.iload_n 3, 1) := by decide +kernel
theorem dX10_behind_7 : decode cX10_behind 7 = .ok (.bipush 10, 2) := by decide +kernel
theorem dX10_behind_9 : decode cX10_behind 9 = .ok (.irem, 1) := by decide +kernel
theorem dX10_behind_10 : decode cX10_behind 10 = .ok (.istore 5, 2) := by decide +kernel
theorem dX10_behind_12 : decode cX10_behind 12 = .ok (.iload_n 3, 1) := by decide +kernel
theorem dX10_behind_13 : decode cX10_behind 13 = .ok (.bipush 10, 2) := by decide +kernel
theorem dX10_behind_15 : decode cX10_behind 15 = .ok (.if_icmp .ge 49, 3) := by decide +kernel
theorem dX10_behind_18 : decode cX10_behind 18 = .ok (.iload 4, 2) := by decide +kernel
theorem dX10_behind_20 : decode cX10_behind 20 = .ok (.iconst 1, 1) := by decide +kernel
theorem dX10_behind_21 : decode cX10_behind 21 = .ok (.iadd, 1) := by decide +kernel
theorem dX10_behind_22 : decode cX10_behind 22 = .ok (.iconst 4, 1) := by decide +kernel
theorem dX10_behind_23 : decode cX10_behind 23 = .ok (.irem, 1) := by decide +kernel
theorem dX10_behind_24 : decode cX10_behind 24 = .ok (.iload 5, 2) := by decide +kernel
theorem dX10_behind_26 : decode cX10_behind 26 = .ok (.if_icmp .eq 14, 3) := by decide +kernel
theorem dX10_behind_29 : decode cX10_behind 29 = .ok (.iload 5, 2) := by decide +kernel
theorem dX10_behind_31 : decode cX10_behind 31 = .ok (.iconst 1, 1) := by decide +kernel
theorem dX10_behind_32 : decode cX10_behind 32 = .ok (.iadd, 1) := by decide +kernel
theorem dX10_behind_33 : decode cX10_behind 33 = .ok (.iconst 4, 1) := by decide +kernel
theorem dX10_behind_34 : decode cX10_behind 34 = .ok (.irem, 1) := by decide +kernel
theorem dX10_behind_35 : decode cX10_behind 35 = .ok (.iload 4, 2) := by decide +kernel
theorem dX10_behind_37 : decode cX10_behind 37 = .ok (.if_icmp .ne 7, 3) := by decide +kernel
theorem dX10_behind_40 : decode cX10_behind 40 = .ok (.iconst 1, 1) := by decide +kernel
theorem dX10_behind_41 : decode cX10_behind 41 = .ok (.goto 4, 3) := by decide +kernel
theorem dX10_behind_44 : decode cX10_behind 44 = .ok (.iconst 0, 1) := by decide +kernel
theorem dX10_behind_45 : decode cX10_behind 45 = .ok (.istore 6, 2) := by decide +kernel
theorem dX10_behind_47 : decode cX10_behind 47 = .ok (.iload 6, 2) := by decide +kernel
theorem dX10_behind_49 : decode cX10_behind 49 = .ok (.ifCond .eq 13, 3) := by decide +kernel
theorem dX10_behind_52 : decode cX10_behind 52 = .ok (.iload_n 2, 1) := by decide +kernel
theorem dX10_behind_53 : decode cX10_behind 53 = .ok (.iload 4, 2) := by decide +kernel
theorem dX10_behind_55 : decode cX10_behind 55 = .ok (.isub, 1) := by decide +kernel
theorem dX10_behind_56 : decode cX10_behind 56 = .ok (.iload 5, 2) := by decide +kernel
theorem dX10_behind_58 : decode cX10_behind 58 = .ok (.iadd, 1) := by decide +kernel
theorem dX10_behind_59 : decode cX10_behind 59 = .ok (.goto 4, 3) := by decide +kernel
theorem dX10_behind_62 : decode cX10_behind 62 = .ok (.iconst (-1), 1) := by decide +kernel
theorem dX10_behind_63 : decode cX10_behind 63 = .ok (.ireturn, 1) := by decide +kernel
theorem dX10_behind_64 : decode cX10_behind 64 = .ok (.iload_n 3, 1) := by decide +kernel
theorem dX10_behind_65 : decode cX10_behind 65 = .ok (.bipush 20, 2) := by decide +kernel
theorem dX10_behind_67 : decode cX10_behind 67 = .ok (.if_icmp .ge 83, 3) := by decide +kernel
theorem dX10_behind_70 : decode cX10_behind 70 = .ok (.aload_n 0, 1) := by decide +kernel
theorem dX10_behind_71 : decode cX10_behind 71 = .ok (.iload_n 1, 1) := by decide +kernel
theorem dX10_behind_72 : decode cX10_behind 72 = .ok (.iload 4, 2) := by decide +kernel
theorem dX10_behind_74 : decode cX10_behind 74 = .ok (.iload 5, 2) := by decide +kernel
theorem dX10_behind_76 : decode cX10_behind 76 = .ok (.invokevirtual 138, 3) := by decide +kernel
theorem dX10_behind_79 : decode cX10_behind 79 = .ok (.ifCond .eq 35, 3) := by decide +kernel
theorem dX10_behind_82 : decode cX10_behind 82 = .ok (.iload_n 2, 1) := by decide +kernel
theorem dX10_behind_83 : decode cX10_behind 83 = .ok (.invokestatic 141, 3) := by decide +kernel
theorem dX10_behind_86 : decode cX10_behind 86 = .ok (.iload 4, 2) := by decide +kernel
theorem dX10_behind_88 : decode cX10_behind 88 = .ok (.invokestatic 82, 3) := by decide +kernel
theorem dX10_behind_91 : decode cX10_behind 91 = .ok (.ifCond .ne 23, 3) := by decide +kernel
theorem dX10_behind_94 : decode cX10_behind 94 = .ok (.iload_n 2, 1) := by decide +kernel
theorem dX10_behind_95 : decode cX10_behind 95 = .ok (.iload 5, 2) := by decide +kernel
theorem dX10_behind_97 : decode cX10_behind 97 = .ok (.invokestatic 135, 3) := by decide +kernel
theorem dX10_behind_100 : decode cX10_behind 100 = .ok (.aload_n 0, 1) := by decide +kernel
theorem dX10_behind_101 : decode cX10_behind 101 = .ok (.iload_n 1, 1) := by decide +kernel
theorem dX10_behind_102 : decode cX10_behind 102 = .ok (.iload 4, 2) := by decide +kernel
theorem dX10_behind_104 : decode cX10_behind 104 = .ok (.invokevirtual 144, 3) := by decide +kernel
theorem dX10_behind_107 : decode cX10_behind 107 = .ok (.if_icmp .lt 7, 3) := by decide +kernel
theorem dX10_behind_110 : decode cX10_behind 110 = .ok (.iconst 1, 1) := by decide +kernel
theorem dX10_behind_111 : decode cX10_behind 111 = .ok (.goto 4, 3) := by decide +kernel
theorem dX10_behind_114 : decode cX10_behind 114 = .ok (.iconst 0, 1) := by decide +kernel
theorem dX10_behind_115 : decode cX10_behind 115 = .ok (.istore 6, 2) := by decide +kernel
theorem dX10_behind_117 : decode cX10_behind 117 = .ok (.iload 6, 2) := by decide +kernel
theorem dX10_behind_119 : decode cX10_behind 119 = .ok (.ifCond .eq 29, 3) := by decide +kernel
theorem dX10_behind_122 : decode cX10_behind 122 = .ok (.iload_n 2, 1) := by decide +kernel
theorem dX10_behind_123 : decode cX10_behind 123 = .ok (.iload 5, 2) := by decide +kernel
theorem dX10_behind_125 : decode cX10_behind 125 = .ok (.aload_n 0, 1) := by decide +kernel
theorem dX10_behind_126 : decode cX10_behind 126 = .ok (.iload_n 1, 1) := by decide +kernel
theorem dX10_behind_127 : decode cX10_behind 127 = .ok (.iload 4, 2) := by decide +kernel
theorem dX10_behind_129 : decode cX10_behind 129 = .ok (.invokevirtual 144, 3) := by decide +kernel
theorem dX10_behind_132 : decode cX10_behind 132 = .ok (.ineg, 1) := by decide +kernel
theorem dX10_behind_133 : decode cX10_behind 133 = .ok (.invokestatic 147, 3) := by decide +kernel
theorem dX10_behind_136 : decode cX10_behind 136 = .ok (.sipush 2500, 3) := by decide +kernel
theorem dX10_behind_139 : decode cX10_behind 139 = .ok (.iconst 1, 1) := by decide +kernel
theorem dX10_behind_140 : decode cX10_behind 140 = .ok (.iload 4, 2) := by decide +kernel
theorem dX10_behind_142 : decode cX10_behind 142 = .ok (.ishl, 1) := by decide +kernel
theorem dX10_behind_143 : decode cX10_behind 143 = .ok (.imul, 1) := by decide +kernel
theorem dX10_behind_144 : decode cX10_behind 144 = .ok (.iadd, 1) := by decide +kernel
theorem dX10_behind_145 : decode cX10_behind 145 = .ok (.goto 4, 3) := by decide +kernel
theorem dX10_behind_148 : decode cX10_behind 148 = .ok (.iconst (-1), 1) := by decide +kernel
theorem dX10_behind_149 : decode cX10_behind 149 = .ok (.ireturn, 1) := by decide +kernel
theorem dX10_behind_150 : decode cX10_behind 150 = .ok (.iload_n 2, 1) := by decide +kernel
theorem dX10_behind_151 : decode cX10_behind 151 = .ok (.invokestatic 141, 3) := by decide +kernel
theorem dX10_behind_154 : decode cX10_behind 154 = .ok (.iload 5, 2) := by decide +kernel
theorem dX10_behind_156 : decode cX10_behind 156 = .ok (.invokestatic 82, 3) := by decide +kernel
theorem dX10_behind_159 : decode cX10_behind 159 = .ok (.ifCond .eq 37, 3) := by decide +kernel
theorem dX10_behind_162 : decode cX10_behind 162 = .ok (.iload 5, 2) := by decide +kernel
theorem dX10_behind_164 : decode cX10_behind 164 = .ok (.iload 4, 2) := by decide +kernel
theorem dX10_behind_166 : decode cX10_behind 166 = .ok (.if_icmp .eq 30, 3) := by decide +kernel
theorem dX10_behind_169 : decode cX10_behind 169 = .ok (.iload_n 2, 1) := by decide +kernel
theorem dX10_behind_170 : decode cX10_behind 170 = .ok (.aload_n 0, 1) := by decide +kernel
theorem dX10_behind_171 : decode cX10_behind 171 = .ok (.getfield 13, 3) := by decide +kernel
theorem dX10_behind_174 : decode cX10_behind 174 = .ok (.iload 4, 2) := by decide +kernel
theorem dX10_behind_176 : decode cX10_behind 176 = .ok (.iaload, 1) := by decide +kernel
theorem dX10_behind_177 : decode cX10_behind 177 = .ok (.invokestatic 135, 3) := by decide +kernel
theorem dX10_behind_180 : decode cX10_behind 180 = .ok (.aload_n 0, 1) := by decide +kernel
theorem dX10_behind_181 : decode cX10_behind 181 = .ok (.iload_n 1, 1) := by decide +kernel
theorem dX10_behind_182 : decode cX10_behind 182 = .ok (.iload 4, 2) := by decide +kernel
theorem dX10_behind_184 : decode cX10_behind 184 = .ok (.invokevirtual 151, 3) := by decide +kernel
theorem dX10_behind_187 : decode cX10_behind 187 = .ok (.iadd, 1) := by decide +kernel
theorem dX10_behind_188 : decode cX10_behind 188 = .ok (.iconst 4, 1) := by decide +kernel
theorem dX10_behind_189 : decode cX10_behind 189 = .ok (.if_icmp .gt 7, 3) := by decide +kernel
theorem dX10_behind_192 : decode cX10_behind 192 = .ok (.iconst 1, 1) := by decide +kernel
theorem dX10_behind_193 : decode cX10_behind 193 = .ok (.goto 4, 3) := by decide +kernel
theorem dX10_behind_196 : decode cX10_behind 196 = .ok (.iconst 0, 1) := by decide +kernel
theorem dX10_behind_197 : decode cX10_behind 197 = .ok (.istore 6, 2) := by decide +kernel
theorem dX10_behind_199 : decode cX10_behind 199 = .ok (.iload 6, 2) := by decide +kernel
theorem dX10_behind_201 : decode cX10_behind 201 = .ok (.ifCond .eq 33, 3) := by decide +kernel
theorem dX10_behind_204 : decode cX10_behind 204 = .ok (.iload_n 2, 1) := by decide +kernel
theorem dX10_behind_205 : decode cX10_behind 205 = .ok (.aload_n 0, 1) := by decide +kernel
theorem dX10_behind_206 : decode cX10_behind 206 = .ok (.getfield 13, 3) := by decide +kernel
theorem dX10_behind_209 : decode cX10_behind 209 = .ok (.iload 4, 2) := by decide +kernel
theorem dX10_behind_211 : decode cX10_behind 211 = .ok (.iaload, 1) := by decide +kernel
theorem dX10_behind_212 : decode cX10_behind 212 = .ok (.aload_n 0, 1) := by decide +kernel
theorem dX10_behind_213 : decode cX10_behind 213 = .ok (.iload_n 1, 1) := by decide +kernel
theorem dX10_behind_214 : decode cX10_behind 214 = .ok (.iload 4, 2) := by decide +kernel
theorem dX10_behind_216 : decode cX10_behind 216 = .ok (.invokevirtual 151, 3) := by decide +kernel
theorem dX10_behind_219 : decode cX10_behind 219 = .ok (.invokestatic 147, 3) := by decide +kernel
theorem dX10_behind_222 : decode cX10_behind 222 = .ok (.sipush 2500, 3) := by decide +kernel
theorem dX10_behind_225 : decode cX10_behind 225 = .ok (.iconst 1, 1) := by decide +kernel
theorem dX10_behind_226 : decode cX10_behind 226 = .ok (.iload 5, 2) := by decide +kernel
theorem dX10_behind_228 : decode cX10_behind 228 = .ok (.ishl, 1) := by decide +kernel
theorem dX10_behind_229 : decode cX10_behind 229 = .ok (.imul, 1) := by decide +kernel
theorem dX10_behind_230 : decode cX10_behind 230 = .ok (.isub, 1) := by decide +kernel
theorem dX10_behind_231 : decode cX10_behind 231 = .ok (.goto 4, 3) := by decide +kernel
theorem dX10_behind_234 : decode cX10_behind 234 = .ok (.iconst (-1), 1) := by decide +kernel
theorem dX10_behind_235 : decode cX10_behind 235 = .ok (.ireturn, 1) := by decide +kernel
set_option maxRecDepth 20000 in
theorem ggX10_isAct_X10_within : GoodIn wsX10_isAct wsX10_within := goodIn_r _ [4] (by decide +kernel) (by decide +kernel)
set_option maxRecDepth 20000 in
theorem gX10_isAct_X10_within : GoodIn wsX10_isAct (va_wsS RX10 75 yX10_within wsX10_within) := goodIn_app (goodIn_of _ (by decide +kernel)) ggX10_isAct_X10_within
theorem dX10_isAct_0 : decode cX10_isAct 0 = .ok (.iload_n 0, 1) := by decide +kernel
theorem dX10_isAct_1 : decode cX10_isAct 1 = .ok (.iconst 0, 1) := by decide +kernel
theorem dX10_isAct_2 : decode cX10_isAct 2 = .ok (.iconst 3, 1) := by decide +kernel
theorem dX10_isAct_3 : decode cX10_isAct 3 = .ok (.invokestatic 75, 3) := by decide +kernel
theorem dX10_isAct_6 : decode cX10_isAct 6 = .ok (.ifCond .ne 25, 3) := by decide +kernel
theorem dX10_isAct_9 : decode cX10_isAct 9 = .ok (.iload_n 0, 1) := by decide +kernel
theorem dX10_isAct_10 : decode cX10_isAct 10 = .ok (.bipush 10, 2) := by decide +kernel
theorem dX10_isAct_12 : decode cX10_isAct 12 = .ok (.bipush 13, 2) := by decide +kernel
theorem dX10_isAct_14 : decode cX10_isAct 14 = .ok (.invokestatic 75, 3) := by decide +kernel
theorem dX10_isAct_17 : decode cX10_isAct 17 = .ok (.ifCond .ne 14, 3) := by decide +kernel
theorem dX10_isAct_20 : decode cX10_isAct 20 = .ok (.iload_n 0, 1) := by decide +kernel
theorem dX10_isAct_21 : decode cX10_isAct 21 = .ok (.bipush 20, 2) := by decide +kernel
theorem dX10_isAct_23 : decode cX10_isAct 23 = .ok (.bipush 23, 2) := by decide +kernel
theorem dX10_isAct_25 : decode cX10_isAct 25 = .ok (.invokestatic 75, 3) := by decide +kernel
theorem dX10_isAct_28 : decode cX10_isAct 28 = .ok (.ifCond .eq 7, 3) := by decide +kernel
theorem dX10_isAct_31 : decode cX10_isAct 31 = .ok (.iconst 1, 1) := by decide +kernel
theorem dX10_isAct_32 : decode cX10_isAct 32 = .ok (.goto 4, 3) := by decide +kernel
theorem dX10_isAct_35 : decode cX10_isAct 35 = .ok (.iconst 0, 1) := by decide +kernel
theorem dX10_isAct_36 : decode cX10_isAct 36 = .ok (.ireturn, 1) := by decide +kernel
set_option maxRecDepth 20000 in
theorem ggX10_isPerson_X10_within : GoodIn wsX10_isPerson wsX10_within := goodIn_r _ [5] (by decide +kernel) (by decide +kernel)
set_option maxRecDepth 20000 in
theorem gX10_isPerson_X10_within : GoodIn wsX10_isPerson (va_wsS RX10 75 yX10_within wsX10_within) := goodIn_app (goodIn_of _ (by decide +kernel)) ggX10_isPerson_X10_within
theorem dX10_isPerson_0 : decode cX10_isPerson 0 = .ok (.iload_n 1, 1) := by decide +kernel
theorem dX10_isPerson_1 : decode cX10_isPerson 1 = .ok (.iconst 0, 1) := by decide +kernel
theorem dX10_isPerson_2 : decode cX10_isPerson 2 = .ok (.aload_n 0, 1) := by decide +kernel
theorem dX10_isPerson_3 : decode cX10_isPerson 3 = .ok (.getfield 110, 3) := by decide +kernel
theorem dX10_isPerson_6 : decode cX10_isPerson 6 = .ok (.iconst 1, 1) := by decide +kernel
theorem dX10_isPerson_7 : decode cX10_isPerson 7 = .ok (.isub, 1) := by decide +kernel
theorem dX10_isPerson_8 : decode cX10_isPerson 8 = .ok (.invokestatic 75, 3) := by decide +kernel
theorem dX10_isPerson_11 : decode cX10_isPerson 11 = .ok (.ireturn, 1) := by decide +kernel
set_option maxRecDepth 20000 in
theorem ggX10_person_X10_isTown : GoodIn wsX10_person wsX10_isTown := goodIn_r _ [8, 9, 10, 7, 11] (by decide +kernel) (by decide +kernel)
set_option maxRecDepth 20000 in
theorem gX10_person_X10_isTown : GoodIn wsX10_person (va_wsS RX10 122 yX10_isTown wsX10_isTown) := goodIn_app (goodIn_of _ (by decide +kernel)) ggX10_person_X10_isTown
set_option maxRecDepth 20000 in
theorem ggX10_person_X10_within : GoodIn wsX10_person wsX10_within := goodIn_r _ [11] (by decide +kernel) (by decide +kernel)
set_option maxRecDepth 20000 in
theorem gX10_person_X10_within : GoodIn wsX10_person (va_wsS RX10 75 yX10_within wsX10_within) := goodIn_app (goodIn_of _ (by decide +kernel)) ggX10_person_X10_within
theorem dX10_person_0 : decode cX10_person 0 = .ok (.iload_n 2, 1) := by decide +kernel
theorem dX10_person_1 : decode cX10_person 1 = .ok (.invokestatic 122, 3) := by decide +kernel
theorem dX10_person_4 : decode cX10_person 4 = .ok (.ifCond .ne 6, 3) := by decide +kernel
theorem dX10_person_7 : decode cX10_person 7 = .ok (.bipush (-101), 2) := by decide +kernel
theorem dX10_person_9 : decode cX10_person 9 = .ok (.ireturn, 1) := by decide +kernel
theorem dX10_person_10 : decode cX10_person 10 = .ok (.iload_n 1, 1) := by decide +kernel
theorem dX10_person_11 : decode cX10_person 11 = .ok (.iconst 0, 1) := by decide +kernel
theorem dX10_person_12 : decode cX10_person 12 = .ok (.iconst 4, 1) := by decide +kernel
theorem dX10_person_13 : decode cX10_person 13 = .ok (.invokestatic 75, 3) := by decide +kernel
theorem dX10_person_16 : decode cX10_person 16 = .ok (.ifCond .ne 6, 3) := by decide +kernel
theorem dX10_person_19 : decode cX10_person 19 = .ok (.bipush (-102), 2) := by decide +kernel
theorem dX10_person_21 : decode cX10_person 21 = .ok (.ireturn, 1) := by decide +kernel
theorem dX10_person_22 : decode cX10_person 22 = .ok (.aload_n 0, 1) := by decide +kernel
theorem dX10_person_23 : decode cX10_person 23 = .ok (.getfield 104, 3) := by decide +kernel
theorem dX10_person_26 : decode cX10_person 26 = .ok (.ifCond .ne 6, 3) := by decide +kernel
theorem dX10_person_29 : decode cX10_person 29 = .ok (.bipush (-103), 2) := by decide +kernel
theorem dX10_person_31 : decode cX10_person 31 = .ok (.ireturn, 1) := by decide +kernel
theorem dX10_person_32 : decode cX10_person 32 = .ok (.aload_n 0, 1) := by decide +kernel
theorem dX10_person_33 : decode cX10_person 33 = .ok (.getfield 110, 3) := by decide +kernel
theorem dX10_person_36 : decode cX10_person 36 = .ok (.iconst 5, 1) := by decide +kernel
theorem dX10_person_37 : decode cX10_person 37 = .ok (.if_icmp .ne 6, 3) := by decide +kernel
theorem dX10_person_40 : decode cX10_person 40 = .ok (.bipush (-104), 2) := by decide +kernel
theorem dX10_person_42 : decode cX10_person 42 = .ok (.ireturn, 1) := by decide +kernel
theorem dX10_person_43 : decode cX10_person 43 = .ok (.aload_n 0, 1) := by decide +kernel
theorem dX10_person_44 : decode cX10_person 44 = .ok (.getfield 22, 3) := by decide +kernel
theorem dX10_person_47 : decode cX10_person 47 = .ok (.aload_n 0, 1) := by decide +kernel
theorem dX10_person_48 : decode cX10_person 48 = .ok (.getfield 110, 3) := by decide +kernel
theorem dX10_person_51 : decode cX10_person 51 = .ok (.iload_n 1, 1) := by decide +kernel
theorem dX10_person_52 : decode cX10_person 52 = .ok (.iastore, 1) := by decide +kernel
theorem dX10_person_53 : decode cX10_person 53 = .ok (.aload_n 0, 1) := by decide +kernel
theorem dX10_person_54 : decode cX10_person 54 = .ok (.getfield 25, 3) := by decide +kernel
theorem dX10_person_57 : decode cX10_person 57 = .ok (.aload_n 0, 1) := by decide +kernel
theorem dX10_person_58 : decode cX10_person 58 = .ok (.getfield 110, 3) := by decide +kernel
theorem dX10_person_61 : decode cX10_person 61 = .ok (.iload_n 2, 1) := by decide +kernel
theorem dX10_person_62 : decode cX10_person 62 = .ok (.iastore, 1) := by decide +kernel
theorem dX10_person_63 : decode cX10_person 63 = .ok (.aload_n 0, 1) := by decide +kernel
theorem dX10_person_64 : decode cX10_person 64 = .ok (.dup, 1) := by decide +kernel
theorem dX10_person_65 : decode cX10_person 65 = .ok (.getfield 110, 3) := by decide +kernel
theorem dX10_person_68 : decode cX10_person 68 = .ok (.iconst 1, 1) := by decide +kernel
theorem dX10_person_69 : decode cX10_person 69 = .ok (.iadd, 1) := by decide +kernel
theorem dX10_person_70 : decode cX10_person 70 = .ok (.putfield 110, 3) := by decide +kernel
theorem dX10_person_73 : decode cX10_person 73 = .ok (.aload_n 0, 1) := by decide +kernel
theorem dX10_person_74 : decode cX10_person 74 = .ok (.getfield 110, 3) := by decide +kernel
theorem dX10_person_77 : decode cX10_person 77 = .ok (.iconst 1, 1) := by decide +kernel
theorem dX10_person_78 : decode cX10_person 78 = .ok (.isub, 1) := by decide +kernel
theorem dX10_person_79 : decode cX10_person 79 = .ok (.ireturn, 1) := by decide +kernel
set_option maxRecDepth 20000 in
theorem ggX10_personNow_X10_townIn : GoodIn wsX10_personNow wsX10_townIn := goodIn_r _ [6] (by decide +kernel) (by decide +kernel)
set_option maxRecDepth 20000 in
theorem gX10_personNow_X10_townIn : GoodIn wsX10_personNow (va_wsS RX10 119 yX10_townIn wsX10_townIn) := goodIn_app (goodIn_of _ (by decide +kernel)) ggX10_personNow_X10_townIn
set_option maxRecDepth 20000 in
theorem ggX10_personNow_X10_goodsIn : GoodIn wsX10_personNow wsX10_goodsIn := goodIn_r _ [9] (by decide +kernel) (by decide +kernel)
set_option maxRecDepth 20000 in
theorem gX10_personNow_X10_goodsIn : GoodIn wsX10_personNow (va_wsS RX10 141 yX10_goodsIn wsX10_goodsIn) := goodIn_app (goodIn_of _ (by decide +kernel)) ggX10_personNow_X10_goodsIn
set_option maxRecDepth 20000 in
theorem ggX10_personNow_X10_coinsAll : GoodIn wsX10_personNow wsX10_coinsAll := goodIn_r _ [12, 13, 14, 5, 15, 16, 17, 18, 19, 20, 21] (by decide +kernel) (by decide +kernel)
set_option maxRecDepth 20000 in
theorem gX10_personNow_X10_coinsAll : GoodIn wsX10_personNow (va_wsS RX10 154 yX10_coinsAll wsX10_coinsAll) := goodIn_app (goodIn_of _ (by decide +kernel)) ggX10_personNow_X10_coinsAll
set_option maxRecDepth 20000 in
theorem ggX10_personNow_X10_costs : GoodIn wsX10_personNow wsX10_costs := goodIn_r _ [25, 26, 32, 33, 34, 35, 36, 37, 38, 39, 40, 41, 42, 43, 44, 45, 46, 47, 48, 49, 50, 51, 52, 53, 54, 55, 56, 57, 58, 59, 60, 61, 62, 63, 64, 65, 66, 67, 68, 69] (by decide +kernel) (by decide +kernel)
set_option maxRecDepth 20000 in
theorem gX10_personNow_X10_costs : GoodIn wsX10_personNow (wsV RX10 144 RX10 yX10_costs wsX10_costs) := goodIn_app (goodIn_of _ (by decide +kernel)) ggX10_personNow_X10_costs
set_option maxRecDepth 20000 in
theorem ggX10_personNow_X10_gets : GoodIn wsX10_personNow wsX10_gets := goodIn_r _ [30, 31, 32, 33, 34, 35, 36, 37, 38, 39, 40, 41, 42, 43, 44, 45, 46, 47, 48, 49, 50, 51, 52, 53, 54, 55, 56, 57, 58, 59, 60, 61, 62, 63, 64, 65, 66, 67, 68, 69] (by decide +kernel) (by decide +kernel)
set_option maxRecDepth 20000 in
theorem gX10_personNow_X10_gets : GoodIn wsX10_personNow (wsV RX10 151 RX10 yX10_gets wsX10_gets) := goodIn_app (goodIn_of _ (by decide +kernel)) ggX10_personNow_X10_gets
set_option maxRecDepth 20000 in
theorem ggX10_personNow_X10_coins : GoodIn wsX10_personNow wsX10_coins := goodIn_r _ [15, 16, 17, 5, 18, 19, 20, 21] (by decide +kernel) (by decide +kernel)
set_option maxRecDepth 20000 in
theorem gX10_personNow_X10_coins : GoodIn wsX10_personNow (va_wsS RX10 135 yX10_coins wsX10_coins) := goodIn_app (goodIn_of _ (by decide +kernel)) ggX10_personNow_X10_coins
theorem dX10_personNow_0 : decode cX10_personNow 0 = .ok (.aload_n 0, 1) := by decide +kernel
theorem dX10_personNow_1 : decode cX10_personNow 1 = .ok (.getfield 25, 3) := by decide +kernel
theorem dX10_personNow_4 : decode cX10_personNow 4 = .ok (.iload_n 1, 1) := by decide +kernel
theorem dX10_personNow_5 : decode cX10_personNow 5 = .ok (.iaload, 1) := by decide +kernel
theorem dX10_personNow_6 : decode cX10_personNow 6 = .ok (.istore_n 3, 1) := by decide +kernel
theorem dX10_personNow_7 : decode cX10_personNow 7 = .ok (.iload_n 2, 1) := by decide +kernel
theorem dX10_personNow_8 : decode cX10_personNow 8 = .ok (.tableswitch 92 0 5 #[40, 47, 52, 57, 62, 77], 40) := by decide +kernel
theorem dX10_personNow_48 : decode cX10_personNow 48 = .ok (.aload_n 0, 1) := by decide +kernel
theorem dX10_personNow_49 : decode cX10_personNow 49 = .ok (.getfield 22, 3) := by decide +kernel
theorem dX10_personNow_52 : decode cX10_personNow 52 = .ok (.iload_n 1, 1) := by decide +kernel
theorem dX10_personNow_53 : decode cX10_personNow 53 = .ok (.iaload, 1) := by decide +kernel
theorem dX10_personNow_54 : decode cX10_personNow 54 = .ok (.ireturn, 1) := by decide +kernel
theorem dX10_personNow_55 : decode cX10_personNow 55 = .ok (.iload_n 3, 1) := by decide +kernel
theorem dX10_personNow_56 : decode cX10_personNow 56 = .ok (.invokestatic 119, 3) := by decide +kernel
theorem dX10_personNow_59 : decode cX10_personNow 59 = .ok (.ireturn, 1) := by decide +kernel
theorem dX10_personNow_60 : decode cX10_personNow 60 = .ok (.iload_n 3, 1) := by decide +kernel
theorem dX10_personNow_61 : decode cX10_personNow 61 = .ok (.invokestatic 141, 3) := by decide +kernel
theorem dX10_personNow_64 : decode cX10_personNow 64 = .ok (.ireturn, 1) := by decide +kernel
theorem dX10_personNow_65 : decode cX10_personNow 65 = .ok (.iload_n 3, 1) := by decide +kernel
theorem dX10_personNow_66 : decode cX10_personNow 66 = .ok (.invokestatic 154, 3) := by decide +kernel
theorem dX10_personNow_69 : decode cX10_personNow 69 = .ok (.ireturn, 1) := by decide +kernel
theorem dX10_personNow_70 : decode cX10_personNow 70 = .ok (.aload_n 0, 1) := by decide +kernel
theorem dX10_personNow_71 : decode cX10_personNow 71 = .ok (.aload_n 0, 1) := by decide +kernel
theorem dX10_personNow_72 : decode cX10_personNow 72 = .ok (.getfield 22, 3) := by decide +kernel
theorem dX10_personNow_75 : decode cX10_personNow 75 = .ok (.iload_n 1, 1) := by decide +kernel
theorem dX10_personNow_76 : decode cX10_personNow 76 = .ok (.iaload, 1) := by decide +kernel
theorem dX10_personNow_77 : decode cX10_personNow 77 = .ok (.iload_n 3, 1) := by decide +kernel
theorem dX10_personNow_78 : decode cX10_personNow 78 = .ok (.invokestatic 119, 3) := by decide +kernel
theorem dX10_personNow_81 : decode cX10_personNow 81 = .ok (.invokevirtual 144, 3) := by decide +kernel
theorem dX10_personNow_84 : decode cX10_personNow 84 = .ok (.ireturn, 1) := by decide +kernel
theorem dX10_personNow_85 : decode cX10_personNow 85 = .ok (.aload_n 0, 1) := by decide +kernel
theorem dX10_personNow_86 : decode cX10_personNow 86 = .ok (.aload_n 0, 1) := by decide +kernel
theorem dX10_personNow_87 : decode cX10_personNow 87 = .ok (.getfield 22, 3) := by decide +kernel
theorem dX10_personNow_90 : decode cX10_personNow 90 = .ok (.iload_n 1, 1) := by decide +kernel
theorem dX10_personNow_91 : decode cX10_personNow 91 = .ok (.iaload, 1) := by decide +kernel
theorem dX10_personNow_92 : decode cX10_personNow 92 = .ok (.iload_n 3, 1) := by decide +kernel
theorem dX10_personNow_93 : decode cX10_personNow 93 = .ok (.invokestatic 119, 3) := by decide +kernel
theorem dX10_personNow_96 : decode cX10_personNow 96 = .ok (.invokevirtual 151, 3) := by decide +kernel
theorem dX10_personNow_99 : decode cX10_personNow 99 = .ok (.ireturn, 1) := by decide +kernel
theorem dX10_personNow_100 : decode cX10_personNow 100 = .ok (.iload_n 3, 1) := by decide +kernel
theorem dX10_personNow_101 : decode cX10_personNow 101 = .ok (.iload_n 2, 1) := by decide +kernel
theorem dX10_personNow_102 : decode cX10_personNow 102 = .ok (.bipush 10, 2) := by decide +kernel
theorem dX10_personNow_104 : decode cX10_personNow 104 = .ok (.isub, 1) := by decide +kernel
theorem dX10_personNow_105 : decode cX10_personNow 105 = .ok (.invokestatic 135, 3) := by decide +kernel
theorem dX10_personNow_108 : decode cX10_personNow 108 = .ok (.ireturn, 1) := by decide +kernel
set_option maxRecDepth 20000 in
theorem ggX10_about_X10_isPerson : GoodIn wsX10_about wsX10_isPerson := goodIn_r _ [5, 6, 7, 8, 4, 9, 44, 45, 46, 47, 48, 49, 50, 51, 52, 53, 54, 55, 56, 57, 58, 59, 60, 61, 62, 63, 64, 65, 66, 67, 68, 69, 70, 71, 72, 73, 74, 75, 76, 77, 78, 79, 80, 81] (by decide +kernel) (by decide +kernel)
set_option maxRecDepth 20000 in
theorem gX10_about_X10_isPerson : GoodIn wsX10_about (wsV RX10 157 RX10 yX10_isPerson wsX10_isPerson) := goodIn_app (goodIn_of _ (by decide +kernel)) ggX10_about_X10_isPerson
set_option maxRecDepth 20000 in
theorem ggX10_about_X10_within : GoodIn wsX10_about wsX10_within := goodIn_r _ [9] (by decide +kernel) (by decide +kernel)
set_option maxRecDepth 20000 in
theorem gX10_about_X10_within : GoodIn wsX10_about (va_wsS RX10 75 yX10_within wsX10_within) := goodIn_app (goodIn_of _ (by decide +kernel)) ggX10_about_X10_within
set_option maxRecDepth 20000 in
theorem ggX10_about_X10_personNow : GoodIn wsX10_about wsX10_personNow := goodIn_r _ [13, 14, 15, 16, 17, 4, 18, 19, 20, 21, 22, 23, 24, 25, 26, 27, 28, 29, 30, 31, 32, 33, 34, 35, 36, 37, 38, 39, 40, 41, 42, 43, 44, 45, 46, 47, 48, 49, 50, 51, 52, 53, 54, 55, 56, 57, 58, 59, 60, 61, 62, 63, 64, 65, 66, 67, 68, 69, 70, 71, 72, 73, 74, 75, 76, 77, 78, 79, 80, 81] (by decide +kernel) (by decide +kernel)
set_option maxRecDepth 20000 in
theorem gX10_about_X10_personNow : GoodIn wsX10_about (wsV RX10 160 RX10 yX10_personNow wsX10_personNow) := goodIn_app (goodIn_of _ (by decide +kernel)) ggX10_about_X10_personNow
theorem dX10_about_0 : decode cX10_about 0 = .ok (.aload_n 0, 1) := by decide +kernel
theorem dX10_about_1 : decode cX10_about 1 = .ok (.iload_n 1, 1) := by decide +kernel
theorem dX10_about_2 : decode cX10_about 2 = .ok (.invokevirtual 157, 3) := by decide +kernel
theorem dX10_about_5 : decode cX10_about 5 = .ok (.ifCond .ne 6, 3) := by decide +kernel
theorem dX10_about_8 : decode cX10_about 8 = .ok (.bipush (-101), 2) := by decide +kernel
theorem dX10_about_10 : decode cX10_about 10 = .ok (.ireturn, 1) := by decide +kernel
theorem dX10_about_11 : decode cX10_about 11 = .ok (.iload_n 2, 1) := by decide +kernel
theorem dX10_about_12 : decode cX10_about 12 = .ok (.iconst 0, 1) := by decide +kernel
theorem dX10_about_13 : decode cX10_about 13 = .ok (.iconst 5, 1) := by decide +kernel
theorem dX10_about_14 : decode cX10_about 14 = .ok (.invokestatic 75, 3) := by decide +kernel
theorem dX10_about_17 : decode cX10_about 17 = .ok (.ifCond .ne 14, 3) := by decide +kernel
theorem dX10_about_20 : decode cX10_about 20 = .ok (.iload_n 2, 1) := by decide +kernel
theorem dX10_about_21 : decode cX10_about 21 = .ok (.bipush 10, 2) := by decide +kernel
theorem dX10_about_23 : decode cX10_about 23 = .ok (.bipush 13, 2) := by decide +kernel
theorem dX10_about_25 : decode cX10_about 25 = .ok (.invokestatic 75, 3) := by decide +kernel
theorem dX10_about_28 : decode cX10_about 28 = .ok (.ifCond .eq 12, 3) := by decide +kernel
theorem dX10_about_31 : decode cX10_about 31 = .ok (.aload_n 0, 1) := by decide +kernel
theorem dX10_about_32 : decode cX10_about 32 = .ok (.iload_n 1, 1) := by decide +kernel
theorem dX10_about_33 : decode cX10_about 33 = .ok (.iload_n 2, 1) := by decide +kernel
theorem dX10_about_34 : decode cX10_about 34 = .ok (.invokevirtual 160, 3) := by decide +kernel
theorem dX10_about_37 : decode cX10_about 37 = .ok (.goto 5, 3) := by decide +kernel
theorem dX10_about_40 : decode cX10_about 40 = .ok (.bipush (-102), 2) := by decide +kernel
theorem dX10_about_42 : decode cX10_about 42 = .ok (.ireturn, 1) := by decide +kernel
set_option maxRecDepth 20000 in
theorem ggX10_as_X10_isPerson : GoodIn wsX10_as wsX10_isPerson := goodIn_r _ [6, 7, 8, 9, 5, 10, 11, 12, 13, 14, 15, 16, 17, 18, 19, 20, 21, 22, 23, 24, 25, 26, 27, 28, 29, 30, 31, 32, 33, 34, 35, 36, 37, 38, 39, 40, 41, 42, 43, 44, 45, 46, 47, 48] (by decide +kernel) (by decide +kernel)
set_option maxRecDepth 20000 in
theorem gX10_as_X10_isPerson : GoodIn wsX10_as (wsV RX10 157 RX10 yX10_isPerson wsX10_isPerson) := goodIn_app (goodIn_of _ (by decide +kernel)) ggX10_as_X10_isPerson
set_option maxRecDepth 20000 in
theorem ggX10_as_X10_within : GoodIn wsX10_as wsX10_within := goodIn_r _ [10] (by decide +kernel) (by decide +kernel)
set_option maxRecDepth 20000 in
theorem gX10_as_X10_within : GoodIn wsX10_as (va_wsS RX10 75 yX10_within wsX10_within) := goodIn_app (goodIn_of _ (by decide +kernel)) ggX10_as_X10_within
theorem dX10_as_0 : decode cX10_as 0 = .ok (.aload_n 0, 1) := by decide +kernel
theorem dX10_as_1 : decode cX10_as 1 = .ok (.iload_n 1, 1) := by decide +kernel
theorem dX10_as_2 : decode cX10_as 2 = .ok (.invokevirtual 157, 3) := by decide +kernel
theorem dX10_as_5 : decode cX10_as 5 = .ok (.ifCond .ne 6, 3) := by decide +kernel
theorem dX10_as_8 : decode cX10_as 8 = .ok (.bipush (-101), 2) := by decide +kernel
theorem dX10_as_10 : decode cX10_as 10 = .ok (.ireturn, 1) := by decide +kernel
theorem dX10_as_11 : decode cX10_as 11 = .ok (.iload_n 2, 1) := by decide +kernel
theorem dX10_as_12 : decode cX10_as 12 = .ok (.iconst 0, 1) := by decide +kernel
theorem dX10_as_13 : decode cX10_as 13 = .ok (.iconst 4, 1) := by decide +kernel
theorem dX10_as_14 : decode cX10_as 14 = .ok (.invokestatic 75, 3) := by decide +kernel
theorem dX10_as_17 : decode cX10_as 17 = .ok (.ifCond .ne 6, 3) := by decide +kernel
theorem dX10_as_20 : decode cX10_as 20 = .ok (.bipush (-102), 2) := by decide +kernel
theorem dX10_as_22 : decode cX10_as 22 = .ok (.ireturn, 1) := by decide +kernel
theorem dX10_as_23 : decode cX10_as 23 = .ok (.aload_n 0, 1) := by decide +kernel
theorem dX10_as_24 : decode cX10_as 24 = .ok (.getfield 22, 3) := by decide +kernel
theorem dX10_as_27 : decode cX10_as 27 = .ok (.iload_n 1, 1) := by decide +kernel
theorem dX10_as_28 : decode cX10_as 28 = .ok (.iaload, 1) := by decide +kernel
theorem dX10_as_29 : decode cX10_as 29 = .ok (.istore_n 3, 1) := by decide +kernel
theorem dX10_as_30 : decode cX10_as 30 = .ok (.iload_n 2, 1) := by decide +kernel
theorem dX10_as_31 : decode cX10_as 31 = .ok (.ifCond .eq 18, 3) := by decide +kernel
theorem dX10_as_34 : decode cX10_as 34 = .ok (.iload_n 3, 1) := by decide +kernel
theorem dX10_as_35 : decode cX10_as 35 = .ok (.iload_n 2, 1) := by decide +kernel
theorem dX10_as_36 : decode cX10_as 36 = .ok (.if_icmp .eq 13, 3) := by decide +kernel
theorem dX10_as_39 : decode cX10_as 39 = .ok (.iload_n 2, 1) := by decide +kernel
theorem dX10_as_40 : decode cX10_as 40 = .ok (.iconst 3, 1) := by decide +kernel
theorem dX10_as_41 : decode cX10_as 41 = .ok (.if_icmp .ne 12, 3) := by decide +kernel
theorem dX10_as_44 : decode cX10_as 44 = .ok (.iload_n 3, 1) := by decide +kernel
theorem dX10_as_45 : decode cX10_as 45 = .ok (.iconst 4, 1) := by decide +kernel
theorem dX10_as_46 : decode cX10_as 46 = .ok (.if_icmp .ne 7, 3) := by decide +kernel
theorem dX10_as_49 : decode cX10_as 49 = .ok (.iload_n 1, 1) := by decide +kernel
theorem dX10_as_50 : decode cX10_as 50 = .ok (.goto 4, 3) := by decide +kernel
theorem dX10_as_53 : decode cX10_as 53 = .ok (.iconst (-1), 1) := by decide +kernel
theorem dX10_as_54 : decode cX10_as 54 = .ok (.ireturn, 1) := by decide +kernel
set_option maxRecDepth 20000 in
theorem ggX10_purse_X10_isPerson : GoodIn wsX10_purse wsX10_isPerson := goodIn_r _ [6, 7, 8, 9, 5, 10, 26, 27, 28, 29, 30, 31, 32, 33, 34, 35, 36, 37, 38, 39, 40, 41, 42, 43, 44, 45, 46, 47, 48, 49, 50, 51, 52, 53, 54, 55, 56, 57, 58, 59, 60, 61, 62, 63] (by decide +kernel) (by decide +kernel)
set_option maxRecDepth 20000 in
theorem gX10_purse_X10_isPerson : GoodIn wsX10_purse (wsV RX10 157 RX10 yX10_isPerson wsX10_isPerson) := goodIn_app (goodIn_of _ (by decide +kernel)) ggX10_purse_X10_isPerson
set_option maxRecDepth 20000 in
theorem ggX10_purse_X10_isTown : GoodIn wsX10_purse wsX10_isTown := goodIn_r _ [13, 8, 9, 5, 10] (by decide +kernel) (by decide +kernel)
set_option maxRecDepth 20000 in
theorem gX10_purse_X10_isTown : GoodIn wsX10_purse (va_wsS RX10 122 yX10_isTown wsX10_isTown) := goodIn_app (goodIn_of _ (by decide +kernel)) ggX10_purse_X10_isTown
set_option maxRecDepth 20000 in
theorem ggX10_purse_X10_within : GoodIn wsX10_purse wsX10_within := goodIn_r _ [10] (by decide +kernel) (by decide +kernel)
set_option maxRecDepth 20000 in
theorem gX10_purse_X10_within : GoodIn wsX10_purse (va_wsS RX10 75 yX10_within wsX10_within) := goodIn_app (goodIn_of _ (by decide +kernel)) ggX10_purse_X10_within
set_option maxRecDepth 20000 in
theorem ggX10_purse_X10_coins : GoodIn wsX10_purse wsX10_coins := goodIn_r _ [16, 17, 18, 5, 19, 20, 21, 22] (by decide +kernel) (by decide +kernel)
set_option maxRecDepth 20000 in
theorem gX10_purse_X10_coins : GoodIn wsX10_purse (va_wsS RX10 135 yX10_coins wsX10_coins) := goodIn_app (goodIn_of _ (by decide +kernel)) ggX10_purse_X10_coins
set_option maxRecDepth 20000 in
theorem ggX10_purse_X10_withCoins : GoodIn wsX10_purse wsX10_withCoins := goodIn_r _ [25, 20, 21, 5, 22] (by decide +kernel) (by decide +kernel)
set_option maxRecDepth 20000 in
theorem gX10_purse_X10_withCoins : GoodIn wsX10_purse (va_wsS RX10 147 yX10_withCoins wsX10_withCoins) := goodIn_app (goodIn_of _ (by decide +kernel)) ggX10_purse_X10_withCoins
theorem dX10_purse_0 : decode cX10_purse 0 = .ok (.aload_n 0, 1) := by decide +kernel
theorem dX10_purse_1 : decode cX10_purse 1 = .ok (.iload_n 1, 1) := by decide +kernel
theorem dX10_purse_2 : decode cX10_purse 2 = .ok (.invokevirtual 157, 3) := by decide +kernel
theorem dX10_purse_5 : decode cX10_purse 5 = .ok (.ifCond .eq 10, 3) := by decide +kernel
theorem dX10_purse_8 : decode cX10_purse 8 = .ok (.iload_n 2, 1) := by decide +kernel
theorem dX10_purse_9 : decode cX10_purse 9 = .ok (.invokestatic 122, 3) := by decide +kernel
theorem dX10_purse_12 : decode cX10_purse 12 = .ok (.ifCond .ne 6, 3) := by decide +kernel
theorem dX10_purse_15 : decode cX10_purse 15 = .ok (.bipush (-101), 2) := by decide +kernel
theorem dX10_purse_17 : decode cX10_purse 17 = .ok (.ireturn, 1) := by decide +kernel
theorem dX10_purse_18 : decode cX10_purse 18 = .ok (.iload_n 3, 1) := by decide +kernel
theorem dX10_purse_19 : decode cX10_purse 19 = .ok (.iconst 0, 1) := by decide +kernel
theorem dX10_purse_20 : decode cX10_purse 20 = .ok (.iconst 4, 1) := by decide +kernel
theorem dX10_purse_21 : decode cX10_purse 21 = .ok (.invokestatic 75, 3) := by decide +kernel
theorem dX10_purse_24 : decode cX10_purse 24 = .ok (.ifCond .ne 6, 3) := by decide +kernel
theorem dX10_purse_27 : decode cX10_purse 27 = .ok (.bipush (-102), 2) := by decide +kernel
theorem dX10_purse_29 : decode cX10_purse 29 = .ok (.ireturn, 1) := by decide +kernel
theorem dX10_purse_30 : decode cX10_purse 30 = .ok (.aload_n 0, 1) := by decide +kernel
theorem dX10_purse_31 : decode cX10_purse 31 = .ok (.getfield 25, 3) := by decide +kernel
theorem dX10_purse_34 : decode cX10_purse 34 = .ok (.iload_n 1, 1) := by decide +kernel
theorem dX10_purse_35 : decode cX10_purse 35 = .ok (.iaload, 1) := by decide +kernel
theorem dX10_purse_36 : decode cX10_purse 36 = .ok (.iload_n 2, 1) := by decide +kernel
theorem dX10_purse_37 : decode cX10_purse 37 = .ok (.invokestatic 135, 3) := by decide +kernel
theorem dX10_purse_40 : decode cX10_purse 40 = .ok (.istore 4, 2) := by decide +kernel
theorem dX10_purse_42 : decode cX10_purse 42 = .ok (.aload_n 0, 1) := by decide +kernel
theorem dX10_purse_43 : decode cX10_purse 43 = .ok (.getfield 25, 3) := by decide +kernel
theorem dX10_purse_46 : decode cX10_purse 46 = .ok (.iload_n 1, 1) := by decide +kernel
theorem dX10_purse_47 : decode cX10_purse 47 = .ok (.aload_n 0, 1) := by decide +kernel
theorem dX10_purse_48 : decode cX10_purse 48 = .ok (.getfield 25, 3) := by decide +kernel
theorem dX10_purse_51 : decode cX10_purse 51 = .ok (.iload_n 1, 1) := by decide +kernel
theorem dX10_purse_52 : decode cX10_purse 52 = .ok (.iaload, 1) := by decide +kernel
theorem dX10_purse_53 : decode cX10_purse 53 = .ok (.iload_n 2, 1) := by decide +kernel
theorem dX10_purse_54 : decode cX10_purse 54 = .ok (.iload_n 3, 1) := by decide +kernel
theorem dX10_purse_55 : decode cX10_purse 55 = .ok (.iload 4, 2) := by decide +kernel
theorem dX10_purse_57 : decode cX10_purse 57 = .ok (.isub, 1) := by decide +kernel
theorem dX10_purse_58 : decode cX10_purse 58 = .ok (.invokestatic 147, 3) := by decide +kernel
theorem dX10_purse_61 : decode cX10_purse 61 = .ok (.iastore, 1) := by decide +kernel
theorem dX10_purse_62 : decode cX10_purse 62 = .ok (.iload 4, 2) := by decide +kernel
theorem dX10_purse_64 : decode cX10_purse 64 = .ok (.ireturn, 1) := by decide +kernel
set_option maxRecDepth 20000 in
theorem ggX10_may_X10_isPerson : GoodIn wsX10_may wsX10_isPerson := goodIn_r _ [7, 8, 9, 10, 6, 11, 56, 57, 58, 59, 60, 61, 62, 63, 64, 65, 66, 67, 68, 69, 70, 71, 72, 73, 74, 75, 76, 77, 78, 79, 80, 81, 82, 83, 84, 85, 86, 87, 88, 89, 90, 91, 92, 93] (by decide +kernel) (by decide +kernel)
set_option maxRecDepth 20000 in
theorem gX10_may_X10_isPerson : GoodIn wsX10_may (wsV RX10 157 RX10 yX10_isPerson wsX10_isPerson) := goodIn_app (goodIn_of _ (by decide +kernel)) ggX10_may_X10_isPerson
set_option maxRecDepth 20000 in
theorem ggX10_may_X10_isAct : GoodIn wsX10_may wsX10_isAct := goodIn_r _ [14, 9, 10, 6, 11] (by decide +kernel) (by decide +kernel)
set_option maxRecDepth 20000 in
theorem gX10_may_X10_isAct : GoodIn wsX10_may (va_wsS RX10 163 yX10_isAct wsX10_isAct) := goodIn_app (goodIn_of _ (by decide +kernel)) ggX10_may_X10_isAct
set_option maxRecDepth 20000 in
theorem ggX10_may_X10_behind : GoodIn wsX10_may wsX10_behind := goodIn_r _ [18, 19, 20, 21, 6, 22, 23, 24, 25, 26, 27, 28, 29, 30, 31, 32, 33, 34, 35, 36, 37, 38, 39, 40, 41, 42, 43, 44, 45, 46, 47, 48, 49, 50, 51, 52, 53, 54, 55, 56, 57, 58, 59, 60, 61, 62, 63, 64, 65, 66, 67, 68, 69, 70, 71, 72, 73, 74, 75, 76, 77, 78, 79, 80, 81, 82, 83, 84, 85, 86, 87, 88, 89, 90, 91, 92, 93] (by decide +kernel) (by decide +kernel)
set_option maxRecDepth 20000 in
theorem gX10_may_X10_behind : GoodIn wsX10_may (wsV RX10 166 RX10 yX10_behind wsX10_behind) := goodIn_app (goodIn_of _ (by decide +kernel)) ggX10_may_X10_behind
theorem dX10_may_0 : decode cX10_may 0 = .ok (.aload_n 0, 1) := by decide +kernel
theorem dX10_may_1 : decode cX10_may 1 = .ok (.iload_n 1, 1) := by decide +kernel
theorem dX10_may_2 : decode cX10_may 2 = .ok (.invokevirtual 157, 3) := by decide +kernel
theorem dX10_may_5 : decode cX10_may 5 = .ok (.ifCond .eq 10, 3) := by decide +kernel
theorem dX10_may_8 : decode cX10_may 8 = .ok (.iload_n 2, 1) := by decide +kernel
theorem dX10_may_9 : decode cX10_may 9 = .ok (.invokestatic 163, 3) := by decide +kernel
theorem dX10_may_12 : decode cX10_may 12 = .ok (.ifCond .ne 6, 3) := by decide +kernel
theorem dX10_may_15 : decode cX10_may 15 = .ok (.bipush (-101), 2) := by decide +kernel
theorem dX10_may_17 : decode cX10_may 17 = .ok (.ireturn, 1) := by decide +kernel
theorem dX10_may_18 : decode cX10_may 18 = .ok (.aload_n 0, 1) := by decide +kernel
theorem dX10_may_19 : decode cX10_may 19 = .ok (.aload_n 0, 1) := by decide +kernel
theorem dX10_may_20 : decode cX10_may 20 = .ok (.getfield 22, 3) := by decide +kernel
theorem dX10_may_23 : decode cX10_may 23 = .ok (.iload_n 1, 1) := by decide +kernel
theorem dX10_may_24 : decode cX10_may 24 = .ok (.iaload, 1) := by decide +kernel
theorem dX10_may_25 : decode cX10_may 25 = .ok (.aload_n 0, 1) := by decide +kernel
theorem dX10_may_26 : decode cX10_may 26 = .ok (.getfield 25, 3) := by decide +kernel
theorem dX10_may_29 : decode cX10_may 29 = .ok (.iload_n 1, 1) := by decide +kernel
theorem dX10_may_30 : decode cX10_may 30 = .ok (.iaload, 1) := by decide +kernel
theorem dX10_may_31 : decode cX10_may 31 = .ok (.iload_n 2, 1) := by decide +kernel
theorem dX10_may_32 : decode cX10_may 32 = .ok (.invokevirtual 166, 3) := by decide +kernel
theorem dX10_may_35 : decode cX10_may 35 = .ok (.iconst (-1), 1) := by decide +kernel
theorem dX10_may_36 : decode cX10_may 36 = .ok (.if_icmp .ne 7, 3) := by decide +kernel
theorem dX10_may_39 : decode cX10_may 39 = .ok (.iconst 0, 1) := by decide +kernel
theorem dX10_may_40 : decode cX10_may 40 = .ok (.goto 4, 3) := by decide +kernel
theorem dX10_may_43 : decode cX10_may 43 = .ok (.iconst 1, 1) := by decide +kernel
theorem dX10_may_44 : decode cX10_may 44 = .ok (.ireturn, 1) := by decide +kernel
set_option maxRecDepth 20000 in
theorem ggX10_act_X10_isPerson : GoodIn wsX10_act wsX10_isPerson := goodIn_r _ [8, 9, 10, 11, 7, 12, 60, 61, 62, 63, 64, 65, 66, 67, 68, 69, 70, 71, 72, 73, 74, 75, 76, 77, 78, 79, 80, 81, 82, 83, 84, 85, 86, 87, 88, 89, 90, 91, 92, 93, 94, 95, 96, 97] (by decide +kernel) (by decide +kernel)
set_option maxRecDepth 20000 in
theorem gX10_act_X10_isPerson : GoodIn wsX10_act (wsV RX10 157 RX10 yX10_isPerson wsX10_isPerson) := goodIn_app (goodIn_of _ (by decide +kernel)) ggX10_act_X10_isPerson
set_option maxRecDepth 20000 in
theorem ggX10_act_X10_isAct : GoodIn wsX10_act wsX10_isAct := goodIn_r _ [15, 10, 11, 7, 12] (by decide +kernel) (by decide +kernel)
set_option maxRecDepth 20000 in
theorem gX10_act_X10_isAct : GoodIn wsX10_act (va_wsS RX10 163 yX10_isAct wsX10_isAct) := goodIn_app (goodIn_of _ (by decide +kernel)) ggX10_act_X10_isAct
set_option maxRecDepth 20000 in
theorem ggX10_act_X10_behind : GoodIn wsX10_act wsX10_behind := goodIn_r _ [19, 20, 21, 22, 7, 23, 24, 25, 26, 27, 28, 29, 30, 31, 32, 33, 34, 35, 36, 37, 38, 39, 40, 41, 42, 43, 44, 45, 46, 47, 48, 49, 50, 51, 52, 53, 54, 55, 56, 60, 61, 62, 63, 64, 65, 66, 67, 68, 69, 70, 71, 72, 73, 74, 75, 76, 77, 78, 79, 80, 81, 82, 83, 84, 85, 86, 87, 88, 89, 90, 91, 92, 93, 94, 95, 96, 97] (by decide +kernel) (by decide +kernel)
set_option maxRecDepth 20000 in
theorem gX10_act_X10_behind : GoodIn wsX10_act (wsV RX10 166 RX10 yX10_behind wsX10_behind) := goodIn_app (goodIn_of _ (by decide +kernel)) ggX10_act_X10_behind
set_option maxRecDepth 20000 in
theorem ggX10_act_X10_coinsAll : GoodIn wsX10_act wsX10_coinsAll := goodIn_r _ [59, 35, 36, 7, 37, 38, 39, 40, 41, 42, 43] (by decide +kernel) (by decide +kernel)
set_option maxRecDepth 20000 in
theorem gX10_act_X10_coinsAll : GoodIn wsX10_act (va_wsS RX10 154 yX10_coinsAll wsX10_coinsAll) := goodIn_app (goodIn_of _ (by decide +kernel)) ggX10_act_X10_coinsAll
theorem dX10_act_0 : decode cX10_act 0 = .ok (.aload_n 0, 1) := by decide +kernel
theorem dX10_act_1 : decode cX10_act 1 = .ok (.iload_n 1, 1) := by decide +kernel
theorem dX10_act_2 : decode cX10_act 2 = .ok (.invokevirtual 157, 3) := by decide +kernel
theorem dX10_act_5 : decode cX10_act 5 = .ok (.ifCond .eq 10, 3) := by decide +kernel
theorem dX10_act_8 : decode cX10_act 8 = .ok (.iload_n 2, 1) := by decide +kernel
theorem dX10_act_9 : decode cX10_act 9 = .ok (.invokestatic 163, 3) := by decide +kernel
theorem dX10_act_12 : decode cX10_act 12 = .ok (.ifCond .ne 6, 3) := by decide +kernel
theorem dX10_act_15 : decode cX10_act 15 = .ok (.bipush (-101), 2) := by decide +kernel
theorem dX10_act_17 : decode cX10_act 17 = .ok (.ireturn, 1) := by decide +kernel
theorem dX10_act_18 : decode cX10_act 18 = .ok (.aload_n 0, 1) := by decide +kernel
theorem dX10_act_19 : decode cX10_act 19 = .ok (.aload_n 0, 1) := by decide +kernel
theorem dX10_act_20 : decode cX10_act 20 = .ok (.getfield 22, 3) := by decide +kernel
theorem dX10_act_23 : decode cX10_act 23 = .ok (.iload_n 1, 1) := by decide +kernel
theorem dX10_act_24 : decode cX10_act 24 = .ok (.iaload, 1) := by decide +kernel
theorem dX10_act_25 : decode cX10_act 25 = .ok (.aload_n 0, 1) := by decide +kernel
theorem dX10_act_26 : decode cX10_act 26 = .ok (.getfield 25, 3) := by decide +kernel
theorem dX10_act_29 : decode cX10_act 29 = .ok (.iload_n 1, 1) := by decide +kernel
theorem dX10_act_30 : decode cX10_act 30 = .ok (.iaload, 1) := by decide +kernel
theorem dX10_act_31 : decode cX10_act 31 = .ok (.iload_n 2, 1) := by decide +kernel
theorem dX10_act_32 : decode cX10_act 32 = .ok (.invokevirtual 166, 3) := by decide +kernel
theorem dX10_act_35 : decode cX10_act 35 = .ok (.istore_n 3, 1) := by decide +kernel
theorem dX10_act_36 : decode cX10_act 36 = .ok (.iload_n 3, 1) := by decide +kernel
theorem dX10_act_37 : decode cX10_act 37 = .ok (.iconst (-1), 1) := by decide +kernel
theorem dX10_act_38 : decode cX10_act 38 = .ok (.if_icmp .ne 6, 3) := by decide +kernel
theorem dX10_act_41 : decode cX10_act 41 = .ok (.bipush (-103), 2) := by decide +kernel
theorem dX10_act_43 : decode cX10_act 43 = .ok (.ireturn, 1) := by decide +kernel
theorem dX10_act_44 : decode cX10_act 44 = .ok (.aload_n 0, 1) := by decide +kernel
theorem dX10_act_45 : decode cX10_act 45 = .ok (.getfield 25, 3) := by decide +kernel
theorem dX10_act_48 : decode cX10_act 48 = .ok (.iload_n 1, 1) := by decide +kernel
theorem dX10_act_49 : decode cX10_act 49 = .ok (.iload_n 3, 1) := by decide +kernel
theorem dX10_act_50 : decode cX10_act 50 = .ok (.iastore, 1) := by decide +kernel
theorem dX10_act_51 : decode cX10_act 51 = .ok (.aload_n 0, 1) := by decide +kernel
theorem dX10_act_52 : decode cX10_act 52 = .ok (.dup, 1) := by decide +kernel
theorem dX10_act_53 : decode cX10_act 53 = .ok (.getfield 113, 3) := by decide +kernel
theorem dX10_act_56 : decode cX10_act 56 = .ok (.iconst 1, 1) := by decide +kernel
theorem dX10_act_57 : decode cX10_act 57 = .ok (.iadd, 1) := by decide +kernel
theorem dX10_act_58 : decode cX10_act 58 = .ok (.putfield 113, 3) := by decide +kernel
theorem dX10_act_61 : decode cX10_act 61 = .ok (.iload_n 3, 1) := by decide +kernel
theorem dX10_act_62 : decode cX10_act 62 = .ok (.invokestatic 154, 3) := by decide +kernel
theorem dX10_act_65 : decode cX10_act 65 = .ok (.ireturn, 1) := by decide +kernel
set_option maxRecDepth 20000 in
theorem ggX10_change_X10_isPerson : GoodIn wsX10_change wsX10_isPerson := goodIn_r _ [6, 7, 8, 9, 5, 10, 29, 30, 31, 32, 33, 34, 35, 36, 37, 38, 39, 40, 41, 42, 43, 44, 45, 46, 47, 48, 49, 50, 51, 52, 53, 54, 55, 56, 57, 58, 59, 60, 61, 62, 63, 64, 65, 66] (by decide +kernel) (by decide +kernel)
set_option maxRecDepth 20000 in
theorem gX10_change_X10_isPerson : GoodIn wsX10_change (wsV RX10 157 RX10 yX10_isPerson wsX10_isPerson) := goodIn_app (goodIn_of _ (by decide +kernel)) ggX10_change_X10_isPerson
set_option maxRecDepth 20000 in
theorem ggX10_change_X10_isTown : GoodIn wsX10_change wsX10_isTown := goodIn_r _ [13, 8, 9, 5, 10] (by decide +kernel) (by decide +kernel)
set_option maxRecDepth 20000 in
theorem gX10_change_X10_isTown : GoodIn wsX10_change (va_wsS RX10 122 yX10_isTown wsX10_isTown) := goodIn_app (goodIn_of _ (by decide +kernel)) ggX10_change_X10_isTown
set_option maxRecDepth 20000 in
theorem ggX10_change_X10_coins : GoodIn wsX10_change wsX10_coins := goodIn_r _ [16, 17, 18, 5, 19, 20, 21, 22] (by decide +kernel) (by decide +kernel)
set_option maxRecDepth 20000 in
theorem gX10_change_X10_coins : GoodIn wsX10_change (va_wsS RX10 135 yX10_coins wsX10_coins) := goodIn_app (goodIn_of _ (by decide +kernel)) ggX10_change_X10_coins
set_option maxRecDepth 20000 in
theorem ggX10_change_X10_townIn : GoodIn wsX10_change wsX10_townIn := goodIn_r _ [25] (by decide +kernel) (by decide +kernel)
set_option maxRecDepth 20000 in
theorem gX10_change_X10_townIn : GoodIn wsX10_change (va_wsS RX10 119 yX10_townIn wsX10_townIn) := goodIn_app (goodIn_of _ (by decide +kernel)) ggX10_change_X10_townIn
set_option maxRecDepth 20000 in
theorem ggX10_change_X10_withCoins : GoodIn wsX10_change wsX10_withCoins := goodIn_r _ [28, 20, 21, 5, 22] (by decide +kernel) (by decide +kernel)
set_option maxRecDepth 20000 in
theorem gX10_change_X10_withCoins : GoodIn wsX10_change (va_wsS RX10 147 yX10_withCoins wsX10_withCoins) := goodIn_app (goodIn_of _ (by decide +kernel)) ggX10_change_X10_withCoins
theorem dX10_change_0 : decode cX10_change 0 = .ok (.aload_n 0, 1) := by decide +kernel
theorem dX10_change_1 : decode cX10_change 1 = .ok (.iload_n 1, 1) := by decide +kernel
theorem dX10_change_2 : decode cX10_change 2 = .ok (.invokevirtual 157, 3) := by decide +kernel
theorem dX10_change_5 : decode cX10_change 5 = .ok (.ifCond .eq 31, 3) := by decide +kernel
theorem dX10_change_8 : decode cX10_change 8 = .ok (.aload_n 0, 1) := by decide +kernel
theorem dX10_change_9 : decode cX10_change 9 = .ok (.iload_n 3, 1) := by decide +kernel
theorem dX10_change_10 : decode cX10_change 10 = .ok (.invokevirtual 157, 3) := by decide +kernel
theorem dX10_change_13 : decode cX10_change 13 = .ok (.ifCond .eq 23, 3) := by decide +kernel
theorem dX10_change_16 : decode cX10_change 16 = .ok (.iload_n 1, 1) := by decide +kernel
theorem dX10_change_17 : decode cX10_change 17 = .ok (.iload_n 3, 1) := by decide +kernel
theorem dX10_change_18 : decode cX10_change 18 = .ok (.if_icmp .eq 18, 3) := by decide +kernel
theorem dX10_change_21 : decode cX10_change 21 = .ok (.iload_n 2, 1) := by decide +kernel
theorem dX10_change_22 : decode cX10_change 22 = .ok (.invokestatic 122, 3) := by decide +kernel
theorem dX10_change_25 : decode cX10_change 25 = .ok (.ifCond .eq 11, 3) := by decide +kernel
theorem dX10_change_28 : decode cX10_change 28 = .ok (.iload 4, 2) := by decide +kernel
theorem dX10_change_30 : decode cX10_change 30 = .ok (.invokestatic 122, 3) := by decide +kernel
theorem dX10_change_33 : decode cX10_change 33 = .ok (.ifCond .ne 6, 3) := by decide +kernel
theorem dX10_change_36 : decode cX10_change 36 = .ok (.bipush (-101), 2) := by decide +kernel
theorem dX10_change_38 : decode cX10_change 38 = .ok (.ireturn, 1) := by decide +kernel
theorem dX10_change_39 : decode cX10_change 39 = .ok (.aload_n 0, 1) := by decide +kernel
theorem dX10_change_40 : decode cX10_change 40 = .ok (.getfield 25, 3) := by decide +kernel
theorem dX10_change_43 : decode cX10_change 43 = .ok (.iload_n 1, 1) := by decide +kernel
theorem dX10_change_44 : decode cX10_change 44 = .ok (.iaload, 1) := by decide +kernel
theorem dX10_change_45 : decode cX10_change 45 = .ok (.iload_n 2, 1) := by decide +kernel
theorem dX10_change_46 : decode cX10_change 46 = .ok (.invokestatic 135, 3) := by decide +kernel
theorem dX10_change_49 : decode cX10_change 49 = .ok (.ifCond .le 42, 3) := by decide +kernel
theorem dX10_change_52 : decode cX10_change 52 = .ok (.aload_n 0, 1) := by decide +kernel
theorem dX10_change_53 : decode cX10_change 53 = .ok (.getfield 25, 3) := by decide +kernel
theorem dX10_change_56 : decode cX10_change 56 = .ok (.iload_n 3, 1) := by decide +kernel
theorem dX10_change_57 : decode cX10_change 57 = .ok (.iaload, 1) := by decide +kernel
theorem dX10_change_58 : decode cX10_change 58 = .ok (.iload 4, 2) := by decide +kernel
theorem dX10_change_60 : decode cX10_change 60 = .ok (.invokestatic 135, 3) := by decide +kernel
theorem dX10_change_63 : decode cX10_change 63 = .ok (.ifCond .le 28, 3) := by decide +kernel
theorem dX10_change_66 : decode cX10_change 66 = .ok (.aload_n 0, 1) := by decide +kernel
theorem dX10_change_67 : decode cX10_change 67 = .ok (.getfield 25, 3) := by decide +kernel
theorem dX10_change_70 : decode cX10_change 70 = .ok (.iload_n 1, 1) := by decide +kernel
theorem dX10_change_71 : decode cX10_change 71 = .ok (.iaload, 1) := by decide +kernel
theorem dX10_change_72 : decode cX10_change 72 = .ok (.invokestatic 119, 3) := by decide +kernel
theorem dX10_change_75 : decode cX10_change 75 = .ok (.aload_n 0, 1) := by decide +kernel
theorem dX10_change_76 : decode cX10_change 76 = .ok (.getfield 25, 3) := by decide +kernel
theorem dX10_change_79 : decode cX10_change 79 = .ok (.iload_n 3, 1) := by decide +kernel
theorem dX10_change_80 : decode cX10_change 80 = .ok (.iaload, 1) := by decide +kernel
theorem dX10_change_81 : decode cX10_change 81 = .ok (.invokestatic 119, 3) := by decide +kernel
theorem dX10_change_84 : decode cX10_change 84 = .ok (.if_icmp .ne 7, 3) := by decide +kernel
theorem dX10_change_87 : decode cX10_change 87 = .ok (.iconst 1, 1) := by decide +kernel
theorem dX10_change_88 : decode cX10_change 88 = .ok (.goto 4, 3) := by decide +kernel
theorem dX10_change_91 : decode cX10_change 91 = .ok (.iconst 0, 1) := by decide +kernel
theorem dX10_change_92 : decode cX10_change 92 = .ok (.istore 5, 2) := by decide +kernel
theorem dX10_change_94 : decode cX10_change 94 = .ok (.iload_n 2, 1) := by decide +kernel
theorem dX10_change_95 : decode cX10_change 95 = .ok (.iload 4, 2) := by decide +kernel
theorem dX10_change_97 : decode cX10_change 97 = .ok (.if_icmp .eq 32, 3) := by decide +kernel
theorem dX10_change_100 : decode cX10_change 100 = .ok (.aload_n 0, 1) := by decide +kernel
theorem dX10_change_101 : decode cX10_change 101 = .ok (.getfield 25, 3) := by decide +kernel
theorem dX10_change_104 : decode cX10_change 104 = .ok (.iload_n 1, 1) := by decide +kernel
theorem dX10_change_105 : decode cX10_change 105 = .ok (.iaload, 1) := by decide +kernel
theorem dX10_change_106 : decode cX10_change 106 = .ok (.iload 4, 2) := by decide +kernel
theorem dX10_change_108 : decode cX10_change 108 = .ok (.invokestatic 135, 3) := by decide +kernel
theorem dX10_change_111 : decode cX10_change 111 = .ok (.iconst 4, 1) := by decide +kernel
theorem dX10_change_112 : decode cX10_change 112 = .ok (.if_icmp .ge 21, 3) := by decide +kernel
theorem dX10_change_115 : decode cX10_change 115 = .ok (.aload_n 0, 1) := by decide +kernel
theorem dX10_change_116 : decode cX10_change 116 = .ok (.getfield 25, 3) := by decide +kernel
theorem dX10_change_119 : decode cX10_change 119 = .ok (.iload_n 3, 1) := by decide +kernel
theorem dX10_change_120 : decode cX10_change 120 = .ok (.iaload, 1) := by decide +kernel
theorem dX10_change_121 : decode cX10_change 121 = .ok (.iload_n 2, 1) := by decide +kernel
theorem dX10_change_122 : decode cX10_change 122 = .ok (.invokestatic 135, 3) := by decide +kernel
theorem dX10_change_125 : decode cX10_change 125 = .ok (.iconst 4, 1) := by decide +kernel
theorem dX10_change_126 : decode cX10_change 126 = .ok (.if_icmp .ge 7, 3) := by decide +kernel
theorem dX10_change_129 : decode cX10_change 129 = .ok (.iconst 1, 1) := by decide +kernel
theorem dX10_change_130 : decode cX10_change 130 = .ok (.goto 4, 3) := by decide +kernel
theorem dX10_change_133 : decode cX10_change 133 = .ok (.iconst 0, 1) := by decide +kernel
theorem dX10_change_134 : decode cX10_change 134 = .ok (.istore 6, 2) := by decide +kernel
theorem dX10_change_136 : decode cX10_change 136 = .ok (.iload 5, 2) := by decide +kernel
theorem dX10_change_138 : decode cX10_change 138 = .ok (.ifCond .eq 8, 3) := by decide +kernel
theorem dX10_change_141 : decode cX10_change 141 = .ok (.iload 6, 2) := by decide +kernel
theorem dX10_change_143 : decode cX10_change 143 = .ok (.ifCond .ne 6, 3) := by decide +kernel
theorem dX10_change_146 : decode cX10_change 146 = .ok (.bipush (-103), 2) := by decide +kernel
theorem dX10_change_148 : decode cX10_change 148 = .ok (.ireturn, 1) := by decide +kernel
theorem dX10_change_149 : decode cX10_change 149 = .ok (.iload_n 2, 1) := by decide +kernel
theorem dX10_change_150 : decode cX10_change 150 = .ok (.iload 4, 2) := by decide +kernel
theorem dX10_change_152 : decode cX10_change 152 = .ok (.if_icmp .eq 49, 3) := by decide +kernel
theorem dX10_change_155 : decode cX10_change 155 = .ok (.aload_n 0, 1) := by decide +kernel
theorem dX10_change_156 : decode cX10_change 156 = .ok (.getfield 25, 3) := by decide +kernel
theorem dX10_change_159 : decode cX10_change 159 = .ok (.iload_n 1, 1) := by decide +kernel
theorem dX10_change_160 : decode cX10_change 160 = .ok (.aload_n 0, 1) := by decide +kernel
theorem dX10_change_161 : decode cX10_change 161 = .ok (.getfield 25, 3) := by decide +kernel
theorem dX10_change_164 : decode cX10_change 164 = .ok (.iload_n 1, 1) := by decide +kernel
theorem dX10_change_165 : decode cX10_change 165 = .ok (.iaload, 1) := by decide +kernel
theorem dX10_change_166 : decode cX10_change 166 = .ok (.iload_n 2, 1) := by decide +kernel
theorem dX10_change_167 : decode cX10_change 167 = .ok (.iconst (-1), 1) := by decide +kernel
theorem dX10_change_168 : decode cX10_change 168 = .ok (.invokestatic 147, 3) := by decide +kernel
theorem dX10_change_171 : decode cX10_change 171 = .ok (.iload 4, 2) := by decide +kernel
theorem dX10_change_173 : decode cX10_change 173 = .ok (.iconst 1, 1) := by decide +kernel
theorem dX10_change_174 : decode cX10_change 174 = .ok (.invokestatic 147, 3) := by decide +kernel
theorem dX10_change_177 : decode cX10_change 177 = .ok (.iastore, 1) := by decide +kernel
theorem dX10_change_178 : decode cX10_change 178 = .ok (.aload_n 0, 1) := by decide +kernel
theorem dX10_change_179 : decode cX10_change 179 = .ok (.getfield 25, 3) := by decide +kernel
theorem dX10_change_182 : decode cX10_change 182 = .ok (.iload_n 3, 1) := by decide +kernel
theorem dX10_change_183 : decode cX10_change 183 = .ok (.aload_n 0, 1) := by decide +kernel
theorem dX10_change_184 : decode cX10_change 184 = .ok (.getfield 25, 3) := by decide +kernel
theorem dX10_change_187 : decode cX10_change 187 = .ok (.iload_n 3, 1) := by decide +kernel
theorem dX10_change_188 : decode cX10_change 188 = .ok (.iaload, 1) := by decide +kernel
theorem dX10_change_189 : decode cX10_change 189 = .ok (.iload 4, 2) := by decide +kernel
theorem dX10_change_191 : decode cX10_change 191 = .ok (.iconst (-1), 1) := by decide +kernel
theorem dX10_change_192 : decode cX10_change 192 = .ok (.invokestatic 147, 3) := by decide +kernel
theorem dX10_change_195 : decode cX10_change 195 = .ok (.iload_n 2, 1) := by decide +kernel
theorem dX10_change_196 : decode cX10_change 196 = .ok (.iconst 1, 1) := by decide +kernel
theorem dX10_change_197 : decode cX10_change 197 = .ok (.invokestatic 147, 3) := by decide +kernel
theorem dX10_change_200 : decode cX10_change 200 = .ok (.iastore, 1) := by decide +kernel
theorem dX10_change_201 : decode cX10_change 201 = .ok (.aload_n 0, 1) := by decide +kernel
theorem dX10_change_202 : decode cX10_change 202 = .ok (.getfield 25, 3) := by decide +kernel
theorem dX10_change_205 : decode cX10_change 205 = .ok (.iload_n 1, 1) := by decide +kernel
theorem dX10_change_206 : decode cX10_change 206 = .ok (.iaload, 1) := by decide +kernel
theorem dX10_change_207 : decode cX10_change 207 = .ok (.iload_n 2, 1) := by decide +kernel
theorem dX10_change_208 : decode cX10_change 208 = .ok (.invokestatic 135, 3) := by decide +kernel
theorem dX10_change_211 : decode cX10_change 211 = .ok (.ireturn, 1) := by decide +kernel
theorem dX10_layQueue_0 : decode cX10_layQueue 0 = .ok (.iconst 0, 1) := by decide +kernel
theorem dX10_layQueue_1 : decode cX10_layQueue 1 = .ok (.istore_n 2, 1) := by decide +kernel
theorem dX10_layQueue_2 : decode cX10_layQueue 2 = .ok (.iload_n 2, 1) := by decide +kernel
theorem dX10_layQueue_3 : decode cX10_layQueue 3 = .ok (.aload_n 0, 1) := by decide +kernel
theorem dX10_layQueue_4 : decode cX10_layQueue 4 = .ok (.getfield 169, 3) := by decide +kernel
theorem dX10_layQueue_7 : decode cX10_layQueue 7 = .ok (.if_icmp .ge 21, 3) := by decide +kernel
theorem dX10_layQueue_10 : decode cX10_layQueue 10 = .ok (.aload_n 0, 1) := by decide +kernel
theorem dX10_layQueue_11 : decode cX10_layQueue 11 = .ok (.getfield 52, 3) := by decide +kernel
theorem dX10_layQueue_14 : decode cX10_layQueue 14 = .ok (.aload_n 0, 1) := by decide +kernel
theorem dX10_layQueue_15 : decode cX10_layQueue 15 = .ok (.getfield 55, 3) := by decide +kernel
theorem dX10_layQueue_18 : decode cX10_layQueue 18 = .ok (.iload_n 2, 1) := by decide +kernel
theorem dX10_layQueue_19 : decode cX10_layQueue 19 = .ok (.iaload, 1) := by decide +kernel
theorem dX10_layQueue_20 : decode cX10_layQueue 20 = .ok (.iconst 0, 1) := by decide +kernel
theorem dX10_layQueue_21 : decode cX10_layQueue 21 = .ok (.bastore, 1) := by decide +kernel
theorem dX10_layQueue_22 : decode cX10_layQueue 22 = .ok (.iinc 2 1, 3) := by decide +kernel
theorem dX10_layQueue_25 : decode cX10_layQueue 25 = .ok (.goto (-23), 3) := by decide +kernel
theorem dX10_layQueue_28 : decode cX10_layQueue 28 = .ok (.aload_n 0, 1) := by decide +kernel
theorem dX10_layQueue_29 : decode cX10_layQueue 29 = .ok (.getfield 52, 3) := by decide +kernel
theorem dX10_layQueue_32 : decode cX10_layQueue 32 = .ok (.iload_n 1, 1) := by decide +kernel
theorem dX10_layQueue_33 : decode cX10_layQueue 33 = .ok (.bipush 99, 2) := by decide +kernel
theorem dX10_layQueue_35 : decode cX10_layQueue 35 = .ok (.bastore, 1) := by decide +kernel
theorem dX10_layQueue_36 : decode cX10_layQueue 36 = .ok (.aload_n 0, 1) := by decide +kernel
theorem dX10_layQueue_37 : decode cX10_layQueue 37 = .ok (.getfield 55, 3) := by decide +kernel
theorem dX10_layQueue_40 : decode cX10_layQueue 40 = .ok (.iconst 0, 1) := by decide +kernel
theorem dX10_layQueue_41 : decode cX10_layQueue 41 = .ok (.iload_n 1, 1) := by decide +kernel
theorem dX10_layQueue_42 : decode cX10_layQueue 42 = .ok (.iastore, 1) := by decide +kernel
theorem dX10_layQueue_43 : decode cX10_layQueue 43 = .ok (.aload_n 0, 1) := by decide +kernel
theorem dX10_layQueue_44 : decode cX10_layQueue 44 = .ok (.iconst 1, 1) := by decide +kernel
theorem dX10_layQueue_45 : decode cX10_layQueue 45 = .ok (.putfield 169, 3) := by decide +kernel
end
section
theorem dX10_layQueue_48 : decode cX10_layQueue 48 = .ok (.return_, 1) := by decide +kernel
set_option maxRecDepth 20000 in
theorem ggX10_goFrom_X10_isAct : GoodIn wsX10_goFrom wsX10_isAct := goodIn_r _ [7, 8, 9, 6, 10] (by decide +kernel) (by decide +kernel)
set_option maxRecDepth 20000 in
theorem gX10_goFrom_X10_isAct : GoodIn wsX10_goFrom (va_wsS RX10 163 yX10_isAct wsX10_isAct) := goodIn_app (goodIn_of _ (by decide +kernel)) ggX10_goFrom_X10_isAct
set_option maxRecDepth 20000 in
theorem ggX10_goFrom_X10_behind : GoodIn wsX10_goFrom wsX10_behind := goodIn_r _ [14, 15, 16, 17, 6, 18, 19, 20, 21, 22, 23, 24, 25, 26, 27, 28, 29, 30, 31, 32, 33, 34, 35, 36, 37, 38, 39, 40, 41, 42, 43, 44, 45, 46, 47, 48, 49, 50, 51, 52, 53, 54, 55, 56, 57, 58, 59, 60, 61, 62, 63, 64, 65, 66, 67, 68, 69, 70, 71, 72, 73, 74, 75, 76, 77, 78, 79, 80, 81, 82, 83, 84, 85, 86, 87, 88, 89] (by decide +kernel) (by decide +kernel)
set_option maxRecDepth 20000 in
theorem gX10_goFrom_X10_behind : GoodIn wsX10_goFrom (wsV RX10 166 RX10 yX10_behind wsX10_behind) := goodIn_app (goodIn_of _ (by decide +kernel)) ggX10_goFrom_X10_behind
theorem dX10_goFrom_0 : decode cX10_goFrom 0 = .ok (.iconst 0, 1) := by decide +kernel
theorem dX10_goFrom_1 : decode cX10_goFrom 1 = .ok (.istore_n 3, 1) := by decide +kernel
theorem dX10_goFrom_2 : decode cX10_goFrom 2 = .ok (.iload_n 3, 1) := by decide +kernel
theorem dX10_goFrom_3 : decode cX10_goFrom 3 = .ok (.bipush 24, 2) := by decide +kernel
theorem dX10_goFrom_5 : decode cX10_goFrom 5 = .ok (.if_icmp .ge 97, 3) := by decide +kernel
theorem dX10_goFrom_8 : decode cX10_goFrom 8 = .ok (.iload_n 3, 1) := by decide +kernel
theorem dX10_goFrom_9 : decode cX10_goFrom 9 = .ok (.invokestatic 163, 3) := by decide +kernel
theorem dX10_goFrom_12 : decode cX10_goFrom 12 = .ok (.ifCond .eq 13, 3) := by decide +kernel
theorem dX10_goFrom_15 : decode cX10_goFrom 15 = .ok (.aload_n 0, 1) := by decide +kernel
theorem dX10_goFrom_16 : decode cX10_goFrom 16 = .ok (.iload_n 1, 1) := by decide +kernel
theorem dX10_goFrom_17 : decode cX10_goFrom 17 = .ok (.iload_n 2, 1) := by decide +kernel
theorem dX10_goFrom_18 : decode cX10_goFrom 18 = .ok (.iload_n 3, 1) := by decide +kernel
theorem dX10_goFrom_19 : decode cX10_goFrom 19 = .ok (.invokevirtual 166, 3) := by decide +kernel
theorem dX10_goFrom_22 : decode cX10_goFrom 22 = .ok (.goto 4, 3) := by decide +kernel
theorem dX10_goFrom_25 : decode cX10_goFrom 25 = .ok (.iconst (-1), 1) := by decide +kernel
theorem dX10_goFrom_26 : decode cX10_goFrom 26 = .ok (.istore 4, 2) := by decide +kernel
theorem dX10_goFrom_28 : decode cX10_goFrom 28 = .ok (.iload 4, 2) := by decide +kernel
theorem dX10_goFrom_30 : decode cX10_goFrom 30 = .ok (.iconst (-1), 1) := by decide +kernel
theorem dX10_goFrom_31 : decode cX10_goFrom 31 = .ok (.if_icmp .eq 65, 3) := by decide +kernel
theorem dX10_goFrom_34 : decode cX10_goFrom 34 = .ok (.aload_n 0, 1) := by decide +kernel
theorem dX10_goFrom_35 : decode cX10_goFrom 35 = .ok (.getfield 52, 3) := by decide +kernel
theorem dX10_goFrom_38 : decode cX10_goFrom 38 = .ok (.iload 4, 2) := by decide +kernel
theorem dX10_goFrom_40 : decode cX10_goFrom 40 = .ok (.baload, 1) := by decide +kernel
theorem dX10_goFrom_41 : decode cX10_goFrom 41 = .ok (.ifCond .ne 55, 3) := by decide +kernel
theorem dX10_goFrom_44 : decode cX10_goFrom 44 = .ok (.aload_n 0, 1) := by decide +kernel
theorem dX10_goFrom_45 : decode cX10_goFrom 45 = .ok (.getfield 52, 3) := by decide +kernel
theorem dX10_goFrom_48 : decode cX10_goFrom 48 = .ok (.iload 4, 2) := by decide +kernel
theorem dX10_goFrom_50 : decode cX10_goFrom 50 = .ok (.aload_n 0, 1) := by decide +kernel
theorem dX10_goFrom_51 : decode cX10_goFrom 51 = .ok (.getfield 52, 3) := by decide +kernel
theorem dX10_goFrom_54 : decode cX10_goFrom 54 = .ok (.iload_n 2, 1) := by decide +kernel
theorem dX10_goFrom_55 : decode cX10_goFrom 55 = .ok (.baload, 1) := by decide +kernel
theorem dX10_goFrom_56 : decode cX10_goFrom 56 = .ok (.bipush 99, 2) := by decide +kernel
theorem dX10_goFrom_58 : decode cX10_goFrom 58 = .ok (.if_icmp .ne 10, 3) := by decide +kernel
theorem dX10_goFrom_61 : decode cX10_goFrom 61 = .ok (.iload_n 3, 1) := by decide +kernel
theorem dX10_goFrom_62 : decode cX10_goFrom 62 = .ok (.iconst 1, 1) := by decide +kernel
theorem dX10_goFrom_63 : decode cX10_goFrom 63 = .ok (.iadd, 1) := by decide +kernel
theorem dX10_goFrom_64 : decode cX10_goFrom 64 = .ok (.i2b, 1) := by decide +kernel
theorem dX10_goFrom_65 : decode cX10_goFrom 65 = .ok (.goto 9, 3) := by decide +kernel
theorem dX10_goFrom_68 : decode cX10_goFrom 68 = .ok (.aload_n 0, 1) := by decide +kernel
theorem dX10_goFrom_69 : decode cX10_goFrom 69 = .ok (.getfield 52, 3) := by decide +kernel
theorem dX10_goFrom_72 : decode cX10_goFrom 72 = .ok (.iload_n 2, 1) := by decide +kernel
theorem dX10_goFrom_73 : decode cX10_goFrom 73 = .ok (.baload, 1) := by decide +kernel
theorem dX10_goFrom_74 : decode cX10_goFrom 74 = .ok (.bastore, 1) := by decide +kernel
theorem dX10_goFrom_75 : decode cX10_goFrom 75 = .ok (.aload_n 0, 1) := by decide +kernel
theorem dX10_goFrom_76 : decode cX10_goFrom 76 = .ok (.getfield 55, 3) := by decide +kernel
theorem dX10_goFrom_79 : decode cX10_goFrom 79 = .ok (.aload_n 0, 1) := by decide +kernel
theorem dX10_goFrom_80 : decode cX10_goFrom 80 = .ok (.getfield 169, 3) := by decide +kernel
theorem dX10_goFrom_83 : decode cX10_goFrom 83 = .ok (.iload 4, 2) := by decide +kernel
theorem dX10_goFrom_85 : decode cX10_goFrom 85 = .ok (.iastore, 1) := by decide +kernel
theorem dX10_goFrom_86 : decode cX10_goFrom 86 = .ok (.aload_n 0, 1) := by decide +kernel
theorem dX10_goFrom_87 : decode cX10_goFrom 87 = .ok (.dup, 1) := by decide +kernel
theorem dX10_goFrom_88 : decode cX10_goFrom 88 = .ok (.getfield 169, 3) := by decide +kernel
theorem dX10_goFrom_91 : decode cX10_goFrom 91 = .ok (.iconst 1, 1) := by decide +kernel
theorem dX10_goFrom_92 : decode cX10_goFrom 92 = .ok (.iadd, 1) := by decide +kernel
theorem dX10_goFrom_93 : decode cX10_goFrom 93 = .ok (.putfield 169, 3) := by decide +kernel
theorem dX10_goFrom_96 : decode cX10_goFrom 96 = .ok (.iinc 3 1, 3) := by decide +kernel
theorem dX10_goFrom_99 : decode cX10_goFrom 99 = .ok (.goto (-97), 3) := by decide +kernel
theorem dX10_goFrom_102 : decode cX10_goFrom 102 = .ok (.return_, 1) := by decide +kernel
set_option maxRecDepth 20000 in
theorem ggX10_fewestOf_X10_goodsIn : GoodIn wsX10_fewestOf wsX10_goodsIn := goodIn_r _ [10] (by decide +kernel) (by decide +kernel)
set_option maxRecDepth 20000 in
theorem gX10_fewestOf_X10_goodsIn : GoodIn wsX10_fewestOf (va_wsS RX10 141 yX10_goodsIn wsX10_goodsIn) := goodIn_app (goodIn_of _ (by decide +kernel)) ggX10_fewestOf_X10_goodsIn
set_option maxRecDepth 20000 in
theorem ggX10_fewestOf_X10_has : GoodIn wsX10_fewestOf wsX10_has := goodIn_r _ [13] (by decide +kernel) (by decide +kernel)
set_option maxRecDepth 20000 in
theorem gX10_fewestOf_X10_has : GoodIn wsX10_fewestOf (va_wsS RX10 82 yX10_has wsX10_has) := goodIn_app (goodIn_of _ (by decide +kernel)) ggX10_fewestOf_X10_has
set_option maxRecDepth 20000 in
theorem ggX10_fewestOf_X10_layQueue : GoodIn wsX10_fewestOf wsX10_layQueue := goodIn_r _ [17, 3, 6, 5, 63, 64, 65, 66, 67, 68, 69, 70, 71, 72, 73, 74, 75, 76, 77, 78, 79, 80, 81, 82, 83, 84, 85, 86, 87, 88, 89, 90, 91, 92, 93, 94, 95, 96, 97, 98, 99, 100] (by decide +kernel) (by decide +kernel)
set_option maxRecDepth 20000 in
theorem gX10_fewestOf_X10_layQueue : GoodIn wsX10_fewestOf (wsV RX10 175 RX10 yX10_layQueue wsX10_layQueue) := goodIn_app (goodIn_of _ (by decide +kernel)) ggX10_fewestOf_X10_layQueue
set_option maxRecDepth 20000 in
theorem ggX10_fewestOf_X10_goFrom : GoodIn wsX10_fewestOf wsX10_goFrom := goodIn_r _ [21, 6, 5, 3, 22, 23, 9, 24, 25, 26, 27, 28, 29, 30, 31, 32, 33, 34, 35, 36, 37, 38, 39, 40, 11, 12, 13, 7, 8, 10, 41, 42, 43, 44, 45, 46, 47, 48, 49, 50, 51, 52, 53, 54, 55, 56, 57, 58, 59, 60, 61, 62, 63, 64, 65, 66, 67, 68, 69, 70, 71, 72, 73, 74, 75, 76, 77, 78, 79, 80, 81, 82, 83, 84, 85, 86, 87, 88, 89, 90, 91, 92, 93, 94, 95, 96, 97, 98, 99, 100] (by decide +kernel) (by decide +kernel)
set_option maxRecDepth 20000 in
theorem gX10_fewestOf_X10_goFrom : GoodIn wsX10_fewestOf (wsV RX10 179 RX10 yX10_goFrom wsX10_goFrom) := goodIn_app (goodIn_of _ (by decide +kernel)) ggX10_fewestOf_X10_goFrom
theorem dX10_fewestOf_0 : decode cX10_fewestOf 0 = .ok (.aload_n 0, 1) := by decide +kernel
theorem dX10_fewestOf_1 : decode cX10_fewestOf 1 = .ok (.iconst (-1), 1) := by decide +kernel
theorem dX10_fewestOf_2 : decode cX10_fewestOf 2 = .ok (.putfield 172, 3) := by decide +kernel
theorem dX10_fewestOf_5 : decode cX10_fewestOf 5 = .ok (.aload_n 0, 1) := by decide +kernel
theorem dX10_fewestOf_6 : decode cX10_fewestOf 6 = .ok (.getfield 25, 3) := by decide +kernel
theorem dX10_fewestOf_9 : decode cX10_fewestOf 9 = .ok (.iload_n 1, 1) := by decide +kernel
theorem dX10_fewestOf_10 : decode cX10_fewestOf 10 = .ok (.iaload, 1) := by decide +kernel
theorem dX10_fewestOf_11 : decode cX10_fewestOf 11 = .ok (.invokestatic 141, 3) := by decide +kernel
theorem dX10_fewestOf_14 : decode cX10_fewestOf 14 = .ok (.iload_n 2, 1) := by decide +kernel
theorem dX10_fewestOf_15 : decode cX10_fewestOf 15 = .ok (.invokestatic 82, 3) := by decide +kernel
theorem dX10_fewestOf_18 : decode cX10_fewestOf 18 = .ok (.ifCond .eq 5, 3) := by decide +kernel
theorem dX10_fewestOf_21 : decode cX10_fewestOf 21 = .ok (.iconst 0, 1) := by decide +kernel
theorem dX10_fewestOf_22 : decode cX10_fewestOf 22 = .ok (.ireturn, 1) := by decide +kernel
theorem dX10_fewestOf_23 : decode cX10_fewestOf 23 = .ok (.aload_n 0, 1) := by decide +kernel
theorem dX10_fewestOf_24 : decode cX10_fewestOf 24 = .ok (.aload_n 0, 1) := by decide +kernel
theorem dX10_fewestOf_25 : decode cX10_fewestOf 25 = .ok (.getfield 25, 3) := by decide +kernel
theorem dX10_fewestOf_28 : decode cX10_fewestOf 28 = .ok (.iload_n 1, 1) := by decide +kernel
theorem dX10_fewestOf_29 : decode cX10_fewestOf 29 = .ok (.iaload, 1) := by decide +kernel
theorem dX10_fewestOf_30 : decode cX10_fewestOf 30 = .ok (.invokevirtual 175, 3) := by decide +kernel
theorem dX10_fewestOf_33 : decode cX10_fewestOf 33 = .ok (.iconst 0, 1) := by decide +kernel
theorem dX10_fewestOf_34 : decode cX10_fewestOf 34 = .ok (.istore_n 3, 1) := by decide +kernel
theorem dX10_fewestOf_35 : decode cX10_fewestOf 35 = .ok (.iconst 0, 1) := by decide +kernel
theorem dX10_fewestOf_36 : decode cX10_fewestOf 36 = .ok (.istore 4, 2) := by decide +kernel
theorem dX10_fewestOf_38 : decode cX10_fewestOf 38 = .ok (.iload_n 3, 1) := by decide +kernel
theorem dX10_fewestOf_39 : decode cX10_fewestOf 39 = .ok (.aload_n 0, 1) := by decide +kernel
theorem dX10_fewestOf_40 : decode cX10_fewestOf 40 = .ok (.getfield 169, 3) := by decide +kernel
theorem dX10_fewestOf_43 : decode cX10_fewestOf 43 = .ok (.if_icmp .ge 100, 3) := by decide +kernel
theorem dX10_fewestOf_46 : decode cX10_fewestOf 46 = .ok (.aload_n 0, 1) := by decide +kernel
theorem dX10_fewestOf_47 : decode cX10_fewestOf 47 = .ok (.getfield 169, 3) := by decide +kernel
theorem dX10_fewestOf_50 : decode cX10_fewestOf 50 = .ok (.istore 5, 2) := by decide +kernel
theorem dX10_fewestOf_52 : decode cX10_fewestOf 52 = .ok (.iinc 4 1, 3) := by decide +kernel
theorem dX10_fewestOf_55 : decode cX10_fewestOf 55 = .ok (.iload_n 3, 1) := by decide +kernel
theorem dX10_fewestOf_56 : decode cX10_fewestOf 56 = .ok (.iload 5, 2) := by decide +kernel
theorem dX10_fewestOf_58 : decode cX10_fewestOf 58 = .ok (.if_icmp .ge 25, 3) := by decide +kernel
theorem dX10_fewestOf_61 : decode cX10_fewestOf 61 = .ok (.aload_n 0, 1) := by decide +kernel
theorem dX10_fewestOf_62 : decode cX10_fewestOf 62 = .ok (.aload_n 0, 1) := by decide +kernel
theorem dX10_fewestOf_63 : decode cX10_fewestOf 63 = .ok (.getfield 22, 3) := by decide +kernel
theorem dX10_fewestOf_66 : decode cX10_fewestOf 66 = .ok (.iload_n 1, 1) := by decide +kernel
theorem dX10_fewestOf_67 : decode cX10_fewestOf 67 = .ok (.iaload, 1) := by decide +kernel
theorem dX10_fewestOf_68 : decode cX10_fewestOf 68 = .ok (.aload_n 0, 1) := by decide +kernel
theorem dX10_fewestOf_69 : decode cX10_fewestOf 69 = .ok (.getfield 55, 3) := by decide +kernel
theorem dX10_fewestOf_72 : decode cX10_fewestOf 72 = .ok (.iload_n 3, 1) := by decide +kernel
theorem dX10_fewestOf_73 : decode cX10_fewestOf 73 = .ok (.iaload, 1) := by decide +kernel
theorem dX10_fewestOf_74 : decode cX10_fewestOf 74 = .ok (.invokevirtual 179, 3) := by decide +kernel
theorem dX10_fewestOf_77 : decode cX10_fewestOf 77 = .ok (.iinc 3 1, 3) := by decide +kernel
theorem dX10_fewestOf_80 : decode cX10_fewestOf 80 = .ok (.goto (-25), 3) := by decide +kernel
theorem dX10_fewestOf_83 : decode cX10_fewestOf 83 = .ok (.iload 5, 2) := by decide +kernel
theorem dX10_fewestOf_85 : decode cX10_fewestOf 85 = .ok (.istore 6, 2) := by decide +kernel
theorem dX10_fewestOf_87 : decode cX10_fewestOf 87 = .ok (.iload 6, 2) := by decide +kernel
theorem dX10_fewestOf_89 : decode cX10_fewestOf 89 = .ok (.aload_n 0, 1) := by decide +kernel
theorem dX10_fewestOf_90 : decode cX10_fewestOf 90 = .ok (.getfield 169, 3) := by decide +kernel
theorem dX10_fewestOf_93 : decode cX10_fewestOf 93 = .ok (.if_icmp .ge 47, 3) := by decide +kernel
theorem dX10_fewestOf_96 : decode cX10_fewestOf 96 = .ok (.aload_n 0, 1) := by decide +kernel
theorem dX10_fewestOf_97 : decode cX10_fewestOf 97 = .ok (.getfield 55, 3) := by decide +kernel
theorem dX10_fewestOf_100 : decode cX10_fewestOf 100 = .ok (.iload 6, 2) := by decide +kernel
theorem dX10_fewestOf_102 : decode cX10_fewestOf 102 = .ok (.iaload, 1) := by decide +kernel
theorem dX10_fewestOf_103 : decode cX10_fewestOf 103 = .ok (.invokestatic 141, 3) := by decide +kernel
theorem dX10_fewestOf_106 : decode cX10_fewestOf 106 = .ok (.iload_n 2, 1) := by decide +kernel
theorem dX10_fewestOf_107 : decode cX10_fewestOf 107 = .ok (.invokestatic 82, 3) := by decide +kernel
theorem dX10_fewestOf_110 : decode cX10_fewestOf 110 = .ok (.ifCond .eq 24, 3) := by decide +kernel
theorem dX10_fewestOf_113 : decode cX10_fewestOf 113 = .ok (.aload_n 0, 1) := by decide +kernel
theorem dX10_fewestOf_114 : decode cX10_fewestOf 114 = .ok (.aload_n 0, 1) := by decide +kernel
theorem dX10_fewestOf_115 : decode cX10_fewestOf 115 = .ok (.getfield 52, 3) := by decide +kernel
theorem dX10_fewestOf_118 : decode cX10_fewestOf 118 = .ok (.aload_n 0, 1) := by decide +kernel
theorem dX10_fewestOf_119 : decode cX10_fewestOf 119 = .ok (.getfield 55, 3) := by decide +kernel
theorem dX10_fewestOf_122 : decode cX10_fewestOf 122 = .ok (.iload 6, 2) := by decide +kernel
theorem dX10_fewestOf_124 : decode cX10_fewestOf 124 = .ok (.iaload, 1) := by decide +kernel
theorem dX10_fewestOf_125 : decode cX10_fewestOf 125 = .ok (.baload, 1) := by decide +kernel
theorem dX10_fewestOf_126 : decode cX10_fewestOf 126 = .ok (.iconst 1, 1) := by decide +kernel
theorem dX10_fewestOf_127 : decode cX10_fewestOf 127 = .ok (.isub, 1) := by decide +kernel
theorem dX10_fewestOf_128 : decode cX10_fewestOf 128 = .ok (.putfield 172, 3) := by decide +kernel
theorem dX10_fewestOf_131 : decode cX10_fewestOf 131 = .ok (.iload 4, 2) := by decide +kernel
theorem dX10_fewestOf_133 : decode cX10_fewestOf 133 = .ok (.ireturn, 1) := by decide +kernel
theorem dX10_fewestOf_134 : decode cX10_fewestOf 134 = .ok (.iinc 6 1, 3) := by decide +kernel
theorem dX10_fewestOf_137 : decode cX10_fewestOf 137 = .ok (.goto (-50), 3) := by decide +kernel
theorem dX10_fewestOf_140 : decode cX10_fewestOf 140 = .ok (.goto (-102), 3) := by decide +kernel
theorem dX10_fewestOf_143 : decode cX10_fewestOf 143 = .ok (.iconst (-1), 1) := by decide +kernel
theorem dX10_fewestOf_144 : decode cX10_fewestOf 144 = .ok (.ireturn, 1) := by decide +kernel
set_option maxRecDepth 20000 in
theorem ggX10_fewest_X10_isPerson : GoodIn wsX10_fewest wsX10_isPerson := goodIn_r _ [7, 8, 9, 10, 6, 11, 76, 77, 78, 79, 80, 81, 82, 83, 84, 85, 86, 87, 88, 89, 90, 91, 92, 93, 94, 95, 96, 97, 98, 99, 100, 101, 102, 103, 104, 105, 106, 107, 108, 109, 110, 111, 112, 113] (by decide +kernel) (by decide +kernel)
set_option maxRecDepth 20000 in
theorem gX10_fewest_X10_isPerson : GoodIn wsX10_fewest (wsV RX10 157 RX10 yX10_isPerson wsX10_isPerson) := goodIn_app (goodIn_of _ (by decide +kernel)) ggX10_fewest_X10_isPerson
set_option maxRecDepth 20000 in
theorem ggX10_fewest_X10_isTown : GoodIn wsX10_fewest wsX10_isTown := goodIn_r _ [14, 9, 10, 6, 11] (by decide +kernel) (by decide +kernel)
set_option maxRecDepth 20000 in
theorem gX10_fewest_X10_isTown : GoodIn wsX10_fewest (va_wsS RX10 122 yX10_isTown wsX10_isTown) := goodIn_app (goodIn_of _ (by decide +kernel)) ggX10_fewest_X10_isTown
set_option maxRecDepth 20000 in
theorem ggX10_fewest_X10_within : GoodIn wsX10_fewest wsX10_within := goodIn_r _ [11] (by decide +kernel) (by decide +kernel)
set_option maxRecDepth 20000 in
theorem gX10_fewest_X10_within : GoodIn wsX10_fewest (va_wsS RX10 75 yX10_within wsX10_within) := goodIn_app (goodIn_of _ (by decide +kernel)) ggX10_fewest_X10_within
set_option maxRecDepth 20000 in
theorem ggX10_fewest_X10_fewestOf : GoodIn wsX10_fewest wsX10_fewestOf := goodIn_r _ [18, 2, 19, 20, 21, 22, 23, 24, 25, 6, 26, 27, 28, 29, 30, 31, 32, 33, 34, 35, 36, 37, 38, 39, 40, 9, 10, 11, 41, 42, 43, 44, 45, 46, 47, 48, 49, 50, 51, 52, 53, 54, 55, 56, 57, 58, 59, 60, 61, 62, 63, 64, 65, 66, 67, 68, 69, 70, 71, 72, 73, 74, 75, 76, 77, 78, 79, 80, 81, 82, 83, 84, 85, 86, 87, 88, 89, 90, 91, 92, 93, 94, 95, 96, 97, 98, 99, 100, 101, 102, 103, 104, 105, 106, 107, 108, 109, 110, 111, 112, 113] (by decide +kernel) (by decide +kernel)
set_option maxRecDepth 20000 in
theorem gX10_fewest_X10_fewestOf : GoodIn wsX10_fewest (wsV RX10 186 RX10 yX10_fewestOf wsX10_fewestOf) := goodIn_app (goodIn_of _ (by decide +kernel)) ggX10_fewest_X10_fewestOf
theorem dX10_fewest_0 : decode cX10_fewest 0 = .ok (.aload_n 0, 1) := by decide +kernel
theorem dX10_fewest_1 : decode cX10_fewest 1 = .ok (.iload_n 1, 1) := by decide +kernel
theorem dX10_fewest_2 : decode cX10_fewest 2 = .ok (.invokevirtual 157, 3) := by decide +kernel
theorem dX10_fewest_5 : decode cX10_fewest 5 = .ok (.ifCond .eq 10, 3) := by decide +kernel
theorem dX10_fewest_8 : decode cX10_fewest 8 = .ok (.iload_n 2, 1) := by decide +kernel
theorem dX10_fewest_9 : decode cX10_fewest 9 = .ok (.invokestatic 122, 3) := by decide +kernel
theorem dX10_fewest_12 : decode cX10_fewest 12 = .ok (.ifCond .ne 6, 3) := by decide +kernel
theorem dX10_fewest_15 : decode cX10_fewest 15 = .ok (.bipush (-101), 2) := by decide +kernel
theorem dX10_fewest_17 : decode cX10_fewest 17 = .ok (.ireturn, 1) := by decide +kernel
theorem dX10_fewest_18 : decode cX10_fewest 18 = .ok (.iload_n 3, 1) := by decide +kernel
theorem dX10_fewest_19 : decode cX10_fewest 19 = .ok (.iconst 0, 1) := by decide +kernel
theorem dX10_fewest_20 : decode cX10_fewest 20 = .ok (.iconst 1, 1) := by decide +kernel
theorem dX10_fewest_21 : decode cX10_fewest 21 = .ok (.invokestatic 75, 3) := by decide +kernel
theorem dX10_fewest_24 : decode cX10_fewest 24 = .ok (.ifCond .ne 6, 3) := by decide +kernel
theorem dX10_fewest_27 : decode cX10_fewest 27 = .ok (.bipush (-102), 2) := by decide +kernel
theorem dX10_fewest_29 : decode cX10_fewest 29 = .ok (.ireturn, 1) := by decide +kernel
theorem dX10_fewest_30 : decode cX10_fewest 30 = .ok (.aload_n 0, 1) := by decide +kernel
theorem dX10_fewest_31 : decode cX10_fewest 31 = .ok (.getfield 183, 3) := by decide +kernel
theorem dX10_fewest_34 : decode cX10_fewest 34 = .ok (.bipush 40, 2) := by decide +kernel
theorem dX10_fewest_36 : decode cX10_fewest 36 = .ok (.if_icmp .ne 6, 3) := by decide +kernel
theorem dX10_fewest_39 : decode cX10_fewest 39 = .ok (.bipush (-103), 2) := by decide +kernel
theorem dX10_fewest_41 : decode cX10_fewest 41 = .ok (.ireturn, 1) := by decide +kernel
theorem dX10_fewest_42 : decode cX10_fewest 42 = .ok (.aload_n 0, 1) := by decide +kernel
theorem dX10_fewest_43 : decode cX10_fewest 43 = .ok (.dup, 1) := by decide +kernel
theorem dX10_fewest_44 : decode cX10_fewest 44 = .ok (.getfield 183, 3) := by decide +kernel
theorem dX10_fewest_47 : decode cX10_fewest 47 = .ok (.iconst 1, 1) := by decide +kernel
theorem dX10_fewest_48 : decode cX10_fewest 48 = .ok (.iadd, 1) := by decide +kernel
theorem dX10_fewest_49 : decode cX10_fewest 49 = .ok (.putfield 183, 3) := by decide +kernel
theorem dX10_fewest_52 : decode cX10_fewest 52 = .ok (.aload_n 0, 1) := by decide +kernel
theorem dX10_fewest_53 : decode cX10_fewest 53 = .ok (.iload_n 1, 1) := by decide +kernel
theorem dX10_fewest_54 : decode cX10_fewest 54 = .ok (.iload_n 2, 1) := by decide +kernel
theorem dX10_fewest_55 : decode cX10_fewest 55 = .ok (.invokevirtual 186, 3) := by decide +kernel
theorem dX10_fewest_58 : decode cX10_fewest 58 = .ok (.istore 4, 2) := by decide +kernel
theorem dX10_fewest_60 : decode cX10_fewest 60 = .ok (.iload_n 3, 1) := by decide +kernel
theorem dX10_fewest_61 : decode cX10_fewest 61 = .ok (.ifCond .ne 8, 3) := by decide +kernel
theorem dX10_fewest_64 : decode cX10_fewest 64 = .ok (.iload 4, 2) := by decide +kernel
theorem dX10_fewest_66 : decode cX10_fewest 66 = .ok (.goto 7, 3) := by decide +kernel
theorem dX10_fewest_69 : decode cX10_fewest 69 = .ok (.aload_n 0, 1) := by decide +kernel
theorem dX10_fewest_70 : decode cX10_fewest 70 = .ok (.getfield 172, 3) := by decide +kernel
theorem dX10_fewest_73 : decode cX10_fewest 73 = .ok (.ireturn, 1) := by decide +kernel
set_option maxRecDepth 20000 in
theorem ggX10_richestOf_X10_layQueue : GoodIn wsX10_richestOf wsX10_layQueue := goodIn_r _ [9, 2, 10, 4, 65, 66, 67, 68, 69, 70, 71, 72, 73, 74, 75, 76, 77, 78, 79, 80, 81, 82, 83, 84, 85, 86, 87, 88, 89, 90, 91, 92, 93, 94, 95, 96, 97, 98, 99, 100, 101, 102] (by decide +kernel) (by decide +kernel)
set_option maxRecDepth 20000 in
theorem gX10_richestOf_X10_layQueue : GoodIn wsX10_richestOf (wsV RX10 175 RX10 yX10_layQueue wsX10_layQueue) := goodIn_app (goodIn_of _ (by decide +kernel)) ggX10_richestOf_X10_layQueue
set_option maxRecDepth 20000 in
theorem ggX10_richestOf_X10_goFrom : GoodIn wsX10_richestOf wsX10_goFrom := goodIn_r _ [14, 10, 4, 2, 15, 16, 8, 17, 18, 19, 20, 21, 22, 23, 24, 25, 26, 27, 28, 29, 30, 31, 32, 33, 34, 35, 36, 37, 38, 39, 40, 41, 42, 43, 44, 45, 46, 47, 48, 49, 50, 51, 52, 53, 54, 55, 56, 57, 58, 59, 60, 61, 65, 66, 67, 68, 69, 70, 71, 72, 73, 74, 75, 76, 77, 78, 79, 80, 81, 82, 83, 84, 85, 86, 87, 88, 89, 90, 91, 92, 93, 94, 95, 96, 97, 98, 99, 100, 101, 102] (by decide +kernel) (by decide +kernel)
set_option maxRecDepth 20000 in
theorem gX10_richestOf_X10_goFrom : GoodIn wsX10_richestOf (wsV RX10 179 RX10 yX10_goFrom wsX10_goFrom) := goodIn_app (goodIn_of _ (by decide +kernel)) ggX10_richestOf_X10_goFrom
set_option maxRecDepth 20000 in
theorem ggX10_richestOf_X10_coinsAll : GoodIn wsX10_richestOf wsX10_coinsAll := goodIn_r _ [64, 40, 41, 8, 42, 43, 44, 45, 46, 47, 48] (by decide +kernel) (by decide +kernel)
set_option maxRecDepth 20000 in
theorem gX10_richestOf_X10_coinsAll : GoodIn wsX10_richestOf (va_wsS RX10 154 yX10_coinsAll wsX10_coinsAll) := goodIn_app (goodIn_of _ (by decide +kernel)) ggX10_richestOf_X10_coinsAll
theorem dX10_richestOf_0 : decode cX10_richestOf 0 = .ok (.aload_n 0, 1) := by decide +kernel
theorem dX10_richestOf_1 : decode cX10_richestOf 1 = .ok (.aload_n 0, 1) := by decide +kernel
theorem dX10_richestOf_2 : decode cX10_richestOf 2 = .ok (.getfield 25, 3) := by decide +kernel
theorem dX10_richestOf_5 : decode cX10_richestOf 5 = .ok (.iload_n 1, 1) := by decide +kernel
theorem dX10_richestOf_6 : decode cX10_richestOf 6 = .ok (.iaload, 1) := by decide +kernel
theorem dX10_richestOf_7 : decode cX10_richestOf 7 = .ok (.invokevirtual 175, 3) := by decide +kernel
theorem dX10_richestOf_10 : decode cX10_richestOf 10 = .ok (.iconst 0, 1) := by decide +kernel
theorem dX10_richestOf_11 : decode cX10_richestOf 11 = .ok (.istore_n 3, 1) := by decide +kernel
theorem dX10_richestOf_12 : decode cX10_richestOf 12 = .ok (.iconst 0, 1) := by decide +kernel
theorem dX10_richestOf_13 : decode cX10_richestOf 13 = .ok (.istore 4, 2) := by decide +kernel
theorem dX10_richestOf_15 : decode cX10_richestOf 15 = .ok (.iload 4, 2) := by decide +kernel
theorem dX10_richestOf_17 : decode cX10_richestOf 17 = .ok (.iload_n 2, 1) := by decide +kernel
theorem dX10_richestOf_18 : decode cX10_richestOf 18 = .ok (.if_icmp .ge 43, 3) := by decide +kernel
theorem dX10_richestOf_21 : decode cX10_richestOf 21 = .ok (.aload_n 0, 1) := by decide +kernel
theorem dX10_richestOf_22 : decode cX10_richestOf 22 = .ok (.getfield 169, 3) := by decide +kernel
theorem dX10_richestOf_25 : decode cX10_richestOf 25 = .ok (.istore 5, 2) := by decide +kernel
theorem dX10_richestOf_27 : decode cX10_richestOf 27 = .ok (.iload_n 3, 1) := by decide +kernel
theorem dX10_richestOf_28 : decode cX10_richestOf 28 = .ok (.iload 5, 2) := by decide +kernel
theorem dX10_richestOf_30 : decode cX10_richestOf 30 = .ok (.if_icmp .ge 25, 3) := by decide +kernel
theorem dX10_richestOf_33 : decode cX10_richestOf 33 = .ok (.aload_n 0, 1) := by decide +kernel
theorem dX10_richestOf_34 : decode cX10_richestOf 34 = .ok (.aload_n 0, 1) := by decide +kernel
theorem dX10_richestOf_35 : decode cX10_richestOf 35 = .ok (.getfield 22, 3) := by decide +kernel
theorem dX10_richestOf_38 : decode cX10_richestOf 38 = .ok (.iload_n 1, 1) := by decide +kernel
theorem dX10_richestOf_39 : decode cX10_richestOf 39 = .ok (.iaload, 1) := by decide +kernel
theorem dX10_richestOf_40 : decode cX10_richestOf 40 = .ok (.aload_n 0, 1) := by decide +kernel
theorem dX10_richestOf_41 : decode cX10_richestOf 41 = .ok (.getfield 55, 3) := by decide +kernel
theorem dX10_richestOf_44 : decode cX10_richestOf 44 = .ok (.iload_n 3, 1) := by decide +kernel
theorem dX10_richestOf_45 : decode cX10_richestOf 45 = .ok (.iaload, 1) := by decide +kernel
theorem dX10_richestOf_46 : decode cX10_richestOf 46 = .ok (.invokevirtual 179, 3) := by decide +kernel
theorem dX10_richestOf_49 : decode cX10_richestOf 49 = .ok (.iinc 3 1, 3) := by decide +kernel
theorem dX10_richestOf_52 : decode cX10_richestOf 52 = .ok (.goto (-25), 3) := by decide +kernel
theorem dX10_richestOf_55 : decode cX10_richestOf 55 = .ok (.iinc 4 1, 3) := by decide +kernel
theorem dX10_richestOf_58 : decode cX10_richestOf 58 = .ok (.goto (-43), 3) := by decide +kernel
theorem dX10_richestOf_61 : decode cX10_richestOf 61 = .ok (.iconst 0, 1) := by decide +kernel
theorem dX10_richestOf_62 : decode cX10_richestOf 62 = .ok (.istore 4, 2) := by decide +kernel
theorem dX10_richestOf_64 : decode cX10_richestOf 64 = .ok (.iconst 0, 1) := by decide +kernel
theorem dX10_richestOf_65 : decode cX10_richestOf 65 = .ok (.istore 5, 2) := by decide +kernel
theorem dX10_richestOf_67 : decode cX10_richestOf 67 = .ok (.iload 5, 2) := by decide +kernel
theorem dX10_richestOf_69 : decode cX10_richestOf 69 = .ok (.aload_n 0, 1) := by decide +kernel
theorem dX10_richestOf_70 : decode cX10_richestOf 70 = .ok (.getfield 169, 3) := by decide +kernel
theorem dX10_richestOf_73 : decode cX10_richestOf 73 = .ok (.if_icmp .ge 41, 3) := by decide +kernel
theorem dX10_richestOf_76 : decode cX10_richestOf 76 = .ok (.aload_n 0, 1) := by decide +kernel
theorem dX10_richestOf_77 : decode cX10_richestOf 77 = .ok (.getfield 55, 3) := by decide +kernel
theorem dX10_richestOf_80 : decode cX10_richestOf 80 = .ok (.iload 5, 2) := by decide +kernel
theorem dX10_richestOf_82 : decode cX10_richestOf 82 = .ok (.iaload, 1) := by decide +kernel
theorem dX10_richestOf_83 : decode cX10_richestOf 83 = .ok (.invokestatic 154, 3) := by decide +kernel
theorem dX10_richestOf_86 : decode cX10_richestOf 86 = .ok (.iload 4, 2) := by decide +kernel
theorem dX10_richestOf_88 : decode cX10_richestOf 88 = .ok (.if_icmp .le 16, 3) := by decide +kernel
theorem dX10_richestOf_91 : decode cX10_richestOf 91 = .ok (.aload_n 0, 1) := by decide +kernel
theorem dX10_richestOf_92 : decode cX10_richestOf 92 = .ok (.getfield 55, 3) := by decide +kernel
theorem dX10_richestOf_95 : decode cX10_richestOf 95 = .ok (.iload 5, 2) := by decide +kernel
theorem dX10_richestOf_97 : decode cX10_richestOf 97 = .ok (.iaload, 1) := by decide +kernel
theorem dX10_richestOf_98 : decode cX10_richestOf 98 = .ok (.invokestatic 154, 3) := by decide +kernel
theorem dX10_richestOf_101 : decode cX10_richestOf 101 = .ok (.goto 5, 3) := by decide +kernel
theorem dX10_richestOf_104 : decode cX10_richestOf 104 = .ok (.iload 4, 2) := by decide +kernel
theorem dX10_richestOf_106 : decode cX10_richestOf 106 = .ok (.istore 4, 2) := by decide +kernel
theorem dX10_richestOf_108 : decode cX10_richestOf 108 = .ok (.iinc 5 1, 3) := by decide +kernel
theorem dX10_richestOf_111 : decode cX10_richestOf 111 = .ok (.goto (-44), 3) := by decide +kernel
theorem dX10_richestOf_114 : decode cX10_richestOf 114 = .ok (.iload 4, 2) := by decide +kernel
theorem dX10_richestOf_116 : decode cX10_richestOf 116 = .ok (.ireturn, 1) := by decide +kernel
set_option maxRecDepth 20000 in
theorem ggX10_richest_X10_isPerson : GoodIn wsX10_richest wsX10_isPerson := goodIn_r _ [6, 7, 8, 9, 5, 10, 75, 76, 77, 78, 79, 80, 81, 82, 83, 84, 85, 86, 87, 88, 89, 90, 91, 92, 93, 94, 95, 96, 97, 98, 99, 100, 101, 102, 103, 104, 105, 106, 107, 108, 109, 110, 111, 112] (by decide +kernel) (by decide +kernel)
set_option maxRecDepth 20000 in
theorem gX10_richest_X10_isPerson : GoodIn wsX10_richest (wsV RX10 157 RX10 yX10_isPerson wsX10_isPerson) := goodIn_app (goodIn_of _ (by decide +kernel)) ggX10_richest_X10_isPerson
set_option maxRecDepth 20000 in
theorem ggX10_richest_X10_within : GoodIn wsX10_richest wsX10_within := goodIn_r _ [10] (by decide +kernel) (by decide +kernel)
set_option maxRecDepth 20000 in
theorem gX10_richest_X10_within : GoodIn wsX10_richest (va_wsS RX10 75 yX10_within wsX10_within) := goodIn_app (goodIn_of _ (by decide +kernel)) ggX10_richest_X10_within
set_option maxRecDepth 20000 in
theorem ggX10_richest_X10_richestOf : GoodIn wsX10_richest wsX10_richestOf := goodIn_r _ [14, 15, 16, 17, 18, 19, 20, 21, 5, 22, 23, 24, 25, 26, 27, 28, 29, 30, 8, 9, 10, 31, 32, 33, 34, 35, 36, 37, 38, 39, 40, 41, 42, 43, 44, 45, 46, 47, 48, 49, 50, 51, 52, 53, 54, 55, 56, 57, 58, 59, 60, 61, 62, 63, 64, 65, 66, 67, 68, 69, 70, 71, 72, 73, 74, 75, 76, 77, 78, 79, 80, 81, 82, 83, 84, 85, 86, 87, 88, 89, 90, 91, 92, 93, 94, 95, 96, 97, 98, 99, 100, 101, 102, 103, 104, 105, 106, 107, 108, 109, 110, 111, 112] (by decide +kernel) (by decide +kernel)
set_option maxRecDepth 20000 in
theorem gX10_richest_X10_richestOf : GoodIn wsX10_richest (wsV RX10 189 RX10 yX10_richestOf wsX10_richestOf) := goodIn_app (goodIn_of _ (by decide +kernel)) ggX10_richest_X10_richestOf
theorem dX10_richest_0 : decode cX10_richest 0 = .ok (.aload_n 0, 1) := by decide +kernel
theorem dX10_richest_1 : decode cX10_richest 1 = .ok (.iload_n 1, 1) := by decide +kernel
theorem dX10_richest_2 : decode cX10_richest 2 = .ok (.invokevirtual 157, 3) := by decide +kernel
theorem dX10_richest_5 : decode cX10_richest 5 = .ok (.ifCond .ne 6, 3) := by decide +kernel
theorem dX10_richest_8 : decode cX10_richest 8 = .ok (.bipush (-101), 2) := by decide +kernel
theorem dX10_richest_10 : decode cX10_richest 10 = .ok (.ireturn, 1) := by decide +kernel
theorem dX10_richest_11 : decode cX10_richest 11 = .ok (.iload_n 2, 1) := by decide +kernel
theorem dX10_richest_12 : decode cX10_richest 12 = .ok (.iconst 0, 1) := by decide +kernel
theorem dX10_richest_13 : decode cX10_richest 13 = .ok (.bipush 8, 2) := by decide +kernel
theorem dX10_richest_15 : decode cX10_richest 15 = .ok (.invokestatic 75, 3) := by decide +kernel
theorem dX10_richest_18 : decode cX10_richest 18 = .ok (.ifCond .ne 6, 3) := by decide +kernel
theorem dX10_richest_21 : decode cX10_richest 21 = .ok (.bipush (-102), 2) := by decide +kernel
theorem dX10_richest_23 : decode cX10_richest 23 = .ok (.ireturn, 1) := by decide +kernel
theorem dX10_richest_24 : decode cX10_richest 24 = .ok (.aload_n 0, 1) := by decide +kernel
theorem dX10_richest_25 : decode cX10_richest 25 = .ok (.getfield 183, 3) := by decide +kernel
theorem dX10_richest_28 : decode cX10_richest 28 = .ok (.bipush 40, 2) := by decide +kernel
theorem dX10_richest_30 : decode cX10_richest 30 = .ok (.if_icmp .ne 6, 3) := by decide +kernel
theorem dX10_richest_33 : decode cX10_richest 33 = .ok (.bipush (-103), 2) := by decide +kernel
theorem dX10_richest_35 : decode cX10_richest 35 = .ok (.ireturn, 1) := by decide +kernel
theorem dX10_richest_36 : decode cX10_richest 36 = .ok (.aload_n 0, 1) := by decide +kernel
theorem dX10_richest_37 : decode cX10_richest 37 = .ok (.dup, 1) := by decide +kernel
theorem dX10_richest_38 : decode cX10_richest 38 = .ok (.getfield 183, 3) := by decide +kernel
theorem dX10_richest_41 : decode cX10_richest 41 = .ok (.iconst 1, 1) := by decide +kernel
theorem dX10_richest_42 : decode cX10_richest 42 = .ok (.iadd, 1) := by decide +kernel
theorem dX10_richest_43 : decode cX10_richest 43 = .ok (.putfield 183, 3) := by decide +kernel
theorem dX10_richest_46 : decode cX10_richest 46 = .ok (.aload_n 0, 1) := by decide +kernel
theorem dX10_richest_47 : decode cX10_richest 47 = .ok (.iload_n 1, 1) := by decide +kernel
theorem dX10_richest_48 : decode cX10_richest 48 = .ok (.iload_n 2, 1) := by decide +kernel
theorem dX10_richest_49 : decode cX10_richest 49 = .ok (.invokevirtual 189, 3) := by decide +kernel
theorem dX10_richest_52 : decode cX10_richest 52 = .ok (.ireturn, 1) := by decide +kernel
set_option maxRecDepth 20000 in
theorem ggX10_deadNow_X10_mayPay : GoodIn wsX10_deadNow wsX10_mayPay := goodIn_r _ [7, 8, 9, 10, 6, 11, 21, 22, 23, 24, 25, 26, 27, 28, 29, 30, 31, 32, 33, 34, 35, 36, 37, 38, 39, 40, 41, 42, 43, 44, 45, 46, 47, 48, 49, 50, 51, 52, 53, 54, 55, 56, 57, 58] (by decide +kernel) (by decide +kernel)
set_option maxRecDepth 20000 in
theorem gX10_deadNow_X10_mayPay : GoodIn wsX10_deadNow (wsV RX10 138 RX10 yX10_mayPay wsX10_mayPay) := goodIn_app (goodIn_of _ (by decide +kernel)) ggX10_deadNow_X10_mayPay
set_option maxRecDepth 20000 in
theorem ggX10_deadNow_X10_coins : GoodIn wsX10_deadNow wsX10_coins := goodIn_r _ [14, 15, 16, 6, 17, 18, 19, 20] (by decide +kernel) (by decide +kernel)
set_option maxRecDepth 20000 in
theorem gX10_deadNow_X10_coins : GoodIn wsX10_deadNow (va_wsS RX10 135 yX10_coins wsX10_coins) := goodIn_app (goodIn_of _ (by decide +kernel)) ggX10_deadNow_X10_coins
theorem dX10_deadNow_0 : decode cX10_deadNow 0 = .ok (.iconst 0, 1) := by decide +kernel
theorem dX10_deadNow_1 : decode cX10_deadNow 1 = .ok (.istore_n 2, 1) := by decide +kernel
theorem dX10_deadNow_2 : decode cX10_deadNow 2 = .ok (.iconst 0, 1) := by decide +kernel
theorem dX10_deadNow_3 : decode cX10_deadNow 3 = .ok (.istore_n 3, 1) := by decide +kernel
theorem dX10_deadNow_4 : decode cX10_deadNow 4 = .ok (.iload_n 3, 1) := by decide +kernel
theorem dX10_deadNow_5 : decode cX10_deadNow 5 = .ok (.iconst 4, 1) := by decide +kernel
theorem dX10_deadNow_6 : decode cX10_deadNow 6 = .ok (.if_icmp .ge 77, 3) := by decide +kernel
theorem dX10_deadNow_9 : decode cX10_deadNow 9 = .ok (.iconst 0, 1) := by decide +kernel
theorem dX10_deadNow_10 : decode cX10_deadNow 10 = .ok (.istore 4, 2) := by decide +kernel
theorem dX10_deadNow_12 : decode cX10_deadNow 12 = .ok (.iconst 0, 1) := by decide +kernel
theorem dX10_deadNow_13 : decode cX10_deadNow 13 = .ok (.istore 5, 2) := by decide +kernel
theorem dX10_deadNow_15 : decode cX10_deadNow 15 = .ok (.iload 5, 2) := by decide +kernel
theorem dX10_deadNow_17 : decode cX10_deadNow 17 = .ok (.iconst 4, 1) := by decide +kernel
theorem dX10_deadNow_18 : decode cX10_deadNow 18 = .ok (.if_icmp .ge 37, 3) := by decide +kernel
theorem dX10_deadNow_21 : decode cX10_deadNow 21 = .ok (.iload 4, 2) := by decide +kernel
theorem dX10_deadNow_23 : decode cX10_deadNow 23 = .ok (.ifCond .ne 19, 3) := by decide +kernel
theorem dX10_deadNow_26 : decode cX10_deadNow 26 = .ok (.aload_n 0, 1) := by decide +kernel
theorem dX10_deadNow_27 : decode cX10_deadNow 27 = .ok (.aload_n 0, 1) := by decide +kernel
theorem dX10_deadNow_28 : decode cX10_deadNow 28 = .ok (.getfield 22, 3) := by decide +kernel
theorem dX10_deadNow_31 : decode cX10_deadNow 31 = .ok (.iload_n 1, 1) := by decide +kernel
theorem dX10_deadNow_32 : decode cX10_deadNow 32 = .ok (.iaload, 1) := by decide +kernel
theorem dX10_deadNow_33 : decode cX10_deadNow 33 = .ok (.iload 5, 2) := by decide +kernel
theorem dX10_deadNow_35 : decode cX10_deadNow 35 = .ok (.iload_n 3, 1) := by decide +kernel
theorem dX10_deadNow_36 : decode cX10_deadNow 36 = .ok (.invokevirtual 138, 3) := by decide +kernel
theorem dX10_deadNow_39 : decode cX10_deadNow 39 = .ok (.ifCond .eq 7, 3) := by decide +kernel
theorem dX10_deadNow_42 : decode cX10_deadNow 42 = .ok (.iconst 1, 1) := by decide +kernel
theorem dX10_deadNow_43 : decode cX10_deadNow 43 = .ok (.goto 4, 3) := by decide +kernel
theorem dX10_deadNow_46 : decode cX10_deadNow 46 = .ok (.iconst 0, 1) := by decide +kernel
theorem dX10_deadNow_47 : decode cX10_deadNow 47 = .ok (.istore 4, 2) := by decide +kernel
theorem dX10_deadNow_49 : decode cX10_deadNow 49 = .ok (.iinc 5 1, 3) := by decide +kernel
theorem dX10_deadNow_52 : decode cX10_deadNow 52 = .ok (.goto (-37), 3) := by decide +kernel
theorem dX10_deadNow_55 : decode cX10_deadNow 55 = .ok (.iload_n 2, 1) := by decide +kernel
theorem dX10_deadNow_56 : decode cX10_deadNow 56 = .ok (.iload 4, 2) := by decide +kernel
theorem dX10_deadNow_58 : decode cX10_deadNow 58 = .ok (.ifCond .eq 7, 3) := by decide +kernel
theorem dX10_deadNow_61 : decode cX10_deadNow 61 = .ok (.iconst 0, 1) := by decide +kernel
theorem dX10_deadNow_62 : decode cX10_deadNow 62 = .ok (.goto 13, 3) := by decide +kernel
theorem dX10_deadNow_65 : decode cX10_deadNow 65 = .ok (.aload_n 0, 1) := by decide +kernel
theorem dX10_deadNow_66 : decode cX10_deadNow 66 = .ok (.getfield 25, 3) := by decide +kernel
theorem dX10_deadNow_69 : decode cX10_deadNow 69 = .ok (.iload_n 1, 1) := by decide +kernel
theorem dX10_deadNow_70 : decode cX10_deadNow 70 = .ok (.iaload, 1) := by decide +kernel
theorem dX10_deadNow_71 : decode cX10_deadNow 71 = .ok (.iload_n 3, 1) := by decide +kernel
theorem dX10_deadNow_72 : decode cX10_deadNow 72 = .ok (.invokestatic 135, 3) := by decide +kernel
theorem dX10_deadNow_75 : decode cX10_deadNow 75 = .ok (.iadd, 1) := by decide +kernel
theorem dX10_deadNow_76 : decode cX10_deadNow 76 = .ok (.istore_n 2, 1) := by decide +kernel
theorem dX10_deadNow_77 : decode cX10_deadNow 77 = .ok (.iinc 3 1, 3) := by decide +kernel
theorem dX10_deadNow_80 : decode cX10_deadNow 80 = .ok (.goto (-76), 3) := by decide +kernel
theorem dX10_deadNow_83 : decode cX10_deadNow 83 = .ok (.iload_n 2, 1) := by decide +kernel
theorem dX10_deadNow_84 : decode cX10_deadNow 84 = .ok (.ireturn, 1) := by decide +kernel
set_option maxRecDepth 20000 in
theorem ggX10_dead_X10_isPerson : GoodIn wsX10_dead wsX10_isPerson := goodIn_r _ [5, 6, 7, 8, 4, 9, 33, 34, 35, 36, 37, 38, 39, 40, 41, 42, 43, 44, 45, 46, 47, 48, 49, 50, 51, 52, 53, 54, 55, 56, 57, 58, 59, 60, 61, 62, 63, 64, 65, 66, 67, 68, 69, 70] (by decide +kernel) (by decide +kernel)
set_option maxRecDepth 20000 in
theorem gX10_dead_X10_isPerson : GoodIn wsX10_dead (wsV RX10 157 RX10 yX10_isPerson wsX10_isPerson) := goodIn_app (goodIn_of _ (by decide +kernel)) ggX10_dead_X10_isPerson
set_option maxRecDepth 20000 in
theorem ggX10_dead_X10_deadNow : GoodIn wsX10_dead wsX10_deadNow := goodIn_r _ [13, 14, 15, 16, 17, 18, 4, 19, 20, 21, 22, 23, 24, 25, 26, 27, 28, 29, 30, 31, 32, 33, 34, 35, 36, 37, 38, 39, 40, 41, 42, 43, 44, 45, 46, 47, 48, 49, 50, 51, 52, 53, 54, 55, 56, 57, 58, 59, 60, 61, 62, 63, 64, 65, 66, 67, 68, 69, 70] (by decide +kernel) (by decide +kernel)
set_option maxRecDepth 20000 in
theorem gX10_dead_X10_deadNow : GoodIn wsX10_dead (wsV RX10 192 RX10 yX10_deadNow wsX10_deadNow) := goodIn_app (goodIn_of _ (by decide +kernel)) ggX10_dead_X10_deadNow
theorem dX10_dead_0 : decode cX10_dead 0 = .ok (.aload_n 0, 1) := by decide +kernel
theorem dX10_dead_1 : decode cX10_dead 1 = .ok (.iload_n 1, 1) := by decide +kernel
theorem dX10_dead_2 : decode cX10_dead 2 = .ok (.invokevirtual 157, 3) := by decide +kernel
theorem dX10_dead_5 : decode cX10_dead 5 = .ok (.ifCond .eq 11, 3) := by decide +kernel
theorem dX10_dead_8 : decode cX10_dead 8 = .ok (.aload_n 0, 1) := by decide +kernel
theorem dX10_dead_9 : decode cX10_dead 9 = .ok (.iload_n 1, 1) := by decide +kernel
theorem dX10_dead_10 : decode cX10_dead 10 = .ok (.invokevirtual 192, 3) := by decide +kernel
theorem dX10_dead_13 : decode cX10_dead 13 = .ok (.goto 5, 3) := by decide +kernel
theorem dX10_dead_16 : decode cX10_dead 16 = .ok (.bipush (-101), 2) := by decide +kernel
theorem dX10_dead_18 : decode cX10_dead 18 = .ok (.ireturn, 1) := by decide +kernel
set_option maxRecDepth 20000 in
theorem ggX10_gainsNow_X10_fewestOf : GoodIn wsX10_gainsNow wsX10_fewestOf := goodIn_r _ [7, 8, 9, 10, 11, 12, 13, 14, 15, 6, 16, 17, 18, 19, 20, 21, 22, 23, 24, 25, 26, 27, 28, 29, 30, 31, 32, 33, 34, 35, 36, 37, 38, 39, 40, 41, 42, 43, 44, 45, 46, 47, 48, 49, 50, 51, 52, 53, 54, 55, 56, 57, 58, 59, 1, 60, 61, 62, 63, 64, 65, 66, 67, 68, 69, 70, 71, 72, 73, 74, 75, 76, 77, 78, 79, 80, 81, 82, 83, 84, 85, 86, 87, 88, 89, 90, 91, 92, 93, 94, 95, 96, 97, 98, 99, 100, 101, 102, 103, 104, 105] (by decide +kernel) (by decide +kernel)
set_option maxRecDepth 20000 in
theorem gX10_gainsNow_X10_fewestOf : GoodIn wsX10_gainsNow (wsV RX10 186 RX10 yX10_fewestOf wsX10_fewestOf) := goodIn_app (goodIn_of _ (by decide +kernel)) ggX10_gainsNow_X10_fewestOf
theorem dX10_gainsNow_0 : decode cX10_gainsNow 0 = .ok (.iconst 0, 1) := by decide +kernel
theorem dX10_gainsNow_1 : decode cX10_gainsNow 1 = .ok (.istore_n 3, 1) := by decide +kernel
theorem dX10_gainsNow_2 : decode cX10_gainsNow 2 = .ok (.aload_n 0, 1) := by decide +kernel
theorem dX10_gainsNow_3 : decode cX10_gainsNow 3 = .ok (.getfield 16, 3) := by decide +kernel
theorem dX10_gainsNow_6 : decode cX10_gainsNow 6 = .ok (.iload_n 1, 1) := by decide +kernel
theorem dX10_gainsNow_7 : decode cX10_gainsNow 7 = .ok (.iaload, 1) := by decide +kernel
theorem dX10_gainsNow_8 : decode cX10_gainsNow 8 = .ok (.istore 4, 2) := by decide +kernel
theorem dX10_gainsNow_10 : decode cX10_gainsNow 10 = .ok (.iconst 0, 1) := by decide +kernel
theorem dX10_gainsNow_11 : decode cX10_gainsNow 11 = .ok (.istore 5, 2) := by decide +kernel
theorem dX10_gainsNow_13 : decode cX10_gainsNow 13 = .ok (.iload 5, 2) := by decide +kernel
theorem dX10_gainsNow_15 : decode cX10_gainsNow 15 = .ok (.aload_n 0, 1) := by decide +kernel
theorem dX10_gainsNow_16 : decode cX10_gainsNow 16 = .ok (.getfield 110, 3) := by decide +kernel
theorem dX10_gainsNow_19 : decode cX10_gainsNow 19 = .ok (.if_icmp .ge 72, 3) := by decide +kernel
theorem dX10_gainsNow_22 : decode cX10_gainsNow 22 = .ok (.aload_n 0, 1) := by decide +kernel
theorem dX10_gainsNow_23 : decode cX10_gainsNow 23 = .ok (.iload 5, 2) := by decide +kernel
theorem dX10_gainsNow_25 : decode cX10_gainsNow 25 = .ok (.iload_n 1, 1) := by decide +kernel
theorem dX10_gainsNow_26 : decode cX10_gainsNow 26 = .ok (.invokevirtual 186, 3) := by decide +kernel
theorem dX10_gainsNow_29 : decode cX10_gainsNow 29 = .ok (.istore 6, 2) := by decide +kernel
theorem dX10_gainsNow_31 : decode cX10_gainsNow 31 = .ok (.aload_n 0, 1) := by decide +kernel
theorem dX10_gainsNow_32 : decode cX10_gainsNow 32 = .ok (.getfield 16, 3) := by decide +kernel
theorem dX10_gainsNow_35 : decode cX10_gainsNow 35 = .ok (.iload_n 1, 1) := by decide +kernel
theorem dX10_gainsNow_36 : decode cX10_gainsNow 36 = .ok (.iload_n 2, 1) := by decide +kernel
theorem dX10_gainsNow_37 : decode cX10_gainsNow 37 = .ok (.iastore, 1) := by decide +kernel
theorem dX10_gainsNow_38 : decode cX10_gainsNow 38 = .ok (.aload_n 0, 1) := by decide +kernel
theorem dX10_gainsNow_39 : decode cX10_gainsNow 39 = .ok (.iload 5, 2) := by decide +kernel
theorem dX10_gainsNow_41 : decode cX10_gainsNow 41 = .ok (.iload_n 1, 1) := by decide +kernel
theorem dX10_gainsNow_42 : decode cX10_gainsNow 42 = .ok (.invokevirtual 186, 3) := by decide +kernel
theorem dX10_gainsNow_45 : decode cX10_gainsNow 45 = .ok (.istore 7, 2) := by decide +kernel
theorem dX10_gainsNow_47 : decode cX10_gainsNow 47 = .ok (.aload_n 0, 1) := by decide +kernel
theorem dX10_gainsNow_48 : decode cX10_gainsNow 48 = .ok (.getfield 16, 3) := by decide +kernel
theorem dX10_gainsNow_51 : decode cX10_gainsNow 51 = .ok (.iload_n 1, 1) := by decide +kernel
theorem dX10_gainsNow_52 : decode cX10_gainsNow 52 = .ok (.iload 4, 2) := by decide +kernel
theorem dX10_gainsNow_54 : decode cX10_gainsNow 54 = .ok (.iastore, 1) := by decide +kernel
theorem dX10_gainsNow_55 : decode cX10_gainsNow 55 = .ok (.iload_n 3, 1) := by decide +kernel
theorem dX10_gainsNow_56 : decode cX10_gainsNow 56 = .ok (.iload 7, 2) := by decide +kernel
theorem dX10_gainsNow_58 : decode cX10_gainsNow 58 = .ok (.iconst (-1), 1) := by decide +kernel
theorem dX10_gainsNow_59 : decode cX10_gainsNow 59 = .ok (.if_icmp .eq 23, 3) := by decide +kernel
theorem dX10_gainsNow_62 : decode cX10_gainsNow 62 = .ok (.iload 6, 2) := by decide +kernel
theorem dX10_gainsNow_64 : decode cX10_gainsNow 64 = .ok (.iconst (-1), 1) := by decide +kernel
theorem dX10_gainsNow_65 : decode cX10_gainsNow 65 = .ok (.if_icmp .eq 10, 3) := by decide +kernel
theorem dX10_gainsNow_68 : decode cX10_gainsNow 68 = .ok (.iload 7, 2) := by decide +kernel
theorem dX10_gainsNow_70 : decode cX10_gainsNow 70 = .ok (.iload 6, 2) := by decide +kernel
theorem dX10_gainsNow_72 : decode cX10_gainsNow 72 = .ok (.if_icmp .ge 10, 3) := by decide +kernel
theorem dX10_gainsNow_75 : decode cX10_gainsNow 75 = .ok (.iconst 1, 1) := by decide +kernel
theorem dX10_gainsNow_76 : decode cX10_gainsNow 76 = .ok (.iload 5, 2) := by decide +kernel
theorem dX10_gainsNow_78 : decode cX10_gainsNow 78 = .ok (.ishl, 1) := by decide +kernel
theorem dX10_gainsNow_79 : decode cX10_gainsNow 79 = .ok (.goto 4, 3) := by decide +kernel
theorem dX10_gainsNow_82 : decode cX10_gainsNow 82 = .ok (.iconst 0, 1) := by decide +kernel
theorem dX10_gainsNow_83 : decode cX10_gainsNow 83 = .ok (.ior, 1) := by decide +kernel
theorem dX10_gainsNow_84 : decode cX10_gainsNow 84 = .ok (.istore_n 3, 1) := by decide +kernel
theorem dX10_gainsNow_85 : decode cX10_gainsNow 85 = .ok (.iinc 5 1, 3) := by decide +kernel
theorem dX10_gainsNow_88 : decode cX10_gainsNow 88 = .ok (.goto (-75), 3) := by decide +kernel
theorem dX10_gainsNow_91 : decode cX10_gainsNow 91 = .ok (.iload_n 3, 1) := by decide +kernel
theorem dX10_gainsNow_92 : decode cX10_gainsNow 92 = .ok (.ireturn, 1) := by decide +kernel
set_option maxRecDepth 20000 in
theorem ggX10_gains_X10_isTown : GoodIn wsX10_gains wsX10_isTown := goodIn_r _ [5, 6, 7, 4, 8] (by decide +kernel) (by decide +kernel)
set_option maxRecDepth 20000 in
theorem gX10_gains_X10_isTown : GoodIn wsX10_gains (va_wsS RX10 122 yX10_isTown wsX10_isTown) := goodIn_app (goodIn_of _ (by decide +kernel)) ggX10_gains_X10_isTown
set_option maxRecDepth 20000 in
theorem ggX10_gains_X10_within : GoodIn wsX10_gains wsX10_within := goodIn_r _ [8] (by decide +kernel) (by decide +kernel)
set_option maxRecDepth 20000 in
theorem gX10_gains_X10_within : GoodIn wsX10_gains (va_wsS RX10 75 yX10_within wsX10_within) := goodIn_app (goodIn_of _ (by decide +kernel)) ggX10_gains_X10_within
set_option maxRecDepth 20000 in
theorem ggX10_gains_X10_gainsNow : GoodIn wsX10_gains wsX10_gainsNow := goodIn_r _ [12, 13, 14, 15, 16, 17, 4, 18, 19, 20, 21, 22, 23, 24, 25, 26, 27, 28, 29, 30, 31, 32, 33, 34, 35, 36, 37, 38, 39, 40, 41, 6, 7, 8, 42, 43, 44, 45, 46, 47, 48, 49, 50, 51, 52, 53, 54, 55, 56, 57, 58, 59, 60, 61, 62, 63, 64, 65, 66, 67, 68, 69, 70, 71, 72, 73, 74, 75, 76, 77, 78, 79, 80, 81, 82, 83, 84, 85, 86, 87, 88, 89, 90, 91, 92, 93, 94, 95, 96, 97, 98, 99, 100, 101, 102, 103, 104, 105, 106, 107, 108, 109, 110, 111, 112, 113] (by decide +kernel) (by decide +kernel)
set_option maxRecDepth 20000 in
theorem gX10_gains_X10_gainsNow : GoodIn wsX10_gains (wsV RX10 195 RX10 yX10_gainsNow wsX10_gainsNow) := goodIn_app (goodIn_of _ (by decide +kernel)) ggX10_gains_X10_gainsNow
theorem dX10_gains_0 : decode cX10_gains 0 = .ok (.iload_n 1, 1) := by decide +kernel
theorem dX10_gains_1 : decode cX10_gains 1 = .ok (.invokestatic 122, 3) := by decide +kernel
theorem dX10_gains_4 : decode cX10_gains 4 = .ok (.ifCond .ne 6, 3) := by decide +kernel
theorem dX10_gains_7 : decode cX10_gains 7 = .ok (.bipush (-101), 2) := by decide +kernel
theorem dX10_gains_9 : decode cX10_gains 9 = .ok (.ireturn, 1) := by decide +kernel
theorem dX10_gains_10 : decode cX10_gains 10 = .ok (.iload_n 2, 1) := by decide +kernel
theorem dX10_gains_11 : decode cX10_gains 11 = .ok (.iconst 1, 1) := by decide +kernel
theorem dX10_gains_12 : decode cX10_gains 12 = .ok (.iconst 4, 1) := by decide +kernel
theorem dX10_gains_13 : decode cX10_gains 13 = .ok (.invokestatic 75, 3) := by decide +kernel
theorem dX10_gains_16 : decode cX10_gains 16 = .ok (.ifCond .ne 6, 3) := by decide +kernel
theorem dX10_gains_19 : decode cX10_gains 19 = .ok (.bipush (-102), 2) := by decide +kernel
theorem dX10_gains_21 : decode cX10_gains 21 = .ok (.ireturn, 1) := by decide +kernel
theorem dX10_gains_22 : decode cX10_gains 22 = .ok (.aload_n 0, 1) := by decide +kernel
theorem dX10_gains_23 : decode cX10_gains 23 = .ok (.getfield 104, 3) := by decide +kernel
theorem dX10_gains_26 : decode cX10_gains 26 = .ok (.ifCond .eq 12, 3) := by decide +kernel
theorem dX10_gains_29 : decode cX10_gains 29 = .ok (.aload_n 0, 1) := by decide +kernel
theorem dX10_gains_30 : decode cX10_gains 30 = .ok (.iload_n 1, 1) := by decide +kernel
theorem dX10_gains_31 : decode cX10_gains 31 = .ok (.iload_n 2, 1) := by decide +kernel
theorem dX10_gains_32 : decode cX10_gains 32 = .ok (.invokevirtual 195, 3) := by decide +kernel
theorem dX10_gains_35 : decode cX10_gains 35 = .ok (.goto 5, 3) := by decide +kernel
theorem dX10_gains_38 : decode cX10_gains 38 = .ok (.bipush (-103), 2) := by decide +kernel
theorem dX10_gains_40 : decode cX10_gains 40 = .ok (.ireturn, 1) := by decide +kernel
set_option maxRecDepth 20000 in
theorem ggX10_trail_X10_isPerson : GoodIn wsX10_trail wsX10_isPerson := goodIn_r _ [9, 10, 11, 12, 8, 13, 14, 15, 16, 17, 18, 19, 20, 21, 22, 23, 24, 25, 26, 27, 28, 29, 30, 31, 32, 33, 34, 35, 36, 37, 38, 39, 40, 41, 42, 43, 44, 45, 46, 47, 48, 49, 50, 51] (by decide +kernel) (by decide +kernel)
set_option maxRecDepth 20000 in
theorem gX10_trail_X10_isPerson : GoodIn wsX10_trail (wsV RX10 157 RX10 yX10_isPerson wsX10_isPerson) := goodIn_app (goodIn_of _ (by decide +kernel)) ggX10_trail_X10_isPerson
theorem dX10_trail_0 : decode cX10_trail 0 = .ok (.aload_n 0, 1) := by decide +kernel
theorem dX10_trail_1 : decode cX10_trail 1 = .ok (.iload_n 1, 1) := by decide +kernel
theorem dX10_trail_2 : decode cX10_trail 2 = .ok (.invokevirtual 157, 3) := by decide +kernel
theorem dX10_trail_5 : decode cX10_trail 5 = .ok (.ifCond .ne 6, 3) := by decide +kernel
theorem dX10_trail_8 : decode cX10_trail 8 = .ok (.bipush (-101), 2) := by decide +kernel
theorem dX10_trail_10 : decode cX10_trail 10 = .ok (.ireturn, 1) := by decide +kernel
theorem dX10_trail_11 : decode cX10_trail 11 = .ok (.aload_n 0, 1) := by decide +kernel
theorem dX10_trail_12 : decode cX10_trail 12 = .ok (.getfield 116, 3) := by decide +kernel
theorem dX10_trail_15 : decode cX10_trail 15 = .ok (.istore_n 2, 1) := by decide +kernel
theorem dX10_trail_16 : decode cX10_trail 16 = .ok (.aload_n 0, 1) := by decide +kernel
theorem dX10_trail_17 : decode cX10_trail 17 = .ok (.iload_n 1, 1) := by decide +kernel
theorem dX10_trail_18 : decode cX10_trail 18 = .ok (.putfield 28, 3) := by decide +kernel
theorem dX10_trail_21 : decode cX10_trail 21 = .ok (.aload_n 0, 1) := by decide +kernel
theorem dX10_trail_22 : decode cX10_trail 22 = .ok (.aload_n 0, 1) := by decide +kernel
theorem dX10_trail_23 : decode cX10_trail 23 = .ok (.getfield 25, 3) := by decide +kernel
theorem dX10_trail_26 : decode cX10_trail 26 = .ok (.iload_n 1, 1) := by decide +kernel
theorem dX10_trail_27 : decode cX10_trail 27 = .ok (.iaload, 1) := by decide +kernel
theorem dX10_trail_28 : decode cX10_trail 28 = .ok (.putfield 198, 3) := by decide +kernel
theorem dX10_trail_31 : decode cX10_trail 31 = .ok (.aload_n 0, 1) := by decide +kernel
theorem dX10_trail_32 : decode cX10_trail 32 = .ok (.iconst 0, 1) := by decide +kernel
theorem dX10_trail_33 : decode cX10_trail 33 = .ok (.putfield 116, 3) := by decide +kernel
theorem dX10_trail_36 : decode cX10_trail 36 = .ok (.iload_n 2, 1) := by decide +kernel
theorem dX10_trail_37 : decode cX10_trail 37 = .ok (.ireturn, 1) := by decide +kernel
set_option maxRecDepth 20000 in
theorem ggX10_next_X10_within : GoodIn wsX10_next wsX10_within := goodIn_r _ [7] (by decide +kernel) (by decide +kernel)
set_option maxRecDepth 20000 in
theorem gX10_next_X10_within : GoodIn wsX10_next (va_wsS RX10 75 yX10_within wsX10_within) := goodIn_app (goodIn_of _ (by decide +kernel)) ggX10_next_X10_within
theorem dX10_next_0 : decode cX10_next 0 = .ok (.aload_n 0, 1) := by decide +kernel
theorem dX10_next_1 : decode cX10_next 1 = .ok (.getfield 28, 3) := by decide +kernel
theorem dX10_next_4 : decode cX10_next 4 = .ok (.iconst (-1), 1) := by decide +kernel
theorem dX10_next_5 : decode cX10_next 5 = .ok (.if_icmp .ne 6, 3) := by decide +kernel
theorem dX10_next_8 : decode cX10_next 8 = .ok (.bipush (-103), 2) := by decide +kernel
theorem dX10_next_10 : decode cX10_next 10 = .ok (.ireturn, 1) := by decide +kernel
theorem dX10_next_11 : decode cX10_next 11 = .ok (.iload_n 1, 1) := by decide +kernel
theorem dX10_next_12 : decode cX10_next 12 = .ok (.iconst 0, 1) := by decide +kernel
theorem dX10_next_13 : decode cX10_next 13 = .ok (.sipush 624, 3) := by decide +kernel
theorem dX10_next_16 : decode cX10_next 16 = .ok (.invokestatic 75, 3) := by decide +kernel
theorem dX10_next_19 : decode cX10_next 19 = .ok (.ifCond .ne 6, 3) := by decide +kernel
theorem dX10_next_22 : decode cX10_next 22 = .ok (.bipush (-102), 2) := by decide +kernel
theorem dX10_next_24 : decode cX10_next 24 = .ok (.ireturn, 1) := by decide +kernel
theorem dX10_next_25 : decode cX10_next 25 = .ok (.aload_n 0, 1) := by decide +kernel
theorem dX10_next_26 : decode cX10_next 26 = .ok (.getfield 116, 3) := by decide +kernel
theorem dX10_next_29 : decode cX10_next 29 = .ok (.iconst 5, 1) := by decide +kernel
theorem dX10_next_30 : decode cX10_next 30 = .ok (.if_icmp .ne 6, 3) := by decide +kernel
theorem dX10_next_33 : decode cX10_next 33 = .ok (.bipush (-104), 2) := by decide +kernel
theorem dX10_next_35 : decode cX10_next 35 = .ok (.ireturn, 1) := by decide +kernel
theorem dX10_next_36 : decode cX10_next 36 = .ok (.aload_n 0, 1) := by decide +kernel
theorem dX10_next_37 : decode cX10_next 37 = .ok (.getfield 32, 3) := by decide +kernel
theorem dX10_next_40 : decode cX10_next 40 = .ok (.aload_n 0, 1) := by decide +kernel
theorem dX10_next_41 : decode cX10_next 41 = .ok (.getfield 116, 3) := by decide +kernel
theorem dX10_next_44 : decode cX10_next 44 = .ok (.iload_n 1, 1) := by decide +kernel
theorem dX10_next_45 : decode cX10_next 45 = .ok (.iastore, 1) := by decide +kernel
theorem dX10_next_46 : decode cX10_next 46 = .ok (.aload_n 0, 1) := by decide +kernel
theorem dX10_next_47 : decode cX10_next 47 = .ok (.dup, 1) := by decide +kernel
theorem dX10_next_48 : decode cX10_next 48 = .ok (.getfield 116, 3) := by decide +kernel
theorem dX10_next_51 : decode cX10_next 51 = .ok (.iconst 1, 1) := by decide +kernel
theorem dX10_next_52 : decode cX10_next 52 = .ok (.iadd, 1) := by decide +kernel
theorem dX10_next_53 : decode cX10_next 53 = .ok (.putfield 116, 3) := by decide +kernel
theorem dX10_next_56 : decode cX10_next 56 = .ok (.aload_n 0, 1) := by decide +kernel
theorem dX10_next_57 : decode cX10_next 57 = .ok (.getfield 116, 3) := by decide +kernel
theorem dX10_next_60 : decode cX10_next 60 = .ok (.ireturn, 1) := by decide +kernel
set_option maxRecDepth 20000 in
theorem ggX10_goTrail_X10_isAct : GoodIn wsX10_goTrail wsX10_isAct := goodIn_r _ [8, 9, 10, 7, 11] (by decide +kernel) (by decide +kernel)
set_option maxRecDepth 20000 in
theorem gX10_goTrail_X10_isAct : GoodIn wsX10_goTrail (va_wsS RX10 163 yX10_isAct wsX10_isAct) := goodIn_app (goodIn_of _ (by decide +kernel)) ggX10_goTrail_X10_isAct
set_option maxRecDepth 20000 in
theorem ggX10_goTrail_X10_behind : GoodIn wsX10_goTrail wsX10_behind := goodIn_r _ [15, 16, 17, 18, 7, 19, 20, 21, 22, 23, 24, 25, 26, 27, 28, 29, 30, 31, 32, 33, 34, 35, 36, 37, 38, 39, 40, 41, 42, 43, 44, 45, 46, 47, 48, 49, 50, 51, 52, 53, 54, 55, 56, 57, 58, 59, 60, 61, 62, 63, 64, 65, 66, 67, 68, 69, 70, 71, 72, 73, 74, 75, 76, 77, 78, 79, 80, 81, 82, 83, 84, 85, 86, 87, 88, 89, 90] (by decide +kernel) (by decide +kernel)
set_option maxRecDepth 20000 in
theorem gX10_goTrail_X10_behind : GoodIn wsX10_goTrail (wsV RX10 166 RX10 yX10_behind wsX10_behind) := goodIn_app (goodIn_of _ (by decide +kernel)) ggX10_goTrail_X10_behind
set_option maxRecDepth 20000 in
theorem ggX10_goTrail_X10_purseIn : GoodIn wsX10_goTrail wsX10_purseIn := goodIn_r _ [36] (by decide +kernel) (by decide +kernel)
set_option maxRecDepth 20000 in
theorem gX10_goTrail_X10_purseIn : GoodIn wsX10_goTrail (va_wsS RX10 129 yX10_purseIn wsX10_purseIn) := goodIn_app (goodIn_of _ (by decide +kernel)) ggX10_goTrail_X10_purseIn
set_option maxRecDepth 20000 in
theorem ggX10_goTrail_X10_townIn : GoodIn wsX10_goTrail wsX10_townIn := goodIn_r _ [19] (by decide +kernel) (by decide +kernel)
set_option maxRecDepth 20000 in
theorem gX10_goTrail_X10_townIn : GoodIn wsX10_goTrail (va_wsS RX10 119 yX10_townIn wsX10_townIn) := goodIn_app (goodIn_of _ (by decide +kernel)) ggX10_goTrail_X10_townIn
set_option maxRecDepth 20000 in
theorem ggX10_goTrail_X10_goodsIn : GoodIn wsX10_goTrail wsX10_goodsIn := goodIn_r _ [30] (by decide +kernel) (by decide +kernel)
set_option maxRecDepth 20000 in
theorem gX10_goTrail_X10_goodsIn : GoodIn wsX10_goTrail (va_wsS RX10 141 yX10_goodsIn wsX10_goodsIn) := goodIn_app (goodIn_of _ (by decide +kernel)) ggX10_goTrail_X10_goodsIn
theorem dX10_goTrail_0 : decode cX10_goTrail 0 = .ok (.iconst 0, 1) := by decide +kernel
theorem dX10_goTrail_1 : decode cX10_goTrail 1 = .ok (.istore_n 3, 1) := by decide +kernel
theorem dX10_goTrail_2 : decode cX10_goTrail 2 = .ok (.iload_n 3, 1) := by decide +kernel
theorem dX10_goTrail_3 : decode cX10_goTrail 3 = .ok (.bipush 64, 2) := by decide +kernel
theorem dX10_goTrail_5 : decode cX10_goTrail 5 = .ok (.if_icmp .ge 16, 3) := by decide +kernel
theorem dX10_goTrail_8 : decode cX10_goTrail 8 = .ok (.aload_n 0, 1) := by decide +kernel
theorem dX10_goTrail_9 : decode cX10_goTrail 9 = .ok (.getfield 61, 3) := by decide +kernel
theorem dX10_goTrail_12 : decode cX10_goTrail 12 = .ok (.iload_n 3, 1) := by decide +kernel
theorem dX10_goTrail_13 : decode cX10_goTrail 13 = .ok (.iconst 0, 1) := by decide +kernel
theorem dX10_goTrail_14 : decode cX10_goTrail 14 = .ok (.iastore, 1) := by decide +kernel
theorem dX10_goTrail_15 : decode cX10_goTrail 15 = .ok (.iinc 3 1, 3) := by decide +kernel
theorem dX10_goTrail_18 : decode cX10_goTrail 18 = .ok (.goto (-16), 3) := by decide +kernel
theorem dX10_goTrail_21 : decode cX10_goTrail 21 = .ok (.iconst 0, 1) := by decide +kernel
theorem dX10_goTrail_22 : decode cX10_goTrail 22 = .ok (.istore_n 3, 1) := by decide +kernel
theorem dX10_goTrail_23 : decode cX10_goTrail 23 = .ok (.iload_n 3, 1) := by decide +kernel
theorem dX10_goTrail_24 : decode cX10_goTrail 24 = .ok (.bipush 64, 2) := by decide +kernel
theorem dX10_goTrail_26 : decode cX10_goTrail 26 = .ok (.if_icmp .ge 124, 3) := by decide +kernel
theorem dX10_goTrail_29 : decode cX10_goTrail 29 = .ok (.iload_n 3, 1) := by decide +kernel
theorem dX10_goTrail_30 : decode cX10_goTrail 30 = .ok (.iconst 4, 1) := by decide +kernel
theorem dX10_goTrail_31 : decode cX10_goTrail 31 = .ok (.irem, 1) := by decide +kernel
theorem dX10_goTrail_32 : decode cX10_goTrail 32 = .ok (.iconst 4, 1) := by decide +kernel
theorem dX10_goTrail_33 : decode cX10_goTrail 33 = .ok (.iload_n 1, 1) := by decide +kernel
theorem dX10_goTrail_34 : decode cX10_goTrail 34 = .ok (.imul, 1) := by decide +kernel
theorem dX10_goTrail_35 : decode cX10_goTrail 35 = .ok (.iadd, 1) := by decide +kernel
theorem dX10_goTrail_36 : decode cX10_goTrail 36 = .ok (.sipush 2500, 3) := by decide +kernel
theorem dX10_goTrail_39 : decode cX10_goTrail 39 = .ok (.iload_n 3, 1) := by decide +kernel
theorem dX10_goTrail_40 : decode cX10_goTrail 40 = .ok (.iconst 4, 1) := by decide +kernel
theorem dX10_goTrail_41 : decode cX10_goTrail 41 = .ok (.idiv, 1) := by decide +kernel
theorem dX10_goTrail_42 : decode cX10_goTrail 42 = .ok (.imul, 1) := by decide +kernel
theorem dX10_goTrail_43 : decode cX10_goTrail 43 = .ok (.iadd, 1) := by decide +kernel
theorem dX10_goTrail_44 : decode cX10_goTrail 44 = .ok (.istore 4, 2) := by decide +kernel
theorem dX10_goTrail_46 : decode cX10_goTrail 46 = .ok (.iconst 0, 1) := by decide +kernel
theorem dX10_goTrail_47 : decode cX10_goTrail 47 = .ok (.istore 5, 2) := by decide +kernel
theorem dX10_goTrail_49 : decode cX10_goTrail 49 = .ok (.iload 5, 2) := by decide +kernel
theorem dX10_goTrail_51 : decode cX10_goTrail 51 = .ok (.bipush 24, 2) := by decide +kernel
theorem dX10_goTrail_53 : decode cX10_goTrail 53 = .ok (.if_icmp .ge 91, 3) := by decide +kernel
theorem dX10_goTrail_56 : decode cX10_goTrail 56 = .ok (.aload_n 0, 1) := by decide +kernel
theorem dX10_goTrail_57 : decode cX10_goTrail 57 = .ok (.getfield 58, 3) := by decide +kernel
theorem dX10_goTrail_60 : decode cX10_goTrail 60 = .ok (.iload_n 3, 1) := by decide +kernel
theorem dX10_goTrail_61 : decode cX10_goTrail 61 = .ok (.iaload, 1) := by decide +kernel
theorem dX10_goTrail_62 : decode cX10_goTrail 62 = .ok (.ifCond .le 82, 3) := by decide +kernel
theorem dX10_goTrail_65 : decode cX10_goTrail 65 = .ok (.iload 5, 2) := by decide +kernel
theorem dX10_goTrail_67 : decode cX10_goTrail 67 = .ok (.invokestatic 163, 3) := by decide +kernel
theorem dX10_goTrail_70 : decode cX10_goTrail 70 = .ok (.ifCond .eq 23, 3) := by decide +kernel
theorem dX10_goTrail_73 : decode cX10_goTrail 73 = .ok (.aload_n 0, 1) := by decide +kernel
theorem dX10_goTrail_74 : decode cX10_goTrail 74 = .ok (.aload_n 0, 1) := by decide +kernel
theorem dX10_goTrail_75 : decode cX10_goTrail 75 = .ok (.getfield 22, 3) := by decide +kernel
theorem dX10_goTrail_78 : decode cX10_goTrail 78 = .ok (.aload_n 0, 1) := by decide +kernel
theorem dX10_goTrail_79 : decode cX10_goTrail 79 = .ok (.getfield 28, 3) := by decide +kernel
theorem dX10_goTrail_82 : decode cX10_goTrail 82 = .ok (.iaload, 1) := by decide +kernel
theorem dX10_goTrail_83 : decode cX10_goTrail 83 = .ok (.iload 4, 2) := by decide +kernel
theorem dX10_goTrail_85 : decode cX10_goTrail 85 = .ok (.iload 5, 2) := by decide +kernel
theorem dX10_goTrail_87 : decode cX10_goTrail 87 = .ok (.invokevirtual 166, 3) := by decide +kernel
theorem dX10_goTrail_90 : decode cX10_goTrail 90 = .ok (.goto 4, 3) := by decide +kernel
theorem dX10_goTrail_93 : decode cX10_goTrail 93 = .ok (.iconst (-1), 1) := by decide +kernel
theorem dX10_goTrail_94 : decode cX10_goTrail 94 = .ok (.istore 6, 2) := by decide +kernel
theorem dX10_goTrail_96 : decode cX10_goTrail 96 = .ok (.iload 6, 2) := by decide +kernel
theorem dX10_goTrail_98 : decode cX10_goTrail 98 = .ok (.iconst (-1), 1) := by decide +kernel
theorem dX10_goTrail_99 : decode cX10_goTrail 99 = .ok (.if_icmp .eq 39, 3) := by decide +kernel
theorem dX10_goTrail_102 : decode cX10_goTrail 102 = .ok (.iload 6, 2) := by decide +kernel
theorem dX10_goTrail_104 : decode cX10_goTrail 104 = .ok (.invokestatic 129, 3) := by decide +kernel
theorem dX10_goTrail_107 : decode cX10_goTrail 107 = .ok (.iload_n 2, 1) := by decide +kernel
theorem dX10_goTrail_108 : decode cX10_goTrail 108 = .ok (.if_icmp .ne 30, 3) := by decide +kernel
theorem dX10_goTrail_111 : decode cX10_goTrail 111 = .ok (.aload_n 0, 1) := by decide +kernel
theorem dX10_goTrail_112 : decode cX10_goTrail 112 = .ok (.getfield 61, 3) := by decide +kernel
theorem dX10_goTrail_115 : decode cX10_goTrail 115 = .ok (.iload 6, 2) := by decide +kernel
theorem dX10_goTrail_117 : decode cX10_goTrail 117 = .ok (.invokestatic 119, 3) := by decide +kernel
theorem dX10_goTrail_120 : decode cX10_goTrail 120 = .ok (.iconst 4, 1) := by decide +kernel
theorem dX10_goTrail_121 : decode cX10_goTrail 121 = .ok (.iload 6, 2) := by decide +kernel
theorem dX10_goTrail_123 : decode cX10_goTrail 123 = .ok (.invokestatic 141, 3) := by decide +kernel
theorem dX10_goTrail_126 : decode cX10_goTrail 126 = .ok (.imul, 1) := by decide +kernel
theorem dX10_goTrail_127 : decode cX10_goTrail 127 = .ok (.iadd, 1) := by decide +kernel
theorem dX10_goTrail_128 : decode cX10_goTrail 128 = .ok (.dup2, 1) := by decide +kernel
theorem dX10_goTrail_129 : decode cX10_goTrail 129 = .ok (.iaload, 1) := by decide +kernel
theorem dX10_goTrail_130 : decode cX10_goTrail 130 = .ok (.aload_n 0, 1) := by decide +kernel
theorem dX10_goTrail_131 : decode cX10_goTrail 131 = .ok (.getfield 58, 3) := by decide +kernel
theorem dX10_goTrail_134 : decode cX10_goTrail 134 = .ok (.iload_n 3, 1) := by decide +kernel
theorem dX10_goTrail_135 : decode cX10_goTrail 135 = .ok (.iaload, 1) := by decide +kernel
theorem dX10_goTrail_136 : decode cX10_goTrail 136 = .ok (.iadd, 1) := by decide +kernel
theorem dX10_goTrail_137 : decode cX10_goTrail 137 = .ok (.iastore, 1) := by decide +kernel
theorem dX10_goTrail_138 : decode cX10_goTrail 138 = .ok (.iinc 5 1, 3) := by decide +kernel
theorem dX10_goTrail_141 : decode cX10_goTrail 141 = .ok (.goto (-92), 3) := by decide +kernel
theorem dX10_goTrail_144 : decode cX10_goTrail 144 = .ok (.iinc 3 1, 3) := by decide +kernel
theorem dX10_goTrail_147 : decode cX10_goTrail 147 = .ok (.goto (-124), 3) := by decide +kernel
theorem dX10_goTrail_150 : decode cX10_goTrail 150 = .ok (.iconst 0, 1) := by decide +kernel
theorem dX10_goTrail_151 : decode cX10_goTrail 151 = .ok (.istore_n 3, 1) := by decide +kernel
theorem dX10_goTrail_152 : decode cX10_goTrail 152 = .ok (.iload_n 3, 1) := by decide +kernel
theorem dX10_goTrail_153 : decode cX10_goTrail 153 = .ok (.bipush 64, 2) := by decide +kernel
theorem dX10_goTrail_155 : decode cX10_goTrail 155 = .ok (.if_icmp .ge 21, 3) := by decide +kernel
theorem dX10_goTrail_158 : decode cX10_goTrail 158 = .ok (.aload_n 0, 1) := by decide +kernel
theorem dX10_goTrail_159 : decode cX10_goTrail 159 = .ok (.getfield 58, 3) := by decide +kernel
theorem dX10_goTrail_162 : decode cX10_goTrail 162 = .ok (.iload_n 3, 1) := by decide +kernel
theorem dX10_goTrail_163 : decode cX10_goTrail 163 = .ok (.aload_n 0, 1) := by decide +kernel
theorem dX10_goTrail_164 : decode cX10_goTrail 164 = .ok (.getfield 61, 3) := by decide +kernel
theorem dX10_goTrail_167 : decode cX10_goTrail 167 = .ok (.iload_n 3, 1) := by decide +kernel
theorem dX10_goTrail_168 : decode cX10_goTrail 168 = .ok (.iaload, 1) := by decide +kernel
theorem dX10_goTrail_169 : decode cX10_goTrail 169 = .ok (.iastore, 1) := by decide +kernel
theorem dX10_goTrail_170 : decode cX10_goTrail 170 = .ok (.iinc 3 1, 3) := by decide +kernel
theorem dX10_goTrail_173 : decode cX10_goTrail 173 = .ok (.goto (-21), 3) := by decide +kernel
theorem dX10_goTrail_176 : decode cX10_goTrail 176 = .ok (.return_, 1) := by decide +kernel
set_option maxRecDepth 20000 in
theorem ggX10_layTrail_X10_townIn : GoodIn wsX10_layTrail wsX10_townIn := goodIn_r _ [8] (by decide +kernel) (by decide +kernel)
set_option maxRecDepth 20000 in
theorem gX10_layTrail_X10_townIn : GoodIn wsX10_layTrail (va_wsS RX10 119 yX10_townIn wsX10_townIn) := goodIn_app (goodIn_of _ (by decide +kernel)) ggX10_layTrail_X10_townIn
set_option maxRecDepth 20000 in
theorem ggX10_layTrail_X10_goodsIn : GoodIn wsX10_layTrail wsX10_goodsIn := goodIn_r _ [11] (by decide +kernel) (by decide +kernel)
set_option maxRecDepth 20000 in
theorem gX10_layTrail_X10_goodsIn : GoodIn wsX10_layTrail (va_wsS RX10 141 yX10_goodsIn wsX10_goodsIn) := goodIn_app (goodIn_of _ (by decide +kernel)) ggX10_layTrail_X10_goodsIn
set_option maxRecDepth 20000 in
theorem ggX10_layTrail_X10_purseIn : GoodIn wsX10_layTrail wsX10_purseIn := goodIn_r _ [14] (by decide +kernel) (by decide +kernel)
set_option maxRecDepth 20000 in
theorem gX10_layTrail_X10_purseIn : GoodIn wsX10_layTrail (va_wsS RX10 129 yX10_purseIn wsX10_purseIn) := goodIn_app (goodIn_of _ (by decide +kernel)) ggX10_layTrail_X10_purseIn
set_option maxRecDepth 20000 in
theorem ggX10_layTrail_X10_goTrail : GoodIn wsX10_layTrail wsX10_goTrail := goodIn_r _ [18, 19, 1, 20, 21, 22, 23, 7, 24, 25, 26, 27, 28, 29, 30, 31, 32, 5, 6, 8, 33, 34, 35, 36, 37, 38, 39, 40, 9, 10, 11, 41, 42, 43, 12, 13, 14, 44, 45, 46, 47, 48, 49, 50, 51, 52, 53, 54, 55, 56, 57, 58, 59, 60, 61, 62, 63, 64, 65, 66, 67, 68, 69, 70, 71, 72, 73, 74, 75, 76, 77, 78, 79, 80, 81, 82, 83, 84, 85, 86, 87, 88, 89, 90, 91, 92, 93, 94, 95, 96, 97] (by decide +kernel) (by decide +kernel)
set_option maxRecDepth 20000 in
theorem gX10_layTrail_X10_goTrail : GoodIn wsX10_layTrail (wsV RX10 201 RX10 yX10_goTrail wsX10_goTrail) := goodIn_app (goodIn_of _ (by decide +kernel)) ggX10_layTrail_X10_goTrail
theorem dX10_layTrail_0 : decode cX10_layTrail 0 = .ok (.iconst 0, 1) := by decide +kernel
theorem dX10_layTrail_1 : decode cX10_layTrail 1 = .ok (.istore_n 1, 1) := by decide +kernel
theorem dX10_layTrail_2 : decode cX10_layTrail 2 = .ok (.iload_n 1, 1) := by decide +kernel
theorem dX10_layTrail_3 : decode cX10_layTrail 3 = .ok (.bipush 64, 2) := by decide +kernel
theorem dX10_layTrail_5 : decode cX10_layTrail 5 = .ok (.if_icmp .ge 41, 3) := by decide +kernel
theorem dX10_layTrail_8 : decode cX10_layTrail 8 = .ok (.aload_n 0, 1) := by decide +kernel
theorem dX10_layTrail_9 : decode cX10_layTrail 9 = .ok (.getfield 58, 3) := by decide +kernel
theorem dX10_layTrail_12 : decode cX10_layTrail 12 = .ok (.iload_n 1, 1) := by decide +kernel
theorem dX10_layTrail_13 : decode cX10_layTrail 13 = .ok (.iload_n 1, 1) := by decide +kernel
theorem dX10_layTrail_14 : decode cX10_layTrail 14 = .ok (.aload_n 0, 1) := by decide +kernel
theorem dX10_layTrail_15 : decode cX10_layTrail 15 = .ok (.getfield 198, 3) := by decide +kernel
theorem dX10_layTrail_18 : decode cX10_layTrail 18 = .ok (.invokestatic 119, 3) := by decide +kernel
theorem dX10_layTrail_21 : decode cX10_layTrail 21 = .ok (.iconst 4, 1) := by decide +kernel
theorem dX10_layTrail_22 : decode cX10_layTrail 22 = .ok (.aload_n 0, 1) := by decide +kernel
theorem dX10_layTrail_23 : decode cX10_layTrail 23 = .ok (.getfield 198, 3) := by decide +kernel
theorem dX10_layTrail_26 : decode cX10_layTrail 26 = .ok (.invokestatic 141, 3) := by decide +kernel
theorem dX10_layTrail_29 : decode cX10_layTrail 29 = .ok (.imul, 1) := by decide +kernel
theorem dX10_layTrail_30 : decode cX10_layTrail 30 = .ok (.iadd, 1) := by decide +kernel
theorem dX10_layTrail_31 : decode cX10_layTrail 31 = .ok (.if_icmp .ne 7, 3) := by decide +kernel
theorem dX10_layTrail_34 : decode cX10_layTrail 34 = .ok (.iconst 1, 1) := by decide +kernel
theorem dX10_layTrail_35 : decode cX10_layTrail 35 = .ok (.goto 4, 3) := by decide +kernel
theorem dX10_layTrail_38 : decode cX10_layTrail 38 = .ok (.iconst 0, 1) := by decide +kernel
theorem dX10_layTrail_39 : decode cX10_layTrail 39 = .ok (.iastore, 1) := by decide +kernel
theorem dX10_layTrail_40 : decode cX10_layTrail 40 = .ok (.iinc 1 1, 3) := by decide +kernel
theorem dX10_layTrail_43 : decode cX10_layTrail 43 = .ok (.goto (-41), 3) := by decide +kernel
theorem dX10_layTrail_46 : decode cX10_layTrail 46 = .ok (.iconst 0, 1) := by decide +kernel
theorem dX10_layTrail_47 : decode cX10_layTrail 47 = .ok (.istore_n 1, 1) := by decide +kernel
theorem dX10_layTrail_48 : decode cX10_layTrail 48 = .ok (.iload_n 1, 1) := by decide +kernel
theorem dX10_layTrail_49 : decode cX10_layTrail 49 = .ok (.aload_n 0, 1) := by decide +kernel
theorem dX10_layTrail_50 : decode cX10_layTrail 50 = .ok (.getfield 116, 3) := by decide +kernel
theorem dX10_layTrail_53 : decode cX10_layTrail 53 = .ok (.if_icmp .ge 41, 3) := by decide +kernel
theorem dX10_layTrail_56 : decode cX10_layTrail 56 = .ok (.aload_n 0, 1) := by decide +kernel
theorem dX10_layTrail_57 : decode cX10_layTrail 57 = .ok (.iload_n 1, 1) := by decide +kernel
theorem dX10_layTrail_58 : decode cX10_layTrail 58 = .ok (.ifCond .ne 13, 3) := by decide +kernel
theorem dX10_layTrail_61 : decode cX10_layTrail 61 = .ok (.aload_n 0, 1) := by decide +kernel
theorem dX10_layTrail_62 : decode cX10_layTrail 62 = .ok (.getfield 198, 3) := by decide +kernel
theorem dX10_layTrail_65 : decode cX10_layTrail 65 = .ok (.invokestatic 129, 3) := by decide +kernel
theorem dX10_layTrail_68 : decode cX10_layTrail 68 = .ok (.goto 11, 3) := by decide +kernel
theorem dX10_layTrail_71 : decode cX10_layTrail 71 = .ok (.aload_n 0, 1) := by decide +kernel
theorem dX10_layTrail_72 : decode cX10_layTrail 72 = .ok (.getfield 32, 3) := by decide +kernel
theorem dX10_layTrail_75 : decode cX10_layTrail 75 = .ok (.iload_n 1, 1) := by decide +kernel
theorem dX10_layTrail_76 : decode cX10_layTrail 76 = .ok (.iconst 1, 1) := by decide +kernel
theorem dX10_layTrail_77 : decode cX10_layTrail 77 = .ok (.isub, 1) := by decide +kernel
theorem dX10_layTrail_78 : decode cX10_layTrail 78 = .ok (.iaload, 1) := by decide +kernel
theorem dX10_layTrail_79 : decode cX10_layTrail 79 = .ok (.aload_n 0, 1) := by decide +kernel
theorem dX10_layTrail_80 : decode cX10_layTrail 80 = .ok (.getfield 32, 3) := by decide +kernel
theorem dX10_layTrail_83 : decode cX10_layTrail 83 = .ok (.iload_n 1, 1) := by decide +kernel
theorem dX10_layTrail_84 : decode cX10_layTrail 84 = .ok (.iaload, 1) := by decide +kernel
theorem dX10_layTrail_85 : decode cX10_layTrail 85 = .ok (.invokevirtual 201, 3) := by decide +kernel
theorem dX10_layTrail_88 : decode cX10_layTrail 88 = .ok (.iinc 1 1, 3) := by decide +kernel
theorem dX10_layTrail_91 : decode cX10_layTrail 91 = .ok (.goto (-43), 3) := by decide +kernel
theorem dX10_layTrail_94 : decode cX10_layTrail 94 = .ok (.return_, 1) := by decide +kernel
set_option maxRecDepth 20000 in
theorem ggX10_waysNow_X10_layTrail : GoodIn wsX10_waysNow wsX10_layTrail := goodIn_r _ [6, 1, 7, 8, 9, 10, 11, 5, 12, 13, 14, 15, 16, 17, 18, 19, 20, 21, 22, 23, 24, 25, 26, 27, 28, 29, 30, 31, 32, 33, 34, 35, 36, 37, 38, 39, 40, 41, 42, 43, 44, 45, 46, 47, 48, 49, 50, 51, 52, 53, 54, 55, 56, 57, 58, 59, 60, 61, 62, 63, 64, 65, 66, 67, 68, 69, 70, 71, 72, 73, 74, 75, 76, 77, 78, 79, 80, 81, 82, 83, 84, 85, 86, 87, 88, 89, 90, 91, 92, 93, 94, 95, 96, 97, 98, 99, 100, 101] (by decide +kernel) (by decide +kernel)
set_option maxRecDepth 20000 in
theorem gX10_waysNow_X10_layTrail : GoodIn wsX10_waysNow (wsV RX10 204 RX10 yX10_layTrail wsX10_layTrail) := goodIn_app (goodIn_of _ (by decide +kernel)) ggX10_waysNow_X10_layTrail
theorem dX10_waysNow_0 : decode cX10_waysNow 0 = .ok (.aload_n 0, 1) := by decide +kernel
theorem dX10_waysNow_1 : decode cX10_waysNow 1 = .ok (.invokevirtual 204, 3) := by decide +kernel
theorem dX10_waysNow_4 : decode cX10_waysNow 4 = .ok (.iconst 0, 1) := by decide +kernel
theorem dX10_waysNow_5 : decode cX10_waysNow 5 = .ok (.istore_n 1, 1) := by decide +kernel
theorem dX10_waysNow_6 : decode cX10_waysNow 6 = .ok (.iconst 0, 1) := by decide +kernel
theorem dX10_waysNow_7 : decode cX10_waysNow 7 = .ok (.istore_n 2, 1) := by decide +kernel
theorem dX10_waysNow_8 : decode cX10_waysNow 8 = .ok (.iload_n 2, 1) := by decide +kernel
theorem dX10_waysNow_9 : decode cX10_waysNow 9 = .ok (.bipush 64, 2) := by decide +kernel
theorem dX10_waysNow_11 : decode cX10_waysNow 11 = .ok (.if_icmp .ge 18, 3) := by decide +kernel
theorem dX10_waysNow_14 : decode cX10_waysNow 14 = .ok (.iload_n 1, 1) := by decide +kernel
theorem dX10_waysNow_15 : decode cX10_waysNow 15 = .ok (.aload_n 0, 1) := by decide +kernel
theorem dX10_waysNow_16 : decode cX10_waysNow 16 = .ok (.getfield 58, 3) := by decide +kernel
theorem dX10_waysNow_19 : decode cX10_waysNow 19 = .ok (.iload_n 2, 1) := by decide +kernel
theorem dX10_waysNow_20 : decode cX10_waysNow 20 = .ok (.iaload, 1) := by decide +kernel
theorem dX10_waysNow_21 : decode cX10_waysNow 21 = .ok (.iadd, 1) := by decide +kernel
theorem dX10_waysNow_22 : decode cX10_waysNow 22 = .ok (.istore_n 1, 1) := by decide +kernel
theorem dX10_waysNow_23 : decode cX10_waysNow 23 = .ok (.iinc 2 1, 3) := by decide +kernel
theorem dX10_waysNow_26 : decode cX10_waysNow 26 = .ok (.goto (-18), 3) := by decide +kernel
theorem dX10_waysNow_29 : decode cX10_waysNow 29 = .ok (.iload_n 1, 1) := by decide +kernel
theorem dX10_waysNow_30 : decode cX10_waysNow 30 = .ok (.ireturn, 1) := by decide +kernel
set_option maxRecDepth 20000 in
theorem ggX10_endsNow_X10_layTrail : GoodIn wsX10_endsNow wsX10_layTrail := goodIn_r _ [6, 1, 7, 8, 9, 10, 11, 5, 12, 13, 14, 15, 16, 17, 18, 19, 20, 21, 22, 23, 24, 25, 26, 27, 28, 29, 30, 31, 32, 33, 34, 35, 36, 37, 38, 39, 40, 41, 42, 43, 44, 45, 46, 47, 48, 49, 50, 51, 52, 53, 54, 55, 56, 57, 58, 59, 60, 61, 62, 63, 64, 65, 66, 67, 68, 69, 70, 71, 72, 73, 74, 75, 76, 77, 78, 79, 80, 81, 82, 83, 84, 85, 86, 87, 88, 89, 90, 91, 92, 93, 94, 95, 96, 97, 98, 99, 100, 101] (by decide +kernel) (by decide +kernel)
set_option maxRecDepth 20000 in
theorem gX10_endsNow_X10_layTrail : GoodIn wsX10_endsNow (wsV RX10 204 RX10 yX10_layTrail wsX10_layTrail) := goodIn_app (goodIn_of _ (by decide +kernel)) ggX10_endsNow_X10_layTrail
theorem dX10_endsNow_0 : decode cX10_endsNow 0 = .ok (.aload_n 0, 1) := by decide +kernel
theorem dX10_endsNow_1 : decode cX10_endsNow 1 = .ok (.invokevirtual 204, 3) := by decide +kernel
theorem dX10_endsNow_4 : decode cX10_endsNow 4 = .ok (.iconst 0, 1) := by decide +kernel
theorem dX10_endsNow_5 : decode cX10_endsNow 5 = .ok (.istore_n 1, 1) := by decide +kernel
theorem dX10_endsNow_6 : decode cX10_endsNow 6 = .ok (.iconst 0, 1) := by decide +kernel
theorem dX10_endsNow_7 : decode cX10_endsNow 7 = .ok (.istore_n 2, 1) := by decide +kernel
theorem dX10_endsNow_8 : decode cX10_endsNow 8 = .ok (.iload_n 2, 1) := by decide +kernel
theorem dX10_endsNow_9 : decode cX10_endsNow 9 = .ok (.bipush 64, 2) := by decide +kernel
theorem dX10_endsNow_11 : decode cX10_endsNow 11 = .ok (.if_icmp .ge 30, 3) := by decide +kernel
theorem dX10_endsNow_14 : decode cX10_endsNow 14 = .ok (.iload_n 1, 1) := by decide +kernel
theorem dX10_endsNow_15 : decode cX10_endsNow 15 = .ok (.aload_n 0, 1) := by decide +kernel
theorem dX10_endsNow_16 : decode cX10_endsNow 16 = .ok (.getfield 58, 3) := by decide +kernel
theorem dX10_endsNow_19 : decode cX10_endsNow 19 = .ok (.iload_n 2, 1) := by decide +kernel
theorem dX10_endsNow_20 : decode cX10_endsNow 20 = .ok (.iaload, 1) := by decide +kernel
theorem dX10_endsNow_21 : decode cX10_endsNow 21 = .ok (.ifCond .le 11, 3) := by decide +kernel
theorem dX10_endsNow_24 : decode cX10_endsNow 24 = .ok (.iconst 1, 1) := by decide +kernel
theorem dX10_endsNow_25 : decode cX10_endsNow 25 = .ok (.iload_n 2, 1) := by decide +kernel
theorem dX10_endsNow_26 : decode cX10_endsNow 26 = .ok (.iconst 4, 1) := by decide +kernel
theorem dX10_endsNow_27 : decode cX10_endsNow 27 = .ok (.irem, 1) := by decide +kernel
theorem dX10_endsNow_28 : decode cX10_endsNow 28 = .ok (.ishl, 1) := by decide +kernel
theorem dX10_endsNow_29 : decode cX10_endsNow 29 = .ok (.goto 4, 3) := by decide +kernel
theorem dX10_endsNow_32 : decode cX10_endsNow 32 = .ok (.iconst 0, 1) := by decide +kernel
theorem dX10_endsNow_33 : decode cX10_endsNow 33 = .ok (.ior, 1) := by decide +kernel
theorem dX10_endsNow_34 : decode cX10_endsNow 34 = .ok (.istore_n 1, 1) := by decide +kernel
theorem dX10_endsNow_35 : decode cX10_endsNow 35 = .ok (.iinc 2 1, 3) := by decide +kernel
theorem dX10_endsNow_38 : decode cX10_endsNow 38 = .ok (.goto (-30), 3) := by decide +kernel
theorem dX10_endsNow_41 : decode cX10_endsNow 41 = .ok (.iload_n 1, 1) := by decide +kernel
theorem dX10_endsNow_42 : decode cX10_endsNow 42 = .ok (.ireturn, 1) := by decide +kernel
set_option maxRecDepth 20000 in
theorem ggX10_ways_X10_waysNow : GoodIn wsX10_ways wsX10_waysNow := goodIn_r _ [6, 7, 8, 9, 10, 5, 11, 12, 13, 14, 15, 16, 17, 18, 19, 20, 21, 22, 23, 24, 25, 26, 27, 28, 29, 1, 30, 31, 32, 33, 34, 35, 36, 37, 38, 39, 40, 41, 42, 43, 44, 45, 46, 47, 48, 49, 50, 51, 52, 53, 54, 55, 56, 57, 58, 59, 60, 61, 62, 63, 64, 65, 66, 67, 68, 69, 70, 71, 72, 73, 74, 75, 76, 77, 78, 79, 80, 81, 82, 83, 84, 85, 86, 87, 88, 89, 90, 91, 92, 93, 94, 95, 96, 97, 98, 99, 100, 101, 102, 103, 104, 105] (by decide +kernel) (by decide +kernel)
set_option maxRecDepth 20000 in
theorem gX10_ways_X10_waysNow : GoodIn wsX10_ways (wsV RX10 207 RX10 yX10_waysNow wsX10_waysNow) := goodIn_app (goodIn_of _ (by decide +kernel)) ggX10_ways_X10_waysNow
theorem dX10_ways_0 : decode cX10_ways 0 = .ok (.aload_n 0, 1) := by decide +kernel
theorem dX10_ways_1 : decode cX10_ways 1 = .ok (.getfield 28, 3) := by decide +kernel
theorem dX10_ways_4 : decode cX10_ways 4 = .ok (.iconst (-1), 1) := by decide +kernel
theorem dX10_ways_5 : decode cX10_ways 5 = .ok (.if_icmp .ne 8, 3) := by decide +kernel
theorem dX10_ways_8 : decode cX10_ways 8 = .ok (.bipush (-103), 2) := by decide +kernel
theorem dX10_ways_10 : decode cX10_ways 10 = .ok (.goto 7, 3) := by decide +kernel
theorem dX10_ways_13 : decode cX10_ways 13 = .ok (.aload_n 0, 1) := by decide +kernel
theorem dX10_ways_14 : decode cX10_ways 14 = .ok (.invokevirtual 207, 3) := by decide +kernel
theorem dX10_ways_17 : decode cX10_ways 17 = .ok (.ireturn, 1) := by decide +kernel
set_option maxRecDepth 20000 in
theorem ggX10_ends_X10_endsNow : GoodIn wsX10_ends wsX10_endsNow := goodIn_r _ [6, 7, 8, 9, 10, 5, 11, 12, 13, 14, 15, 16, 17, 18, 19, 20, 21, 22, 23, 24, 25, 26, 27, 28, 29, 1, 30, 31, 32, 33, 34, 35, 36, 37, 38, 39, 40, 41, 42, 43, 44, 45, 46, 47, 48, 49, 50, 51, 52, 53, 54, 55, 56, 57, 58, 59, 60, 61, 62, 63, 64, 65, 66, 67, 68, 69, 70, 71, 72, 73, 74, 75, 76, 77, 78, 79, 80, 81, 82, 83, 84, 85, 86, 87, 88, 89, 90, 91, 92, 93, 94, 95, 96, 97, 98, 99, 100, 101, 102, 103, 104, 105] (by decide +kernel) (by decide +kernel)
set_option maxRecDepth 20000 in
theorem gX10_ends_X10_endsNow : GoodIn wsX10_ends (wsV RX10 211 RX10 yX10_endsNow wsX10_endsNow) := goodIn_app (goodIn_of _ (by decide +kernel)) ggX10_ends_X10_endsNow
theorem dX10_ends_0 : decode cX10_ends 0 = .ok (.aload_n 0, 1) := by decide +kernel
theorem dX10_ends_1 : decode cX10_ends 1 = .ok (.getfield 28, 3) := by decide +kernel
theorem dX10_ends_4 : decode cX10_ends 4 = .ok (.iconst (-1), 1) := by decide +kernel
theorem dX10_ends_5 : decode cX10_ends 5 = .ok (.if_icmp .ne 8, 3) := by decide +kernel
theorem dX10_ends_8 : decode cX10_ends 8 = .ok (.bipush (-103), 2) := by decide +kernel
theorem dX10_ends_10 : decode cX10_ends 10 = .ok (.goto 7, 3) := by decide +kernel
theorem dX10_ends_13 : decode cX10_ends 13 = .ok (.aload_n 0, 1) := by decide +kernel
theorem dX10_ends_14 : decode cX10_ends 14 = .ok (.invokevirtual 211, 3) := by decide +kernel
theorem dX10_ends_17 : decode cX10_ends 17 = .ok (.ireturn, 1) := by decide +kernel
theorem dX10_draw_0 : decode cX10_draw 0 = .ok (.aload_n 0, 1) := by decide +kernel
theorem dX10_draw_1 : decode cX10_draw 1 = .ok (.ldc2_w 214, 3) := by decide +kernel
theorem dX10_draw_4 : decode cX10_draw 4 = .ok (.aload_n 0, 1) := by decide +kernel
theorem dX10_draw_5 : decode cX10_draw 5 = .ok (.getfield 216, 3) := by decide +kernel
theorem dX10_draw_8 : decode cX10_draw 8 = .ok (.lmul, 1) := by decide +kernel
theorem dX10_draw_9 : decode cX10_draw 9 = .ok (.ldc2_w 220, 3) := by decide +kernel
theorem dX10_draw_12 : decode cX10_draw 12 = .ok (.ladd, 1) := by decide +kernel
theorem dX10_draw_13 : decode cX10_draw 13 = .ok (.ldc2_w 222, 3) := by decide +kernel
theorem dX10_draw_16 : decode cX10_draw 16 = .ok (.land, 1) := by decide +kernel
theorem dX10_draw_17 : decode cX10_draw 17 = .ok (.putfield 216, 3) := by decide +kernel
theorem dX10_draw_20 : decode cX10_draw 20 = .ok (.aload_n 0, 1) := by decide +kernel
theorem dX10_draw_21 : decode cX10_draw 21 = .ok (.getfield 216, 3) := by decide +kernel
theorem dX10_draw_24 : decode cX10_draw 24 = .ok (.ldc2_w 224, 3) := by decide +kernel
theorem dX10_draw_27 : decode cX10_draw 27 = .ok (.ldiv, 1) := by decide +kernel
theorem dX10_draw_28 : decode cX10_draw 28 = .ok (.iload_n 1, 1) := by decide +kernel
theorem dX10_draw_29 : decode cX10_draw 29 = .ok (.i2l, 1) := by decide +kernel
theorem dX10_draw_30 : decode cX10_draw 30 = .ok (.lrem, 1) := by decide +kernel
theorem dX10_draw_31 : decode cX10_draw 31 = .ok (.l2i, 1) := by decide +kernel
theorem dX10_draw_32 : decode cX10_draw 32 = .ok (.ireturn, 1) := by decide +kernel
set_option maxRecDepth 20000 in
theorem ggX10_mayMany_X10_isAct : GoodIn wsX10_mayMany wsX10_isAct := goodIn_r _ [4, 5, 6, 3, 7] (by decide +kernel) (by decide +kernel)
set_option maxRecDepth 20000 in
theorem gX10_mayMany_X10_isAct : GoodIn wsX10_mayMany (va_wsS RX10 163 yX10_isAct wsX10_isAct) := goodIn_app (goodIn_of _ (by decide +kernel)) ggX10_mayMany_X10_isAct
set_option maxRecDepth 20000 in
theorem ggX10_mayMany_X10_behind : GoodIn wsX10_mayMany wsX10_behind := goodIn_r _ [11, 12, 13, 14, 3, 15, 16, 17, 18, 19, 20, 21, 22, 23, 24, 25, 26, 27, 28, 29, 30, 31, 32, 33, 34, 35, 36, 37, 38, 39, 40, 41, 42, 43, 44, 45, 46, 47, 48, 49, 50, 51, 52, 53, 54, 55, 56, 57, 58, 59, 60, 61, 62, 63, 64, 65, 66, 67, 68, 69, 70, 71, 72, 73, 74, 75, 76, 77, 78, 79, 80, 81, 82, 83, 84, 85, 86] (by decide +kernel) (by decide +kernel)
set_option maxRecDepth 20000 in
theorem gX10_mayMany_X10_behind : GoodIn wsX10_mayMany (wsV RX10 166 RX10 yX10_behind wsX10_behind) := goodIn_app (goodIn_of _ (by decide +kernel)) ggX10_mayMany_X10_behind
theorem dX10_mayMany_0 : decode cX10_mayMany 0 = .ok (.iconst 0, 1) := by decide +kernel
theorem dX10_mayMany_1 : decode cX10_mayMany 1 = .ok (.istore_n 3, 1) := by decide +kernel
theorem dX10_mayMany_2 : decode cX10_mayMany 2 = .ok (.iconst 0, 1) := by decide +kernel
theorem dX10_mayMany_3 : decode cX10_mayMany 3 = .ok (.istore 4, 2) := by decide +kernel
theorem dX10_mayMany_5 : decode cX10_mayMany 5 = .ok (.iload 4, 2) := by decide +kernel
theorem dX10_mayMany_7 : decode cX10_mayMany 7 = .ok (.bipush 24, 2) := by decide +kernel
theorem dX10_mayMany_9 : decode cX10_mayMany 9 = .ok (.if_icmp .ge 37, 3) := by decide +kernel
theorem dX10_mayMany_12 : decode cX10_mayMany 12 = .ok (.iload_n 3, 1) := by decide +kernel
theorem dX10_mayMany_13 : decode cX10_mayMany 13 = .ok (.iload 4, 2) := by decide +kernel
theorem dX10_mayMany_15 : decode cX10_mayMany 15 = .ok (.invokestatic 163, 3) := by decide +kernel
theorem dX10_mayMany_18 : decode cX10_mayMany 18 = .ok (.ifCond .eq 19, 3) := by decide +kernel
theorem dX10_mayMany_21 : decode cX10_mayMany 21 = .ok (.aload_n 0, 1) := by decide +kernel
theorem dX10_mayMany_22 : decode cX10_mayMany 22 = .ok (.iload_n 1, 1) := by decide +kernel
theorem dX10_mayMany_23 : decode cX10_mayMany 23 = .ok (.iload_n 2, 1) := by decide +kernel
theorem dX10_mayMany_24 : decode cX10_mayMany 24 = .ok (.iload 4, 2) := by decide +kernel
theorem dX10_mayMany_26 : decode cX10_mayMany 26 = .ok (.invokevirtual 166, 3) := by decide +kernel
theorem dX10_mayMany_29 : decode cX10_mayMany 29 = .ok (.iconst (-1), 1) := by decide +kernel
theorem dX10_mayMany_30 : decode cX10_mayMany 30 = .ok (.if_icmp .eq 7, 3) := by decide +kernel
theorem dX10_mayMany_33 : decode cX10_mayMany 33 = .ok (.iconst 1, 1) := by decide +kernel
theorem dX10_mayMany_34 : decode cX10_mayMany 34 = .ok (.goto 4, 3) := by decide +kernel
theorem dX10_mayMany_37 : decode cX10_mayMany 37 = .ok (.iconst 0, 1) := by decide +kernel
theorem dX10_mayMany_38 : decode cX10_mayMany 38 = .ok (.iadd, 1) := by decide +kernel
theorem dX10_mayMany_39 : decode cX10_mayMany 39 = .ok (.istore_n 3, 1) := by decide +kernel
theorem dX10_mayMany_40 : decode cX10_mayMany 40 = .ok (.iinc 4 1, 3) := by decide +kernel
theorem dX10_mayMany_43 : decode cX10_mayMany 43 = .ok (.goto (-38), 3) := by decide +kernel
theorem dX10_mayMany_46 : decode cX10_mayMany 46 = .ok (.iload_n 3, 1) := by decide +kernel
theorem dX10_mayMany_47 : decode cX10_mayMany 47 = .ok (.ireturn, 1) := by decide +kernel
set_option maxRecDepth 20000 in
theorem ggX10_actBy_X10_isAct : GoodIn wsX10_actBy wsX10_isAct := goodIn_r _ [4, 5, 6, 3, 7] (by decide +kernel) (by decide +kernel)
set_option maxRecDepth 20000 in
theorem gX10_actBy_X10_isAct : GoodIn wsX10_actBy (va_wsS RX10 163 yX10_isAct wsX10_isAct) := goodIn_app (goodIn_of _ (by decide +kernel)) ggX10_actBy_X10_isAct
set_option maxRecDepth 20000 in
theorem ggX10_actBy_X10_behind : GoodIn wsX10_actBy wsX10_behind := goodIn_r _ [11, 12, 13, 14, 3, 15, 16, 17, 18, 19, 20, 21, 22, 23, 24, 25, 26, 27, 28, 29, 30, 31, 32, 33, 34, 35, 36, 37, 38, 39, 40, 41, 42, 43, 44, 45, 46, 47, 48, 49, 50, 51, 52, 53, 54, 55, 56, 57, 58, 59, 60, 61, 62, 63, 64, 65, 66, 67, 68, 69, 70, 71, 72, 73, 74, 75, 76, 77, 78, 79, 80, 81, 82, 83, 84, 85, 86] (by decide +kernel) (by decide +kernel)
set_option maxRecDepth 20000 in
theorem gX10_actBy_X10_behind : GoodIn wsX10_actBy (wsV RX10 166 RX10 yX10_behind wsX10_behind) := goodIn_app (goodIn_of _ (by decide +kernel)) ggX10_actBy_X10_behind
theorem dX10_actBy_0 : decode cX10_actBy 0 = .ok (.iload_n 3, 1) := by decide +kernel
theorem dX10_actBy_1 : decode cX10_actBy 1 = .ok (.istore 4, 2) := by decide +kernel
theorem dX10_actBy_3 : decode cX10_actBy 3 = .ok (.iload_n 2, 1) := by decide +kernel
theorem dX10_actBy_4 : decode cX10_actBy 4 = .ok (.istore 5, 2) := by decide +kernel
theorem dX10_actBy_6 : decode cX10_actBy 6 = .ok (.iconst 0, 1) := by decide +kernel
theorem dX10_actBy_7 : decode cX10_actBy 7 = .ok (.istore 6, 2) := by decide +kernel
theorem dX10_actBy_9 : decode cX10_actBy 9 = .ok (.iload 6, 2) := by decide +kernel
theorem dX10_actBy_11 : decode cX10_actBy 11 = .ok (.bipush 24, 2) := by decide +kernel
theorem dX10_actBy_13 : decode cX10_actBy 13 = .ok (.if_icmp .ge 67, 3) := by decide +kernel
theorem dX10_actBy_16 : decode cX10_actBy 16 = .ok (.iload 6, 2) := by decide +kernel
theorem dX10_actBy_18 : decode cX10_actBy 18 = .ok (.invokestatic 163, 3) := by decide +kernel
theorem dX10_actBy_21 : decode cX10_actBy 21 = .ok (.ifCond .eq 14, 3) := by decide +kernel
theorem dX10_actBy_24 : decode cX10_actBy 24 = .ok (.aload_n 0, 1) := by decide +kernel
theorem dX10_actBy_25 : decode cX10_actBy 25 = .ok (.iload_n 1, 1) := by decide +kernel
theorem dX10_actBy_26 : decode cX10_actBy 26 = .ok (.iload_n 2, 1) := by decide +kernel
theorem dX10_actBy_27 : decode cX10_actBy 27 = .ok (.iload 6, 2) := by decide +kernel
theorem dX10_actBy_29 : decode cX10_actBy 29 = .ok (.invokevirtual 166, 3) := by decide +kernel
theorem dX10_actBy_32 : decode cX10_actBy 32 = .ok (.goto 4, 3) := by decide +kernel
theorem dX10_actBy_35 : decode cX10_actBy 35 = .ok (.iconst (-1), 1) := by decide +kernel
theorem dX10_actBy_36 : decode cX10_actBy 36 = .ok (.istore 7, 2) := by decide +kernel
theorem dX10_actBy_38 : decode cX10_actBy 38 = .ok (.iload 7, 2) := by decide +kernel
theorem dX10_actBy_40 : decode cX10_actBy 40 = .ok (.iconst (-1), 1) := by decide +kernel
theorem dX10_actBy_41 : decode cX10_actBy 41 = .ok (.if_icmp .eq 13, 3) := by decide +kernel
theorem dX10_actBy_44 : decode cX10_actBy 44 = .ok (.iload 4, 2) := by decide +kernel
theorem dX10_actBy_46 : decode cX10_actBy 46 = .ok (.ifCond .ne 8, 3) := by decide +kernel
theorem dX10_actBy_49 : decode cX10_actBy 49 = .ok (.iload 7, 2) := by decide +kernel
theorem dX10_actBy_51 : decode cX10_actBy 51 = .ok (.goto 5, 3) := by decide +kernel
theorem dX10_actBy_54 : decode cX10_actBy 54 = .ok (.iload 5, 2) := by decide +kernel
theorem dX10_actBy_56 : decode cX10_actBy 56 = .ok (.istore 5, 2) := by decide +kernel
theorem dX10_actBy_58 : decode cX10_actBy 58 = .ok (.iload 4, 2) := by decide +kernel
theorem dX10_actBy_60 : decode cX10_actBy 60 = .ok (.iload 7, 2) := by decide +kernel
theorem dX10_actBy_62 : decode cX10_actBy 62 = .ok (.iconst (-1), 1) := by decide +kernel
theorem dX10_actBy_63 : decode cX10_actBy 63 = .ok (.if_icmp .ne 7, 3) := by decide +kernel
theorem dX10_actBy_66 : decode cX10_actBy 66 = .ok (.iconst 0, 1) := by decide +kernel
theorem dX10_actBy_67 : decode cX10_actBy 67 = .ok (.goto 4, 3) := by decide +kernel
theorem dX10_actBy_70 : decode cX10_actBy 70 = .ok (.iconst 1, 1) := by decide +kernel
theorem dX10_actBy_71 : decode cX10_actBy 71 = .ok (.isub, 1) := by decide +kernel
theorem dX10_actBy_72 : decode cX10_actBy 72 = .ok (.istore 4, 2) := by decide +kernel
theorem dX10_actBy_74 : decode cX10_actBy 74 = .ok (.iinc 6 1, 3) := by decide +kernel
theorem dX10_actBy_77 : decode cX10_actBy 77 = .ok (.goto (-68), 3) := by decide +kernel
theorem dX10_actBy_80 : decode cX10_actBy 80 = .ok (.iload 5, 2) := by decide +kernel
theorem dX10_actBy_82 : decode cX10_actBy 82 = .ok (.ireturn, 1) := by decide +kernel
set_option maxRecDepth 20000 in
theorem ggX10_walkNow_X10_mayMany : GoodIn wsX10_walkNow wsX10_mayMany := goodIn_r _ [8, 9, 10, 7, 11, 12, 13, 14, 15, 16, 17, 18, 19, 20, 21, 22, 23, 24, 25, 26, 27, 28, 29, 30, 31, 32, 33, 34, 35, 36, 37, 38, 39, 40, 41, 42, 43, 44, 45, 46, 47, 48, 49, 50, 51, 52, 53, 54, 55, 71, 72, 73, 74, 75, 76, 77, 78, 79, 80, 81, 82, 83, 84, 85, 86, 87, 88, 89, 90, 91, 92, 93, 94, 95, 96, 97, 98, 99, 100, 101, 102, 103, 104, 105, 106, 107, 108] (by decide +kernel) (by decide +kernel)
set_option maxRecDepth 20000 in
theorem gX10_walkNow_X10_mayMany : GoodIn wsX10_walkNow (wsV RX10 226 RX10 yX10_mayMany wsX10_mayMany) := goodIn_app (goodIn_of _ (by decide +kernel)) ggX10_walkNow_X10_mayMany
set_option maxRecDepth 20000 in
theorem ggX10_walkNow_X10_draw : GoodIn wsX10_walkNow wsX10_draw := goodIn_r _ [59, 60, 1, 61, 62, 63, 71, 72, 73, 74, 75, 76, 77, 78, 79, 80, 81, 82, 83, 84, 85, 86, 87, 88, 89, 90, 91, 92, 93, 94, 95, 96, 97, 98, 99, 100, 101, 102, 103, 104, 105, 106, 107, 108] (by decide +kernel) (by decide +kernel)
set_option maxRecDepth 20000 in
theorem gX10_walkNow_X10_draw : GoodIn wsX10_walkNow (wsV RX10 229 RX10 yX10_draw wsX10_draw) := goodIn_app (goodIn_of _ (by decide +kernel)) ggX10_walkNow_X10_draw
set_option maxRecDepth 20000 in
theorem ggX10_walkNow_X10_actBy : GoodIn wsX10_walkNow wsX10_actBy := goodIn_r _ [67, 9, 10, 7, 11, 12, 13, 14, 15, 16, 17, 18, 19, 20, 21, 22, 23, 24, 25, 26, 27, 28, 29, 30, 31, 32, 33, 34, 35, 36, 37, 38, 39, 40, 41, 42, 43, 44, 45, 46, 47, 48, 49, 50, 51, 52, 53, 54, 55, 71, 72, 73, 74, 75, 76, 77, 78, 79, 80, 81, 82, 83, 84, 85, 86, 87, 88, 89, 90, 91, 92, 93, 94, 95, 96, 97, 98, 99, 100, 101, 102, 103, 104, 105, 106, 107, 108] (by decide +kernel) (by decide +kernel)
set_option maxRecDepth 20000 in
theorem gX10_walkNow_X10_actBy : GoodIn wsX10_walkNow (wsV RX10 232 RX10 yX10_actBy wsX10_actBy) := goodIn_app (goodIn_of _ (by decide +kernel)) ggX10_walkNow_X10_actBy
set_option maxRecDepth 20000 in
theorem ggX10_walkNow_X10_townIn : GoodIn wsX10_walkNow wsX10_townIn := goodIn_r _ [22] (by decide +kernel) (by decide +kernel)
set_option maxRecDepth 20000 in
theorem gX10_walkNow_X10_townIn : GoodIn wsX10_walkNow (va_wsS RX10 119 yX10_townIn wsX10_townIn) := goodIn_app (goodIn_of _ (by decide +kernel)) ggX10_walkNow_X10_townIn
set_option maxRecDepth 20000 in
theorem ggX10_walkNow_X10_coinsAll : GoodIn wsX10_walkNow wsX10_coinsAll := goodIn_r _ [70, 34, 35, 7, 36, 37, 38, 39, 40, 41, 42] (by decide +kernel) (by decide +kernel)
set_option maxRecDepth 20000 in
theorem gX10_walkNow_X10_coinsAll : GoodIn wsX10_walkNow (va_wsS RX10 154 yX10_coinsAll wsX10_coinsAll) := goodIn_app (goodIn_of _ (by decide +kernel)) ggX10_walkNow_X10_coinsAll
set_option maxRecDepth 20000 in
theorem ggX10_walkNow_X10_goodsIn : GoodIn wsX10_walkNow wsX10_goodsIn := goodIn_r _ [33] (by decide +kernel) (by decide +kernel)
set_option maxRecDepth 20000 in
theorem gX10_walkNow_X10_goodsIn : GoodIn wsX10_walkNow (va_wsS RX10 141 yX10_goodsIn wsX10_goodsIn) := goodIn_app (goodIn_of _ (by decide +kernel)) ggX10_walkNow_X10_goodsIn
theorem dX10_walkNow_0 : decode cX10_walkNow 0 = .ok (.aload_n 0, 1) := by decide +kernel
theorem dX10_walkNow_1 : decode cX10_walkNow 1 = .ok (.iload_n 3, 1) := by decide +kernel
theorem dX10_walkNow_2 : decode cX10_walkNow 2 = .ok (.i2l, 1) := by decide +kernel
theorem dX10_walkNow_3 : decode cX10_walkNow 3 = .ok (.putfield 216, 3) := by decide +kernel
theorem dX10_walkNow_6 : decode cX10_walkNow 6 = .ok (.aload_n 0, 1) := by decide +kernel
theorem dX10_walkNow_7 : decode cX10_walkNow 7 = .ok (.getfield 25, 3) := by decide +kernel
theorem dX10_walkNow_10 : decode cX10_walkNow 10 = .ok (.iload_n 1, 1) := by decide +kernel
theorem dX10_walkNow_11 : decode cX10_walkNow 11 = .ok (.iaload, 1) := by decide +kernel
theorem dX10_walkNow_12 : decode cX10_walkNow 12 = .ok (.istore 5, 2) := by decide +kernel
theorem dX10_walkNow_14 : decode cX10_walkNow 14 = .ok (.iconst 0, 1) := by decide +kernel
theorem dX10_walkNow_15 : decode cX10_walkNow 15 = .ok (.istore 6, 2) := by decide +kernel
theorem dX10_walkNow_17 : decode cX10_walkNow 17 = .ok (.iload 6, 2) := by decide +kernel
theorem dX10_walkNow_19 : decode cX10_walkNow 19 = .ok (.iload_n 2, 1) := by decide +kernel
theorem dX10_walkNow_20 : decode cX10_walkNow 20 = .ok (.if_icmp .ge 39, 3) := by decide +kernel
theorem dX10_walkNow_23 : decode cX10_walkNow 23 = .ok (.aload_n 0, 1) := by decide +kernel
theorem dX10_walkNow_24 : decode cX10_walkNow 24 = .ok (.aload_n 0, 1) := by decide +kernel
theorem dX10_walkNow_25 : decode cX10_walkNow 25 = .ok (.getfield 22, 3) := by decide +kernel
theorem dX10_walkNow_28 : decode cX10_walkNow 28 = .ok (.iload_n 1, 1) := by decide +kernel
theorem dX10_walkNow_29 : decode cX10_walkNow 29 = .ok (.iaload, 1) := by decide +kernel
theorem dX10_walkNow_30 : decode cX10_walkNow 30 = .ok (.iload 5, 2) := by decide +kernel
theorem dX10_walkNow_32 : decode cX10_walkNow 32 = .ok (.aload_n 0, 1) := by decide +kernel
theorem dX10_walkNow_33 : decode cX10_walkNow 33 = .ok (.aload_n 0, 1) := by decide +kernel
theorem dX10_walkNow_34 : decode cX10_walkNow 34 = .ok (.aload_n 0, 1) := by decide +kernel
theorem dX10_walkNow_35 : decode cX10_walkNow 35 = .ok (.getfield 22, 3) := by decide +kernel
theorem dX10_walkNow_38 : decode cX10_walkNow 38 = .ok (.iload_n 1, 1) := by decide +kernel
theorem dX10_walkNow_39 : decode cX10_walkNow 39 = .ok (.iaload, 1) := by decide +kernel
theorem dX10_walkNow_40 : decode cX10_walkNow 40 = .ok (.iload 5, 2) := by decide +kernel
theorem dX10_walkNow_42 : decode cX10_walkNow 42 = .ok (.invokevirtual 226, 3) := by decide +kernel
theorem dX10_walkNow_45 : decode cX10_walkNow 45 = .ok (.invokevirtual 229, 3) := by decide +kernel
theorem dX10_walkNow_48 : decode cX10_walkNow 48 = .ok (.invokevirtual 232, 3) := by decide +kernel
theorem dX10_walkNow_51 : decode cX10_walkNow 51 = .ok (.istore 5, 2) := by decide +kernel
theorem dX10_walkNow_53 : decode cX10_walkNow 53 = .ok (.iinc 6 1, 3) := by decide +kernel
theorem dX10_walkNow_56 : decode cX10_walkNow 56 = .ok (.goto (-39), 3) := by decide +kernel
theorem dX10_walkNow_59 : decode cX10_walkNow 59 = .ok (.iload 4, 2) := by decide +kernel
theorem dX10_walkNow_61 : decode cX10_walkNow 61 = .ok (.ifCond .ne 11, 3) := by decide +kernel
theorem dX10_walkNow_64 : decode cX10_walkNow 64 = .ok (.iload 5, 2) := by decide +kernel
theorem dX10_walkNow_66 : decode cX10_walkNow 66 = .ok (.invokestatic 119, 3) := by decide +kernel
theorem dX10_walkNow_69 : decode cX10_walkNow 69 = .ok (.goto 36, 3) := by decide +kernel
theorem dX10_walkNow_72 : decode cX10_walkNow 72 = .ok (.iload 4, 2) := by decide +kernel
theorem dX10_walkNow_74 : decode cX10_walkNow 74 = .ok (.iconst 1, 1) := by decide +kernel
theorem dX10_walkNow_75 : decode cX10_walkNow 75 = .ok (.if_icmp .ne 11, 3) := by decide +kernel
theorem dX10_walkNow_78 : decode cX10_walkNow 78 = .ok (.iload 5, 2) := by decide +kernel
theorem dX10_walkNow_80 : decode cX10_walkNow 80 = .ok (.invokestatic 154, 3) := by decide +kernel
theorem dX10_walkNow_83 : decode cX10_walkNow 83 = .ok (.goto 22, 3) := by decide +kernel
theorem dX10_walkNow_86 : decode cX10_walkNow 86 = .ok (.iload 4, 2) := by decide +kernel
theorem dX10_walkNow_88 : decode cX10_walkNow 88 = .ok (.iconst 2, 1) := by decide +kernel
theorem dX10_walkNow_89 : decode cX10_walkNow 89 = .ok (.if_icmp .ne 11, 3) := by decide +kernel
theorem dX10_walkNow_92 : decode cX10_walkNow 92 = .ok (.iload 5, 2) := by decide +kernel
theorem dX10_walkNow_94 : decode cX10_walkNow 94 = .ok (.invokestatic 141, 3) := by decide +kernel
theorem dX10_walkNow_97 : decode cX10_walkNow 97 = .ok (.goto 8, 3) := by decide +kernel
theorem dX10_walkNow_100 : decode cX10_walkNow 100 = .ok (.aload_n 0, 1) := by decide +kernel
theorem dX10_walkNow_101 : decode cX10_walkNow 101 = .ok (.getfield 216, 3) := by decide +kernel
theorem dX10_walkNow_104 : decode cX10_walkNow 104 = .ok (.l2i, 1) := by decide +kernel
theorem dX10_walkNow_105 : decode cX10_walkNow 105 = .ok (.ireturn, 1) := by decide +kernel
set_option maxRecDepth 20000 in
theorem ggX10_walk_X10_isPerson : GoodIn wsX10_walk wsX10_isPerson := goodIn_r _ [5, 6, 7, 8, 4, 9, 80, 81, 82, 83, 84, 85, 86, 87, 88, 89, 90, 91, 92, 93, 94, 95, 96, 97, 98, 99, 100, 101, 102, 103, 104, 105, 106, 107, 108, 109, 110, 111, 112, 113, 114, 115, 116, 117] (by decide +kernel) (by decide +kernel)
set_option maxRecDepth 20000 in
theorem gX10_walk_X10_isPerson : GoodIn wsX10_walk (wsV RX10 157 RX10 yX10_isPerson wsX10_isPerson) := goodIn_app (goodIn_of _ (by decide +kernel)) ggX10_walk_X10_isPerson
set_option maxRecDepth 20000 in
theorem ggX10_walk_X10_within : GoodIn wsX10_walk wsX10_within := goodIn_r _ [9] (by decide +kernel) (by decide +kernel)
set_option maxRecDepth 20000 in
theorem gX10_walk_X10_within : GoodIn wsX10_walk (va_wsS RX10 75 yX10_within wsX10_within) := goodIn_app (goodIn_of _ (by decide +kernel)) ggX10_walk_X10_within
set_option maxRecDepth 20000 in
theorem ggX10_walk_X10_walkNow : GoodIn wsX10_walk wsX10_walkNow := goodIn_r _ [13, 14, 15, 16, 17, 18, 19, 4, 20, 21, 22, 23, 7, 8, 9, 24, 25, 26, 27, 28, 29, 30, 31, 32, 33, 34, 35, 36, 37, 38, 39, 40, 41, 42, 43, 44, 45, 46, 47, 48, 49, 50, 51, 52, 53, 54, 55, 56, 57, 58, 59, 60, 61, 62, 63, 64, 65, 66, 67, 68, 69, 70, 71, 72, 73, 74, 75, 76, 77, 78, 79, 80, 81, 82, 83, 84, 85, 86, 87, 88, 89, 90, 91, 92, 93, 94, 95, 96, 97, 98, 99, 100, 101, 102, 103, 104, 105, 106, 107, 108, 109, 110, 111, 112, 113, 114, 115, 116, 117] (by decide +kernel) (by decide +kernel)
set_option maxRecDepth 20000 in
theorem gX10_walk_X10_walkNow : GoodIn wsX10_walk (wsV RX10 235 RX10 yX10_walkNow wsX10_walkNow) := goodIn_app (goodIn_of _ (by decide +kernel)) ggX10_walk_X10_walkNow
theorem dX10_walk_0 : decode cX10_walk 0 = .ok (.aload_n 0, 1) := by decide +kernel
theorem dX10_walk_1 : decode cX10_walk 1 = .ok (.iload_n 1, 1) := by decide +kernel
theorem dX10_walk_2 : decode cX10_walk 2 = .ok (.invokevirtual 157, 3) := by decide +kernel
theorem dX10_walk_5 : decode cX10_walk 5 = .ok (.ifCond .ne 6, 3) := by decide +kernel
theorem dX10_walk_8 : decode cX10_walk 8 = .ok (.bipush (-101), 2) := by decide +kernel
theorem dX10_walk_10 : decode cX10_walk 10 = .ok (.ireturn, 1) := by decide +kernel
theorem dX10_walk_11 : decode cX10_walk 11 = .ok (.iload_n 2, 1) := by decide +kernel
theorem dX10_walk_12 : decode cX10_walk 12 = .ok (.iconst 1, 1) := by decide +kernel
theorem dX10_walk_13 : decode cX10_walk 13 = .ok (.bipush 60, 2) := by decide +kernel
theorem dX10_walk_15 : decode cX10_walk 15 = .ok (.invokestatic 75, 3) := by decide +kernel
theorem dX10_walk_18 : decode cX10_walk 18 = .ok (.ifCond .eq 17, 3) := by decide +kernel
theorem dX10_walk_21 : decode cX10_walk 21 = .ok (.iload_n 3, 1) := by decide +kernel
theorem dX10_walk_22 : decode cX10_walk 22 = .ok (.ifCond .lt 13, 3) := by decide +kernel
theorem dX10_walk_25 : decode cX10_walk 25 = .ok (.iload 4, 2) := by decide +kernel
theorem dX10_walk_27 : decode cX10_walk 27 = .ok (.iconst 0, 1) := by decide +kernel
theorem dX10_walk_28 : decode cX10_walk 28 = .ok (.iconst 3, 1) := by decide +kernel
theorem dX10_walk_29 : decode cX10_walk 29 = .ok (.invokestatic 75, 3) := by decide +kernel
theorem dX10_walk_32 : decode cX10_walk 32 = .ok (.ifCond .ne 6, 3) := by decide +kernel
theorem dX10_walk_35 : decode cX10_walk 35 = .ok (.bipush (-102), 2) := by decide +kernel
theorem dX10_walk_37 : decode cX10_walk 37 = .ok (.ireturn, 1) := by decide +kernel
theorem dX10_walk_38 : decode cX10_walk 38 = .ok (.aload_n 0, 1) := by decide +kernel
theorem dX10_walk_39 : decode cX10_walk 39 = .ok (.iload_n 1, 1) := by decide +kernel
theorem dX10_walk_40 : decode cX10_walk 40 = .ok (.iload_n 2, 1) := by decide +kernel
theorem dX10_walk_41 : decode cX10_walk 41 = .ok (.iload_n 3, 1) := by decide +kernel
theorem dX10_walk_42 : decode cX10_walk 42 = .ok (.iload 4, 2) := by decide +kernel
theorem dX10_walk_44 : decode cX10_walk 44 = .ok (.invokevirtual 235, 3) := by decide +kernel
theorem dX10_walk_47 : decode cX10_walk 47 = .ok (.ireturn, 1) := by decide +kernel
theorem dX10_image_0 : decode cX10_image 0 = .ok (.aload_n 0, 1) := by decide +kernel
theorem dX10_image_1 : decode cX10_image 1 = .ok (.getfield 104, 3) := by decide +kernel
theorem dX10_image_4 : decode cX10_image 4 = .ok (.ifCond .ne 6, 3) := by decide +kernel
theorem dX10_image_7 : decode cX10_image 7 = .ok (.bipush (-103), 2) := by decide +kernel
theorem dX10_image_9 : decode cX10_image 9 = .ok (.ireturn, 1) := by decide +kernel
theorem dX10_image_10 : decode cX10_image 10 = .ok (.aload_n 0, 1) := by decide +kernel
theorem dX10_image_11 : decode cX10_image 11 = .ok (.iconst 1, 1) := by decide +kernel
theorem dX10_image_12 : decode cX10_image 12 = .ok (.putfield 239, 3) := by decide +kernel
theorem dX10_image_15 : decode cX10_image 15 = .ok (.aload_n 0, 1) := by decide +kernel
theorem dX10_image_16 : decode cX10_image 16 = .ok (.aload_n 0, 1) := by decide +kernel
theorem dX10_image_17 : decode cX10_image 17 = .ok (.getfield 107, 3) := by decide +kernel
theorem dX10_image_20 : decode cX10_image 20 = .ok (.putfield 242, 3) := by decide +kernel
theorem dX10_image_23 : decode cX10_image 23 = .ok (.aload_n 0, 1) := by decide +kernel
theorem dX10_image_24 : decode cX10_image 24 = .ok (.aload_n 0, 1) := by decide +kernel
theorem dX10_image_25 : decode cX10_image 25 = .ok (.getfield 110, 3) := by decide +kernel
theorem dX10_image_28 : decode cX10_image 28 = .ok (.putfield 245, 3) := by decide +kernel
theorem dX10_image_31 : decode cX10_image 31 = .ok (.aload_n 0, 1) := by decide +kernel
theorem dX10_image_32 : decode cX10_image 32 = .ok (.aload_n 0, 1) := by decide +kernel
theorem dX10_image_33 : decode cX10_image 33 = .ok (.getfield 113, 3) := by decide +kernel
theorem dX10_image_36 : decode cX10_image 36 = .ok (.putfield 248, 3) := by decide +kernel
theorem dX10_image_39 : decode cX10_image 39 = .ok (.iconst 0, 1) := by decide +kernel
theorem dX10_image_40 : decode cX10_image 40 = .ok (.istore_n 1, 1) := by decide +kernel
theorem dX10_image_41 : decode cX10_image 41 = .ok (.iload_n 1, 1) := by decide +kernel
theorem dX10_image_42 : decode cX10_image 42 = .ok (.iconst 5, 1) := by decide +kernel
theorem dX10_image_43 : decode cX10_image 43 = .ok (.if_icmp .ge 21, 3) := by decide +kernel
theorem dX10_image_46 : decode cX10_image 46 = .ok (.aload_n 0, 1) := by decide +kernel
theorem dX10_image_47 : decode cX10_image 47 = .ok (.getfield 64, 3) := by decide +kernel
theorem dX10_image_50 : decode cX10_image 50 = .ok (.iload_n 1, 1) := by decide +kernel
theorem dX10_image_51 : decode cX10_image 51 = .ok (.aload_n 0, 1) := by decide +kernel
theorem dX10_image_52 : decode cX10_image 52 = .ok (.getfield 25, 3) := by decide +kernel
theorem dX10_image_55 : decode cX10_image 55 = .ok (.iload_n 1, 1) := by decide +kernel
theorem dX10_image_56 : decode cX10_image 56 = .ok (.iaload, 1) := by decide +kernel
theorem dX10_image_57 : decode cX10_image 57 = .ok (.iastore, 1) := by decide +kernel
theorem dX10_image_58 : decode cX10_image 58 = .ok (.iinc 1 1, 3) := by decide +kernel
theorem dX10_image_61 : decode cX10_image 61 = .ok (.goto (-20), 3) := by decide +kernel
theorem dX10_image_64 : decode cX10_image 64 = .ok (.iconst 0, 1) := by decide +kernel
theorem dX10_image_65 : decode cX10_image 65 = .ok (.istore_n 1, 1) := by decide +kernel
theorem dX10_image_66 : decode cX10_image 66 = .ok (.iload_n 1, 1) := by decide +kernel
theorem dX10_image_67 : decode cX10_image 67 = .ok (.iconst 4, 1) := by decide +kernel
theorem dX10_image_68 : decode cX10_image 68 = .ok (.if_icmp .ge 21, 3) := by decide +kernel
theorem dX10_image_71 : decode cX10_image 71 = .ok (.aload_n 0, 1) := by decide +kernel
theorem dX10_image_72 : decode cX10_image 72 = .ok (.getfield 67, 3) := by decide +kernel
theorem dX10_image_75 : decode cX10_image 75 = .ok (.iload_n 1, 1) := by decide +kernel
theorem dX10_image_76 : decode cX10_image 76 = .ok (.aload_n 0, 1) := by decide +kernel
theorem dX10_image_77 : decode cX10_image 77 = .ok (.getfield 16, 3) := by decide +kernel
theorem dX10_image_80 : decode cX10_image 80 = .ok (.iload_n 1, 1) := by decide +kernel
theorem dX10_image_81 : decode cX10_image 81 = .ok (.iaload, 1) := by decide +kernel
theorem dX10_image_82 : decode cX10_image 82 = .ok (.iastore, 1) := by decide +kernel
theorem dX10_image_83 : decode cX10_image 83 = .ok (.iinc 1 1, 3) := by decide +kernel
theorem dX10_image_86 : decode cX10_image 86 = .ok (.goto (-20), 3) := by decide +kernel
theorem dX10_image_89 : decode cX10_image 89 = .ok (.aload_n 0, 1) := by decide +kernel
theorem dX10_image_90 : decode cX10_image 90 = .ok (.getfield 110, 3) := by decide +kernel
theorem dX10_image_93 : decode cX10_image 93 = .ok (.ireturn, 1) := by decide +kernel
theorem dX10_restore_0 : decode cX10_restore 0 = .ok (.aload_n 0, 1) := by decide +kernel
theorem dX10_restore_1 : decode cX10_restore 1 = .ok (.getfield 239, 3) := by decide +kernel
theorem dX10_restore_4 : decode cX10_restore 4 = .ok (.ifCond .eq 14, 3) := by decide +kernel
theorem dX10_restore_7 : decode cX10_restore 7 = .ok (.aload_n 0, 1) := by decide +kernel
theorem dX10_restore_8 : decode cX10_restore 8 = .ok (.getfield 242, 3) := by decide +kernel
theorem dX10_restore_11 : decode cX10_restore 11 = .ok (.aload_n 0, 1) := by decide +kernel
theorem dX10_restore_12 : decode cX10_restore 12 = .ok (.getfield 107, 3) := by decide +kernel
theorem dX10_restore_15 : decode cX10_restore 15 = .ok (.if_icmp .eq 6, 3) := by decide +kernel
theorem dX10_restore_18 : decode cX10_restore 18 = .ok (.bipush (-103), 2) := by decide +kernel
theorem dX10_restore_20 : decode cX10_restore 20 = .ok (.ireturn, 1) := by decide +kernel
theorem dX10_restore_21 : decode cX10_restore 21 = .ok (.aload_n 0, 1) := by decide +kernel
theorem dX10_restore_22 : decode cX10_restore 22 = .ok (.aload_n 0, 1) := by decide +kernel
theorem dX10_restore_23 : decode cX10_restore 23 = .ok (.getfield 245, 3) := by decide +kernel
theorem dX10_restore_26 : decode cX10_restore 26 = .ok (.putfield 110, 3) := by decide +kernel
theorem dX10_restore_29 : decode cX10_restore 29 = .ok (.aload_n 0, 1) := by decide +kernel
theorem dX10_restore_30 : decode cX10_restore 30 = .ok (.aload_n 0, 1) := by decide +kernel
theorem dX10_restore_31 : decode cX10_restore 31 = .ok (.getfield 248, 3) := by decide +kernel
theorem dX10_restore_34 : decode cX10_restore 34 = .ok (.putfield 113, 3) := by decide +kernel
theorem dX10_restore_37 : decode cX10_restore 37 = .ok (.aload_n 0, 1) := by decide +kernel
theorem dX10_restore_38 : decode cX10_restore 38 = .ok (.iconst (-1), 1) := by decide +kernel
theorem dX10_restore_39 : decode cX10_restore 39 = .ok (.putfield 28, 3) := by decide +kernel
theorem dX10_restore_42 : decode cX10_restore 42 = .ok (.aload_n 0, 1) := by decide +kernel
theorem dX10_restore_43 : decode cX10_restore 43 = .ok (.iconst 0, 1) := by decide +kernel
theorem dX10_restore_44 : decode cX10_restore 44 = .ok (.putfield 116, 3) := by decide +kernel
theorem dX10_restore_47 : decode cX10_restore 47 = .ok (.iconst 0, 1) := by decide +kernel
theorem dX10_restore_48 : decode cX10_restore 48 = .ok (.istore_n 1, 1) := by decide +kernel
theorem dX10_restore_49 : decode cX10_restore 49 = .ok (.iload_n 1, 1) := by decide +kernel
theorem dX10_restore_50 : decode cX10_restore 50 = .ok (.iconst 5, 1) := by decide +kernel
theorem dX10_restore_51 : decode cX10_restore 51 = .ok (.if_icmp .ge 21, 3) := by decide +kernel
theorem dX10_restore_54 : decode cX10_restore 54 = .ok (.aload_n 0, 1) := by decide +kernel
theorem dX10_restore_55 : decode cX10_restore 55 = .ok (.getfield 25, 3) := by decide +kernel
theorem dX10_restore_58 : decode cX10_restore 58 = .ok (.iload_n 1, 1) := by decide +kernel
theorem dX10_restore_59 : decode cX10_restore 59 = .ok (.aload_n 0, 1) := by decide +kernel
theorem dX10_restore_60 : decode cX10_restore 60 = .ok (.getfield 64, 3) := by decide +kernel
theorem dX10_restore_63 : decode cX10_restore 63 = .ok (.iload_n 1, 1) := by decide +kernel
theorem dX10_restore_64 : decode cX10_restore 64 = .ok (.iaload, 1) := by decide +kernel
theorem dX10_restore_65 : decode cX10_restore 65 = .ok (.iastore, 1) := by decide +kernel
theorem dX10_restore_66 : decode cX10_restore 66 = .ok (.iinc 1 1, 3) := by decide +kernel
theorem dX10_restore_69 : decode cX10_restore 69 = .ok (.goto (-20), 3) := by decide +kernel
theorem dX10_restore_72 : decode cX10_restore 72 = .ok (.iconst 0, 1) := by decide +kernel
theorem dX10_restore_73 : decode cX10_restore 73 = .ok (.istore_n 1, 1) := by decide +kernel
theorem dX10_restore_74 : decode cX10_restore 74 = .ok (.iload_n 1, 1) := by decide +kernel
theorem dX10_restore_75 : decode cX10_restore 75 = .ok (.iconst 4, 1) := by decide +kernel
theorem dX10_restore_76 : decode cX10_restore 76 = .ok (.if_icmp .ge 21, 3) := by decide +kernel
theorem dX10_restore_79 : decode cX10_restore 79 = .ok (.aload_n 0, 1) := by decide +kernel
theorem dX10_restore_80 : decode cX10_restore 80 = .ok (.getfield 16, 3) := by decide +kernel
theorem dX10_restore_83 : decode cX10_restore 83 = .ok (.iload_n 1, 1) := by decide +kernel
theorem dX10_restore_84 : decode cX10_restore 84 = .ok (.aload_n 0, 1) := by decide +kernel
theorem dX10_restore_85 : decode cX10_restore 85 = .ok (.getfield 67, 3) := by decide +kernel
theorem dX10_restore_88 : decode cX10_restore 88 = .ok (.iload_n 1, 1) := by decide +kernel
theorem dX10_restore_89 : decode cX10_restore 89 = .ok (.iaload, 1) := by decide +kernel
theorem dX10_restore_90 : decode cX10_restore 90 = .ok (.iastore, 1) := by decide +kernel
theorem dX10_restore_91 : decode cX10_restore 91 = .ok (.iinc 1 1, 3) := by decide +kernel
theorem dX10_restore_94 : decode cX10_restore 94 = .ok (.goto (-20), 3) := by decide +kernel
theorem dX10_restore_97 : decode cX10_restore 97 = .ok (.aload_n 0, 1) := by decide +kernel
theorem dX10_restore_98 : decode cX10_restore 98 = .ok (.getfield 110, 3) := by decide +kernel
theorem dX10_restore_101 : decode cX10_restore 101 = .ok (.ireturn, 1) := by decide +kernel
set_option maxRecDepth 20000 in
theorem ggX10_howMany_X10_coinsAll : GoodIn wsX10_howMany wsX10_coinsAll := goodIn_r _ [11, 12, 13, 10, 14, 15, 16, 17, 18, 19, 20] (by decide +kernel) (by decide +kernel)
set_option maxRecDepth 20000 in
theorem gX10_howMany_X10_coinsAll : GoodIn wsX10_howMany (va_wsS RX10 154 yX10_coinsAll wsX10_coinsAll) := goodIn_app (goodIn_of _ (by decide +kernel)) ggX10_howMany_X10_coinsAll
set_option maxRecDepth 20000 in
theorem ggX10_howMany_X10_goodsIn : GoodIn wsX10_howMany wsX10_goodsIn := goodIn_r _ [23] (by decide +kernel) (by decide +kernel)
set_option maxRecDepth 20000 in
theorem gX10_howMany_X10_goodsIn : GoodIn wsX10_howMany (va_wsS RX10 141 yX10_goodsIn wsX10_goodsIn) := goodIn_app (goodIn_of _ (by decide +kernel)) ggX10_howMany_X10_goodsIn
set_option maxRecDepth 20000 in
theorem ggX10_howMany_X10_size : GoodIn wsX10_howMany wsX10_size := goodIn_r _ [26] (by decide +kernel) (by decide +kernel)
set_option maxRecDepth 20000 in
theorem gX10_howMany_X10_size : GoodIn wsX10_howMany (va_wsS RX10 100 yX10_size wsX10_size) := goodIn_app (goodIn_of _ (by decide +kernel)) ggX10_howMany_X10_size
theorem dX10_howMany_0 : decode cX10_howMany 0 = .ok (.iconst 0, 1) := by decide +kernel
theorem dX10_howMany_1 : decode cX10_howMany 1 = .ok (.istore_n 2, 1) := by decide +kernel
theorem dX10_howMany_2 : decode cX10_howMany 2 = .ok (.iload_n 1, 1) := by decide +kernel
theorem dX10_howMany_3 : decode cX10_howMany 3 = .ok (.tableswitch 138 0 7 #[45, 75, 80, 113, 118, 123, 128, 133], 45) := by decide +kernel
theorem dX10_howMany_48 : decode cX10_howMany 48 = .ok (.iconst 0, 1) := by decide +kernel
theorem dX10_howMany_49 : decode cX10_howMany 49 = .ok (.istore_n 3, 1) := by decide +kernel
theorem dX10_howMany_50 : decode cX10_howMany 50 = .ok (.iload_n 3, 1) := by decide +kernel
theorem dX10_howMany_51 : decode cX10_howMany 51 = .ok (.aload_n 0, 1) := by decide +kernel
theorem dX10_howMany_52 : decode cX10_howMany 52 = .ok (.getfield 110, 3) := by decide +kernel
theorem dX10_howMany_55 : decode cX10_howMany 55 = .ok (.if_icmp .ge 21, 3) := by decide +kernel
theorem dX10_howMany_58 : decode cX10_howMany 58 = .ok (.iload_n 2, 1) := by decide +kernel
theorem dX10_howMany_59 : decode cX10_howMany 59 = .ok (.aload_n 0, 1) := by decide +kernel
theorem dX10_howMany_60 : decode cX10_howMany 60 = .ok (.getfield 25, 3) := by decide +kernel
theorem dX10_howMany_63 : decode cX10_howMany 63 = .ok (.iload_n 3, 1) := by decide +kernel
theorem dX10_howMany_64 : decode cX10_howMany 64 = .ok (.iaload, 1) := by decide +kernel
theorem dX10_howMany_65 : decode cX10_howMany 65 = .ok (.invokestatic 154, 3) := by decide +kernel
theorem dX10_howMany_68 : decode cX10_howMany 68 = .ok (.iadd, 1) := by decide +kernel
theorem dX10_howMany_69 : decode cX10_howMany 69 = .ok (.istore_n 2, 1) := by decide +kernel
theorem dX10_howMany_70 : decode cX10_howMany 70 = .ok (.iinc 3 1, 3) := by decide +kernel
theorem dX10_howMany_73 : decode cX10_howMany 73 = .ok (.goto (-23), 3) := by decide +kernel
theorem dX10_howMany_76 : decode cX10_howMany 76 = .ok (.iload_n 2, 1) := by decide +kernel
theorem dX10_howMany_77 : decode cX10_howMany 77 = .ok (.ireturn, 1) := by decide +kernel
theorem dX10_howMany_78 : decode cX10_howMany 78 = .ok (.aload_n 0, 1) := by decide +kernel
theorem dX10_howMany_79 : decode cX10_howMany 79 = .ok (.getfield 110, 3) := by decide +kernel
theorem dX10_howMany_82 : decode cX10_howMany 82 = .ok (.ireturn, 1) := by decide +kernel
theorem dX10_howMany_83 : decode cX10_howMany 83 = .ok (.iconst 0, 1) := by decide +kernel
theorem dX10_howMany_84 : decode cX10_howMany 84 = .ok (.istore_n 3, 1) := by decide +kernel
theorem dX10_howMany_85 : decode cX10_howMany 85 = .ok (.iload_n 3, 1) := by decide +kernel
theorem dX10_howMany_86 : decode cX10_howMany 86 = .ok (.aload_n 0, 1) := by decide +kernel
theorem dX10_howMany_87 : decode cX10_howMany 87 = .ok (.getfield 110, 3) := by decide +kernel
theorem dX10_howMany_90 : decode cX10_howMany 90 = .ok (.if_icmp .ge 24, 3) := by decide +kernel
theorem dX10_howMany_93 : decode cX10_howMany 93 = .ok (.iload_n 2, 1) := by decide +kernel
theorem dX10_howMany_94 : decode cX10_howMany 94 = .ok (.aload_n 0, 1) := by decide +kernel
theorem dX10_howMany_95 : decode cX10_howMany 95 = .ok (.getfield 25, 3) := by decide +kernel
theorem dX10_howMany_98 : decode cX10_howMany 98 = .ok (.iload_n 3, 1) := by decide +kernel
theorem dX10_howMany_99 : decode cX10_howMany 99 = .ok (.iaload, 1) := by decide +kernel
theorem dX10_howMany_100 : decode cX10_howMany 100 = .ok (.invokestatic 141, 3) := by decide +kernel
theorem dX10_howMany_103 : decode cX10_howMany 103 = .ok (.invokestatic 100, 3) := by decide +kernel
theorem dX10_howMany_106 : decode cX10_howMany 106 = .ok (.iadd, 1) := by decide +kernel
theorem dX10_howMany_107 : decode cX10_howMany 107 = .ok (.istore_n 2, 1) := by decide +kernel
theorem dX10_howMany_108 : decode cX10_howMany 108 = .ok (.iinc 3 1, 3) := by decide +kernel
theorem dX10_howMany_111 : decode cX10_howMany 111 = .ok (.goto (-26), 3) := by decide +kernel
theorem dX10_howMany_114 : decode cX10_howMany 114 = .ok (.iload_n 2, 1) := by decide +kernel
theorem dX10_howMany_115 : decode cX10_howMany 115 = .ok (.ireturn, 1) := by decide +kernel
theorem dX10_howMany_116 : decode cX10_howMany 116 = .ok (.aload_n 0, 1) := by decide +kernel
theorem dX10_howMany_117 : decode cX10_howMany 117 = .ok (.getfield 113, 3) := by decide +kernel
theorem dX10_howMany_120 : decode cX10_howMany 120 = .ok (.ireturn, 1) := by decide +kernel
theorem dX10_howMany_121 : decode cX10_howMany 121 = .ok (.aload_n 0, 1) := by decide +kernel
theorem dX10_howMany_122 : decode cX10_howMany 122 = .ok (.getfield 116, 3) := by decide +kernel
theorem dX10_howMany_125 : decode cX10_howMany 125 = .ok (.ireturn, 1) := by decide +kernel
theorem dX10_howMany_126 : decode cX10_howMany 126 = .ok (.aload_n 0, 1) := by decide +kernel
theorem dX10_howMany_127 : decode cX10_howMany 127 = .ok (.getfield 72, 3) := by decide +kernel
theorem dX10_howMany_130 : decode cX10_howMany 130 = .ok (.ireturn, 1) := by decide +kernel
theorem dX10_howMany_131 : decode cX10_howMany 131 = .ok (.aload_n 0, 1) := by decide +kernel
theorem dX10_howMany_132 : decode cX10_howMany 132 = .ok (.getfield 107, 3) := by decide +kernel
theorem dX10_howMany_135 : decode cX10_howMany 135 = .ok (.ireturn, 1) := by decide +kernel
theorem dX10_howMany_136 : decode cX10_howMany 136 = .ok (.aload_n 0, 1) := by decide +kernel
theorem dX10_howMany_137 : decode cX10_howMany 137 = .ok (.getfield 183, 3) := by decide +kernel
theorem dX10_howMany_140 : decode cX10_howMany 140 = .ok (.ireturn, 1) := by decide +kernel
theorem dX10_howMany_141 : decode cX10_howMany 141 = .ok (.bipush (-102), 2) := by decide +kernel
theorem dX10_howMany_143 : decode cX10_howMany 143 = .ok (.ireturn, 1) := by decide +kernel
set_option maxRecDepth 20000 in
theorem ggX10_count_X10_howMany : GoodIn wsX10_count wsX10_howMany := goodIn_r _ [5, 6, 7, 8, 9, 10, 11, 12, 13, 14, 4, 15, 16, 17, 18, 19, 20, 21, 22, 23, 24, 25, 26, 27, 28, 29, 30, 31, 32, 33, 34, 35, 36, 37, 38, 39, 40, 41, 42, 43, 44, 45, 46, 47, 48, 49, 50, 51, 52, 53, 54, 55, 56, 57, 58, 59, 60, 61, 62, 63, 64, 65, 66, 67, 68] (by decide +kernel) (by decide +kernel)
set_option maxRecDepth 20000 in
theorem gX10_count_X10_howMany : GoodIn wsX10_count (wsV RX10 251 RX10 yX10_howMany wsX10_howMany) := goodIn_app (goodIn_of _ (by decide +kernel)) ggX10_count_X10_howMany
theorem dX10_count_0 : decode cX10_count 0 = .ok (.aload_n 0, 1) := by decide +kernel
theorem dX10_count_1 : decode cX10_count 1 = .ok (.iload_n 1, 1) := by decide +kernel
theorem dX10_count_2 : decode cX10_count 2 = .ok (.invokevirtual 251, 3) := by decide +kernel
theorem dX10_count_5 : decode cX10_count 5 = .ok (.ireturn, 1) := by decide +kernel
theorem dX10_mix_0 : decode cX10_mix 0 = .ok (.aload_n 0, 1) := by decide +kernel
theorem dX10_mix_1 : decode cX10_mix 1 = .ok (.ldc2_w 254, 3) := by decide +kernel
theorem dX10_mix_4 : decode cX10_mix 4 = .ok (.aload_n 0, 1) := by decide +kernel
theorem dX10_mix_5 : decode cX10_mix 5 = .ok (.getfield 256, 3) := by decide +kernel
theorem dX10_mix_8 : decode cX10_mix 8 = .ok (.lmul, 1) := by decide +kernel
theorem dX10_mix_9 : decode cX10_mix 9 = .ok (.lload_n 1, 1) := by decide +kernel
theorem dX10_mix_10 : decode cX10_mix 10 = .ok (.ladd, 1) := by decide +kernel
theorem dX10_mix_11 : decode cX10_mix 11 = .ok (.putfield 256, 3) := by decide +kernel
theorem dX10_mix_14 : decode cX10_mix 14 = .ok (.return_, 1) := by decide +kernel
set_option maxRecDepth 20000 in
theorem ggX10_mixPerson_X10_personNow : GoodIn wsX10_mixPerson wsX10_personNow := goodIn_r _ [7, 2, 1, 8, 9, 6, 10, 11, 12, 13, 14, 15, 16, 17, 18, 19, 20, 21, 22, 23, 24, 25, 26, 27, 28, 29, 30, 31, 32, 33, 34, 35, 72, 73, 74, 75, 76, 77, 78, 79, 80, 81, 82, 83, 84, 85, 86, 87, 88, 89, 90, 91, 92, 93, 94, 95, 96, 97, 98, 99, 100, 101, 102, 103, 104, 105, 106, 107, 108, 109] (by decide +kernel) (by decide +kernel)
set_option maxRecDepth 20000 in
theorem gX10_mixPerson_X10_personNow : GoodIn wsX10_mixPerson (wsV RX10 160 RX10 yX10_personNow wsX10_personNow) := goodIn_app (goodIn_of _ (by decide +kernel)) ggX10_mixPerson_X10_personNow
set_option maxRecDepth 20000 in
theorem ggX10_mixPerson_X10_mix : GoodIn wsX10_mixPerson wsX10_mix := goodIn_r _ [39, 40, 41, 72, 73, 74, 75, 76, 77, 78, 79, 80, 81, 82, 83, 84, 85, 86, 87, 88, 89, 90, 91, 92, 93, 94, 95, 96, 97, 98, 99, 100, 101, 102, 103, 104, 105, 106, 107, 108, 109] (by decide +kernel) (by decide +kernel)
set_option maxRecDepth 20000 in
theorem gX10_mixPerson_X10_mix : GoodIn wsX10_mixPerson (wsV RX10 259 RX10 yX10_mix wsX10_mix) := goodIn_app (goodIn_of _ (by decide +kernel)) ggX10_mixPerson_X10_mix
set_option maxRecDepth 20000 in
theorem ggX10_mixPerson_X10_deadNow : GoodIn wsX10_mixPerson wsX10_deadNow := goodIn_r _ [45, 1, 2, 46, 47, 48, 6, 49, 50, 51, 52, 53, 17, 18, 19, 20, 21, 22, 23, 24, 25, 72, 73, 74, 75, 76, 77, 78, 79, 80, 81, 82, 83, 84, 85, 86, 87, 88, 89, 90, 91, 92, 93, 94, 95, 96, 97, 98, 99, 100, 101, 102, 103, 104, 105, 106, 107, 108, 109] (by decide +kernel) (by decide +kernel)
set_option maxRecDepth 20000 in
theorem gX10_mixPerson_X10_deadNow : GoodIn wsX10_mixPerson (wsV RX10 192 RX10 yX10_deadNow wsX10_deadNow) := goodIn_app (goodIn_of _ (by decide +kernel)) ggX10_mixPerson_X10_deadNow
set_option maxRecDepth 20000 in
theorem ggX10_mixPerson_X10_mayMany : GoodIn wsX10_mixPerson wsX10_mayMany := goodIn_r _ [57, 58, 59, 6, 60, 61, 62, 63, 64, 65, 66, 67, 68, 8, 9, 10, 46, 47, 48, 49, 50, 51, 52, 53, 11, 12, 13, 17, 18, 19, 20, 21, 22, 23, 24, 25, 26, 27, 28, 29, 30, 69, 70, 71, 31, 32, 33, 34, 35, 72, 73, 74, 75, 76, 77, 78, 79, 80, 81, 82, 83, 84, 85, 86, 87, 88, 89, 90, 91, 92, 93, 94, 95, 96, 97, 98, 99, 100, 101, 102, 103, 104, 105, 106, 107, 108, 109] (by decide +kernel) (by decide +kernel)
set_option maxRecDepth 20000 in
theorem gX10_mixPerson_X10_mayMany : GoodIn wsX10_mixPerson (wsV RX10 226 RX10 yX10_mayMany wsX10_mayMany) := goodIn_app (goodIn_of _ (by decide +kernel)) ggX10_mixPerson_X10_mayMany
theorem dX10_mixPerson_0 : decode cX10_mixPerson 0 = .ok (.iconst 0, 1) := by decide +kernel
theorem dX10_mixPerson_1 : decode cX10_mixPerson 1 = .ok (.istore_n 2, 1) := by decide +kernel
theorem dX10_mixPerson_2 : decode cX10_mixPerson 2 = .ok (.iload_n 2, 1) := by decide +kernel
theorem dX10_mixPerson_3 : decode cX10_mixPerson 3 = .ok (.bipush 10, 2) := by decide +kernel
theorem dX10_mixPerson_5 : decode cX10_mixPerson 5 = .ok (.if_icmp .ge 32, 3) := by decide +kernel
theorem dX10_mixPerson_8 : decode cX10_mixPerson 8 = .ok (.aload_n 0, 1) := by decide +kernel
theorem dX10_mixPerson_9 : decode cX10_mixPerson 9 = .ok (.aload_n 0, 1) := by decide +kernel
theorem dX10_mixPerson_10 : decode cX10_mixPerson 10 = .ok (.iload_n 1, 1) := by decide +kernel
theorem dX10_mixPerson_11 : decode cX10_mixPerson 11 = .ok (.iload_n 2, 1) := by decide +kernel
theorem dX10_mixPerson_12 : decode cX10_mixPerson 12 = .ok (.bipush 6, 2) := by decide +kernel
theorem dX10_mixPerson_14 : decode cX10_mixPerson 14 = .ok (.if_icmp .ge 7, 3) := by decide +kernel
theorem dX10_mixPerson_17 : decode cX10_mixPerson 17 = .ok (.iload_n 2, 1) := by decide +kernel
theorem dX10_mixPerson_18 : decode cX10_mixPerson 18 = .ok (.goto 6, 3) := by decide +kernel
theorem dX10_mixPerson_21 : decode cX10_mixPerson 21 = .ok (.iload_n 2, 1) := by decide +kernel
theorem dX10_mixPerson_22 : decode cX10_mixPerson 22 = .ok (.iconst 4, 1) := by decide +kernel
theorem dX10_mixPerson_23 : decode cX10_mixPerson 23 = .ok (.iadd, 1) := by decide +kernel
theorem dX10_mixPerson_24 : decode cX10_mixPerson 24 = .ok (.invokevirtual 160, 3) := by decide +kernel
theorem dX10_mixPerson_27 : decode cX10_mixPerson 27 = .ok (.i2l, 1) := by decide +kernel
theorem dX10_mixPerson_28 : decode cX10_mixPerson 28 = .ok (.invokevirtual 259, 3) := by decide +kernel
theorem dX10_mixPerson_31 : decode cX10_mixPerson 31 = .ok (.iinc 2 1, 3) := by decide +kernel
theorem dX10_mixPerson_34 : decode cX10_mixPerson 34 = .ok (.goto (-32), 3) := by decide +kernel
theorem dX10_mixPerson_37 : decode cX10_mixPerson 37 = .ok (.aload_n 0, 1) := by decide +kernel
theorem dX10_mixPerson_38 : decode cX10_mixPerson 38 = .ok (.aload_n 0, 1) := by decide +kernel
theorem dX10_mixPerson_39 : decode cX10_mixPerson 39 = .ok (.iload_n 1, 1) := by decide +kernel
theorem dX10_mixPerson_40 : decode cX10_mixPerson 40 = .ok (.invokevirtual 192, 3) := by decide +kernel
theorem dX10_mixPerson_43 : decode cX10_mixPerson 43 = .ok (.i2l, 1) := by decide +kernel
theorem dX10_mixPerson_44 : decode cX10_mixPerson 44 = .ok (.invokevirtual 259, 3) := by decide +kernel
theorem dX10_mixPerson_47 : decode cX10_mixPerson 47 = .ok (.aload_n 0, 1) := by decide +kernel
theorem dX10_mixPerson_48 : decode cX10_mixPerson 48 = .ok (.aload_n 0, 1) := by decide +kernel
theorem dX10_mixPerson_49 : decode cX10_mixPerson 49 = .ok (.aload_n 0, 1) := by decide +kernel
theorem dX10_mixPerson_50 : decode cX10_mixPerson 50 = .ok (.getfield 22, 3) := by decide +kernel
theorem dX10_mixPerson_53 : decode cX10_mixPerson 53 = .ok (.iload_n 1, 1) := by decide +kernel
theorem dX10_mixPerson_54 : decode cX10_mixPerson 54 = .ok (.iaload, 1) := by decide +kernel
theorem dX10_mixPerson_55 : decode cX10_mixPerson 55 = .ok (.aload_n 0, 1) := by decide +kernel
theorem dX10_mixPerson_56 : decode cX10_mixPerson 56 = .ok (.getfield 25, 3) := by decide +kernel
theorem dX10_mixPerson_59 : decode cX10_mixPerson 59 = .ok (.iload_n 1, 1) := by decide +kernel
theorem dX10_mixPerson_60 : decode cX10_mixPerson 60 = .ok (.iaload, 1) := by decide +kernel
theorem dX10_mixPerson_61 : decode cX10_mixPerson 61 = .ok (.invokevirtual 226, 3) := by decide +kernel
theorem dX10_mixPerson_64 : decode cX10_mixPerson 64 = .ok (.i2l, 1) := by decide +kernel
theorem dX10_mixPerson_65 : decode cX10_mixPerson 65 = .ok (.invokevirtual 259, 3) := by decide +kernel
theorem dX10_mixPerson_68 : decode cX10_mixPerson 68 = .ok (.return_, 1) := by decide +kernel
set_option maxRecDepth 20000 in
theorem ggX10_digest_X10_townNow : GoodIn wsX10_digest wsX10_townNow := goodIn_r _ [12, 13, 14, 15, 16, 4, 17, 18, 19, 11, 20, 117, 118, 119, 120, 121, 122, 123, 124, 125, 126, 127, 128, 129, 130, 131, 132, 133, 134, 135, 136, 137, 138, 139, 140, 141, 142, 143, 144, 145, 146, 147, 148, 149, 150, 151, 152, 153, 154] (by decide +kernel) (by decide +kernel)
set_option maxRecDepth 20000 in
theorem gX10_digest_X10_townNow : GoodIn wsX10_digest (wsV RX10 126 RX10 yX10_townNow wsX10_townNow) := goodIn_app (goodIn_of _ (by decide +kernel)) ggX10_digest_X10_townNow
set_option maxRecDepth 20000 in
theorem ggX10_digest_X10_mix : GoodIn wsX10_digest wsX10_mix := goodIn_r _ [24, 25, 2, 117, 118, 119, 120, 121, 122, 123, 124, 125, 126, 127, 128, 129, 130, 131, 132, 133, 134, 135, 136, 137, 138, 139, 140, 141, 142, 143, 144, 145, 146, 147, 148, 149, 150, 151, 152, 153, 154] (by decide +kernel) (by decide +kernel)
set_option maxRecDepth 20000 in
theorem gX10_digest_X10_mix : GoodIn wsX10_digest (wsV RX10 259 RX10 yX10_mix wsX10_mix) := goodIn_app (goodIn_of _ (by decide +kernel)) ggX10_digest_X10_mix
set_option maxRecDepth 20000 in
theorem ggX10_digest_X10_mixPerson : GoodIn wsX10_digest wsX10_mixPerson := goodIn_r _ [29, 30, 17, 31, 32, 33, 11, 34, 18, 19, 20, 35, 36, 37, 38, 39, 40, 41, 42, 43, 44, 45, 46, 47, 48, 49, 50, 51, 52, 53, 15, 54, 55, 56, 57, 16, 21, 22, 23, 24, 25, 2, 58, 59, 60, 61, 62, 63, 64, 65, 13, 66, 67, 68, 69, 70, 71, 72, 73, 74, 75, 76, 77, 78, 79, 80, 81, 82, 14, 83, 84, 85, 117, 118, 119, 120, 121, 122, 123, 124, 125, 126, 127, 128, 129, 130, 131, 132, 133, 134, 135, 136, 137, 138, 139, 140, 141, 142, 143, 144, 145, 146, 147, 148, 149, 150, 151, 152, 153, 154] (by decide +kernel) (by decide +kernel)
set_option maxRecDepth 20000 in
theorem gX10_digest_X10_mixPerson : GoodIn wsX10_digest (wsV RX10 265 RX10 yX10_mixPerson wsX10_mixPerson) := goodIn_app (goodIn_of _ (by decide +kernel)) ggX10_digest_X10_mixPerson
set_option maxRecDepth 20000 in
theorem ggX10_digest_X10_waysNow : GoodIn wsX10_digest wsX10_waysNow := goodIn_r _ [89, 90, 91, 92, 93, 11, 94, 95, 96, 97, 18, 19, 20, 35, 36, 37, 44, 45, 46, 98, 99, 100, 101, 102, 30, 5, 73, 74, 75, 76, 77, 78, 79, 80, 81, 82, 14, 62, 63, 64, 65, 13, 66, 67, 68, 41, 42, 43, 47, 48, 49, 50, 51, 52, 53, 15, 83, 84, 85, 54, 55, 56, 57, 16, 117, 118, 119, 120, 121, 122, 123, 124, 125, 126, 127, 128, 129, 130, 131, 132, 133, 134, 135, 136, 137, 138, 139, 140, 141, 142, 143, 144, 145, 146, 147, 148, 149, 150, 151, 152, 153, 154] (by decide +kernel) (by decide +kernel)
set_option maxRecDepth 20000 in
theorem gX10_digest_X10_waysNow : GoodIn wsX10_digest (wsV RX10 207 RX10 yX10_waysNow wsX10_waysNow) := goodIn_app (goodIn_of _ (by decide +kernel)) ggX10_digest_X10_waysNow
set_option maxRecDepth 20000 in
theorem ggX10_digest_X10_endsNow : GoodIn wsX10_digest wsX10_endsNow := goodIn_r _ [106, 90, 91, 92, 93, 11, 94, 95, 96, 97, 18, 19, 20, 35, 36, 37, 44, 45, 46, 98, 99, 100, 101, 102, 30, 5, 73, 74, 75, 76, 77, 78, 79, 80, 81, 82, 14, 62, 63, 64, 65, 13, 66, 67, 68, 41, 42, 43, 47, 48, 49, 50, 51, 52, 53, 15, 83, 84, 85, 54, 55, 56, 57, 16, 117, 118, 119, 120, 121, 122, 123, 124, 125, 126, 127, 128, 129, 130, 131, 132, 133, 134, 135, 136, 137, 138, 139, 140, 141, 142, 143, 144, 145, 146, 147, 148, 149, 150, 151, 152, 153, 154] (by decide +kernel) (by decide +kernel)
set_option maxRecDepth 20000 in
theorem gX10_digest_X10_endsNow : GoodIn wsX10_digest (wsV RX10 211 RX10 yX10_endsNow wsX10_endsNow) := goodIn_app (goodIn_of _ (by decide +kernel)) ggX10_digest_X10_endsNow
set_option maxRecDepth 20000 in
theorem ggX10_digest_X10_howMany : GoodIn wsX10_digest wsX10_howMany := goodIn_r _ [110, 4, 17, 111, 96, 6, 112, 113, 38, 39, 11, 40, 41, 42, 43, 44, 45, 46, 47, 48, 49, 35, 36, 37, 114, 115, 116, 117, 118, 119, 120, 121, 122, 123, 124, 125, 126, 127, 128, 129, 130, 131, 132, 133, 134, 135, 136, 137, 138, 139, 140, 141, 142, 143, 144, 145, 146, 147, 148, 149, 150, 151, 152, 153, 154] (by decide +kernel) (by decide +kernel)
set_option maxRecDepth 20000 in
theorem gX10_digest_X10_howMany : GoodIn wsX10_digest (wsV RX10 251 RX10 yX10_howMany wsX10_howMany) := goodIn_app (goodIn_of _ (by decide +kernel)) ggX10_digest_X10_howMany
theorem dX10_digest_0 : decode cX10_digest 0 = .ok (.aload_n 0, 1) := by decide +kernel
theorem dX10_digest_1 : decode cX10_digest 1 = .ok (.ldc2_w 263, 3) := by decide +kernel
theorem dX10_digest_4 : decode cX10_digest 4 = .ok (.putfield 256, 3) := by decide +kernel
theorem dX10_digest_7 : decode cX10_digest 7 = .ok (.iconst 0, 1) := by decide +kernel
theorem dX10_digest_8 : decode cX10_digest 8 = .ok (.istore_n 1, 1) := by decide +kernel
theorem dX10_digest_9 : decode cX10_digest 9 = .ok (.iload_n 1, 1) := by decide +kernel
theorem dX10_digest_10 : decode cX10_digest 10 = .ok (.iconst 4, 1) := by decide +kernel
theorem dX10_digest_11 : decode cX10_digest 11 = .ok (.if_icmp .ge 40, 3) := by decide +kernel
theorem dX10_digest_14 : decode cX10_digest 14 = .ok (.aload_n 0, 1) := by decide +kernel
theorem dX10_digest_15 : decode cX10_digest 15 = .ok (.getfield 104, 3) := by decide +kernel
theorem dX10_digest_18 : decode cX10_digest 18 = .ok (.ifCond .eq 33, 3) := by decide +kernel
theorem dX10_digest_21 : decode cX10_digest 21 = .ok (.iconst 0, 1) := by decide +kernel
theorem dX10_digest_22 : decode cX10_digest 22 = .ok (.istore_n 2, 1) := by decide +kernel
theorem dX10_digest_23 : decode cX10_digest 23 = .ok (.iload_n 2, 1) := by decide +kernel
theorem dX10_digest_24 : decode cX10_digest 24 = .ok (.iconst 5, 1) := by decide +kernel
theorem dX10_digest_25 : decode cX10_digest 25 = .ok (.if_icmp .ge 20, 3) := by decide +kernel
theorem dX10_digest_28 : decode cX10_digest 28 = .ok (.aload_n 0, 1) := by decide +kernel
theorem dX10_digest_29 : decode cX10_digest 29 = .ok (.aload_n 0, 1) := by decide +kernel
theorem dX10_digest_30 : decode cX10_digest 30 = .ok (.iload_n 1, 1) := by decide +kernel
theorem dX10_digest_31 : decode cX10_digest 31 = .ok (.iload_n 2, 1) := by decide +kernel
theorem dX10_digest_32 : decode cX10_digest 32 = .ok (.invokevirtual 126, 3) := by decide +kernel
theorem dX10_digest_35 : decode cX10_digest 35 = .ok (.i2l, 1) := by decide +kernel
theorem dX10_digest_36 : decode cX10_digest 36 = .ok (.invokevirtual 259, 3) := by decide +kernel
theorem dX10_digest_39 : decode cX10_digest 39 = .ok (.iinc 2 1, 3) := by decide +kernel
theorem dX10_digest_42 : decode cX10_digest 42 = .ok (.goto (-19), 3) := by decide +kernel
theorem dX10_digest_45 : decode cX10_digest 45 = .ok (.iinc 1 1, 3) := by decide +kernel
theorem dX10_digest_48 : decode cX10_digest 48 = .ok (.goto (-39), 3) := by decide +kernel
theorem dX10_digest_51 : decode cX10_digest 51 = .ok (.iconst 0, 1) := by decide +kernel
theorem dX10_digest_52 : decode cX10_digest 52 = .ok (.istore_n 1, 1) := by decide +kernel
theorem dX10_digest_53 : decode cX10_digest 53 = .ok (.iload_n 1, 1) := by decide +kernel
theorem dX10_digest_54 : decode cX10_digest 54 = .ok (.aload_n 0, 1) := by decide +kernel
theorem dX10_digest_55 : decode cX10_digest 55 = .ok (.getfield 110, 3) := by decide +kernel
theorem dX10_digest_58 : decode cX10_digest 58 = .ok (.if_icmp .ge 14, 3) := by decide +kernel
theorem dX10_digest_61 : decode cX10_digest 61 = .ok (.aload_n 0, 1) := by decide +kernel
theorem dX10_digest_62 : decode cX10_digest 62 = .ok (.iload_n 1, 1) := by decide +kernel
theorem dX10_digest_63 : decode cX10_digest 63 = .ok (.invokevirtual 265, 3) := by decide +kernel
theorem dX10_digest_66 : decode cX10_digest 66 = .ok (.iinc 1 1, 3) := by decide +kernel
theorem dX10_digest_69 : decode cX10_digest 69 = .ok (.goto (-16), 3) := by decide +kernel
theorem dX10_digest_72 : decode cX10_digest 72 = .ok (.aload_n 0, 1) := by decide +kernel
theorem dX10_digest_73 : decode cX10_digest 73 = .ok (.getfield 28, 3) := by decide +kernel
theorem dX10_digest_76 : decode cX10_digest 76 = .ok (.iconst (-1), 1) := by decide +kernel
theorem dX10_digest_77 : decode cX10_digest 77 = .ok (.if_icmp .eq 21, 3) := by decide +kernel
theorem dX10_digest_80 : decode cX10_digest 80 = .ok (.aload_n 0, 1) := by decide +kernel
theorem dX10_digest_81 : decode cX10_digest 81 = .ok (.aload_n 0, 1) := by decide +kernel
theorem dX10_digest_82 : decode cX10_digest 82 = .ok (.invokevirtual 207, 3) := by decide +kernel
theorem dX10_digest_85 : decode cX10_digest 85 = .ok (.i2l, 1) := by decide +kernel
theorem dX10_digest_86 : decode cX10_digest 86 = .ok (.invokevirtual 259, 3) := by decide +kernel
theorem dX10_digest_89 : decode cX10_digest 89 = .ok (.aload_n 0, 1) := by decide +kernel
theorem dX10_digest_90 : decode cX10_digest 90 = .ok (.aload_n 0, 1) := by decide +kernel
theorem dX10_digest_91 : decode cX10_digest 91 = .ok (.invokevirtual 211, 3) := by decide +kernel
theorem dX10_digest_94 : decode cX10_digest 94 = .ok (.i2l, 1) := by decide +kernel
theorem dX10_digest_95 : decode cX10_digest 95 = .ok (.invokevirtual 259, 3) := by decide +kernel
theorem dX10_digest_98 : decode cX10_digest 98 = .ok (.iconst 0, 1) := by decide +kernel
theorem dX10_digest_99 : decode cX10_digest 99 = .ok (.istore_n 1, 1) := by decide +kernel
theorem dX10_digest_100 : decode cX10_digest 100 = .ok (.iload_n 1, 1) := by decide +kernel
theorem dX10_digest_101 : decode cX10_digest 101 = .ok (.aload_n 0, 1) := by decide +kernel
theorem dX10_digest_102 : decode cX10_digest 102 = .ok (.getfield 72, 3) := by decide +kernel
theorem dX10_digest_105 : decode cX10_digest 105 = .ok (.if_icmp .ge 20, 3) := by decide +kernel
theorem dX10_digest_108 : decode cX10_digest 108 = .ok (.aload_n 0, 1) := by decide +kernel
theorem dX10_digest_109 : decode cX10_digest 109 = .ok (.aload_n 0, 1) := by decide +kernel
theorem dX10_digest_110 : decode cX10_digest 110 = .ok (.getfield 35, 3) := by decide +kernel
theorem dX10_digest_113 : decode cX10_digest 113 = .ok (.iload_n 1, 1) := by decide +kernel
theorem dX10_digest_114 : decode cX10_digest 114 = .ok (.baload, 1) := by decide +kernel
theorem dX10_digest_115 : decode cX10_digest 115 = .ok (.i2l, 1) := by decide +kernel
theorem dX10_digest_116 : decode cX10_digest 116 = .ok (.invokevirtual 259, 3) := by decide +kernel
theorem dX10_digest_119 : decode cX10_digest 119 = .ok (.iinc 1 1, 3) := by decide +kernel
theorem dX10_digest_122 : decode cX10_digest 122 = .ok (.goto (-22), 3) := by decide +kernel
theorem dX10_digest_125 : decode cX10_digest 125 = .ok (.iconst 0, 1) := by decide +kernel
theorem dX10_digest_126 : decode cX10_digest 126 = .ok (.istore_n 1, 1) := by decide +kernel
theorem dX10_digest_127 : decode cX10_digest 127 = .ok (.iload_n 1, 1) := by decide +kernel
theorem dX10_digest_128 : decode cX10_digest 128 = .ok (.bipush 8, 2) := by decide +kernel
theorem dX10_digest_130 : decode cX10_digest 130 = .ok (.if_icmp .ge 19, 3) := by decide +kernel
theorem dX10_digest_133 : decode cX10_digest 133 = .ok (.aload_n 0, 1) := by decide +kernel
theorem dX10_digest_134 : decode cX10_digest 134 = .ok (.aload_n 0, 1) := by decide +kernel
theorem dX10_digest_135 : decode cX10_digest 135 = .ok (.iload_n 1, 1) := by decide +kernel
theorem dX10_digest_136 : decode cX10_digest 136 = .ok (.invokevirtual 251, 3) := by decide +kernel
theorem dX10_digest_139 : decode cX10_digest 139 = .ok (.i2l, 1) := by decide +kernel
theorem dX10_digest_140 : decode cX10_digest 140 = .ok (.invokevirtual 259, 3) := by decide +kernel
theorem dX10_digest_143 : decode cX10_digest 143 = .ok (.iinc 1 1, 3) := by decide +kernel
theorem dX10_digest_146 : decode cX10_digest 146 = .ok (.goto (-19), 3) := by decide +kernel
theorem dX10_digest_149 : decode cX10_digest 149 = .ok (.aload_n 0, 1) := by decide +kernel
theorem dX10_digest_150 : decode cX10_digest 150 = .ok (.getfield 256, 3) := by decide +kernel
theorem dX10_digest_153 : decode cX10_digest 153 = .ok (.lreturn, 1) := by decide +kernel
theorem dJ6_bitCount_0f7a4_0 : decode cJ6_bitCount_0f7a4 0 = .ok (.iload_n 0, 1) := by decide +kernel
theorem dJ6_bitCount_0f7a4_1 : decode cJ6_bitCount_0f7a4 1 = .ok (.iload_n 0, 1) := by decide +kernel
theorem dJ6_bitCount_0f7a4_2 : decode cJ6_bitCount_0f7a4 2 = .ok (.iconst 1, 1) := by decide +kernel
theorem dJ6_bitCount_0f7a4_3 : decode cJ6_bitCount_0f7a4 3 = .ok (.iushr, 1) := by decide +kernel
theorem dJ6_bitCount_0f7a4_4 : decode cJ6_bitCount_0f7a4 4 = .ok (.ldc_w 265, 3) := by decide +kernel
theorem dJ6_bitCount_0f7a4_7 : decode cJ6_bitCount_0f7a4 7 = .ok (.iand, 1) := by decide +kernel
theorem dJ6_bitCount_0f7a4_8 : decode cJ6_bitCount_0f7a4 8 = .ok (.isub, 1) := by decide +kernel
theorem dJ6_bitCount_0f7a4_9 : decode cJ6_bitCount_0f7a4 9 = .ok (.istore_n 0, 1) := by decide +kernel
theorem dJ6_bitCount_0f7a4_10 : decode cJ6_bitCount_0f7a4 10 = .ok (.iload_n 0, 1) := by decide +kernel
theorem dJ6_bitCount_0f7a4_11 : decode cJ6_bitCount_0f7a4 11 = .ok (.ldc_w 266, 3) := by decide +kernel
theorem dJ6_bitCount_0f7a4_14 : decode cJ6_bitCount_0f7a4 14 = .ok (.iand, 1) := by decide +kernel
theorem dJ6_bitCount_0f7a4_15 : decode cJ6_bitCount_0f7a4 15 = .ok (.iload_n 0, 1) := by decide +kernel
theorem dJ6_bitCount_0f7a4_16 : decode cJ6_bitCount_0f7a4 16 = .ok (.iconst 2, 1) := by decide +kernel
theorem dJ6_bitCount_0f7a4_17 : decode cJ6_bitCount_0f7a4 17 = .ok (.iushr, 1) := by decide +kernel
theorem dJ6_bitCount_0f7a4_18 : decode cJ6_bitCount_0f7a4 18 = .ok (.ldc_w 266, 3) := by decide +kernel
theorem dJ6_bitCount_0f7a4_21 : decode cJ6_bitCount_0f7a4 21 = .ok (.iand, 1) := by decide +kernel
theorem dJ6_bitCount_0f7a4_22 : decode cJ6_bitCount_0f7a4 22 = .ok (.iadd, 1) := by decide +kernel
theorem dJ6_bitCount_0f7a4_23 : decode cJ6_bitCount_0f7a4 23 = .ok (.istore_n 0, 1) := by decide +kernel
theorem dJ6_bitCount_0f7a4_24 : decode cJ6_bitCount_0f7a4 24 = .ok (.iload_n 0, 1) := by decide +kernel
theorem dJ6_bitCount_0f7a4_25 : decode cJ6_bitCount_0f7a4 25 = .ok (.iload_n 0, 1) := by decide +kernel
theorem dJ6_bitCount_0f7a4_26 : decode cJ6_bitCount_0f7a4 26 = .ok (.iconst 4, 1) := by decide +kernel
theorem dJ6_bitCount_0f7a4_27 : decode cJ6_bitCount_0f7a4 27 = .ok (.iushr, 1) := by decide +kernel
theorem dJ6_bitCount_0f7a4_28 : decode cJ6_bitCount_0f7a4 28 = .ok (.iadd, 1) := by decide +kernel
theorem dJ6_bitCount_0f7a4_29 : decode cJ6_bitCount_0f7a4 29 = .ok (.ldc_w 267, 3) := by decide +kernel
theorem dJ6_bitCount_0f7a4_32 : decode cJ6_bitCount_0f7a4 32 = .ok (.iand, 1) := by decide +kernel
theorem dJ6_bitCount_0f7a4_33 : decode cJ6_bitCount_0f7a4 33 = .ok (.istore_n 0, 1) := by decide +kernel
theorem dJ6_bitCount_0f7a4_34 : decode cJ6_bitCount_0f7a4 34 = .ok (.iload_n 0, 1) := by decide +kernel
theorem dJ6_bitCount_0f7a4_35 : decode cJ6_bitCount_0f7a4 35 = .ok (.iload_n 0, 1) := by decide +kernel
theorem dJ6_bitCount_0f7a4_36 : decode cJ6_bitCount_0f7a4 36 = .ok (.bipush 8, 2) := by decide +kernel
theorem dJ6_bitCount_0f7a4_38 : decode cJ6_bitCount_0f7a4 38 = .ok (.iushr, 1) := by decide +kernel
theorem dJ6_bitCount_0f7a4_39 : decode cJ6_bitCount_0f7a4 39 = .ok (.iadd, 1) := by decide +kernel
theorem dJ6_bitCount_0f7a4_40 : decode cJ6_bitCount_0f7a4 40 = .ok (.istore_n 0, 1) := by decide +kernel
theorem dJ6_bitCount_0f7a4_41 : decode cJ6_bitCount_0f7a4 41 = .ok (.iload_n 0, 1) := by decide +kernel
theorem dJ6_bitCount_0f7a4_42 : decode cJ6_bitCount_0f7a4 42 = .ok (.iload_n 0, 1) := by decide +kernel
theorem dJ6_bitCount_0f7a4_43 : decode cJ6_bitCount_0f7a4 43 = .ok (.bipush 16, 2) := by decide +kernel
theorem dJ6_bitCount_0f7a4_45 : decode cJ6_bitCount_0f7a4 45 = .ok (.iushr, 1) := by decide +kernel
theorem dJ6_bitCount_0f7a4_46 : decode cJ6_bitCount_0f7a4 46 = .ok (.iadd, 1) := by decide +kernel
theorem dJ6_bitCount_0f7a4_47 : decode cJ6_bitCount_0f7a4 47 = .ok (.istore_n 0, 1) := by decide +kernel
theorem dJ6_bitCount_0f7a4_48 : decode cJ6_bitCount_0f7a4 48 = .ok (.iload_n 0, 1) := by decide +kernel
theorem dJ6_bitCount_0f7a4_49 : decode cJ6_bitCount_0f7a4 49 = .ok (.bipush 63, 2) := by decide +kernel
theorem dJ6_bitCount_0f7a4_51 : decode cJ6_bitCount_0f7a4 51 = .ok (.iand, 1) := by decide +kernel
theorem dJ6_bitCount_0f7a4_52 : decode cJ6_bitCount_0f7a4 52 = .ok (.ireturn, 1) := by decide +kernel
theorem dJ9_max_7cf53_0 : decode cJ9_max_7cf53 0 = .ok (.iload_n 0, 1) := by decide +kernel
theorem dJ9_max_7cf53_1 : decode cJ9_max_7cf53 1 = .ok (.iload_n 1, 1) := by decide +kernel
theorem dJ9_max_7cf53_2 : decode cJ9_max_7cf53 2 = .ok (.if_icmp .lt 7, 3) := by decide +kernel
theorem dJ9_max_7cf53_5 : decode cJ9_max_7cf53 5 = .ok (.iload_n 0, 1) := by decide +kernel
theorem dJ9_max_7cf53_6 : decode cJ9_max_7cf53 6 = .ok (.goto 4, 3) := by decide +kernel
theorem dJ9_max_7cf53_9 : decode cJ9_max_7cf53 9 = .ok (.iload_n 1, 1) := by decide +kernel
theorem dJ9_max_7cf53_10 : decode cJ9_max_7cf53 10 = .ok (.ireturn, 1) := by decide +kernel
theorem dJ7_fill_53178_0 : decode cJ7_fill_53178 0 = .ok (.iconst 0, 1) := by decide +kernel
theorem dJ7_fill_53178_1 : decode cJ7_fill_53178 1 = .ok (.istore_n 2, 1) := by decide +kernel
theorem dJ7_fill_53178_2 : decode cJ7_fill_53178 2 = .ok (.aload_n 0, 1) := by decide +kernel
theorem dJ7_fill_53178_3 : decode cJ7_fill_53178 3 = .ok (.arraylength, 1) := by decide +kernel
theorem dJ7_fill_53178_4 : decode cJ7_fill_53178 4 = .ok (.istore_n 3, 1) := by decide +kernel
theorem dJ7_fill_53178_5 : decode cJ7_fill_53178 5 = .ok (.iload_n 2, 1) := by decide +kernel
theorem dJ7_fill_53178_6 : decode cJ7_fill_53178 6 = .ok (.iload_n 3, 1) := by decide +kernel
theorem dJ7_fill_53178_7 : decode cJ7_fill_53178 7 = .ok (.if_icmp .ge 13, 3) := by decide +kernel
theorem dJ7_fill_53178_10 : decode cJ7_fill_53178 10 = .ok (.aload_n 0, 1) := by decide +kernel
theorem dJ7_fill_53178_11 : decode cJ7_fill_53178 11 = .ok (.iload_n 2, 1) := by decide +kernel
theorem dJ7_fill_53178_12 : decode cJ7_fill_53178 12 = .ok (.iload_n 1, 1) := by decide +kernel
theorem dJ7_fill_53178_13 : decode cJ7_fill_53178 13 = .ok (.iastore, 1) := by decide +kernel
theorem dJ7_fill_53178_14 : decode cJ7_fill_53178 14 = .ok (.iinc 2 1, 3) := by decide +kernel
theorem dJ7_fill_53178_17 : decode cJ7_fill_53178 17 = .ok (.goto (-12), 3) := by decide +kernel
theorem dJ7_fill_53178_20 : decode cJ7_fill_53178 20 = .ok (.return_, 1) := by decide +kernel
end
