-- ===== PART A: goes FIRST, ahead of the names: the tables' words, and 'selects' of the private methods out of them =====
/-- a private method of a class that the tables say can be made, by its rows of tables_1 -/
def lw_okq (q : MethodName × Nat) : Prop := (q.1.cls ≠ "java/lang/invoke/MethodHandle" ∧ q.1.cls ≠ "java/lang/invoke/VarHandle") ∧ Cond.instantiable q.1.cls q.2 ∈ tables_1 ∧ Cond.privateMethod q.1 ∈ tables_1 ∧ Cond.instanceMethod q.1 ∈ tables_1
theorem lw_p0 : lw_okq (⟨"SiegePlate$Reader", "skipBlanks", "(LSiegePlate$Text;)V"⟩, 4) := ⟨⟨by decide +kernel, by decide +kernel⟩, List.mem_of_getElem? (i := 40) (by decide +kernel), List.mem_of_getElem? (i := 383) (by decide +kernel), List.mem_of_getElem? (i := 384) (by decide +kernel)⟩
theorem lw_p1 : lw_okq (⟨"SiegePlate$Reader", "readClause", "(LSiegePlate$Text;LSiegePlate$Town;)V"⟩, 4) := ⟨⟨by decide +kernel, by decide +kernel⟩, List.mem_of_getElem? (i := 40) (by decide +kernel), List.mem_of_getElem? (i := 387) (by decide +kernel), List.mem_of_getElem? (i := 388) (by decide +kernel)⟩
theorem lw_p2 : lw_okq (⟨"SiegePlate$Reader", "setFault", "(II)V"⟩, 4) := ⟨⟨by decide +kernel, by decide +kernel⟩, List.mem_of_getElem? (i := 40) (by decide +kernel), List.mem_of_getElem? (i := 394) (by decide +kernel), List.mem_of_getElem? (i := 395) (by decide +kernel)⟩
theorem lw_p3 : lw_okq (⟨"SiegePlate$Reader", "readNumbers", "(LSiegePlate$Text;I)V"⟩, 4) := ⟨⟨by decide +kernel, by decide +kernel⟩, List.mem_of_getElem? (i := 40) (by decide +kernel), List.mem_of_getElem? (i := 402) (by decide +kernel), List.mem_of_getElem? (i := 403) (by decide +kernel)⟩
theorem lw_p4 : lw_okq (⟨"SiegePlate$Reader", "readNumber", "(LSiegePlate$Text;II)I"⟩, 4) := ⟨⟨by decide +kernel, by decide +kernel⟩, List.mem_of_getElem? (i := 40) (by decide +kernel), List.mem_of_getElem? (i := 412) (by decide +kernel), List.mem_of_getElem? (i := 413) (by decide +kernel)⟩
theorem lw_p5 : lw_okq (⟨"SiegePlate$Reader", "readEnd", "(LSiegePlate$Text;)V"⟩, 4) := ⟨⟨by decide +kernel, by decide +kernel⟩, List.mem_of_getElem? (i := 40) (by decide +kernel), List.mem_of_getElem? (i := 420) (by decide +kernel), List.mem_of_getElem? (i := 421) (by decide +kernel)⟩
theorem lw_p6 : lw_okq (⟨"SiegePlate$Town", "addStores", "(II)V"⟩, 16) := ⟨⟨by decide +kernel, by decide +kernel⟩, List.mem_of_getElem? (i := 61) (by decide +kernel), List.mem_of_getElem? (i := 429) (by decide +kernel), List.mem_of_getElem? (i := 430) (by decide +kernel)⟩
theorem lw_p7 : lw_okq (⟨"SiegePlate$Town", "addCompany", "(III)V"⟩, 16) := ⟨⟨by decide +kernel, by decide +kernel⟩, List.mem_of_getElem? (i := 61) (by decide +kernel), List.mem_of_getElem? (i := 433) (by decide +kernel), List.mem_of_getElem? (i := 434) (by decide +kernel)⟩
theorem lw_p8 : lw_okq (⟨"SiegePlate$Town", "addMoney", "(III)V"⟩, 16) := ⟨⟨by decide +kernel, by decide +kernel⟩, List.mem_of_getElem? (i := 61) (by decide +kernel), List.mem_of_getElem? (i := 437) (by decide +kernel), List.mem_of_getElem? (i := 438) (by decide +kernel)⟩
theorem lw_p9 : lw_okq (⟨"SiegePlate$Town", "addGood", "(I)V"⟩, 16) := ⟨⟨by decide +kernel, by decide +kernel⟩, List.mem_of_getElem? (i := 61) (by decide +kernel), List.mem_of_getElem? (i := 441) (by decide +kernel), List.mem_of_getElem? (i := 442) (by decide +kernel)⟩
theorem lw_p10 : lw_okq (⟨"SiegePlate$Town", "addHorse", "(II)V"⟩, 16) := ⟨⟨by decide +kernel, by decide +kernel⟩, List.mem_of_getElem? (i := 61) (by decide +kernel), List.mem_of_getElem? (i := 445) (by decide +kernel), List.mem_of_getElem? (i := 446) (by decide +kernel)⟩
theorem lw_p11 : lw_okq (⟨"SiegePlate", "beginSiege", "()V"⟩, 12) := ⟨⟨by decide +kernel, by decide +kernel⟩, List.mem_of_getElem? (i := 15) (by decide +kernel), List.mem_of_getElem? (i := 449) (by decide +kernel), List.mem_of_getElem? (i := 450) (by decide +kernel)⟩
theorem lw_p12 : lw_okq (⟨"SiegePlate", "isCompany", "(I)Z"⟩, 12) := ⟨⟨by decide +kernel, by decide +kernel⟩, List.mem_of_getElem? (i := 15) (by decide +kernel), List.mem_of_getElem? (i := 481) (by decide +kernel), List.mem_of_getElem? (i := 482) (by decide +kernel)⟩
theorem lw_p13 : lw_okq (⟨"SiegePlate", "isMoney", "(I)Z"⟩, 12) := ⟨⟨by decide +kernel, by decide +kernel⟩, List.mem_of_getElem? (i := 15) (by decide +kernel), List.mem_of_getElem? (i := 490) (by decide +kernel), List.mem_of_getElem? (i := 491) (by decide +kernel)⟩
theorem lw_p14 : lw_okq (⟨"SiegePlate", "refusalOfDays", "(II)I"⟩, 12) := ⟨⟨by decide +kernel, by decide +kernel⟩, List.mem_of_getElem? (i := 15) (by decide +kernel), List.mem_of_getElem? (i := 498) (by decide +kernel), List.mem_of_getElem? (i := 499) (by decide +kernel)⟩
theorem lw_p15 : lw_okq (⟨"SiegePlate", "isBesieged", "()Z"⟩, 12) := ⟨⟨by decide +kernel, by decide +kernel⟩, List.mem_of_getElem? (i := 15) (by decide +kernel), List.mem_of_getElem? (i := 505) (by decide +kernel), List.mem_of_getElem? (i := 506) (by decide +kernel)⟩
def lw_privs_1 : List (MethodName × Nat) := [(⟨"SiegePlate$Reader", "skipBlanks", "(LSiegePlate$Text;)V"⟩, 4), (⟨"SiegePlate$Reader", "readClause", "(LSiegePlate$Text;LSiegePlate$Town;)V"⟩, 4), (⟨"SiegePlate$Reader", "setFault", "(II)V"⟩, 4), (⟨"SiegePlate$Reader", "readNumbers", "(LSiegePlate$Text;I)V"⟩, 4), (⟨"SiegePlate$Reader", "readNumber", "(LSiegePlate$Text;II)I"⟩, 4), (⟨"SiegePlate$Reader", "readEnd", "(LSiegePlate$Text;)V"⟩, 4), (⟨"SiegePlate$Town", "addStores", "(II)V"⟩, 16), (⟨"SiegePlate$Town", "addCompany", "(III)V"⟩, 16), (⟨"SiegePlate$Town", "addMoney", "(III)V"⟩, 16), (⟨"SiegePlate$Town", "addGood", "(I)V"⟩, 16), (⟨"SiegePlate$Town", "addHorse", "(II)V"⟩, 16), (⟨"SiegePlate", "beginSiege", "()V"⟩, 12), (⟨"SiegePlate", "isCompany", "(I)Z"⟩, 12), (⟨"SiegePlate", "isMoney", "(I)Z"⟩, 12), (⟨"SiegePlate", "refusalOfDays", "(II)I"⟩, 12), (⟨"SiegePlate", "isBesieged", "()Z"⟩, 12)]
theorem lw_r1 : ∀ q ∈ lw_privs_1, lw_okq q := List.forall_mem_cons.mpr ⟨lw_p0, List.forall_mem_cons.mpr ⟨lw_p1, List.forall_mem_cons.mpr ⟨lw_p2, List.forall_mem_cons.mpr ⟨lw_p3, List.forall_mem_cons.mpr ⟨lw_p4, List.forall_mem_cons.mpr ⟨lw_p5, List.forall_mem_cons.mpr ⟨lw_p6, List.forall_mem_cons.mpr ⟨lw_p7, List.forall_mem_cons.mpr ⟨lw_p8, List.forall_mem_cons.mpr ⟨lw_p9, List.forall_mem_cons.mpr ⟨lw_p10, List.forall_mem_cons.mpr ⟨lw_p11, List.forall_mem_cons.mpr ⟨lw_p12, List.forall_mem_cons.mpr ⟨lw_p13, List.forall_mem_cons.mpr ⟨lw_p14, List.forall_mem_cons.mpr ⟨lw_p15, fun _ h => absurd h List.not_mem_nil⟩⟩⟩⟩⟩⟩⟩⟩⟩⟩⟩⟩⟩⟩⟩⟩
theorem lw_p16 : lw_okq (⟨"SiegePlate$Camp", "isFed", "(II)Z"⟩, 6) := ⟨⟨by decide +kernel, by decide +kernel⟩, List.mem_of_getElem? (i := 147) (by decide +kernel), List.mem_of_getElem? (i := 537) (by decide +kernel), List.mem_of_getElem? (i := 538) (by decide +kernel)⟩
theorem lw_p17 : lw_okq (⟨"SiegePlate$Camp", "starve", "(II)V"⟩, 6) := ⟨⟨by decide +kernel, by decide +kernel⟩, List.mem_of_getElem? (i := 147) (by decide +kernel), List.mem_of_getElem? (i := 541) (by decide +kernel), List.mem_of_getElem? (i := 542) (by decide +kernel)⟩
theorem lw_p18 : lw_okq (⟨"SiegePlate$Siege", "payCompany", "(III)V"⟩, 7) := ⟨⟨by decide +kernel, by decide +kernel⟩, List.mem_of_getElem? (i := 141) (by decide +kernel), List.mem_of_getElem? (i := 546) (by decide +kernel), List.mem_of_getElem? (i := 547) (by decide +kernel)⟩
theorem lw_p19 : lw_okq (⟨"SiegePlate", "passDayByDraws", "(I)V"⟩, 12) := ⟨⟨by decide +kernel, by decide +kernel⟩, List.mem_of_getElem? (i := 15) (by decide +kernel), List.mem_of_getElem? (i := 579) (by decide +kernel), List.mem_of_getElem? (i := 580) (by decide +kernel)⟩
theorem lw_p20 : lw_okq (⟨"SiegePlate", "nextDraw", "()I"⟩, 12) := ⟨⟨by decide +kernel, by decide +kernel⟩, List.mem_of_getElem? (i := 15) (by decide +kernel), List.mem_of_getElem? (i := 583) (by decide +kernel), List.mem_of_getElem? (i := 584) (by decide +kernel)⟩
theorem lw_p21 : lw_okq (⟨"SiegePlate", "isGood", "(I)Z"⟩, 12) := ⟨⟨by decide +kernel, by decide +kernel⟩, List.mem_of_getElem? (i := 15) (by decide +kernel), List.mem_of_getElem? (i := 602) (by decide +kernel), List.mem_of_getElem? (i := 603) (by decide +kernel)⟩
theorem lw_p22 : lw_okq (⟨"SiegePlate", "worthWithin", "(II)I"⟩, 12) := ⟨⟨by decide +kernel, by decide +kernel⟩, List.mem_of_getElem? (i := 15) (by decide +kernel), List.mem_of_getElem? (i := 613) (by decide +kernel), List.mem_of_getElem? (i := 614) (by decide +kernel)⟩
theorem lw_p23 : lw_okq (⟨"SiegePlate$Trials", "compareRow", "(ILSiegePlate$Camp;)V"⟩, 5) := ⟨⟨by decide +kernel, by decide +kernel⟩, List.mem_of_getElem? (i := 231) (by decide +kernel), List.mem_of_getElem? (i := 635) (by decide +kernel), List.mem_of_getElem? (i := 636) (by decide +kernel)⟩
theorem lw_p24 : lw_okq (⟨"SiegePlate$Trials", "strikeGreatestDebt", "(I)I"⟩, 5) := ⟨⟨by decide +kernel, by decide +kernel⟩, List.mem_of_getElem? (i := 231) (by decide +kernel), List.mem_of_getElem? (i := 680) (by decide +kernel), List.mem_of_getElem? (i := 681) (by decide +kernel)⟩
theorem lw_p25 : lw_okq (⟨"SiegePlate$Shown", "bearsStampOfDead", "(I)Z"⟩, 6) := ⟨⟨by decide +kernel, by decide +kernel⟩, List.mem_of_getElem? (i := 258) (by decide +kernel), List.mem_of_getElem? (i := 712) (by decide +kernel), List.mem_of_getElem? (i := 713) (by decide +kernel)⟩
theorem lw_p26 : lw_okq (⟨"SiegePlateModel", "here", "()I"⟩, 41) := ⟨⟨by decide +kernel, by decide +kernel⟩, List.mem_of_getElem? (i := 757) (by decide +kernel), List.mem_of_getElem? (i := 902) (by decide +kernel), List.mem_of_getElem? (i := 903) (by decide +kernel)⟩
theorem lw_p27 : lw_okq (⟨"SiegePlateModel", "letterAt", "(I)I"⟩, 41) := ⟨⟨by decide +kernel, by decide +kernel⟩, List.mem_of_getElem? (i := 757) (by decide +kernel), List.mem_of_getElem? (i := 906) (by decide +kernel), List.mem_of_getElem? (i := 907) (by decide +kernel)⟩
theorem lw_p28 : lw_okq (⟨"SiegePlateModel", "takesClause", "()Z"⟩, 41) := ⟨⟨by decide +kernel, by decide +kernel⟩, List.mem_of_getElem? (i := 757) (by decide +kernel), List.mem_of_getElem? (i := 910) (by decide +kernel), List.mem_of_getElem? (i := 911) (by decide +kernel)⟩
theorem lw_p29 : lw_okq (⟨"SiegePlateModel", "fails", "(II)Z"⟩, 41) := ⟨⟨by decide +kernel, by decide +kernel⟩, List.mem_of_getElem? (i := 757) (by decide +kernel), List.mem_of_getElem? (i := 914) (by decide +kernel), List.mem_of_getElem? (i := 915) (by decide +kernel)⟩
theorem lw_p30 : lw_okq (⟨"SiegePlateModel", "takesWords", "(I)Z"⟩, 41) := ⟨⟨by decide +kernel, by decide +kernel⟩, List.mem_of_getElem? (i := 757) (by decide +kernel), List.mem_of_getElem? (i := 918) (by decide +kernel), List.mem_of_getElem? (i := 919) (by decide +kernel)⟩
theorem lw_p31 : lw_okq (⟨"SiegePlateModel", "takesTown", "()Z"⟩, 41) := ⟨⟨by decide +kernel, by decide +kernel⟩, List.mem_of_getElem? (i := 757) (by decide +kernel), List.mem_of_getElem? (i := 922) (by decide +kernel), List.mem_of_getElem? (i := 923) (by decide +kernel)⟩
def lw_privs_2 : List (MethodName × Nat) := [(⟨"SiegePlate$Camp", "isFed", "(II)Z"⟩, 6), (⟨"SiegePlate$Camp", "starve", "(II)V"⟩, 6), (⟨"SiegePlate$Siege", "payCompany", "(III)V"⟩, 7), (⟨"SiegePlate", "passDayByDraws", "(I)V"⟩, 12), (⟨"SiegePlate", "nextDraw", "()I"⟩, 12), (⟨"SiegePlate", "isGood", "(I)Z"⟩, 12), (⟨"SiegePlate", "worthWithin", "(II)I"⟩, 12), (⟨"SiegePlate$Trials", "compareRow", "(ILSiegePlate$Camp;)V"⟩, 5), (⟨"SiegePlate$Trials", "strikeGreatestDebt", "(I)I"⟩, 5), (⟨"SiegePlate$Shown", "bearsStampOfDead", "(I)Z"⟩, 6), (⟨"SiegePlateModel", "here", "()I"⟩, 41), (⟨"SiegePlateModel", "letterAt", "(I)I"⟩, 41), (⟨"SiegePlateModel", "takesClause", "()Z"⟩, 41), (⟨"SiegePlateModel", "fails", "(II)Z"⟩, 41), (⟨"SiegePlateModel", "takesWords", "(I)Z"⟩, 41), (⟨"SiegePlateModel", "takesTown", "()Z"⟩, 41)]
theorem lw_r2 : ∀ q ∈ lw_privs_2, lw_okq q := List.forall_mem_cons.mpr ⟨lw_p16, List.forall_mem_cons.mpr ⟨lw_p17, List.forall_mem_cons.mpr ⟨lw_p18, List.forall_mem_cons.mpr ⟨lw_p19, List.forall_mem_cons.mpr ⟨lw_p20, List.forall_mem_cons.mpr ⟨lw_p21, List.forall_mem_cons.mpr ⟨lw_p22, List.forall_mem_cons.mpr ⟨lw_p23, List.forall_mem_cons.mpr ⟨lw_p24, List.forall_mem_cons.mpr ⟨lw_p25, List.forall_mem_cons.mpr ⟨lw_p26, List.forall_mem_cons.mpr ⟨lw_p27, List.forall_mem_cons.mpr ⟨lw_p28, List.forall_mem_cons.mpr ⟨lw_p29, List.forall_mem_cons.mpr ⟨lw_p30, List.forall_mem_cons.mpr ⟨lw_p31, fun _ h => absurd h List.not_mem_nil⟩⟩⟩⟩⟩⟩⟩⟩⟩⟩⟩⟩⟩⟩⟩⟩
theorem lw_p32 : lw_okq (⟨"SiegePlateModel", "takesNumber", "(II)Z"⟩, 41) := ⟨⟨by decide +kernel, by decide +kernel⟩, List.mem_of_getElem? (i := 757) (by decide +kernel), List.mem_of_getElem? (i := 926) (by decide +kernel), List.mem_of_getElem? (i := 927) (by decide +kernel)⟩
theorem lw_p33 : lw_okq (⟨"SiegePlateModel", "takesCompany", "()Z"⟩, 41) := ⟨⟨by decide +kernel, by decide +kernel⟩, List.mem_of_getElem? (i := 757) (by decide +kernel), List.mem_of_getElem? (i := 932) (by decide +kernel), List.mem_of_getElem? (i := 933) (by decide +kernel)⟩
theorem lw_p34 : lw_okq (⟨"SiegePlateModel", "takesKind", "()Z"⟩, 41) := ⟨⟨by decide +kernel, by decide +kernel⟩, List.mem_of_getElem? (i := 757) (by decide +kernel), List.mem_of_getElem? (i := 936) (by decide +kernel), List.mem_of_getElem? (i := 937) (by decide +kernel)⟩
theorem lw_p35 : lw_okq (⟨"SiegePlateModel", "takesGood", "()Z"⟩, 41) := ⟨⟨by decide +kernel, by decide +kernel⟩, List.mem_of_getElem? (i := 757) (by decide +kernel), List.mem_of_getElem? (i := 940) (by decide +kernel), List.mem_of_getElem? (i := 941) (by decide +kernel)⟩
theorem lw_p36 : lw_okq (⟨"SiegePlateModel", "takesHorse", "()Z"⟩, 41) := ⟨⟨by decide +kernel, by decide +kernel⟩, List.mem_of_getElem? (i := 757) (by decide +kernel), List.mem_of_getElem? (i := 944) (by decide +kernel), List.mem_of_getElem? (i := 945) (by decide +kernel)⟩
theorem lw_p37 : lw_okq (⟨"SiegePlateModel", "takes", "(I)Z"⟩, 41) := ⟨⟨by decide +kernel, by decide +kernel⟩, List.mem_of_getElem? (i := 757) (by decide +kernel), List.mem_of_getElem? (i := 948) (by decide +kernel), List.mem_of_getElem? (i := 949) (by decide +kernel)⟩
theorem lw_p38 : lw_okq (⟨"SiegePlateModel", "menIn", "(I)I"⟩, 41) := ⟨⟨by decide +kernel, by decide +kernel⟩, List.mem_of_getElem? (i := 757) (by decide +kernel), List.mem_of_getElem? (i := 960) (by decide +kernel), List.mem_of_getElem? (i := 961) (by decide +kernel)⟩
theorem lw_p39 : lw_okq (⟨"SiegePlateModel", "isCompany", "(I)Z"⟩, 41) := ⟨⟨by decide +kernel, by decide +kernel⟩, List.mem_of_getElem? (i := 757) (by decide +kernel), List.mem_of_getElem? (i := 968) (by decide +kernel), List.mem_of_getElem? (i := 969) (by decide +kernel)⟩
theorem lw_p40 : lw_okq (⟨"SiegePlateModel", "isMoney", "(I)Z"⟩, 41) := ⟨⟨by decide +kernel, by decide +kernel⟩, List.mem_of_getElem? (i := 757) (by decide +kernel), List.mem_of_getElem? (i := 977) (by decide +kernel), List.mem_of_getElem? (i := 978) (by decide +kernel)⟩
theorem lw_p41 : lw_okq (⟨"SiegePlateModel", "copy", "(II)V"⟩, 41) := ⟨⟨by decide +kernel, by decide +kernel⟩, List.mem_of_getElem? (i := 757) (by decide +kernel), List.mem_of_getElem? (i := 986) (by decide +kernel), List.mem_of_getElem? (i := 987) (by decide +kernel)⟩
theorem lw_p42 : lw_okq (⟨"SiegePlateModel", "isOver", "()Z"⟩, 41) := ⟨⟨by decide +kernel, by decide +kernel⟩, List.mem_of_getElem? (i := 757) (by decide +kernel), List.mem_of_getElem? (i := 999) (by decide +kernel), List.mem_of_getElem? (i := 1000) (by decide +kernel)⟩
theorem lw_p43 : lw_okq (⟨"SiegePlateModel", "minds", "()V"⟩, 41) := ⟨⟨by decide +kernel, by decide +kernel⟩, List.mem_of_getElem? (i := 757) (by decide +kernel), List.mem_of_getElem? (i := 1003) (by decide +kernel), List.mem_of_getElem? (i := 1004) (by decide +kernel)⟩
theorem lw_p44 : lw_okq (⟨"SiegePlateModel", "passes", "(II)V"⟩, 41) := ⟨⟨by decide +kernel, by decide +kernel⟩, List.mem_of_getElem? (i := 757) (by decide +kernel), List.mem_of_getElem? (i := 1007) (by decide +kernel), List.mem_of_getElem? (i := 1008) (by decide +kernel)⟩
theorem lw_p45 : lw_okq (⟨"SiegePlateModel", "eats", "(III)Z"⟩, 41) := ⟨⟨by decide +kernel, by decide +kernel⟩, List.mem_of_getElem? (i := 757) (by decide +kernel), List.mem_of_getElem? (i := 1011) (by decide +kernel), List.mem_of_getElem? (i := 1012) (by decide +kernel)⟩
theorem lw_p46 : lw_okq (⟨"SiegePlateModel", "isPaid", "(II)V"⟩, 41) := ⟨⟨by decide +kernel, by decide +kernel⟩, List.mem_of_getElem? (i := 757) (by decide +kernel), List.mem_of_getElem? (i := 1015) (by decide +kernel), List.mem_of_getElem? (i := 1016) (by decide +kernel)⟩
theorem lw_p47 : lw_okq (⟨"SiegePlateModel", "hears", "(I)V"⟩, 41) := ⟨⟨by decide +kernel, by decide +kernel⟩, List.mem_of_getElem? (i := 757) (by decide +kernel), List.mem_of_getElem? (i := 1023) (by decide +kernel), List.mem_of_getElem? (i := 1024) (by decide +kernel)⟩
def lw_privs_3 : List (MethodName × Nat) := [(⟨"SiegePlateModel", "takesNumber", "(II)Z"⟩, 41), (⟨"SiegePlateModel", "takesCompany", "()Z"⟩, 41), (⟨"SiegePlateModel", "takesKind", "()Z"⟩, 41), (⟨"SiegePlateModel", "takesGood", "()Z"⟩, 41), (⟨"SiegePlateModel", "takesHorse", "()Z"⟩, 41), (⟨"SiegePlateModel", "takes", "(I)Z"⟩, 41), (⟨"SiegePlateModel", "menIn", "(I)I"⟩, 41), (⟨"SiegePlateModel", "isCompany", "(I)Z"⟩, 41), (⟨"SiegePlateModel", "isMoney", "(I)Z"⟩, 41), (⟨"SiegePlateModel", "copy", "(II)V"⟩, 41), (⟨"SiegePlateModel", "isOver", "()Z"⟩, 41), (⟨"SiegePlateModel", "minds", "()V"⟩, 41), (⟨"SiegePlateModel", "passes", "(II)V"⟩, 41), (⟨"SiegePlateModel", "eats", "(III)Z"⟩, 41), (⟨"SiegePlateModel", "isPaid", "(II)V"⟩, 41), (⟨"SiegePlateModel", "hears", "(I)V"⟩, 41)]
theorem lw_r3 : ∀ q ∈ lw_privs_3, lw_okq q := List.forall_mem_cons.mpr ⟨lw_p32, List.forall_mem_cons.mpr ⟨lw_p33, List.forall_mem_cons.mpr ⟨lw_p34, List.forall_mem_cons.mpr ⟨lw_p35, List.forall_mem_cons.mpr ⟨lw_p36, List.forall_mem_cons.mpr ⟨lw_p37, List.forall_mem_cons.mpr ⟨lw_p38, List.forall_mem_cons.mpr ⟨lw_p39, List.forall_mem_cons.mpr ⟨lw_p40, List.forall_mem_cons.mpr ⟨lw_p41, List.forall_mem_cons.mpr ⟨lw_p42, List.forall_mem_cons.mpr ⟨lw_p43, List.forall_mem_cons.mpr ⟨lw_p44, List.forall_mem_cons.mpr ⟨lw_p45, List.forall_mem_cons.mpr ⟨lw_p46, List.forall_mem_cons.mpr ⟨lw_p47, fun _ h => absurd h List.not_mem_nil⟩⟩⟩⟩⟩⟩⟩⟩⟩⟩⟩⟩⟩⟩⟩⟩
theorem lw_p48 : lw_okq (⟨"SiegePlateModel", "draw", "(I)I"⟩, 41) := ⟨⟨by decide +kernel, by decide +kernel⟩, List.mem_of_getElem? (i := 757) (by decide +kernel), List.mem_of_getElem? (i := 1040) (by decide +kernel), List.mem_of_getElem? (i := 1041) (by decide +kernel)⟩
theorem lw_p49 : lw_okq (⟨"SiegePlateModel", "isGood", "(I)Z"⟩, 41) := ⟨⟨by decide +kernel, by decide +kernel⟩, List.mem_of_getElem? (i := 757) (by decide +kernel), List.mem_of_getElem? (i := 1052) (by decide +kernel), List.mem_of_getElem? (i := 1053) (by decide +kernel)⟩
theorem lw_p50 : lw_okq (⟨"SiegePlateModel", "costsBy", "(II)I"⟩, 41) := ⟨⟨by decide +kernel, by decide +kernel⟩, List.mem_of_getElem? (i := 757) (by decide +kernel), List.mem_of_getElem? (i := 1056) (by decide +kernel), List.mem_of_getElem? (i := 1057) (by decide +kernel)⟩
theorem lw_p51 : lw_okq (⟨"SiegePlateModel", "worthOf", "(II)I"⟩, 41) := ⟨⟨by decide +kernel, by decide +kernel⟩, List.mem_of_getElem? (i := 757) (by decide +kernel), List.mem_of_getElem? (i := 1065) (by decide +kernel), List.mem_of_getElem? (i := 1066) (by decide +kernel)⟩
theorem lw_p52 : lw_okq (⟨"SiegePlateModel", "owedTo", "(II)I"⟩, 41) := ⟨⟨by decide +kernel, by decide +kernel⟩, List.mem_of_getElem? (i := 757) (by decide +kernel), List.mem_of_getElem? (i := 1090) (by decide +kernel), List.mem_of_getElem? (i := 1091) (by decide +kernel)⟩
theorem lw_p53 : lw_okq (⟨"SiegePlateModel", "hungerFor", "(II)I"⟩, 41) := ⟨⟨by decide +kernel, by decide +kernel⟩, List.mem_of_getElem? (i := 757) (by decide +kernel), List.mem_of_getElem? (i := 1102) (by decide +kernel), List.mem_of_getElem? (i := 1103) (by decide +kernel)⟩
theorem lw_p54 : lw_okq (⟨"SiegePlateModel", "isBehind", "(I)Z"⟩, 41) := ⟨⟨by decide +kernel, by decide +kernel⟩, List.mem_of_getElem? (i := 757) (by decide +kernel), List.mem_of_getElem? (i := 1120) (by decide +kernel), List.mem_of_getElem? (i := 1121) (by decide +kernel)⟩
def lw_privs_4 : List (MethodName × Nat) := [(⟨"SiegePlateModel", "draw", "(I)I"⟩, 41), (⟨"SiegePlateModel", "isGood", "(I)Z"⟩, 41), (⟨"SiegePlateModel", "costsBy", "(II)I"⟩, 41), (⟨"SiegePlateModel", "worthOf", "(II)I"⟩, 41), (⟨"SiegePlateModel", "owedTo", "(II)I"⟩, 41), (⟨"SiegePlateModel", "hungerFor", "(II)I"⟩, 41), (⟨"SiegePlateModel", "isBehind", "(I)Z"⟩, 41)]
theorem lw_r4 : ∀ q ∈ lw_privs_4, lw_okq q := List.forall_mem_cons.mpr ⟨lw_p48, List.forall_mem_cons.mpr ⟨lw_p49, List.forall_mem_cons.mpr ⟨lw_p50, List.forall_mem_cons.mpr ⟨lw_p51, List.forall_mem_cons.mpr ⟨lw_p52, List.forall_mem_cons.mpr ⟨lw_p53, List.forall_mem_cons.mpr ⟨lw_p54, fun _ h => absurd h List.not_mem_nil⟩⟩⟩⟩⟩⟩⟩
def lw_privs : List (MethodName × Nat) := lw_privs_1 ++ (lw_privs_2 ++ (lw_privs_3 ++ (lw_privs_4)))
def lw_tbl : List Cond := k2_sels lw_privs ++ tables_1
theorem lw_privs_ok : ∀ q ∈ lw_privs, lw_okq q := by
  show ∀ q ∈ lw_privs_1 ++ (lw_privs_2 ++ (lw_privs_3 ++ (lw_privs_4))), lw_okq q
  exact List.forall_mem_append.mpr ⟨lw_r1, List.forall_mem_append.mpr ⟨lw_r2, List.forall_mem_append.mpr ⟨lw_r3, lw_r4⟩⟩⟩
-- ===== end of PART A; then your names; then what follows =====
def RX0 : String := "SiegePlate$Book"
def TX0 : u_T := fun k => match k with
  | 0 => ("SiegePlate$Book", "companies", "[I", true)
  | 1 => ("SiegePlate$Book", "men", "[I", true)
  | _ => ("SiegePlate$Book", "count", "I", false)
def tyX0 : Nat → FieldType := fun k => match k with
  | 0 => .array .int
  | 1 => .array .int
  | _ => .int
theorem nmX0 : ∀ a, a < 3 → ∀ b, b < 3 → a ≠ b → (TX0 a).2.1 ≠ (TX0 b).2.1 := by decide +kernel
theorem tyX0_ok : ∀ k, k < 3 → parseFieldDescriptor (TX0 k).2.2.1 = some (tyX0 k) := by decide +kernel
abbrev cX0_init : ByteArray := prog_2_method_1_code
def yX0_init : MethodName := ⟨RX0, "<init>", "()V"⟩
abbrev cX0_add : ByteArray := prog_2_method_2_code
def yX0_add : MethodName := ⟨RX0, "add", "(II)V"⟩
abbrev cX0_firstWrong : ByteArray := prog_2_method_3_code
def yX0_firstWrong : MethodName := ⟨RX0, "firstWrong", "(LSiegePlate$Camp;)I"⟩
def RX1 : String := "SiegePlate$Camp"
def TX1 : u_T := fun k => match k with
  | 0 => ("SiegePlate$Camp", "food", "I", false)
  | 1 => ("SiegePlate$Camp", "days", "I", false)
  | 2 => ("SiegePlate$Camp", "men", "[I", true)
  | 3 => ("SiegePlate$Camp", "hungryDays", "[I", true)
  | 4 => ("SiegePlate$Camp", "wasHungry", "Z", false)
  | _ => ("SiegePlate$Camp", "deserted", "I", false)
def tyX1 : Nat → FieldType := fun k => match k with
  | 0 => .int
  | 1 => .int
  | 2 => .array .int
  | 3 => .array .int
  | 4 => .boolean
  | _ => .int
theorem nmX1 : ∀ a, a < 6 → ∀ b, b < 6 → a ≠ b → (TX1 a).2.1 ≠ (TX1 b).2.1 := by decide +kernel
theorem tyX1_ok : ∀ k, k < 6 → parseFieldDescriptor (TX1 k).2.2.1 = some (tyX1 k) := by decide +kernel
abbrev cX1_init : ByteArray := prog_3_method_1_code
def yX1_init : MethodName := ⟨RX1, "<init>", "()V"⟩
abbrev cX1_begin : ByteArray := prog_3_method_2_code
def yX1_begin : MethodName := ⟨RX1, "begin", "(LSiegePlate$Town;)V"⟩
abbrev cX1_become : ByteArray := prog_3_method_3_code
def yX1_become : MethodName := ⟨RX1, "become", "(LSiegePlate$Camp;)V"⟩
abbrev cX1_menOfAll : ByteArray := prog_3_method_4_code
def yX1_menOfAll : MethodName := ⟨RX1, "menOfAll", "()I"⟩
abbrev cX1_eatADay : ByteArray := prog_3_method_5_code
def yX1_eatADay : MethodName := ⟨RX1, "eatADay", "(LSiegePlate$Town;I)V"⟩
abbrev cX1_isFed : ByteArray := prog_3_method_6_code
def yX1_isFed : MethodName := ⟨RX1, "isFed", "(II)Z"⟩
abbrev cX1_starve : ByteArray := prog_3_method_7_code
def yX1_starve : MethodName := ⟨RX1, "starve", "(II)V"⟩
def RX2 : String := "SiegePlate$Image"
def TX2 : u_T := fun k => match k with
  | 0 => ("SiegePlate$Image", "siege", "LSiegePlate$Siege;", true)
  | 1 => ("SiegePlate$Image", "seed", "I", false)
  | _ => ("SiegePlate$Image", "isKept", "Z", false)
def tyX2 : Nat → FieldType := fun k => match k with
  | 0 => .object "SiegePlate$Siege"
  | 1 => .int
  | _ => .boolean
theorem nmX2 : ∀ a, a < 3 → ∀ b, b < 3 → a ≠ b → (TX2 a).2.1 ≠ (TX2 b).2.1 := by decide +kernel
theorem tyX2_ok : ∀ k, k < 3 → parseFieldDescriptor (TX2 k).2.2.1 = some (tyX2 k) := by decide +kernel
abbrev cX2_init : ByteArray := prog_4_method_1_code
def yX2_init : MethodName := ⟨RX2, "<init>", "()V"⟩
def RX3 : String := "SiegePlate$Log"
def TX3 : u_T := fun k => match k with
  | 0 => ("SiegePlate$Log", "sieges", "[LSiegePlate$Siege;", true)
  | 1 => ("SiegePlate$Log", "next", "I", false)
  | _ => ("SiegePlate$Log", "count", "I", false)
def tyX3 : Nat → FieldType := fun k => match k with
  | 0 => .array (.object "SiegePlate$Siege")
  | 1 => .int
  | _ => .int
theorem nmX3 : ∀ a, a < 3 → ∀ b, b < 3 → a ≠ b → (TX3 a).2.1 ≠ (TX3 b).2.1 := by decide +kernel
theorem tyX3_ok : ∀ k, k < 3 → parseFieldDescriptor (TX3 k).2.2.1 = some (tyX3 k) := by decide +kernel
abbrev cX3_init : ByteArray := prog_5_method_1_code
def yX3_init : MethodName := ⟨RX3, "<init>", "()V"⟩
abbrev cX3_clear : ByteArray := prog_5_method_2_code
def yX3_clear : MethodName := ⟨RX3, "clear", "()V"⟩
abbrev cX3_push : ByteArray := prog_5_method_3_code
def yX3_push : MethodName := ⟨RX3, "push", "(LSiegePlate$Siege;)V"⟩
abbrev cX3_popInto : ByteArray := prog_5_method_4_code
def yX3_popInto : MethodName := ⟨RX3, "popInto", "(LSiegePlate$Siege;)V"⟩
def RX4 : String := "SiegePlate$Reader"
def TX4 : u_T := fun k => match k with
  | 0 => ("SiegePlate$Reader", "values", "[I", true)
  | 1 => ("SiegePlate$Reader", "at", "I", false)
  | 2 => ("SiegePlate$Reader", "fault", "I", false)
  | _ => ("SiegePlate$Reader", "place", "I", false)
def tyX4 : Nat → FieldType := fun k => match k with
  | 0 => .array .int
  | 1 => .int
  | 2 => .int
  | _ => .int
theorem nmX4 : ∀ a, a < 4 → ∀ b, b < 4 → a ≠ b → (TX4 a).2.1 ≠ (TX4 b).2.1 := by decide +kernel
theorem tyX4_ok : ∀ k, k < 4 → parseFieldDescriptor (TX4 k).2.2.1 = some (tyX4 k) := by decide +kernel
abbrev cX4_init : ByteArray := prog_6_method_1_code
def yX4_init : MethodName := ⟨RX4, "<init>", "()V"⟩
abbrev cX4_readTown : ByteArray := prog_6_method_2_code
def yX4_readTown : MethodName := ⟨RX4, "readTown", "(LSiegePlate$Text;LSiegePlate$Town;)V"⟩
abbrev cX4_readClause : ByteArray := prog_6_method_3_code
def yX4_readClause : MethodName := ⟨RX4, "readClause", "(LSiegePlate$Text;LSiegePlate$Town;)V"⟩
abbrev cX4_readNumbers : ByteArray := prog_6_method_4_code
def yX4_readNumbers : MethodName := ⟨RX4, "readNumbers", "(LSiegePlate$Text;I)V"⟩
abbrev cX4_readNumber : ByteArray := prog_6_method_5_code
def yX4_readNumber : MethodName := ⟨RX4, "readNumber", "(LSiegePlate$Text;II)I"⟩
abbrev cX4_readEnd : ByteArray := prog_6_method_6_code
def yX4_readEnd : MethodName := ⟨RX4, "readEnd", "(LSiegePlate$Text;)V"⟩
abbrev cX4_skipBlanks : ByteArray := prog_6_method_7_code
def yX4_skipBlanks : MethodName := ⟨RX4, "skipBlanks", "(LSiegePlate$Text;)V"⟩
abbrev cX4_setFault : ByteArray := prog_6_method_8_code
def yX4_setFault : MethodName := ⟨RX4, "setFault", "(II)V"⟩
abbrev cX4_isFigure : ByteArray := prog_6_method_9_code
def yX4_isFigure : MethodName := ⟨RX4, "isFigure", "(I)Z"⟩
abbrev cX4_clauseOf : ByteArray := prog_6_method_10_code
def yX4_clauseOf : MethodName := ⟨RX4, "clauseOf", "(I)I"⟩
def RX5 : String := "SiegePlate$Shown"
def TX5 : u_T := fun k => match k with
  | 0 => ("SiegePlate$Shown", "kind", "[I", true)
  | 1 => ("SiegePlate$Shown", "died", "[I", true)
  | 2 => ("SiegePlate$Shown", "stamped", "[I", true)
  | 3 => ("SiegePlate$Shown", "weighs", "[I", true)
  | 4 => ("SiegePlate$Shown", "toWeigh", "[I", true)
  | _ => ("SiegePlate$Shown", "count", "I", false)
def tyX5 : Nat → FieldType := fun k => match k with
  | 0 => .array .int
  | 1 => .array .int
  | 2 => .array .int
  | 3 => .array .int
  | 4 => .array .int
  | _ => .int
theorem nmX5 : ∀ a, a < 6 → ∀ b, b < 6 → a ≠ b → (TX5 a).2.1 ≠ (TX5 b).2.1 := by decide +kernel
theorem tyX5_ok : ∀ k, k < 6 → parseFieldDescriptor (TX5 k).2.2.1 = some (tyX5 k) := by decide +kernel
abbrev cX5_init : ByteArray := prog_7_method_1_code
def yX5_init : MethodName := ⟨RX5, "<init>", "()V"⟩
abbrev cX5_add : ByteArray := prog_7_method_2_code
def yX5_add : MethodName := ⟨RX5, "add", "(IIII)V"⟩
abbrev cX5_forgedOnes : ByteArray := prog_7_method_3_code
def yX5_forgedOnes : MethodName := ⟨RX5, "forgedOnes", "(LSiegePlate$Town;)I"⟩
abbrev cX5_kindToWeigh : ByteArray := prog_7_method_4_code
def yX5_kindToWeigh : MethodName := ⟨RX5, "kindToWeigh", "(LSiegePlate$Town;)I"⟩
abbrev cX5_bearsStampOfDead : ByteArray := prog_7_method_5_code
def yX5_bearsStampOfDead : MethodName := ⟨RX5, "bearsStampOfDead", "(I)Z"⟩
def RX6 : String := "SiegePlate$Siege"
def TX6 : u_T := fun k => match k with
  | 0 => ("SiegePlate$Siege", "camp", "LSiegePlate$Camp;", true)
  | 1 => ("SiegePlate$Siege", "odds", "I", false)
  | 2 => ("SiegePlate$Siege", "hunger", "I", false)
  | 3 => ("SiegePlate$Siege", "outcome", "I", false)
  | 4 => ("SiegePlate$Siege", "squaresLeft", "[I", true)
  | 5 => ("SiegePlate$Siege", "words", "[I", true)
  | _ => ("SiegePlate$Siege", "paid", "[I", true)
def tyX6 : Nat → FieldType := fun k => match k with
  | 0 => .object "SiegePlate$Camp"
  | 1 => .int
  | 2 => .int
  | 3 => .int
  | 4 => .array .int
  | 5 => .array .int
  | _ => .array .int
theorem nmX6 : ∀ a, a < 7 → ∀ b, b < 7 → a ≠ b → (TX6 a).2.1 ≠ (TX6 b).2.1 := by decide +kernel
theorem tyX6_ok : ∀ k, k < 7 → parseFieldDescriptor (TX6 k).2.2.1 = some (tyX6 k) := by decide +kernel
abbrev cX6_init : ByteArray := prog_8_method_1_code
def yX6_init : MethodName := ⟨RX6, "<init>", "()V"⟩
abbrev cX6_begin : ByteArray := prog_8_method_2_code
def yX6_begin : MethodName := ⟨RX6, "begin", "(LSiegePlate$Town;)V"⟩
abbrev cX6_become : ByteArray := prog_8_method_3_code
def yX6_become : MethodName := ⟨RX6, "become", "(LSiegePlate$Siege;)V"⟩
abbrev cX6_passDay : ByteArray := prog_8_method_4_code
def yX6_passDay : MethodName := ⟨RX6, "passDay", "(LSiegePlate$Town;I)V"⟩
abbrev cX6_payCompany : ByteArray := prog_8_method_5_code
def yX6_payCompany : MethodName := ⟨RX6, "payCompany", "(III)V"⟩
abbrev cX6_owedTo : ByteArray := prog_8_method_6_code
def yX6_owedTo : MethodName := ⟨RX6, "owedTo", "(LSiegePlate$Town;II)I"⟩
abbrev cX6_worthOfSquare : ByteArray := prog_8_method_7_code
def yX6_worthOfSquare : MethodName := ⟨RX6, "worthOfSquare", "(LSiegePlate$Town;II)I"⟩
abbrev cX6_hearGun : ByteArray := prog_8_method_8_code
def yX6_hearGun : MethodName := ⟨RX6, "hearGun", "()V"⟩
abbrev cX6_raiseOdds : ByteArray := prog_8_method_9_code
def yX6_raiseOdds : MethodName := ⟨RX6, "raiseOdds", "(I)V"⟩
def RX7 : String := "SiegePlate$Text"
def TX7 : u_T := fun k => match k with
  | 0 => ("SiegePlate$Text", "letters", "[I", true)
  | _ => ("SiegePlate$Text", "length", "I", false)
def tyX7 : Nat → FieldType := fun k => match k with
  | 0 => .array .int
  | _ => .int
theorem nmX7 : ∀ a, a < 2 → ∀ b, b < 2 → a ≠ b → (TX7 a).2.1 ≠ (TX7 b).2.1 := by decide +kernel
theorem tyX7_ok : ∀ k, k < 2 → parseFieldDescriptor (TX7 k).2.2.1 = some (tyX7 k) := by decide +kernel
abbrev cX7_init : ByteArray := prog_9_method_1_code
def yX7_init : MethodName := ⟨RX7, "<init>", "()V"⟩
abbrev cX7_append : ByteArray := prog_9_method_2_code
def yX7_append : MethodName := ⟨RX7, "append", "(I)V"⟩
def RX8 : String := "SiegePlate$Town"
def TX8 : u_T := fun k => match k with
  | 0 => ("SiegePlate$Town", "stands", "Z", false)
  | 1 => ("SiegePlate$Town", "food", "I", false)
  | 2 => ("SiegePlate$Town", "odds", "I", false)
  | 3 => ("SiegePlate$Town", "companies", "I", false)
  | 4 => ("SiegePlate$Town", "kinds", "I", false)
  | 5 => ("SiegePlate$Town", "goods", "I", false)
  | 6 => ("SiegePlate$Town", "horses", "I", false)
  | 7 => ("SiegePlate$Town", "men", "[I", true)
  | 8 => ("SiegePlate$Town", "pay", "[I", true)
  | 9 => ("SiegePlate$Town", "bears", "[I", true)
  | 10 => ("SiegePlate$Town", "squares", "[I", true)
  | 11 => ("SiegePlate$Town", "stamp", "[I", true)
  | 12 => ("SiegePlate$Town", "weight", "[I", true)
  | 13 => ("SiegePlate$Town", "cost", "[I", true)
  | 14 => ("SiegePlate$Town", "horseDay", "[I", true)
  | _ => ("SiegePlate$Town", "horseFood", "[I", true)
def tyX8 : Nat → FieldType := fun k => match k with
  | 0 => .boolean
  | 1 => .int
  | 2 => .int
  | 3 => .int
  | 4 => .int
  | 5 => .int
  | 6 => .int
  | 7 => .array .int
  | 8 => .array .int
  | 9 => .array .int
  | 10 => .array .int
  | 11 => .array .int
  | 12 => .array .int
  | 13 => .array .int
  | 14 => .array .int
  | _ => .array .int
theorem nmX8 : ∀ a, a < 16 → ∀ b, b < 16 → a ≠ b → (TX8 a).2.1 ≠ (TX8 b).2.1 := by decide +kernel
theorem tyX8_ok : ∀ k, k < 16 → parseFieldDescriptor (TX8 k).2.2.1 = some (tyX8 k) := by decide +kernel
abbrev cX8_init : ByteArray := prog_10_method_1_code
def yX8_init : MethodName := ⟨RX8, "<init>", "()V"⟩
abbrev cX8_clear : ByteArray := prog_10_method_2_code
def yX8_clear : MethodName := ⟨RX8, "clear", "()V"⟩
abbrev cX8_hasRoomFor : ByteArray := prog_10_method_3_code
def yX8_hasRoomFor : MethodName := ⟨RX8, "hasRoomFor", "(I)Z"⟩
abbrev cX8_add : ByteArray := prog_10_method_4_code
def yX8_add : MethodName := ⟨RX8, "add", "(IIII)V"⟩
abbrev cX8_addStores : ByteArray := prog_10_method_5_code
def yX8_addStores : MethodName := ⟨RX8, "addStores", "(II)V"⟩
abbrev cX8_addCompany : ByteArray := prog_10_method_6_code
def yX8_addCompany : MethodName := ⟨RX8, "addCompany", "(III)V"⟩
abbrev cX8_addMoney : ByteArray := prog_10_method_7_code
def yX8_addMoney : MethodName := ⟨RX8, "addMoney", "(III)V"⟩
abbrev cX8_addGood : ByteArray := prog_10_method_8_code
def yX8_addGood : MethodName := ⟨RX8, "addGood", "(I)V"⟩
abbrev cX8_addHorse : ByteArray := prog_10_method_9_code
def yX8_addHorse : MethodName := ⟨RX8, "addHorse", "(II)V"⟩
abbrev cX8_foodOfHorses : ByteArray := prog_10_method_10_code
def yX8_foodOfHorses : MethodName := ⟨RX8, "foodOfHorses", "(I)I"⟩
def RX9 : String := "SiegePlate$Trials"
def TX9 : u_T := fun k => match k with
  | 0 => ("SiegePlate$Trials", "camps", "[LSiegePlate$Camp;", true)
  | 1 => ("SiegePlate$Trials", "debts", "[I", true)
  | 2 => ("SiegePlate$Trials", "bestMen", "I", false)
  | 3 => ("SiegePlate$Trials", "bestRow", "I", false)
  | _ => ("SiegePlate$Trials", "bestFood", "I", false)
def tyX9 : Nat → FieldType := fun k => match k with
  | 0 => .array (.object "SiegePlate$Camp")
  | 1 => .array .int
  | 2 => .int
  | 3 => .int
  | _ => .int
theorem nmX9 : ∀ a, a < 5 → ∀ b, b < 5 → a ≠ b → (TX9 a).2.1 ≠ (TX9 b).2.1 := by decide +kernel
theorem tyX9_ok : ∀ k, k < 5 → parseFieldDescriptor (TX9 k).2.2.1 = some (tyX9 k) := by decide +kernel
abbrev cX9_init : ByteArray := prog_11_method_1_code
def yX9_init : MethodName := ⟨RX9, "<init>", "()V"⟩
abbrev cX9_tryAllRows : ByteArray := prog_11_method_2_code
def yX9_tryAllRows : MethodName := ⟨RX9, "tryAllRows", "(LSiegePlate$Town;LSiegePlate$Camp;I)V"⟩
abbrev cX9_firstDayToTry : ByteArray := prog_11_method_3_code
def yX9_firstDayToTry : MethodName := ⟨RX9, "firstDayToTry", "(II)I"⟩
abbrev cX9_compareRow : ByteArray := prog_11_method_4_code
def yX9_compareRow : MethodName := ⟨RX9, "compareRow", "(ILSiegePlate$Camp;)V"⟩
abbrev cX9_rationOf : ByteArray := prog_11_method_5_code
def yX9_rationOf : MethodName := ⟨RX9, "rationOf", "(III)I"⟩
abbrev cX9_firstDeserter : ByteArray := prog_11_method_6_code
def yX9_firstDeserter : MethodName := ⟨RX9, "firstDeserter", "(LSiegePlate$Town;LSiegePlate$Camp;I)I"⟩
abbrev cX9_daysWithMen : ByteArray := prog_11_method_7_code
def yX9_daysWithMen : MethodName := ⟨RX9, "daysWithMen", "(LSiegePlate$Town;LSiegePlate$Camp;I)I"⟩
abbrev cX9_leastToPay : ByteArray := prog_11_method_8_code
def yX9_leastToPay : MethodName := ⟨RX9, "leastToPay", "(LSiegePlate$Town;LSiegePlate$Siege;II)I"⟩
abbrev cX9_strikeGreatestDebt : ByteArray := prog_11_method_9_code
def yX9_strikeGreatestDebt : MethodName := ⟨RX9, "strikeGreatestDebt", "(I)I"⟩
def RX10 : String := "SiegePlate"
def TX10 : u_T := fun k => match k with
  | 0 => ("SiegePlate", "text", "LSiegePlate$Text;", true)
  | 1 => ("SiegePlate", "reader", "LSiegePlate$Reader;", true)
  | 2 => ("SiegePlate", "theTown", "LSiegePlate$Town;", false)
  | 3 => ("SiegePlate", "draft", "LSiegePlate$Town;", false)
  | 4 => ("SiegePlate", "now", "LSiegePlate$Siege;", true)
  | 5 => ("SiegePlate", "log", "LSiegePlate$Log;", true)
  | 6 => ("SiegePlate", "images", "[LSiegePlate$Image;", true)
  | 7 => ("SiegePlate", "trials", "LSiegePlate$Trials;", true)
  | 8 => ("SiegePlate", "shown", "LSiegePlate$Shown;", true)
  | 9 => ("SiegePlate", "book", "LSiegePlate$Book;", true)
  | 10 => ("SiegePlate", "seedNow", "I", false)
  | _ => ("SiegePlate", "faultPlace", "I", false)
def tyX10 : Nat → FieldType := fun k => match k with
  | 0 => .object "SiegePlate$Text"
  | 1 => .object "SiegePlate$Reader"
  | 2 => .object "SiegePlate$Town"
  | 3 => .object "SiegePlate$Town"
  | 4 => .object "SiegePlate$Siege"
  | 5 => .object "SiegePlate$Log"
  | 6 => .array (.object "SiegePlate$Image")
  | 7 => .object "SiegePlate$Trials"
  | 8 => .object "SiegePlate$Shown"
  | 9 => .object "SiegePlate$Book"
  | 10 => .int
  | _ => .int
theorem nmX10 : ∀ a, a < 12 → ∀ b, b < 12 → a ≠ b → (TX10 a).2.1 ≠ (TX10 b).2.1 := by decide +kernel
theorem tyX10_ok : ∀ k, k < 12 → parseFieldDescriptor (TX10 k).2.2.1 = some (tyX10 k) := by decide +kernel
abbrev cX10_init : ByteArray := prog_1_method_1_code
def yX10_init : MethodName := ⟨RX10, "<init>", "()V"⟩
abbrev cX10_feed : ByteArray := prog_1_method_2_code
def yX10_feed : MethodName := ⟨RX10, "feed", "(I)I"⟩
abbrev cX10_town : ByteArray := prog_1_method_3_code
def yX10_town : MethodName := ⟨RX10, "town", "()I"⟩
abbrev cX10_beginSiege : ByteArray := prog_1_method_4_code
def yX10_beginSiege : MethodName := ⟨RX10, "beginSiege", "()V"⟩
abbrev cX10_fault : ByteArray := prog_1_method_5_code
def yX10_fault : MethodName := ⟨RX10, "fault", "()I"⟩
abbrev cX10_told : ByteArray := prog_1_method_6_code
def yX10_told : MethodName := ⟨RX10, "told", "(I)I"⟩
abbrev cX10_company : ByteArray := prog_1_method_7_code
def yX10_company : MethodName := ⟨RX10, "company", "(II)I"⟩
abbrev cX10_money : ByteArray := prog_1_method_8_code
def yX10_money : MethodName := ⟨RX10, "money", "(II)I"⟩
abbrev cX10_day : ByteArray := prog_1_method_9_code
def yX10_day : MethodName := ⟨RX10, "day", "(II)I"⟩
abbrev cX10_gun : ByteArray := prog_1_method_10_code
def yX10_gun : MethodName := ⟨RX10, "gun", "()I"⟩
abbrev cX10_sally : ByteArray := prog_1_method_11_code
def yX10_sally : MethodName := ⟨RX10, "sally", "(II)I"⟩
abbrev cX10_relief : ByteArray := prog_1_method_12_code
def yX10_relief : MethodName := ⟨RX10, "relief", "(Z)I"⟩
abbrev cX10_drift : ByteArray := prog_1_method_13_code
def yX10_drift : MethodName := ⟨RX10, "drift", "(II)I"⟩
abbrev cX10_passDayByDraws : ByteArray := prog_1_method_14_code
def yX10_passDayByDraws : MethodName := ⟨RX10, "passDayByDraws", "(I)V"⟩
abbrev cX10_nextDraw : ByteArray := prog_1_method_15_code
def yX10_nextDraw : MethodName := ⟨RX10, "nextDraw", "()I"⟩
abbrev cX10_undo : ByteArray := prog_1_method_16_code
def yX10_undo : MethodName := ⟨RX10, "undo", "()I"⟩
abbrev cX10_refusalOfDays : ByteArray := prog_1_method_17_code
def yX10_refusalOfDays : MethodName := ⟨RX10, "refusalOfDays", "(II)I"⟩
abbrev cX10_costs : ByteArray := prog_1_method_18_code
def yX10_costs : MethodName := ⟨RX10, "costs", "(I)I"⟩
abbrev cX10_promise : ByteArray := prog_1_method_19_code
def yX10_promise : MethodName := ⟨RX10, "promise", "(II)I"⟩
abbrev cX10_worthWithin : ByteArray := prog_1_method_20_code
def yX10_worthWithin : MethodName := ⟨RX10, "worthWithin", "(II)I"⟩
abbrev cX10_rations : ByteArray := prog_1_method_21_code
def yX10_rations : MethodName := ⟨RX10, "rations", "(II)I"⟩
abbrev cX10_firstToDesert : ByteArray := prog_1_method_22_code
def yX10_firstToDesert : MethodName := ⟨RX10, "firstToDesert", "(I)I"⟩
abbrev cX10_holds : ByteArray := prog_1_method_23_code
def yX10_holds : MethodName := ⟨RX10, "holds", "(I)I"⟩
abbrev cX10_owed : ByteArray := prog_1_method_24_code
def yX10_owed : MethodName := ⟨RX10, "owed", "(II)I"⟩
abbrev cX10_least : ByteArray := prog_1_method_25_code
def yX10_least : MethodName := ⟨RX10, "least", "(II)I"⟩
abbrev cX10_bought : ByteArray := prog_1_method_26_code
def yX10_bought : MethodName := ⟨RX10, "bought", "(II)I"⟩
abbrev cX10_leastHungerAt : ByteArray := prog_1_method_27_code
def yX10_leastHungerAt : MethodName := ⟨RX10, "leastHungerAt", "(II)I"⟩
abbrev cX10_priceAt : ByteArray := prog_1_method_28_code
def yX10_priceAt : MethodName := ⟨RX10, "priceAt", "(II)I"⟩
abbrev cX10_offer : ByteArray := prog_1_method_29_code
def yX10_offer : MethodName := ⟨RX10, "offer", "(II)I"⟩
abbrev cX10_show : ByteArray := prog_1_method_30_code
def yX10_show : MethodName := ⟨RX10, "show", "(IIII)I"⟩
abbrev cX10_forged : ByteArray := prog_1_method_31_code
def yX10_forged : MethodName := ⟨RX10, "forged", "()I"⟩
abbrev cX10_weighFirst : ByteArray := prog_1_method_32_code
def yX10_weighFirst : MethodName := ⟨RX10, "weighFirst", "()I"⟩
abbrev cX10_write : ByteArray := prog_1_method_33_code
def yX10_write : MethodName := ⟨RX10, "write", "(II)I"⟩
abbrev cX10_tear : ByteArray := prog_1_method_34_code
def yX10_tear : MethodName := ⟨RX10, "tear", "()I"⟩
abbrev cX10_judge : ByteArray := prog_1_method_35_code
def yX10_judge : MethodName := ⟨RX10, "judge", "()I"⟩
abbrev cX10_seed : ByteArray := prog_1_method_36_code
def yX10_seed : MethodName := ⟨RX10, "seed", "(I)I"⟩
abbrev cX10_keep : ByteArray := prog_1_method_37_code
def yX10_keep : MethodName := ⟨RX10, "keep", "(I)I"⟩
abbrev cX10_goBack : ByteArray := prog_1_method_38_code
def yX10_goBack : MethodName := ⟨RX10, "goBack", "(I)I"⟩
abbrev cX10_isCompany : ByteArray := prog_1_method_39_code
def yX10_isCompany : MethodName := ⟨RX10, "isCompany", "(I)Z"⟩
abbrev cX10_isMoney : ByteArray := prog_1_method_40_code
def yX10_isMoney : MethodName := ⟨RX10, "isMoney", "(I)Z"⟩
abbrev cX10_isGood : ByteArray := prog_1_method_41_code
def yX10_isGood : MethodName := ⟨RX10, "isGood", "(I)Z"⟩
abbrev cX10_isBesieged : ByteArray := prog_1_method_42_code
def yX10_isBesieged : MethodName := ⟨RX10, "isBesieged", "()Z"⟩
abbrev cX10_isRation : ByteArray := prog_1_method_43_code
def yX10_isRation : MethodName := ⟨RX10, "isRation", "(I)Z"⟩
abbrev cX10_isReading : ByteArray := prog_1_method_44_code
def yX10_isReading : MethodName := ⟨RX10, "isReading", "(I)Z"⟩
abbrev cX10_isWithin : ByteArray := prog_1_method_45_code
def yX10_isWithin : MethodName := ⟨RX10, "isWithin", "(III)Z"⟩
def RX11 : String := "SiegePlateModel"
def TX11 : u_T := fun k => match k with
  | 0 => ("SiegePlateModel", "w", "[I", true)
  | 1 => ("SiegePlateModel", "isKept", "[Z", true)
  | 2 => ("SiegePlateModel", "undoes", "I", false)
  | 3 => ("SiegePlateModel", "isTown", "Z", false)
  | 4 => ("SiegePlateModel", "companies", "I", false)
  | 5 => ("SiegePlateModel", "pay", "[I", true)
  | 6 => ("SiegePlateModel", "bears", "[I", true)
  | 7 => ("SiegePlateModel", "kinds", "I", false)
  | 8 => ("SiegePlateModel", "stamp", "[I", true)
  | 9 => ("SiegePlateModel", "weight", "[I", true)
  | 10 => ("SiegePlateModel", "goods", "I", false)
  | 11 => ("SiegePlateModel", "cost", "[I", true)
  | 12 => ("SiegePlateModel", "horses", "I", false)
  | 13 => ("SiegePlateModel", "onDay", "[I", true)
  | 14 => ("SiegePlateModel", "becomes", "[I", true)
  | 15 => ("SiegePlateModel", "text", "[I", true)
  | 16 => ("SiegePlateModel", "texted", "I", false)
  | 17 => ("SiegePlateModel", "at", "I", false)
  | 18 => ("SiegePlateModel", "start", "I", false)
  | 19 => ("SiegePlateModel", "number", "I", false)
  | 20 => ("SiegePlateModel", "faulty", "I", false)
  | 21 => ("SiegePlateModel", "faultAt", "I", false)
  | 22 => ("SiegePlateModel", "hasTown", "Z", false)
  | 23 => ("SiegePlateModel", "readTown", "[I", true)
  | 24 => ("SiegePlateModel", "readCompanies", "I", false)
  | 25 => ("SiegePlateModel", "readCompany", "[I", true)
  | 26 => ("SiegePlateModel", "readKinds", "I", false)
  | 27 => ("SiegePlateModel", "readKind", "[I", true)
  | 28 => ("SiegePlateModel", "readGoods", "I", false)
  | 29 => ("SiegePlateModel", "readGood", "[I", true)
  | 30 => ("SiegePlateModel", "readHorses", "I", false)
  | 31 => ("SiegePlateModel", "readHorse", "[I", true)
  | 32 => ("SiegePlateModel", "deserted", "I", false)
  | 33 => ("SiegePlateModel", "shown", "I", false)
  | 34 => ("SiegePlateModel", "shownKind", "[I", true)
  | 35 => ("SiegePlateModel", "shownDied", "[I", true)
  | 36 => ("SiegePlateModel", "shownDay", "[I", true)
  | 37 => ("SiegePlateModel", "shownWeight", "[I", true)
  | 38 => ("SiegePlateModel", "booked", "I", false)
  | 39 => ("SiegePlateModel", "bookOf", "[I", true)
  | _ => ("SiegePlateModel", "bookMen", "[I", true)
def tyX11 : Nat → FieldType := fun k => match k with
  | 0 => .array .int
  | 1 => .array .boolean
  | 2 => .int
  | 3 => .boolean
  | 4 => .int
  | 5 => .array .int
  | 6 => .array .int
  | 7 => .int
  | 8 => .array .int
  | 9 => .array .int
  | 10 => .int
  | 11 => .array .int
  | 12 => .int
  | 13 => .array .int
  | 14 => .array .int
  | 15 => .array .int
  | 16 => .int
  | 17 => .int
  | 18 => .int
  | 19 => .int
  | 20 => .int
  | 21 => .int
  | 22 => .boolean
  | 23 => .array .int
  | 24 => .int
  | 25 => .array .int
  | 26 => .int
  | 27 => .array .int
  | 28 => .int
  | 29 => .array .int
  | 30 => .int
  | 31 => .array .int
  | 32 => .int
  | 33 => .int
  | 34 => .array .int
  | 35 => .array .int
  | 36 => .array .int
  | 37 => .array .int
  | 38 => .int
  | 39 => .array .int
  | _ => .array .int
theorem nmX11 : ∀ a, a < 41 → ∀ b, b < 41 → a ≠ b → (TX11 a).2.1 ≠ (TX11 b).2.1 := by decide +kernel
theorem tyX11_ok : ∀ k, k < 41 → parseFieldDescriptor (TX11 k).2.2.1 = some (tyX11 k) := by decide +kernel
abbrev cX11_init : ByteArray := prog_13_method_1_code
def yX11_init : MethodName := ⟨RX11, "<init>", "()V"⟩
abbrev cX11_in : ByteArray := prog_13_method_3_code
def yX11_in : MethodName := ⟨RX11, "in", "(JJJ)Z"⟩
abbrev cX11_copy : ByteArray := prog_13_method_4_code
def yX11_copy : MethodName := ⟨RX11, "copy", "(II)V"⟩
abbrev cX11_isCompany : ByteArray := prog_13_method_5_code
def yX11_isCompany : MethodName := ⟨RX11, "isCompany", "(I)Z"⟩
abbrev cX11_isMoney : ByteArray := prog_13_method_6_code
def yX11_isMoney : MethodName := ⟨RX11, "isMoney", "(I)Z"⟩
abbrev cX11_isGood : ByteArray := prog_13_method_7_code
def yX11_isGood : MethodName := ⟨RX11, "isGood", "(I)Z"⟩
abbrev cX11_isRation : ByteArray := prog_13_method_8_code
def yX11_isRation : MethodName := ⟨RX11, "isRation", "(I)Z"⟩
abbrev cX11_feed : ByteArray := prog_13_method_9_code
def yX11_feed : MethodName := ⟨RX11, "feed", "(I)I"⟩
abbrev cX11_letterAt : ByteArray := prog_13_method_10_code
def yX11_letterAt : MethodName := ⟨RX11, "letterAt", "(I)I"⟩
abbrev cX11_here : ByteArray := prog_13_method_11_code
def yX11_here : MethodName := ⟨RX11, "here", "()I"⟩
abbrev cX11_fails : ByteArray := prog_13_method_12_code
def yX11_fails : MethodName := ⟨RX11, "fails", "(II)Z"⟩
abbrev cX11_takes : ByteArray := prog_13_method_13_code
def yX11_takes : MethodName := ⟨RX11, "takes", "(I)Z"⟩
abbrev cX11_takesNumber : ByteArray := prog_13_method_14_code
def yX11_takesNumber : MethodName := ⟨RX11, "takesNumber", "(II)Z"⟩
abbrev cX11_takesTown : ByteArray := prog_13_method_15_code
def yX11_takesTown : MethodName := ⟨RX11, "takesTown", "()Z"⟩
abbrev cX11_takesCompany : ByteArray := prog_13_method_16_code
def yX11_takesCompany : MethodName := ⟨RX11, "takesCompany", "()Z"⟩
abbrev cX11_takesKind : ByteArray := prog_13_method_17_code
def yX11_takesKind : MethodName := ⟨RX11, "takesKind", "()Z"⟩
abbrev cX11_takesGood : ByteArray := prog_13_method_18_code
def yX11_takesGood : MethodName := ⟨RX11, "takesGood", "()Z"⟩
abbrev cX11_takesHorse : ByteArray := prog_13_method_19_code
def yX11_takesHorse : MethodName := ⟨RX11, "takesHorse", "()Z"⟩
abbrev cX11_takesWords : ByteArray := prog_13_method_20_code
def yX11_takesWords : MethodName := ⟨RX11, "takesWords", "(I)Z"⟩
abbrev cX11_takesClause : ByteArray := prog_13_method_21_code
def yX11_takesClause : MethodName := ⟨RX11, "takesClause", "()Z"⟩
abbrev cX11_town : ByteArray := prog_13_method_22_code
def yX11_town : MethodName := ⟨RX11, "town", "()I"⟩
abbrev cX11_fault : ByteArray := prog_13_method_23_code
def yX11_fault : MethodName := ⟨RX11, "fault", "()I"⟩
abbrev cX11_menIn : ByteArray := prog_13_method_24_code
def yX11_menIn : MethodName := ⟨RX11, "menIn", "(I)I"⟩
abbrev cX11_told : ByteArray := prog_13_method_25_code
def yX11_told : MethodName := ⟨RX11, "told", "(I)I"⟩
abbrev cX11_company : ByteArray := prog_13_method_26_code
def yX11_company : MethodName := ⟨RX11, "company", "(II)I"⟩
abbrev cX11_money : ByteArray := prog_13_method_27_code
def yX11_money : MethodName := ⟨RX11, "money", "(II)I"⟩
abbrev cX11_eats : ByteArray := prog_13_method_28_code
def yX11_eats : MethodName := ⟨RX11, "eats", "(III)Z"⟩
abbrev cX11_isPaid : ByteArray := prog_13_method_29_code
def yX11_isPaid : MethodName := ⟨RX11, "isPaid", "(II)V"⟩
abbrev cX11_passes : ByteArray := prog_13_method_30_code
def yX11_passes : MethodName := ⟨RX11, "passes", "(II)V"⟩
abbrev cX11_minds : ByteArray := prog_13_method_31_code
def yX11_minds : MethodName := ⟨RX11, "minds", "()V"⟩
abbrev cX11_undo : ByteArray := prog_13_method_32_code
def yX11_undo : MethodName := ⟨RX11, "undo", "()I"⟩
abbrev cX11_isOver : ByteArray := prog_13_method_33_code
def yX11_isOver : MethodName := ⟨RX11, "isOver", "()Z"⟩
abbrev cX11_day : ByteArray := prog_13_method_34_code
def yX11_day : MethodName := ⟨RX11, "day", "(II)I"⟩
abbrev cX11_hears : ByteArray := prog_13_method_35_code
def yX11_hears : MethodName := ⟨RX11, "hears", "(I)V"⟩
abbrev cX11_gun : ByteArray := prog_13_method_36_code
def yX11_gun : MethodName := ⟨RX11, "gun", "()I"⟩
abbrev cX11_sally : ByteArray := prog_13_method_37_code
def yX11_sally : MethodName := ⟨RX11, "sally", "(II)I"⟩
abbrev cX11_relief : ByteArray := prog_13_method_38_code
def yX11_relief : MethodName := ⟨RX11, "relief", "(Z)I"⟩
abbrev cX11_draw : ByteArray := prog_13_method_39_code
def yX11_draw : MethodName := ⟨RX11, "draw", "(I)I"⟩
abbrev cX11_drift : ByteArray := prog_13_method_40_code
def yX11_drift : MethodName := ⟨RX11, "drift", "(II)I"⟩
abbrev cX11_costsBy : ByteArray := prog_13_method_41_code
def yX11_costsBy : MethodName := ⟨RX11, "costsBy", "(II)I"⟩
abbrev cX11_costs : ByteArray := prog_13_method_42_code
def yX11_costs : MethodName := ⟨RX11, "costs", "(I)I"⟩
abbrev cX11_worthOf : ByteArray := prog_13_method_43_code
def yX11_worthOf : MethodName := ⟨RX11, "worthOf", "(II)I"⟩
abbrev cX11_promise : ByteArray := prog_13_method_44_code
def yX11_promise : MethodName := ⟨RX11, "promise", "(II)I"⟩
abbrev cX11_rations : ByteArray := prog_13_method_45_code
def yX11_rations : MethodName := ⟨RX11, "rations", "(II)I"⟩
abbrev cX11_firstToDesert : ByteArray := prog_13_method_46_code
def yX11_firstToDesert : MethodName := ⟨RX11, "firstToDesert", "(I)I"⟩
abbrev cX11_holds : ByteArray := prog_13_method_47_code
def yX11_holds : MethodName := ⟨RX11, "holds", "(I)I"⟩
abbrev cX11_owedTo : ByteArray := prog_13_method_48_code
def yX11_owedTo : MethodName := ⟨RX11, "owedTo", "(II)I"⟩
abbrev cX11_owed : ByteArray := prog_13_method_49_code
def yX11_owed : MethodName := ⟨RX11, "owed", "(II)I"⟩
abbrev cX11_least : ByteArray := prog_13_method_50_code
def yX11_least : MethodName := ⟨RX11, "least", "(II)I"⟩
abbrev cX11_hungerFor : ByteArray := prog_13_method_51_code
def yX11_hungerFor : MethodName := ⟨RX11, "hungerFor", "(II)I"⟩
abbrev cX11_bought : ByteArray := prog_13_method_52_code
def yX11_bought : MethodName := ⟨RX11, "bought", "(II)I"⟩
abbrev cX11_offer : ByteArray := prog_13_method_53_code
def yX11_offer : MethodName := ⟨RX11, "offer", "(II)I"⟩
abbrev cX11_show : ByteArray := prog_13_method_54_code
def yX11_show : MethodName := ⟨RX11, "show", "(IIII)I"⟩
abbrev cX11_isBehind : ByteArray := prog_13_method_55_code
def yX11_isBehind : MethodName := ⟨RX11, "isBehind", "(I)Z"⟩
abbrev cX11_forged : ByteArray := prog_13_method_56_code
def yX11_forged : MethodName := ⟨RX11, "forged", "()I"⟩
abbrev cX11_weighFirst : ByteArray := prog_13_method_57_code
def yX11_weighFirst : MethodName := ⟨RX11, "weighFirst", "()I"⟩
abbrev cX11_write : ByteArray := prog_13_method_58_code
def yX11_write : MethodName := ⟨RX11, "write", "(II)I"⟩
abbrev cX11_tear : ByteArray := prog_13_method_59_code
def yX11_tear : MethodName := ⟨RX11, "tear", "()I"⟩
abbrev cX11_judge : ByteArray := prog_13_method_60_code
def yX11_judge : MethodName := ⟨RX11, "judge", "()I"⟩
abbrev cX11_seed : ByteArray := prog_13_method_61_code
def yX11_seed : MethodName := ⟨RX11, "seed", "(I)I"⟩
abbrev cX11_keep : ByteArray := prog_13_method_62_code
def yX11_keep : MethodName := ⟨RX11, "keep", "(I)I"⟩
abbrev cX11_goBack : ByteArray := prog_13_method_63_code
def yX11_goBack : MethodName := ⟨RX11, "goBack", "(I)I"⟩
def RJ9 : String := "java/lang/Math"
def TJ9 : u_T := fun k => match k with
  | _ => ("", "", "", false)
def tyJ9 : Nat → FieldType := fun k => match k with
  | _ => .int
theorem nmJ9 : ∀ a, a < 0 → ∀ b, b < 0 → a ≠ b → (TJ9 a).2.1 ≠ (TJ9 b).2.1 := by decide +kernel
theorem tyJ9_ok : ∀ k, k < 0 → parseFieldDescriptor (TJ9 k).2.2.1 = some (tyJ9 k) := by decide +kernel
abbrev cJ9_max_7cf53 : ByteArray := prog_14_method_65_code
def yJ9_max_7cf53 : MethodName := ⟨RJ9, "max", "(II)I"⟩
abbrev cJ9_min_7cf53 : ByteArray := prog_14_method_69_code
def yJ9_min_7cf53 : MethodName := ⟨RJ9, "min", "(II)I"⟩
def RL : String := "SiegePlateLaw"
abbrev cL_law : ByteArray := code
def yL_law : MethodName := ⟨RL, "law", "([I)Z"⟩
abbrev vwCl : List vw_C := [(RX0, TX0, 3), (RX1, TX1, 6), (RX2, TX2, 3), (RX3, TX3, 3), (RX4, TX4, 4), (RX5, TX5, 6), (RX6, TX6, 7), (RX7, TX7, 2), (RX8, TX8, 16), (RX9, TX9, 5), (RX10, TX10, 12), (RX11, TX11, 41)]
