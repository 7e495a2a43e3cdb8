section
-- ===== PART A: goes FIRST, ahead of the names: the tables' words, and 'selects' of the private methods out of them =====
/-- a private method of a class that the tables say can be made, by its rows of tables_1 -/
def lw_okq (q : MethodName × Nat) : Prop := (q.1.cls ≠ "java/lang/invoke/MethodHandle" ∧ q.1.cls ≠ "java/lang/invoke/VarHandle") ∧ Cond.instantiable q.1.cls q.2 ∈ tables_1 ∧ Cond.privateMethod q.1 ∈ tables_1 ∧ Cond.instanceMethod q.1 ∈ tables_1
theorem lw_p0 : lw_okq (⟨"SiegePlate$Reader", "skipBlanks", "(LSiegePlate$Text;)V"⟩, 4) := ⟨⟨by decide +kernel, by decide +kernel⟩, List.mem_of_getElem? (i := 40) (by decide +kernel), List.mem_of_getElem? (i := 383) (by decide +kernel), List.mem_of_getElem? (i := 384) (by decide +kernel)⟩
theorem lw_p1 : lw_okq (⟨"SiegePlate$Reader", "readClause", "(LSiegePlate$Text;LSiegePlate$Town;)V"⟩, 4) := ⟨⟨by decide +kernel, by decide +kernel⟩, List.mem_of_getElem? (i := 40) (by decide +kernel), List.mem_of_getElem? (i := 387) (by decide +kernel), List.mem_of_getElem? (i := 388) (by decide +kernel)⟩
theorem lw_p2 : lw_okq (⟨"SiegePlate$Reader", "setFault", "(II)V"⟩, 4) := ⟨⟨by decide +kernel, by decide +kernel⟩, List.mem_of_getElem? (i := 40) (by decide +kernel), List.mem_of_getElem? (i := 394) (by decide +kernel), List.mem_of_getElem? (i := 395) (by decide +kernel)⟩
theorem lw_p3 : lw_okq (⟨"SiegePlate$Reader", "readNumbers", "(LSiegePlate$Text;I)V"⟩, 4) := ⟨⟨by decide +kernel, by decide +kernel⟩, List.mem_of_getElem? (i := 40) (by decide +kernel), List.mem_of_getElem? (i := 402) (by decide +kernel), List.mem_of_getElem? (i := 403) (by decide +kernel)⟩
theorem lw_p4 : lw_okq (⟨"SiegePlate$Reader", "readNumber", "(LSiegePlate$Text;II)I"⟩, 4) := ⟨⟨by decide +kernel, by decide +kernel⟩, List.mem_of_getElem? (i := 40) (by decide +kernel), List.mem_of_getElem? (i := 412) (by decide +kernel), List.mem_of_getElem? (i := 413) (by decide +kernel)⟩
theorem lw_p5 : lw_okq (⟨"SiegePlate$Reader", "readEnd", "(LSiegePlate$Text;)V"⟩, 4) := ⟨⟨by decide +kernel, by decide +kernel⟩, List.mem_of_getElem? (i := 40) (by decide +kernel), List.mem_of_getElem? (i := 420) (by decide +kernel), List.mem_of_getElem? (i := 421) (by decide +kernel)⟩
theorem lw_p6 : lw_okq (⟨"SiegePlate$Town", "addStores", "(II)V"⟩, 16) := ⟨⟨by decide +kernel, by decide +kernel⟩, List.mem_of_getElem? (i := 61) (by decide +kernel), List.mem_of_getElem? (i := 429) (by decide +kernel), List.mem_of_getElem? (i := 430) (by decide +kernel)⟩
theorem lw_p7 : lw_okq (⟨"SiegePlate$Town", "addCompany", "(III)V"⟩, 16) := ⟨⟨by decide +kernel, by decide +kernel⟩, List.mem_of_getElem? (i := 61) (by decide +kernel), List.mem_of_getElem? (i := 433) (by decide +kernel), List.mem_of_getElem? (i := 434) (by decide +kernel)⟩
theorem lw_p8 : lw_okq (⟨"SiegePlate$Town", "addMoney", "(III)V"⟩, 16) := ⟨⟨by decide +kernel, by decide +kernel⟩, List.mem_of_getElem? (i := 61) (by decide +kernel), List.mem_of_getElem? (i := 437) (by decide +kernel), List.mem_of_getElem? (i := 438) (by decide +kernel)⟩
theorem lw_p9 : lw_okq (⟨"SiegePlate$Town", "addGood", "(I)V"⟩, 16) := ⟨⟨by decide +kernel, by decide +kernel⟩, List.mem_of_getElem? (i := 61) (by decide +kernel), List.mem_of_getElem? (i := 441) (by decide +kernel), List.mem_of_getElem? (i := 442) (by decide +kernel)⟩
theorem lw_p10 : lw_okq (⟨"SiegePlate$Town", "addHorse", "(II)V"⟩, 16) := ⟨⟨by decide +kernel, by decide +kernel⟩, List.mem_of_getElem? (i := 61) (by decide +kernel), List.mem_of_getElem? (i := 445) (by decide +kernel), List.mem_of_getElem? (i := 446) (by decide +kernel)⟩
theorem lw_p11 : lw_okq (⟨"SiegePlate", "beginSiege", "()V"⟩, 12) := ⟨⟨by decide +kernel, by decide +kernel⟩, List.mem_of_getElem? (i := 15) (by decide +kernel), List.mem_of_getElem? (i := 449) (by decide +kernel), List.mem_of_getElem? (i := 450) (by decide +kernel)⟩
theorem lw_p12 : lw_okq (⟨"SiegePlate", "isCompany", "(I)Z"⟩, 12) := ⟨⟨by decide +kernel, by decide +kernel⟩, List.mem_of_getElem? (i := 15) (by decide +kernel), List.mem_of_getElem? (i := 481) (by decide +kernel), List.mem_of_getElem? (i := 482) (by decide +kernel)⟩
theorem lw_p13 : lw_okq (⟨"SiegePlate", "isMoney", "(I)Z"⟩, 12) := ⟨⟨by decide +kernel, by decide +kernel⟩, List.mem_of_getElem? (i := 15) (by decide +kernel), List.mem_of_getElem? (i := 490) (by decide +kernel), List.mem_of_getElem? (i := 491) (by decide +kernel)⟩
theorem lw_p14 : lw_okq (⟨"SiegePlate", "refusalOfDays", "(II)I"⟩, 12) := ⟨⟨by decide +kernel, by decide +kernel⟩, List.mem_of_getElem? (i := 15) (by decide +kernel), List.mem_of_getElem? (i := 498) (by decide +kernel), List.mem_of_getElem? (i := 499) (by decide +kernel)⟩
theorem lw_p15 : lw_okq (⟨"SiegePlate", "isBesieged", "()Z"⟩, 12) := ⟨⟨by decide +kernel, by decide +kernel⟩, List.mem_of_getElem? (i := 15) (by decide +kernel), List.mem_of_getElem? (i := 505) (by decide +kernel), List.mem_of_getElem? (i := 506) (by decide +kernel)⟩
def lw_privs_1 : List (MethodName × Nat) := [(⟨"SiegePlate$Reader", "skipBlanks", "(LSiegePlate$Text;)V"⟩, 4), (⟨"SiegePlate$Reader", "readClause", "(LSiegePlate$Text;LSiegePlate$Town;)V"⟩, 4), (⟨"SiegePlate$Reader", "setFault", "(II)V"⟩, 4), (⟨"SiegePlate$Reader", "readNumbers", "(LSiegePlate$Text;I)V"⟩, 4), (⟨"SiegePlate$Reader", "readNumber", "(LSiegePlate$Text;II)I"⟩, 4), (⟨"SiegePlate$Reader", "readEnd", "(LSiegePlate$Text;)V"⟩, 4), (⟨"SiegePlate$Town", "addStores", "(II)V"⟩, 16), (⟨"SiegePlate$Town", "addCompany", "(III)V"⟩, 16), (⟨"SiegePlate$Town", "addMoney", "(III)V"⟩, 16), (⟨"SiegePlate$Town", "addGood", "(I)V"⟩, 16), (⟨"SiegePlate$Town", "addHorse", "(II)V"⟩, 16), (⟨"SiegePlate", "beginSiege", "()V"⟩, 12), (⟨"SiegePlate", "isCompany", "(I)Z"⟩, 12), (⟨"SiegePlate", "isMoney", "(I)Z"⟩, 12), (⟨"SiegePlate", "refusalOfDays", "(II)I"⟩, 12), (⟨"SiegePlate", "isBesieged", "()Z"⟩, 12)]
theorem lw_r1 : ∀ q ∈ lw_privs_1, lw_okq q := List.forall_mem_cons.mpr ⟨lw_p0, List.forall_mem_cons.mpr ⟨lw_p1, List.forall_mem_cons.mpr ⟨lw_p2, List.forall_mem_cons.mpr ⟨lw_p3, List.forall_mem_cons.mpr ⟨lw_p4, List.forall_mem_cons.mpr ⟨lw_p5, List.forall_mem_cons.mpr ⟨lw_p6, List.forall_mem_cons.mpr ⟨lw_p7, List.forall_mem_cons.mpr ⟨lw_p8, List.forall_mem_cons.mpr ⟨lw_p9, List.forall_mem_cons.mpr ⟨lw_p10, List.forall_mem_cons.mpr ⟨lw_p11, List.forall_mem_cons.mpr ⟨lw_p12, List.forall_mem_cons.mpr ⟨lw_p13, List.forall_mem_cons.mpr ⟨lw_p14, List.forall_mem_cons.mpr ⟨lw_p15, fun _ h => absurd h List.not_mem_nil⟩⟩⟩⟩⟩⟩⟩⟩⟩⟩⟩⟩⟩⟩⟩⟩
theorem lw_p16 : lw_okq (⟨"SiegePlate$Camp", "isFed", "(II)Z"⟩, 6) := ⟨⟨by decide +kernel, by decide +kernel⟩, List.mem_of_getElem? (i := 147) (by decide +kernel), List.mem_of_getElem? (i := 537) (by decide +kernel), List.mem_of_getElem? (i := 538) (by decide +kernel)⟩
theorem lw_p17 : lw_okq (⟨"SiegePlate$Camp", "starve", "(II)V"⟩, 6) := ⟨⟨by decide +kernel, by decide +kernel⟩, List.mem_of_getElem? (i := 147) (by decide +kernel), List.mem_of_getElem? (i := 541) (by decide +kernel), List.mem_of_getElem? (i := 542) (by decide +kernel)⟩
theorem lw_p18 : lw_okq (⟨"SiegePlate$Siege", "payCompany", "(III)V"⟩, 7) := ⟨⟨by decide +kernel, by decide +kernel⟩, List.mem_of_getElem? (i := 141) (by decide +kernel), List.mem_of_getElem? (i := 546) (by decide +kernel), List.mem_of_getElem? (i := 547) (by decide +kernel)⟩
theorem lw_p19 : lw_okq (⟨"SiegePlate", "passDayByDraws", "(I)V"⟩, 12) := ⟨⟨by decide +kernel, by decide +kernel⟩, List.mem_of_getElem? (i := 15) (by decide +kernel), List.mem_of_getElem? (i := 579) (by decide +kernel), List.mem_of_getElem? (i := 580) (by decide +kernel)⟩
theorem lw_p20 : lw_okq (⟨"SiegePlate", "nextDraw", "()I"⟩, 12) := ⟨⟨by decide +kernel, by decide +kernel⟩, List.mem_of_getElem? (i := 15) (by decide +kernel), List.mem_of_getElem? (i := 583) (by decide +kernel), List.mem_of_getElem? (i := 584) (by decide +kernel)⟩
theorem lw_p21 : lw_okq (⟨"SiegePlate", "isGood", "(I)Z"⟩, 12) := ⟨⟨by decide +kernel, by decide +kernel⟩, List.mem_of_getElem? (i := 15) (by decide +kernel), List.mem_of_getElem? (i := 602) (by decide +kernel), List.mem_of_getElem? (i := 603) (by decide +kernel)⟩
theorem lw_p22 : lw_okq (⟨"SiegePlate", "worthWithin", "(II)I"⟩, 12) := ⟨⟨by decide +kernel, by decide +kernel⟩, List.mem_of_getElem? (i := 15) (by decide +kernel), List.mem_of_getElem? (i := 613) (by decide +kernel), List.mem_of_getElem? (i := 614) (by decide +kernel)⟩
theorem lw_p23 : lw_okq (⟨"SiegePlate$Trials", "compareRow", "(ILSiegePlate$Camp;)V"⟩, 5) := ⟨⟨by decide +kernel, by decide +kernel⟩, List.mem_of_getElem? (i := 231) (by decide +kernel), List.mem_of_getElem? (i := 635) (by decide +kernel), List.mem_of_getElem? (i := 636) (by decide +kernel)⟩
theorem lw_p24 : lw_okq (⟨"SiegePlate$Trials", "strikeGreatestDebt", "(I)I"⟩, 5) := ⟨⟨by decide +kernel, by decide +kernel⟩, List.mem_of_getElem? (i := 231) (by decide +kernel), List.mem_of_getElem? (i := 680) (by decide +kernel), List.mem_of_getElem? (i := 681) (by decide +kernel)⟩
theorem lw_p25 : lw_okq (⟨"SiegePlate$Shown", "bearsStampOfDead", "(I)Z"⟩, 6) := ⟨⟨by decide +kernel, by decide +kernel⟩, List.mem_of_getElem? (i := 258) (by decide +kernel), List.mem_of_getElem? (i := 712) (by decide +kernel), List.mem_of_getElem? (i := 713) (by decide +kernel)⟩
theorem lw_p26 : lw_okq (⟨"SiegePlateModel", "here", "()I"⟩, 41) := ⟨⟨by decide +kernel, by decide +kernel⟩, List.mem_of_getElem? (i := 757) (by decide +kernel), List.mem_of_getElem? (i := 902) (by decide +kernel), List.mem_of_getElem? (i := 903) (by decide +kernel)⟩
theorem lw_p27 : lw_okq (⟨"SiegePlateModel", "letterAt", "(I)I"⟩, 41) := ⟨⟨by decide +kernel, by decide +kernel⟩, List.mem_of_getElem? (i := 757) (by decide +kernel), List.mem_of_getElem? (i := 906) (by decide +kernel), List.mem_of_getElem? (i := 907) (by decide +kernel)⟩
theorem lw_p28 : lw_okq (⟨"SiegePlateModel", "takesClause", "()Z"⟩, 41) := ⟨⟨by decide +kernel, by decide +kernel⟩, List.mem_of_getElem? (i := 757) (by decide +kernel), List.mem_of_getElem? (i := 910) (by decide +kernel), List.mem_of_getElem? (i := 911) (by decide +kernel)⟩
theorem lw_p29 : lw_okq (⟨"SiegePlateModel", "fails", "(II)Z"⟩, 41) := ⟨⟨by decide +kernel, by decide +kernel⟩, List.mem_of_getElem? (i := 757) (by decide +kernel), List.mem_of_getElem? (i := 914) (by decide +kernel), List.mem_of_getElem? (i := 915) (by decide +kernel)⟩
theorem lw_p30 : lw_okq (⟨"SiegePlateModel", "takesWords", "(I)Z"⟩, 41) := ⟨⟨by decide +kernel, by decide +kernel⟩, List.mem_of_getElem? (i := 757) (by decide +kernel), List.mem_of_getElem? (i := 918) (by decide +kernel), List.mem_of_getElem? (i := 919) (by decide +kernel)⟩
theorem lw_p31 : lw_okq (⟨"SiegePlateModel", "takesTown", "()Z"⟩, 41) := ⟨⟨by decide +kernel, by decide +kernel⟩, List.mem_of_getElem? (i := 757) (by decide +kernel), List.mem_of_getElem? (i := 922) (by decide +kernel), List.mem_of_getElem? (i := 923) (by decide +kernel)⟩
def lw_privs_2 : List (MethodName × Nat) := [(⟨"SiegePlate$Camp", "isFed", "(II)Z"⟩, 6), (⟨"SiegePlate$Camp", "starve", "(II)V"⟩, 6), (⟨"SiegePlate$Siege", "payCompany", "(III)V"⟩, 7), (⟨"SiegePlate", "passDayByDraws", "(I)V"⟩, 12), (⟨"SiegePlate", "nextDraw", "()I"⟩, 12), (⟨"SiegePlate", "isGood", "(I)Z"⟩, 12), (⟨"SiegePlate", "worthWithin", "(II)I"⟩, 12), (⟨"SiegePlate$Trials", "compareRow", "(ILSiegePlate$Camp;)V"⟩, 5), (⟨"SiegePlate$Trials", "strikeGreatestDebt", "(I)I"⟩, 5), (⟨"SiegePlate$Shown", "bearsStampOfDead", "(I)Z"⟩, 6), (⟨"SiegePlateModel", "here", "()I"⟩, 41), (⟨"SiegePlateModel", "letterAt", "(I)I"⟩, 41), (⟨"SiegePlateModel", "takesClause", "()Z"⟩, 41), (⟨"SiegePlateModel", "fails", "(II)Z"⟩, 41), (⟨"SiegePlateModel", "takesWords", "(I)Z"⟩, 41), (⟨"SiegePlateModel", "takesTown", "()Z"⟩, 41)]
theorem lw_r2 : ∀ q ∈ lw_privs_2, lw_okq q := List.forall_mem_cons.mpr ⟨lw_p16, List.forall_mem_cons.mpr ⟨lw_p17, List.forall_mem_cons.mpr ⟨lw_p18, List.forall_mem_cons.mpr ⟨lw_p19, List.forall_mem_cons.mpr ⟨lw_p20, List.forall_mem_cons.mpr ⟨lw_p21, List.forall_mem_cons.mpr ⟨lw_p22, List.forall_mem_cons.mpr ⟨lw_p23, List.forall_mem_cons.mpr ⟨lw_p24, List.forall_mem_cons.mpr ⟨lw_p25, List.forall_mem_cons.mpr ⟨lw_p26, List.forall_mem_cons.mpr ⟨lw_p27, List.forall_mem_cons.mpr ⟨lw_p28, List.forall_mem_cons.mpr ⟨lw_p29, List.forall_mem_cons.mpr ⟨lw_p30, List.forall_mem_cons.mpr ⟨lw_p31, fun _ h => absurd h List.not_mem_nil⟩⟩⟩⟩⟩⟩⟩⟩⟩⟩⟩⟩⟩⟩⟩⟩
theorem lw_p32 : lw_okq (⟨"SiegePlateModel", "takesNumber", "(II)Z"⟩, 41) := ⟨⟨by decide +kernel, by decide +kernel⟩, List.mem_of_getElem? (i := 757) (by decide +kernel), List.mem_of_getElem? (i := 926) (by decide +kernel), List.mem_of_getElem? (i := 927) (by decide +kernel)⟩
theorem lw_p33 : lw_okq (⟨"SiegePlateModel", "takesCompany", "()Z"⟩, 41) := ⟨⟨by decide +kernel, by decide +kernel⟩, List.mem_of_getElem? (i := 757) (by decide +kernel), List.mem_of_getElem? (i := 932) (by decide +kernel), List.mem_of_getElem? (i := 933) (by decide +kernel)⟩
theorem lw_p34 : lw_okq (⟨"SiegePlateModel", "takesKind", "()Z"⟩, 41) := ⟨⟨by decide +kernel, by decide +kernel⟩, List.mem_of_getElem? (i := 757) (by decide +kernel), List.mem_of_getElem? (i := 936) (by decide +kernel), List.mem_of_getElem? (i := 937) (by decide +kernel)⟩
theorem lw_p35 : lw_okq (⟨"SiegePlateModel", "takesGood", "()Z"⟩, 41) := ⟨⟨by decide +kernel, by decide +kernel⟩, List.mem_of_getElem? (i := 757) (by decide +kernel), List.mem_of_getElem? (i := 940) (by decide +kernel), List.mem_of_getElem? (i := 941) (by decide +kernel)⟩
theorem lw_p36 : lw_okq (⟨"SiegePlateModel", "takesHorse", "()Z"⟩, 41) := ⟨⟨by decide +kernel, by decide +kernel⟩, List.mem_of_getElem? (i := 757) (by decide +kernel), List.mem_of_getElem? (i := 944) (by decide +kernel), List.mem_of_getElem? (i := 945) (by decide +kernel)⟩
theorem lw_p37 : lw_okq (⟨"SiegePlateModel", "takes", "(I)Z"⟩, 41) := ⟨⟨by decide +kernel, by decide +kernel⟩, List.mem_of_getElem? (i := 757) (by decide +kernel), List.mem_of_getElem? (i := 948) (by decide +kernel), List.mem_of_getElem? (i := 949) (by decide +kernel)⟩
theorem lw_p38 : lw_okq (⟨"SiegePlateModel", "menIn", "(I)I"⟩, 41) := ⟨⟨by decide +kernel, by decide +kernel⟩, List.mem_of_getElem? (i := 757) (by decide +kernel), List.mem_of_getElem? (i := 960) (by decide +kernel), List.mem_of_getElem? (i := 961) (by decide +kernel)⟩
theorem lw_p39 : lw_okq (⟨"SiegePlateModel", "isCompany", "(I)Z"⟩, 41) := ⟨⟨by decide +kernel, by decide +kernel⟩, List.mem_of_getElem? (i := 757) (by decide +kernel), List.mem_of_getElem? (i := 968) (by decide +kernel), List.mem_of_getElem? (i := 969) (by decide +kernel)⟩
theorem lw_p40 : lw_okq (⟨"SiegePlateModel", "isMoney", "(I)Z"⟩, 41) := ⟨⟨by decide +kernel, by decide +kernel⟩, List.mem_of_getElem? (i := 757) (by decide +kernel), List.mem_of_getElem? (i := 977) (by decide +kernel), List.mem_of_getElem? (i := 978) (by decide +kernel)⟩
theorem lw_p41 : lw_okq (⟨"SiegePlateModel", "copy", "(II)V"⟩, 41) := ⟨⟨by decide +kernel, by decide +kernel⟩, List.mem_of_getElem? (i := 757) (by decide +kernel), List.mem_of_getElem? (i := 986) (by decide +kernel), List.mem_of_getElem? (i := 987) (by decide +kernel)⟩
theorem lw_p42 : lw_okq (⟨"SiegePlateModel", "isOver", "()Z"⟩, 41) := ⟨⟨by decide +kernel, by decide +kernel⟩, List.mem_of_getElem? (i := 757) (by decide +kernel), List.mem_of_getElem? (i := 999) (by decide +kernel), List.mem_of_getElem? (i := 1000) (by decide +kernel)⟩
theorem lw_p43 : lw_okq (⟨"SiegePlateModel", "minds", "()V"⟩, 41) := ⟨⟨by decide +kernel, by decide +kernel⟩, List.mem_of_getElem? (i := 757) (by decide +kernel), List.mem_of_getElem? (i := 1003) (by decide +kernel), List.mem_of_getElem? (i := 1004) (by decide +kernel)⟩
theorem lw_p44 : lw_okq (⟨"SiegePlateModel", "passes", "(II)V"⟩, 41) := ⟨⟨by decide +kernel, by decide +kernel⟩, List.mem_of_getElem? (i := 757) (by decide +kernel), List.mem_of_getElem? (i := 1007) (by decide +kernel), List.mem_of_getElem? (i := 1008) (by decide +kernel)⟩
theorem lw_p45 : lw_okq (⟨"SiegePlateModel", "eats", "(III)Z"⟩, 41) := ⟨⟨by decide +kernel, by decide +kernel⟩, List.mem_of_getElem? (i := 757) (by decide +kernel), List.mem_of_getElem? (i := 1011) (by decide +kernel), List.mem_of_getElem? (i := 1012) (by decide +kernel)⟩
theorem lw_p46 : lw_okq (⟨"SiegePlateModel", "isPaid", "(II)V"⟩, 41) := ⟨⟨by decide +kernel, by decide +kernel⟩, List.mem_of_getElem? (i := 757) (by decide +kernel), List.mem_of_getElem? (i := 1015) (by decide +kernel), List.mem_of_getElem? (i := 1016) (by decide +kernel)⟩
theorem lw_p47 : lw_okq (⟨"SiegePlateModel", "hears", "(I)V"⟩, 41) := ⟨⟨by decide +kernel, by decide +kernel⟩, List.mem_of_getElem? (i := 757) (by decide +kernel), List.mem_of_getElem? (i := 1023) (by decide +kernel), List.mem_of_getElem? (i := 1024) (by decide +kernel)⟩
def lw_privs_3 : List (MethodName × Nat) := [(⟨"SiegePlateModel", "takesNumber", "(II)Z"⟩, 41), (⟨"SiegePlateModel", "takesCompany", "()Z"⟩, 41), (⟨"SiegePlateModel", "takesKind", "()Z"⟩, 41), (⟨"SiegePlateModel", "takesGood", "()Z"⟩, 41), (⟨"SiegePlateModel", "takesHorse", "()Z"⟩, 41), (⟨"SiegePlateModel", "takes", "(I)Z"⟩, 41), (⟨"SiegePlateModel", "menIn", "(I)I"⟩, 41), (⟨"SiegePlateModel", "isCompany", "(I)Z"⟩, 41), (⟨"SiegePlateModel", "isMoney", "(I)Z"⟩, 41), (⟨"SiegePlateModel", "copy", "(II)V"⟩, 41), (⟨"SiegePlateModel", "isOver", "()Z"⟩, 41), (⟨"SiegePlateModel", "minds", "()V"⟩, 41), (⟨"SiegePlateModel", "passes", "(II)V"⟩, 41), (⟨"SiegePlateModel", "eats", "(III)Z"⟩, 41), (⟨"SiegePlateModel", "isPaid", "(II)V"⟩, 41), (⟨"SiegePlateModel", "hears", "(I)V"⟩, 41)]
theorem lw_r3 : ∀ q ∈ lw_privs_3, lw_okq q := List.forall_mem_cons.mpr ⟨lw_p32, List.forall_mem_cons.mpr ⟨lw_p33, List.forall_mem_cons.mpr ⟨lw_p34, List.forall_mem_cons.mpr ⟨lw_p35, List.forall_mem_cons.mpr ⟨lw_p36, List.forall_mem_cons.mpr ⟨lw_p37, List.forall_mem_cons.mpr ⟨lw_p38, List.forall_mem_cons.mpr ⟨lw_p39, List.forall_mem_cons.mpr ⟨lw_p40, List.forall_mem_cons.mpr ⟨lw_p41, List.forall_mem_cons.mpr ⟨lw_p42, List.forall_mem_cons.mpr ⟨lw_p43, List.forall_mem_cons.mpr ⟨lw_p44, List.forall_mem_cons.mpr ⟨lw_p45, List.forall_mem_cons.mpr ⟨lw_p46, List.forall_mem_cons.mpr ⟨lw_p47, fun _ h => absurd h List.not_mem_nil⟩⟩⟩⟩⟩⟩⟩⟩⟩⟩⟩⟩⟩⟩⟩⟩
theorem lw_p48 : lw_okq (⟨"SiegePlateModel", "draw", "(I)I"⟩, 41) := ⟨⟨by decide +kernel, by decide +kernel⟩, List.mem_of_getElem? (i := 757) (by decide +kernel), List.mem_of_getElem? (i := 1040) (by decide +kernel), List.mem_of_getElem? (i := 1041) (by decide +kernel)⟩
theorem lw_p49 : lw_okq (⟨"SiegePlateModel", "isGood", "(I)Z"⟩, 41) := ⟨⟨by decide +kernel, by decide +kernel⟩, List.mem_of_getElem? (i := 757) (by decide +kernel), List.mem_of_getElem? (i := 1052) (by decide +kernel), List.mem_of_getElem? (i := 1053) (by decide +kernel)⟩
theorem lw_p50 : lw_okq (⟨"SiegePlateModel", "costsBy", "(II)I"⟩, 41) := ⟨⟨by decide +kernel, by decide +kernel⟩, List.mem_of_getElem? (i := 757) (by decide +kernel), List.mem_of_getElem? (i := 1056) (by decide +kernel), List.mem_of_getElem? (i := 1057) (by decide +kernel)⟩
theorem lw_p51 : lw_okq (⟨"SiegePlateModel", "worthOf", "(II)I"⟩, 41) := ⟨⟨by decide +kernel, by decide +kernel⟩, List.mem_of_getElem? (i := 757) (by decide +kernel), List.mem_of_getElem? (i := 1065) (by decide +kernel), List.mem_of_getElem? (i := 1066) (by decide +kernel)⟩
theorem lw_p52 : lw_okq (⟨"SiegePlateModel", "owedTo", "(II)I"⟩, 41) := ⟨⟨by decide +kernel, by decide +kernel⟩, List.mem_of_getElem? (i := 757) (by decide +kernel), List.mem_of_getElem? (i := 1090) (by decide +kernel), List.mem_of_getElem? (i := 1091) (by decide +kernel)⟩
theorem lw_p53 : lw_okq (⟨"SiegePlateModel", "hungerFor", "(II)I"⟩, 41) := ⟨⟨by decide +kernel, by decide +kernel⟩, List.mem_of_getElem? (i := 757) (by decide +kernel), List.mem_of_getElem? (i := 1102) (by decide +kernel), List.mem_of_getElem? (i := 1103) (by decide +kernel)⟩
theorem lw_p54 : lw_okq (⟨"SiegePlateModel", "isBehind", "(I)Z"⟩, 41) := ⟨⟨by decide +kernel, by decide +kernel⟩, List.mem_of_getElem? (i := 757) (by decide +kernel), List.mem_of_getElem? (i := 1120) (by decide +kernel), List.mem_of_getElem? (i := 1121) (by decide +kernel)⟩
def lw_privs_4 : List (MethodName × Nat) := [(⟨"SiegePlateModel", "draw", "(I)I"⟩, 41), (⟨"SiegePlateModel", "isGood", "(I)Z"⟩, 41), (⟨"SiegePlateModel", "costsBy", "(II)I"⟩, 41), (⟨"SiegePlateModel", "worthOf", "(II)I"⟩, 41), (⟨"SiegePlateModel", "owedTo", "(II)I"⟩, 41), (⟨"SiegePlateModel", "hungerFor", "(II)I"⟩, 41), (⟨"SiegePlateModel", "isBehind", "(I)Z"⟩, 41)]
theorem lw_r4 : ∀ q ∈ lw_privs_4, lw_okq q := List.forall_mem_cons.mpr ⟨lw_p48, List.forall_mem_cons.mpr ⟨lw_p49, List.forall_mem_cons.mpr ⟨lw_p50, List.forall_mem_cons.mpr ⟨lw_p51, List.forall_mem_cons.mpr ⟨lw_p52, List.forall_mem_cons.mpr ⟨lw_p53, List.forall_mem_cons.mpr ⟨lw_p54, fun _ h => absurd h List.not_mem_nil⟩⟩⟩⟩⟩⟩⟩
def lw_privs : List (MethodName × Nat) := lw_privs_1 ++ (lw_privs_2 ++ (lw_privs_3 ++ (lw_privs_4)))
def lw_tbl : List Cond := k2_sels lw_privs ++ tables_1
theorem lw_privs_ok : ∀ q ∈ lw_privs, lw_okq q := by
  show ∀ q ∈ lw_privs_1 ++ (lw_privs_2 ++ (lw_privs_3 ++ (lw_privs_4))), lw_okq q
  exact List.forall_mem_append.mpr ⟨lw_r1, List.forall_mem_append.mpr ⟨lw_r2, List.forall_mem_append.mpr ⟨lw_r3, lw_r4⟩⟩⟩
-- ===== end of PART A; then your names; then what follows =====
def RX0 : String := "SiegePlate$Book"
def TX0 : u_T := fun k => match k with
  | 0 => ("SiegePlate$Book", "companies", "[I", true)
  | 1 => ("SiegePlate$Book", "men", "[I", true)
  | _ => ("SiegePlate$Book", "count", "I", false)
def tyX0 : Nat → FieldType := fun k => match k with
  | 0 => .array .int
  | 1 => .array .int
  | _ => .int
theorem nmX0 : ∀ a, a < 3 → ∀ b, b < 3 → a ≠ b → (TX0 a).2.1 ≠ (TX0 b).2.1 := by decide +kernel
theorem tyX0_ok : ∀ k, k < 3 → parseFieldDescriptor (TX0 k).2.2.1 = some (tyX0 k) := by decide +kernel
abbrev cX0_init : ByteArray := prog_2_method_1_code
def yX0_init : MethodName := ⟨RX0, "<init>", "()V"⟩
abbrev cX0_add : ByteArray := prog_2_method_2_code
def yX0_add : MethodName := ⟨RX0, "add", "(II)V"⟩
abbrev cX0_firstWrong : ByteArray := prog_2_method_3_code
def yX0_firstWrong : MethodName := ⟨RX0, "firstWrong", "(LSiegePlate$Camp;)I"⟩
def RX1 : String := "SiegePlate$Camp"
def TX1 : u_T := fun k => match k with
  | 0 => ("SiegePlate$Camp", "food", "I", false)
  | 1 => ("SiegePlate$Camp", "days", "I", false)
  | 2 => ("SiegePlate$Camp", "men", "[I", true)
  | 3 => ("SiegePlate$Camp", "hungryDays", "[I", true)
  | 4 => ("SiegePlate$Camp", "wasHungry", "Z", false)
  | _ => ("SiegePlate$Camp", "deserted", "I", false)
def tyX1 : Nat → FieldType := fun k => match k with
  | 0 => .int
  | 1 => .int
  | 2 => .array .int
  | 3 => .array .int
  | 4 => .boolean
  | _ => .int
theorem nmX1 : ∀ a, a < 6 → ∀ b, b < 6 → a ≠ b → (TX1 a).2.1 ≠ (TX1 b).2.1 := by decide +kernel
theorem tyX1_ok : ∀ k, k < 6 → parseFieldDescriptor (TX1 k).2.2.1 = some (tyX1 k) := by decide +kernel
abbrev cX1_init : ByteArray := prog_3_method_1_code
def yX1_init : MethodName := ⟨RX1, "<init>", "()V"⟩
abbrev cX1_begin : ByteArray := prog_3_method_2_code
def yX1_begin : MethodName := ⟨RX1, "begin", "(LSiegePlate$Town;)V"⟩
abbrev cX1_become : ByteArray := prog_3_method_3_code
def yX1_become : MethodName := ⟨RX1, "become", "(LSiegePlate$Camp;)V"⟩
abbrev cX1_menOfAll : ByteArray := prog_3_method_4_code
def yX1_menOfAll : MethodName := ⟨RX1, "menOfAll", "()I"⟩
abbrev cX1_eatADay : ByteArray := prog_3_method_5_code
def yX1_eatADay : MethodName := ⟨RX1, "eatADay", "(LSiegePlate$Town;I)V"⟩
abbrev cX1_isFed : ByteArray := prog_3_method_6_code
def yX1_isFed : MethodName := ⟨RX1, "isFed", "(II)Z"⟩
abbrev cX1_starve : ByteArray := prog_3_method_7_code
def yX1_starve : MethodName := ⟨RX1, "starve", "(II)V"⟩
def RX2 : String := "SiegePlate$Image"
def TX2 : u_T := fun k => match k with
  | 0 => ("SiegePlate$Image", "siege", "LSiegePlate$Siege;", true)
  | 1 => ("SiegePlate$Image", "seed", "I", false)
  | _ => ("SiegePlate$Image", "isKept", "Z", false)
def tyX2 : Nat → FieldType := fun k => match k with
  | 0 => .object "SiegePlate$Siege"
  | 1 => .int
  | _ => .boolean
theorem nmX2 : ∀ a, a < 3 → ∀ b, b < 3 → a ≠ b → (TX2 a).2.1 ≠ (TX2 b).2.1 := by decide +kernel
theorem tyX2_ok : ∀ k, k < 3 → parseFieldDescriptor (TX2 k).2.2.1 = some (tyX2 k) := by decide +kernel
abbrev cX2_init : ByteArray := prog_4_method_1_code
def yX2_init : MethodName := ⟨RX2, "<init>", "()V"⟩
def RX3 : String := "SiegePlate$Log"
def TX3 : u_T := fun k => match k with
  | 0 => ("SiegePlate$Log", "sieges", "[LSiegePlate$Siege;", true)
  | 1 => ("SiegePlate$Log", "next", "I", false)
  | _ => ("SiegePlate$Log", "count", "I", false)
def tyX3 : Nat → FieldType := fun k => match k with
  | 0 => .array (.object "SiegePlate$Siege")
  | 1 => .int
  | _ => .int
theorem nmX3 : ∀ a, a < 3 → ∀ b, b < 3 → a ≠ b → (TX3 a).2.1 ≠ (TX3 b).2.1 := by decide +kernel
theorem tyX3_ok : ∀ k, k < 3 → parseFieldDescriptor (TX3 k).2.2.1 = some (tyX3 k) := by decide +kernel
abbrev cX3_init : ByteArray := prog_5_method_1_code
def yX3_init : MethodName := ⟨RX3, "<init>", "()V"⟩
abbrev cX3_clear : ByteArray := prog_5_method_2_code
def yX3_clear : MethodName := ⟨RX3, "clear", "()V"⟩
abbrev cX3_push : ByteArray := prog_5_method_3_code
def yX3_push : MethodName := ⟨RX3, "push", "(LSiegePlate$Siege;)V"⟩
abbrev cX3_popInto : ByteArray := prog_5_method_4_code
def yX3_popInto : MethodName := ⟨RX3, "popInto", "(LSiegePlate$Siege;)V"⟩
def RX4 : String := "SiegePlate$Reader"
def TX4 : u_T := fun k => match k with
  | 0 => ("SiegePlate$Reader", "values", "[I", true)
  | 1 => ("SiegePlate$Reader", "at", "I", false)
  | 2 => ("SiegePlate$Reader", "fault", "I", false)
  | _ => ("SiegePlate$Reader", "place", "I", false)
def tyX4 : Nat → FieldType := fun k => match k with
  | 0 => .array .int
  | 1 => .int
  | 2 => .int
  | _ => .int
theorem nmX4 : ∀ a, a < 4 → ∀ b, b < 4 → a ≠ b → (TX4 a).2.1 ≠ (TX4 b).2.1 := by decide +kernel
theorem tyX4_ok : ∀ k, k < 4 → parseFieldDescriptor (TX4 k).2.2.1 = some (tyX4 k) := by decide +kernel
abbrev cX4_init : ByteArray := prog_6_method_1_code
def yX4_init : MethodName := ⟨RX4, "<init>", "()V"⟩
abbrev cX4_readTown : ByteArray := prog_6_method_2_code
def yX4_readTown : MethodName := ⟨RX4, "readTown", "(LSiegePlate$Text;LSiegePlate$Town;)V"⟩
abbrev cX4_readClause : ByteArray := prog_6_method_3_code
def yX4_readClause : MethodName := ⟨RX4, "readClause", "(LSiegePlate$Text;LSiegePlate$Town;)V"⟩
abbrev cX4_readNumbers : ByteArray := prog_6_method_4_code
def yX4_readNumbers : MethodName := ⟨RX4, "readNumbers", "(LSiegePlate$Text;I)V"⟩
abbrev cX4_readNumber : ByteArray := prog_6_method_5_code
def yX4_readNumber : MethodName := ⟨RX4, "readNumber", "(LSiegePlate$Text;II)I"⟩
abbrev cX4_readEnd : ByteArray := prog_6_method_6_code
def yX4_readEnd : MethodName := ⟨RX4, "readEnd", "(LSiegePlate$Text;)V"⟩
abbrev cX4_skipBlanks : ByteArray := prog_6_method_7_code
def yX4_skipBlanks : MethodName := ⟨RX4, "skipBlanks", "(LSiegePlate$Text;)V"⟩
abbrev cX4_setFault : ByteArray := prog_6_method_8_code
def yX4_setFault : MethodName := ⟨RX4, "setFault", "(II)V"⟩
abbrev cX4_isFigure : ByteArray := prog_6_method_9_code
def yX4_isFigure : MethodName := ⟨RX4, "isFigure", "(I)Z"⟩
abbrev cX4_clauseOf : ByteArray := prog_6_method_10_code
def yX4_clauseOf : MethodName := ⟨RX4, "clauseOf", "(I)I"⟩
def RX5 : String := "SiegePlate$Shown"
def TX5 : u_T := fun k => match k with
  | 0 => ("SiegePlate$Shown", "kind", "[I", true)
  | 1 => ("SiegePlate$Shown", "died", "[I", true)
  | 2 => ("SiegePlate$Shown", "stamped", "[I", true)
  | 3 => ("SiegePlate$Shown", "weighs", "[I", true)
  | 4 => ("SiegePlate$Shown", "toWeigh", "[I", true)
  | _ => ("SiegePlate$Shown", "count", "I", false)
def tyX5 : Nat → FieldType := fun k => match k with
  | 0 => .array .int
  | 1 => .array .int
  | 2 => .array .int
  | 3 => .array .int
  | 4 => .array .int
  | _ => .int
theorem nmX5 : ∀ a, a < 6 → ∀ b, b < 6 → a ≠ b → (TX5 a).2.1 ≠ (TX5 b).2.1 := by decide +kernel
theorem tyX5_ok : ∀ k, k < 6 → parseFieldDescriptor (TX5 k).2.2.1 = some (tyX5 k) := by decide +kernel
abbrev cX5_init : ByteArray := prog_7_method_1_code
def yX5_init : MethodName := ⟨RX5, "<init>", "()V"⟩
abbrev cX5_add : ByteArray := prog_7_method_2_code
def yX5_add : MethodName := ⟨RX5, "add", "(IIII)V"⟩
abbrev cX5_forgedOnes : ByteArray := prog_7_method_3_code
def yX5_forgedOnes : MethodName := ⟨RX5, "forgedOnes", "(LSiegePlate$Town;)I"⟩
abbrev cX5_kindToWeigh : ByteArray := prog_7_method_4_code
def yX5_kindToWeigh : MethodName := ⟨RX5, "kindToWeigh", "(LSiegePlate$Town;)I"⟩
abbrev cX5_bearsStampOfDead : ByteArray := prog_7_method_5_code
def yX5_bearsStampOfDead : MethodName := ⟨RX5, "bearsStampOfDead", "(I)Z"⟩
def RX6 : String := "SiegePlate$Siege"
def TX6 : u_T := fun k => match k with
  | 0 => ("SiegePlate$Siege", "camp", "LSiegePlate$Camp;", true)
  | 1 => ("SiegePlate$Siege", "odds", "I", false)
  | 2 => ("SiegePlate$Siege", "hunger", "I", false)
  | 3 => ("SiegePlate$Siege", "outcome", "I", false)
  | 4 => ("SiegePlate$Siege", "squaresLeft", "[I", true)
  | 5 => ("SiegePlate$Siege", "words", "[I", true)
  | _ => ("SiegePlate$Siege", "paid", "[I", true)
def tyX6 : Nat → FieldType := fun k => match k with
  | 0 => .object "SiegePlate$Camp"
  | 1 => .int
  | 2 => .int
  | 3 => .int
  | 4 => .array .int
  | 5 => .array .int
  | _ => .array .int
theorem nmX6 : ∀ a, a < 7 → ∀ b, b < 7 → a ≠ b → (TX6 a).2.1 ≠ (TX6 b).2.1 := by decide +kernel
theorem tyX6_ok : ∀ k, k < 7 → parseFieldDescriptor (TX6 k).2.2.1 = some (tyX6 k) := by decide +kernel
abbrev cX6_init : ByteArray := prog_8_method_1_code
def yX6_init : MethodName := ⟨RX6, "<init>", "()V"⟩
abbrev cX6_begin : ByteArray := prog_8_method_2_code
def yX6_begin : MethodName := ⟨RX6, "begin", "(LSiegePlate$Town;)V"⟩
abbrev cX6_become : ByteArray := prog_8_method_3_code
def yX6_become : MethodName := ⟨RX6, "become", "(LSiegePlate$Siege;)V"⟩
abbrev cX6_passDay : ByteArray := prog_8_method_4_code
def yX6_passDay : MethodName := ⟨RX6, "passDay", "(LSiegePlate$Town;I)V"⟩
abbrev cX6_payCompany : ByteArray := prog_8_method_5_code
def yX6_payCompany : MethodName := ⟨RX6, "payCompany", "(III)V"⟩
abbrev cX6_owedTo : ByteArray := prog_8_method_6_code
def yX6_owedTo : MethodName := ⟨RX6, "owedTo", "(LSiegePlate$Town;II)I"⟩
abbrev cX6_worthOfSquare : ByteArray := prog_8_method_7_code
def yX6_worthOfSquare : MethodName := ⟨RX6, "worthOfSquare", "(LSiegePlate$Town;II)I"⟩
abbrev cX6_hearGun : ByteArray := prog_8_method_8_code
def yX6_hearGun : MethodName := ⟨RX6, "hearGun", "()V"⟩
abbrev cX6_raiseOdds : ByteArray := prog_8_method_9_code
def yX6_raiseOdds : MethodName := ⟨RX6, "raiseOdds", "(I)V"⟩
def RX7 : String := "SiegePlate$Text"
def TX7 : u_T := fun k => match k with
  | 0 => ("SiegePlate$Text", "letters", "[I", true)
  | _ => ("SiegePlate$Text", "length", "I", false)
def tyX7 : Nat → FieldType := fun k => match k with
  | 0 => .array .int
  | _ => .int
theorem nmX7 : ∀ a, a < 2 → ∀ b, b < 2 → a ≠ b → (TX7 a).2.1 ≠ (TX7 b).2.1 := by decide +kernel
theorem tyX7_ok : ∀ k, k < 2 → parseFieldDescriptor (TX7 k).2.2.1 = some (tyX7 k) := by decide +kernel
abbrev cX7_init : ByteArray := prog_9_method_1_code
def yX7_init : MethodName := ⟨RX7, "<init>", "()V"⟩
abbrev cX7_append : ByteArray := prog_9_method_2_code
def yX7_append : MethodName := ⟨RX7, "append", "(I)V"⟩
def RX8 : String := "SiegePlate$Town"
def TX8 : u_T := fun k => match k with
  | 0 => ("SiegePlate$Town", "stands", "Z", false)
  | 1 => ("SiegePlate$Town", "food", "I", false)
  | 2 => ("SiegePlate$Town", "odds", "I", false)
  | 3 => ("SiegePlate$Town", "companies", "I", false)
  | 4 => ("SiegePlate$Town", "kinds", "I", false)
  | 5 => ("SiegePlate$Town", "goods", "I", false)
  | 6 => ("SiegePlate$Town", "horses", "I", false)
  | 7 => ("SiegePlate$Town", "men", "[I", true)
  | 8 => ("SiegePlate$Town", "pay", "[I", true)
  | 9 => ("SiegePlate$Town", "bears", "[I", true)
  | 10 => ("SiegePlate$Town", "squares", "[I", true)
  | 11 => ("SiegePlate$Town", "stamp", "[I", true)
  | 12 => ("SiegePlate$Town", "weight", "[I", true)
  | 13 => ("SiegePlate$Town", "cost", "[I", true)
  | 14 => ("SiegePlate$Town", "horseDay", "[I", true)
  | _ => ("SiegePlate$Town", "horseFood", "[I", true)
def tyX8 : Nat → FieldType := fun k => match k with
  | 0 => .boolean
  | 1 => .int
  | 2 => .int
  | 3 => .int
  | 4 => .int
  | 5 => .int
  | 6 => .int
  | 7 => .array .int
  | 8 => .array .int
  | 9 => .array .int
  | 10 => .array .int
  | 11 => .array .int
  | 12 => .array .int
  | 13 => .array .int
  | 14 => .array .int
  | _ => .array .int
theorem nmX8 : ∀ a, a < 16 → ∀ b, b < 16 → a ≠ b → (TX8 a).2.1 ≠ (TX8 b).2.1 := by decide +kernel
theorem tyX8_ok : ∀ k, k < 16 → parseFieldDescriptor (TX8 k).2.2.1 = some (tyX8 k) := by decide +kernel
abbrev cX8_init : ByteArray := prog_10_method_1_code
def yX8_init : MethodName := ⟨RX8, "<init>", "()V"⟩
abbrev cX8_clear : ByteArray := prog_10_method_2_code
def yX8_clear : MethodName := ⟨RX8, "clear", "()V"⟩
abbrev cX8_hasRoomFor : ByteArray := prog_10_method_3_code
def yX8_hasRoomFor : MethodName := ⟨RX8, "hasRoomFor", "(I)Z"⟩
abbrev cX8_add : ByteArray := prog_10_method_4_code
def yX8_add : MethodName := ⟨RX8, "add", "(IIII)V"⟩
abbrev cX8_addStores : ByteArray := prog_10_method_5_code
def yX8_addStores : MethodName := ⟨RX8, "addStores", "(II)V"⟩
abbrev cX8_addCompany : ByteArray := prog_10_method_6_code
def yX8_addCompany : MethodName := ⟨RX8, "addCompany", "(III)V"⟩
abbrev cX8_addMoney : ByteArray := prog_10_method_7_code
def yX8_addMoney : MethodName := ⟨RX8, "addMoney", "(III)V"⟩
abbrev cX8_addGood : ByteArray := prog_10_method_8_code
def yX8_addGood : MethodName := ⟨RX8, "addGood", "(I)V"⟩
abbrev cX8_addHorse : ByteArray := prog_10_method_9_code
def yX8_addHorse : MethodName := ⟨RX8, "addHorse", "(II)V"⟩
abbrev cX8_foodOfHorses : ByteArray := prog_10_method_10_code
def yX8_foodOfHorses : MethodName := ⟨RX8, "foodOfHorses", "(I)I"⟩
def RX9 : String := "SiegePlate$Trials"
def TX9 : u_T := fun k => match k with
  | 0 => ("SiegePlate$Trials", "camps", "[LSiegePlate$Camp;", true)
  | 1 => ("SiegePlate$Trials", "debts", "[I", true)
  | 2 => ("SiegePlate$Trials", "bestMen", "I", false)
  | 3 => ("SiegePlate$Trials", "bestRow", "I", false)
  | _ => ("SiegePlate$Trials", "bestFood", "I", false)
def tyX9 : Nat → FieldType := fun k => match k with
  | 0 => .array (.object "SiegePlate$Camp")
  | 1 => .array .int
  | 2 => .int
  | 3 => .int
  | _ => .int
theorem nmX9 : ∀ a, a < 5 → ∀ b, b < 5 → a ≠ b → (TX9 a).2.1 ≠ (TX9 b).2.1 := by decide +kernel
theorem tyX9_ok : ∀ k, k < 5 → parseFieldDescriptor (TX9 k).2.2.1 = some (tyX9 k) := by decide +kernel
abbrev cX9_init : ByteArray := prog_11_method_1_code
def yX9_init : MethodName := ⟨RX9, "<init>", "()V"⟩
abbrev cX9_tryAllRows : ByteArray := prog_11_method_2_code
def yX9_tryAllRows : MethodName := ⟨RX9, "tryAllRows", "(LSiegePlate$Town;LSiegePlate$Camp;I)V"⟩
abbrev cX9_firstDayToTry : ByteArray := prog_11_method_3_code
def yX9_firstDayToTry : MethodName := ⟨RX9, "firstDayToTry", "(II)I"⟩
abbrev cX9_compareRow : ByteArray := prog_11_method_4_code
def yX9_compareRow : MethodName := ⟨RX9, "compareRow", "(ILSiegePlate$Camp;)V"⟩
abbrev cX9_rationOf : ByteArray := prog_11_method_5_code
def yX9_rationOf : MethodName := ⟨RX9, "rationOf", "(III)I"⟩
abbrev cX9_firstDeserter : ByteArray := prog_11_method_6_code
def yX9_firstDeserter : MethodName := ⟨RX9, "firstDeserter", "(LSiegePlate$Town;LSiegePlate$Camp;I)I"⟩
abbrev cX9_daysWithMen : ByteArray := prog_11_method_7_code
def yX9_daysWithMen : MethodName := ⟨RX9, "daysWithMen", "(LSiegePlate$Town;LSiegePlate$Camp;I)I"⟩
abbrev cX9_leastToPay : ByteArray := prog_11_method_8_code
def yX9_leastToPay : MethodName := ⟨RX9, "leastToPay", "(LSiegePlate$Town;LSiegePlate$Siege;II)I"⟩
abbrev cX9_strikeGreatestDebt : ByteArray := prog_11_method_9_code
def yX9_strikeGreatestDebt : MethodName := ⟨RX9, "strikeGreatestDebt", "(I)I"⟩
def RX10 : String := "SiegePlate"
def TX10 : u_T := fun k => match k with
  | 0 => ("SiegePlate", "text", "LSiegePlate$Text;", true)
  | 1 => ("SiegePlate", "reader", "LSiegePlate$Reader;", true)
  | 2 => ("SiegePlate", "theTown", "LSiegePlate$Town;", false)
  | 3 => ("SiegePlate", "draft", "LSiegePlate$Town;", false)
  | 4 => ("SiegePlate", "now", "LSiegePlate$Siege;", true)
  | 5 => ("SiegePlate", "log", "LSiegePlate$Log;", true)
  | 6 => ("SiegePlate", "images", "[LSiegePlate$Image;", true)
  | 7 => ("SiegePlate", "trials", "LSiegePlate$Trials;", true)
  | 8 => ("SiegePlate", "shown", "LSiegePlate$Shown;", true)
  | 9 => ("SiegePlate", "book", "LSiegePlate$Book;", true)
  | 10 => ("SiegePlate", "seedNow", "I", false)
  | _ => ("SiegePlate", "faultPlace", "I", false)
def tyX10 : Nat → FieldType := fun k => match k with
  | 0 => .object "SiegePlate$Text"
  | 1 => .object "SiegePlate$Reader"
  | 2 => .object "SiegePlate$Town"
  | 3 => .object "SiegePlate$Town"
  | 4 => .object "SiegePlate$Siege"
  | 5 => .object "SiegePlate$Log"
  | 6 => .array (.object "SiegePlate$Image")
  | 7 => .object "SiegePlate$Trials"
  | 8 => .object "SiegePlate$Shown"
  | 9 => .object "SiegePlate$Book"
  | 10 => .int
  | _ => .int
theorem nmX10 : ∀ a, a < 12 → ∀ b, b < 12 → a ≠ b → (TX10 a).2.1 ≠ (TX10 b).2.1 := by decide +kernel
theorem tyX10_ok : ∀ k, k < 12 → parseFieldDescriptor (TX10 k).2.2.1 = some (tyX10 k) := by decide +kernel
abbrev cX10_init : ByteArray := prog_1_method_1_code
def yX10_init : MethodName := ⟨RX10, "<init>", "()V"⟩
abbrev cX10_feed : ByteArray := prog_1_method_2_code
def yX10_feed : MethodName := ⟨RX10, "feed", "(I)I"⟩
abbrev cX10_town : ByteArray := prog_1_method_3_code
def yX10_town : MethodName := ⟨RX10, "town", "()I"⟩
abbrev cX10_beginSiege : ByteArray := prog_1_method_4_code
def yX10_beginSiege : MethodName := ⟨RX10, "beginSiege", "()V"⟩
abbrev cX10_fault : ByteArray := prog_1_method_5_code
def yX10_fault : MethodName := ⟨RX10, "fault", "()I"⟩
abbrev cX10_told : ByteArray := prog_1_method_6_code
def yX10_told : MethodName := ⟨RX10, "told", "(I)I"⟩
abbrev cX10_company : ByteArray := prog_1_method_7_code
def yX10_company : MethodName := ⟨RX10, "company", "(II)I"⟩
abbrev cX10_money : ByteArray := prog_1_method_8_code
def yX10_money : MethodName := ⟨RX10, "money", "(II)I"⟩
abbrev cX10_day : ByteArray := prog_1_method_9_code
def yX10_day : MethodName := ⟨RX10, "day", "(II)I"⟩
abbrev cX10_gun : ByteArray := prog_1_method_10_code
def yX10_gun : MethodName := ⟨RX10, "gun", "()I"⟩
abbrev cX10_sally : ByteArray := prog_1_method_11_code
def yX10_sally : MethodName := ⟨RX10, "sally", "(II)I"⟩
abbrev cX10_relief : ByteArray := prog_1_method_12_code
def yX10_relief : MethodName := ⟨RX10, "relief", "(Z)I"⟩
abbrev cX10_drift : ByteArray := prog_1_method_13_code
def yX10_drift : MethodName := ⟨RX10, "drift", "(II)I"⟩
abbrev cX10_passDayByDraws : ByteArray := prog_1_method_14_code
def yX10_passDayByDraws : MethodName := ⟨RX10, "passDayByDraws", "(I)V"⟩
abbrev cX10_nextDraw : ByteArray := prog_1_method_15_code
def yX10_nextDraw : MethodName := ⟨RX10, "nextDraw", "()I"⟩
abbrev cX10_undo : ByteArray := prog_1_method_16_code
def yX10_undo : MethodName := ⟨RX10, "undo", "()I"⟩
abbrev cX10_refusalOfDays : ByteArray := prog_1_method_17_code
def yX10_refusalOfDays : MethodName := ⟨RX10, "refusalOfDays", "(II)I"⟩
abbrev cX10_costs : ByteArray := prog_1_method_18_code
def yX10_costs : MethodName := ⟨RX10, "costs", "(I)I"⟩
abbrev cX10_promise : ByteArray := prog_1_method_19_code
def yX10_promise : MethodName := ⟨RX10, "promise", "(II)I"⟩
abbrev cX10_worthWithin : ByteArray := prog_1_method_20_code
def yX10_worthWithin : MethodName := ⟨RX10, "worthWithin", "(II)I"⟩
abbrev cX10_rations : ByteArray := prog_1_method_21_code
def yX10_rations : MethodName := ⟨RX10, "rations", "(II)I"⟩
abbrev cX10_firstToDesert : ByteArray := prog_1_method_22_code
def yX10_firstToDesert : MethodName := ⟨RX10, "firstToDesert", "(I)I"⟩
abbrev cX10_holds : ByteArray := prog_1_method_23_code
def yX10_holds : MethodName := ⟨RX10, "holds", "(I)I"⟩
abbrev cX10_owed : ByteArray := prog_1_method_24_code
def yX10_owed : MethodName := ⟨RX10, "owed", "(II)I"⟩
abbrev cX10_least : ByteArray := prog_1_method_25_code
def yX10_least : MethodName := ⟨RX10, "least", "(II)I"⟩
abbrev cX10_bought : ByteArray := prog_1_method_26_code
def yX10_bought : MethodName := ⟨RX10, "bought", "(II)I"⟩
abbrev cX10_leastHungerAt : ByteArray := prog_1_method_27_code
def yX10_leastHungerAt : MethodName := ⟨RX10, "leastHungerAt", "(II)I"⟩
abbrev cX10_priceAt : ByteArray := prog_1_method_28_code
def yX10_priceAt : MethodName := ⟨RX10, "priceAt", "(II)I"⟩
abbrev cX10_offer : ByteArray := prog_1_method_29_code
def yX10_offer : MethodName := ⟨RX10, "offer", "(II)I"⟩
abbrev cX10_show : ByteArray := prog_1_method_30_code
def yX10_show : MethodName := ⟨RX10, "show", "(IIII)I"⟩
abbrev cX10_forged : ByteArray := prog_1_method_31_code
def yX10_forged : MethodName := ⟨RX10, "forged", "()I"⟩
abbrev cX10_weighFirst : ByteArray := prog_1_method_32_code
def yX10_weighFirst : MethodName := ⟨RX10, "weighFirst", "()I"⟩
abbrev cX10_write : ByteArray := prog_1_method_33_code
def yX10_write : MethodName := ⟨RX10, "write", "(II)I"⟩
abbrev cX10_tear : ByteArray := prog_1_method_34_code
def yX10_tear : MethodName := ⟨RX10, "tear", "()I"⟩
abbrev cX10_judge : ByteArray := prog_1_method_35_code
def yX10_judge : MethodName := ⟨RX10, "judge", "()I"⟩
abbrev cX10_seed : ByteArray := prog_1_method_36_code
def yX10_seed : MethodName := ⟨RX10, "seed", "(I)I"⟩
abbrev cX10_keep : ByteArray := prog_1_method_37_code
def yX10_keep : MethodName := ⟨RX10, "keep", "(I)I"⟩
abbrev cX10_goBack : ByteArray := prog_1_method_38_code
def yX10_goBack : MethodName := ⟨RX10, "goBack", "(I)I"⟩
abbrev cX10_isCompany : ByteArray := prog_1_method_39_code
def yX10_isCompany : MethodName := ⟨RX10, "isCompany", "(I)Z"⟩
abbrev cX10_isMoney : ByteArray := prog_1_method_40_code
def yX10_isMoney : MethodName := ⟨RX10, "isMoney", "(I)Z"⟩
abbrev cX10_isGood : ByteArray := prog_1_method_41_code
def yX10_isGood : MethodName := ⟨RX10, "isGood", "(I)Z"⟩
abbrev cX10_isBesieged : ByteArray := prog_1_method_42_code
def yX10_isBesieged : MethodName := ⟨RX10, "isBesieged", "()Z"⟩
abbrev cX10_isRation : ByteArray := prog_1_method_43_code
def yX10_isRation : MethodName := ⟨RX10, "isRation", "(I)Z"⟩
abbrev cX10_isReading : ByteArray := prog_1_method_44_code
def yX10_isReading : MethodName := ⟨RX10, "isReading", "(I)Z"⟩
abbrev cX10_isWithin : ByteArray := prog_1_method_45_code
def yX10_isWithin : MethodName := ⟨RX10, "isWithin", "(III)Z"⟩
def RX11 : String := "SiegePlateModel"
def TX11 : u_T := fun k => match k with
  | 0 => ("SiegePlateModel", "w", "[I", true)
  | 1 => ("SiegePlateModel", "isKept", "[Z", true)
  | 2 => ("SiegePlateModel", "undoes", "I", false)
  | 3 => ("SiegePlateModel", "isTown", "Z", false)
  | 4 => ("SiegePlateModel", "companies", "I", false)
  | 5 => ("SiegePlateModel", "pay", "[I", true)
  | 6 => ("SiegePlateModel", "bears", "[I", true)
  | 7 => ("SiegePlateModel", "kinds", "I", false)
  | 8 => ("SiegePlateModel", "stamp", "[I", true)
  | 9 => ("SiegePlateModel", "weight", "[I", true)
  | 10 => ("SiegePlateModel", "goods", "I", false)
  | 11 => ("SiegePlateModel", "cost", "[I", true)
  | 12 => ("SiegePlateModel", "horses", "I", false)
  | 13 => ("SiegePlateModel", "onDay", "[I", true)
  | 14 => ("SiegePlateModel", "becomes", "[I", true)
  | 15 => ("SiegePlateModel", "text", "[I", true)
  | 16 => ("SiegePlateModel", "texted", "I", false)
  | 17 => ("SiegePlateModel", "at", "I", false)
  | 18 => ("SiegePlateModel", "start", "I", false)
  | 19 => ("SiegePlateModel", "number", "I", false)
  | 20 => ("SiegePlateModel", "faulty", "I", false)
  | 21 => ("SiegePlateModel", "faultAt", "I", false)
  | 22 => ("SiegePlateModel", "hasTown", "Z", false)
  | 23 => ("SiegePlateModel", "readTown", "[I", true)
  | 24 => ("SiegePlateModel", "readCompanies", "I", false)
  | 25 => ("SiegePlateModel", "readCompany", "[I", true)
  | 26 => ("SiegePlateModel", "readKinds", "I", false)
  | 27 => ("SiegePlateModel", "readKind", "[I", true)
  | 28 => ("SiegePlateModel", "readGoods", "I", false)
  | 29 => ("SiegePlateModel", "readGood", "[I", true)
  | 30 => ("SiegePlateModel", "readHorses", "I", false)
  | 31 => ("SiegePlateModel", "readHorse", "[I", true)
  | 32 => ("SiegePlateModel", "deserted", "I", false)
  | 33 => ("SiegePlateModel", "shown", "I", false)
  | 34 => ("SiegePlateModel", "shownKind", "[I", true)
  | 35 => ("SiegePlateModel", "shownDied", "[I", true)
  | 36 => ("SiegePlateModel", "shownDay", "[I", true)
  | 37 => ("SiegePlateModel", "shownWeight", "[I", true)
  | 38 => ("SiegePlateModel", "booked", "I", false)
  | 39 => ("SiegePlateModel", "bookOf", "[I", true)
  | _ => ("SiegePlateModel", "bookMen", "[I", true)
def tyX11 : Nat → FieldType := fun k => match k with
  | 0 => .array .int
  | 1 => .array .boolean
  | 2 => .int
  | 3 => .boolean
  | 4 => .int
  | 5 => .array .int
  | 6 => .array .int
  | 7 => .int
  | 8 => .array .int
  | 9 => .array .int
  | 10 => .int
  | 11 => .array .int
  | 12 => .int
  | 13 => .array .int
  | 14 => .array .int
  | 15 => .array .int
  | 16 => .int
  | 17 => .int
  | 18 => .int
  | 19 => .int
  | 20 => .int
  | 21 => .int
  | 22 => .boolean
  | 23 => .array .int
  | 24 => .int
  | 25 => .array .int
  | 26 => .int
  | 27 => .array .int
  | 28 => .int
  | 29 => .array .int
  | 30 => .int
  | 31 => .array .int
  | 32 => .int
  | 33 => .int
  | 34 => .array .int
  | 35 => .array .int
  | 36 => .array .int
  | 37 => .array .int
  | 38 => .int
  | 39 => .array .int
  | _ => .array .int
theorem nmX11 : ∀ a, a < 41 → ∀ b, b < 41 → a ≠ b → (TX11 a).2.1 ≠ (TX11 b).2.1 := by decide +kernel
theorem tyX11_ok : ∀ k, k < 41 → parseFieldDescriptor (TX11 k).2.2.1 = some (tyX11 k) := by decide +kernel
abbrev cX11_init : ByteArray := prog_13_method_1_code
def yX11_init : MethodName := ⟨RX11, "<init>", "()V"⟩
abbrev cX11_in : ByteArray := prog_13_method_3_code
def yX11_in : MethodName := ⟨RX11, "in", "(JJJ)Z"⟩
abbrev cX11_copy : ByteArray := prog_13_method_4_code
def yX11_copy : MethodName := ⟨RX11, "copy", "(II)V"⟩
abbrev cX11_isCompany : ByteArray := prog_13_method_5_code
def yX11_isCompany : MethodName := ⟨RX11, "isCompany", "(I)Z"⟩
abbrev cX11_isMoney : ByteArray := prog_13_method_6_code
def yX11_isMoney : MethodName := ⟨RX11, "isMoney", "(I)Z"⟩
abbrev cX11_isGood : ByteArray := prog_13_method_7_code
def yX11_isGood : MethodName := ⟨RX11, "isGood", "(I)Z"⟩
abbrev cX11_isRation : ByteArray := prog_13_method_8_code
def yX11_isRation : MethodName := ⟨RX11, "isRation", "(I)Z"⟩
abbrev cX11_feed : ByteArray := prog_13_method_9_code
def yX11_feed : MethodName := ⟨RX11, "feed", "(I)I"⟩
abbrev cX11_letterAt : ByteArray := prog_13_method_10_code
def yX11_letterAt : MethodName := ⟨RX11, "letterAt", "(I)I"⟩
abbrev cX11_here : ByteArray := prog_13_method_11_code
def yX11_here : MethodName := ⟨RX11, "here", "()I"⟩
abbrev cX11_fails : ByteArray := prog_13_method_12_code
def yX11_fails : MethodName := ⟨RX11, "fails", "(II)Z"⟩
abbrev cX11_takes : ByteArray := prog_13_method_13_code
def yX11_takes : MethodName := ⟨RX11, "takes", "(I)Z"⟩
abbrev cX11_takesNumber : ByteArray := prog_13_method_14_code
def yX11_takesNumber : MethodName := ⟨RX11, "takesNumber", "(II)Z"⟩
abbrev cX11_takesTown : ByteArray := prog_13_method_15_code
def yX11_takesTown : MethodName := ⟨RX11, "takesTown", "()Z"⟩
abbrev cX11_takesCompany : ByteArray := prog_13_method_16_code
def yX11_takesCompany : MethodName := ⟨RX11, "takesCompany", "()Z"⟩
abbrev cX11_takesKind : ByteArray := prog_13_method_17_code
def yX11_takesKind : MethodName := ⟨RX11, "takesKind", "()Z"⟩
abbrev cX11_takesGood : ByteArray := prog_13_method_18_code
def yX11_takesGood : MethodName := ⟨RX11, "takesGood", "()Z"⟩
abbrev cX11_takesHorse : ByteArray := prog_13_method_19_code
def yX11_takesHorse : MethodName := ⟨RX11, "takesHorse", "()Z"⟩
abbrev cX11_takesWords : ByteArray := prog_13_method_20_code
def yX11_takesWords : MethodName := ⟨RX11, "takesWords", "(I)Z"⟩
abbrev cX11_takesClause : ByteArray := prog_13_method_21_code
def yX11_takesClause : MethodName := ⟨RX11, "takesClause", "()Z"⟩
abbrev cX11_town : ByteArray := prog_13_method_22_code
def yX11_town : MethodName := ⟨RX11, "town", "()I"⟩
abbrev cX11_fault : ByteArray := prog_13_method_23_code
def yX11_fault : MethodName := ⟨RX11, "fault", "()I"⟩
abbrev cX11_menIn : ByteArray := prog_13_method_24_code
def yX11_menIn : MethodName := ⟨RX11, "menIn", "(I)I"⟩
abbrev cX11_told : ByteArray := prog_13_method_25_code
def yX11_told : MethodName := ⟨RX11, "told", "(I)I"⟩
abbrev cX11_company : ByteArray := prog_13_method_26_code
def yX11_company : MethodName := ⟨RX11, "company", "(II)I"⟩
abbrev cX11_money : ByteArray := prog_13_method_27_code
def yX11_money : MethodName := ⟨RX11, "money", "(II)I"⟩
abbrev cX11_eats : ByteArray := prog_13_method_28_code
def yX11_eats : MethodName := ⟨RX11, "eats", "(III)Z"⟩
abbrev cX11_isPaid : ByteArray := prog_13_method_29_code
def yX11_isPaid : MethodName := ⟨RX11, "isPaid", "(II)V"⟩
abbrev cX11_passes : ByteArray := prog_13_method_30_code
def yX11_passes : MethodName := ⟨RX11, "passes", "(II)V"⟩
abbrev cX11_minds : ByteArray := prog_13_method_31_code
def yX11_minds : MethodName := ⟨RX11, "minds", "()V"⟩
abbrev cX11_undo : ByteArray := prog_13_method_32_code
def yX11_undo : MethodName := ⟨RX11, "undo", "()I"⟩
abbrev cX11_isOver : ByteArray := prog_13_method_33_code
def yX11_isOver : MethodName := ⟨RX11, "isOver", "()Z"⟩
abbrev cX11_day : ByteArray := prog_13_method_34_code
def yX11_day : MethodName := ⟨RX11, "day", "(II)I"⟩
abbrev cX11_hears : ByteArray := prog_13_method_35_code
def yX11_hears : MethodName := ⟨RX11, "hears", "(I)V"⟩
abbrev cX11_gun : ByteArray := prog_13_method_36_code
def yX11_gun : MethodName := ⟨RX11, "gun", "()I"⟩
abbrev cX11_sally : ByteArray := prog_13_method_37_code
def yX11_sally : MethodName := ⟨RX11, "sally", "(II)I"⟩
abbrev cX11_relief : ByteArray := prog_13_method_38_code
def yX11_relief : MethodName := ⟨RX11, "relief", "(Z)I"⟩
abbrev cX11_draw : ByteArray := prog_13_method_39_code
def yX11_draw : MethodName := ⟨RX11, "draw", "(I)I"⟩
abbrev cX11_drift : ByteArray := prog_13_method_40_code
def yX11_drift : MethodName := ⟨RX11, "drift", "(II)I"⟩
abbrev cX11_costsBy : ByteArray := prog_13_method_41_code
def yX11_costsBy : MethodName := ⟨RX11, "costsBy", "(II)I"⟩
abbrev cX11_costs : ByteArray := prog_13_method_42_code
def yX11_costs : MethodName := ⟨RX11, "costs", "(I)I"⟩
abbrev cX11_worthOf : ByteArray := prog_13_method_43_code
def yX11_worthOf : MethodName := ⟨RX11, "worthOf", "(II)I"⟩
abbrev cX11_promise : ByteArray := prog_13_method_44_code
def yX11_promise : MethodName := ⟨RX11, "promise", "(II)I"⟩
abbrev cX11_rations : ByteArray := prog_13_method_45_code
def yX11_rations : MethodName := ⟨RX11, "rations", "(II)I"⟩
abbrev cX11_firstToDesert : ByteArray := prog_13_method_46_code
def yX11_firstToDesert : MethodName := ⟨RX11, "firstToDesert", "(I)I"⟩
abbrev cX11_holds : ByteArray := prog_13_method_47_code
def yX11_holds : MethodName := ⟨RX11, "holds", "(I)I"⟩
abbrev cX11_owedTo : ByteArray := prog_13_method_48_code
def yX11_owedTo : MethodName := ⟨RX11, "owedTo", "(II)I"⟩
abbrev cX11_owed : ByteArray := prog_13_method_49_code
def yX11_owed : MethodName := ⟨RX11, "owed", "(II)I"⟩
abbrev cX11_least : ByteArray := prog_13_method_50_code
def yX11_least : MethodName := ⟨RX11, "least", "(II)I"⟩
abbrev cX11_hungerFor : ByteArray := prog_13_method_51_code
def yX11_hungerFor : MethodName := ⟨RX11, "hungerFor", "(II)I"⟩
abbrev cX11_bought : ByteArray := prog_13_method_52_code
def yX11_bought : MethodName := ⟨RX11, "bought", "(II)I"⟩
abbrev cX11_offer : ByteArray := prog_13_method_53_code
def yX11_offer : MethodName := ⟨RX11, "offer", "(II)I"⟩
abbrev cX11_show : ByteArray := prog_13_method_54_code
def yX11_show : MethodName := ⟨RX11, "show", "(IIII)I"⟩
abbrev cX11_isBehind : ByteArray := prog_13_method_55_code
def yX11_isBehind : MethodName := ⟨RX11, "isBehind", "(I)Z"⟩
abbrev cX11_forged : ByteArray := prog_13_method_56_code
def yX11_forged : MethodName := ⟨RX11, "forged", "()I"⟩
abbrev cX11_weighFirst : ByteArray := prog_13_method_57_code
def yX11_weighFirst : MethodName := ⟨RX11, "weighFirst", "()I"⟩
abbrev cX11_write : ByteArray := prog_13_method_58_code
def yX11_write : MethodName := ⟨RX11, "write", "(II)I"⟩
abbrev cX11_tear : ByteArray := prog_13_method_59_code
def yX11_tear : MethodName := ⟨RX11, "tear", "()I"⟩
abbrev cX11_judge : ByteArray := prog_13_method_60_code
def yX11_judge : MethodName := ⟨RX11, "judge", "()I"⟩
abbrev cX11_seed : ByteArray := prog_13_method_61_code
def yX11_seed : MethodName := ⟨RX11, "seed", "(I)I"⟩
abbrev cX11_keep : ByteArray := prog_13_method_62_code
def yX11_keep : MethodName := ⟨RX11, "keep", "(I)I"⟩
abbrev cX11_goBack : ByteArray := prog_13_method_63_code
def yX11_goBack : MethodName := ⟨RX11, "goBack", "(I)I"⟩
def RJ9 : String := "java/lang/Math"
def TJ9 : u_T := fun k => match k with
  | _ => ("", "", "", false)
def tyJ9 : Nat → FieldType := fun k => match k with
  | _ => .int
theorem nmJ9 : ∀ a, a < 0 → ∀ b, b < 0 → a ≠ b → (TJ9 a).2.1 ≠ (TJ9 b).2.1 := by decide +kernel
theorem tyJ9_ok : ∀ k, k < 0 → parseFieldDescriptor (TJ9 k).2.2.1 = some (tyJ9 k) := by decide +kernel
abbrev cJ9_max_7cf53 : ByteArray := prog_14_method_65_code
def yJ9_max_7cf53 : MethodName := ⟨RJ9, "max", "(II)I"⟩
abbrev cJ9_min_7cf53 : ByteArray := prog_14_method_69_code
def yJ9_min_7cf53 : MethodName := ⟨RJ9, "min", "(II)I"⟩
def RL : String := "SiegePlateLaw"
abbrev cL_law : ByteArray := code
def yL_law : MethodName := ⟨RL, "law", "([I)Z"⟩
abbrev vwCl : List vw_C := [(RX0, TX0, 3), (RX1, TX1, 6), (RX2, TX2, 3), (RX3, TX3, 3), (RX4, TX4, 4), (RX5, TX5, 6), (RX6, TX6, 7), (RX7, TX7, 2), (RX8, TX8, 16), (RX9, TX9, 5), (RX10, TX10, 12), (RX11, TX11, 41)]
end
section
-- kinds of cells 0..11: objects of class k of vwCl; 12..59: rows (arrays), one kind for each field that holds one
abbrev AV : Type := Int32 ⊕ (Int64 ⊕ Option (Nat × Nat))
abbrev RF : Type := Nat → Nat → Nat → Option (Nat × Nat)
abbrev HF : Type := Nat → Nat → Nat → Int32
abbrev aI (x : Int32) : AV := Sum.inl x
abbrev aL (x : Int64) : AV := Sum.inr (Sum.inl x)
abbrev aR (k j : Nat) : AV := Sum.inr (Sum.inr (some (k, j)))
abbrev aN : AV := Sum.inr (Sum.inr none)
/-- the cells in the order in which the constructors make them -/
def ids : List (Nat × Nat) := [(10, 0), (7, 0), (26, 0), (4, 0), (17, 0), (8, 0), (27, 0), (28, 0), (29, 0), (30, 0), (31, 0), (32, 0), (33, 0), (34, 0), (35, 0), (8, 1), (27, 1), (28, 1), (29, 1), (30, 1), (31, 1), (32, 1), (33, 1), (34, 1), (35, 1), (6, 0), (1, 0), (14, 0), (15, 0), (23, 0), (24, 0), (25, 0), (3, 0), (16, 0), (6, 1), (1, 1), (14, 1), (15, 1), (23, 1), (24, 1), (25, 1), (6, 2), (1, 2), (14, 2), (15, 2), (23, 2), (24, 2), (25, 2), (6, 3), (1, 3), (14, 3), (15, 3), (23, 3), (24, 3), (25, 3), (6, 4), (1, 4), (14, 4), (15, 4), (23, 4), (24, 4), (25, 4), (6, 5), (1, 5), (14, 5), (15, 5), (23, 5), (24, 5), (25, 5), (6, 6), (1, 6), (14, 6), (15, 6), (23, 6), (24, 6), (25, 6), (6, 7), (1, 7), (14, 7), (15, 7), (23, 7), (24, 7), (25, 7), (6, 8), (1, 8), (14, 8), (15, 8), (23, 8), (24, 8), (25, 8), (6, 9), (1, 9), (14, 9), (15, 9), (23, 9), (24, 9), (25, 9), (6, 10), (1, 10), (14, 10), (15, 10), (23, 10), (24, 10), (25, 10), (6, 11), (1, 11), (14, 11), (15, 11), (23, 11), (24, 11), (25, 11), (6, 12), (1, 12), (14, 12), (15, 12), (23, 12), (24, 12), (25, 12), (6, 13), (1, 13), (14, 13), (15, 13), (23, 13), (24, 13), (25, 13), (6, 14), (1, 14), (14, 14), (15, 14), (23, 14), (24, 14), (25, 14), (6, 15), (1, 15), (14, 15), (15, 15), (23, 15), (24, 15), (25, 15), (6, 16), (1, 16), (14, 16), (15, 16), (23, 16), (24, 16), (25, 16), (6, 17), (1, 17), (14, 17), (15, 17), (23, 17), (24, 17), (25, 17), (6, 18), (1, 18), (14, 18), (15, 18), (23, 18), (24, 18), (25, 18), (6, 19), (1, 19), (14, 19), (15, 19), (23, 19), (24, 19), (25, 19), (6, 20), (1, 20), (14, 20), (15, 20), (23, 20), (24, 20), (25, 20), (38, 0), (9, 0), (36, 0), (37, 0), (1, 23), (14, 23), (15, 23), (1, 24), (14, 24), (15, 24), (1, 25), (14, 25), (15, 25), (1, 26), (14, 26), (15, 26), (1, 27), (14, 27), (15, 27), (1, 28), (14, 28), (15, 28), (5, 0), (18, 0), (19, 0), (20, 0), (21, 0), (22, 0), (0, 0), (12, 0), (13, 0), (2, 0), (6, 21), (1, 21), (14, 21), (15, 21), (23, 21), (24, 21), (25, 21), (2, 1), (6, 22), (1, 22), (14, 22), (15, 22), (23, 22), (24, 22), (25, 22), (11, 0), (39, 0), (40, 0), (41, 0), (42, 0), (43, 0), (44, 0), (45, 0), (46, 0), (47, 0), (48, 0), (49, 0), (50, 0), (51, 0), (52, 0), (53, 0), (54, 0), (55, 0), (56, 0), (57, 0), (58, 0), (59, 0)]
/-- fields of an object, places of a row -/
def nf : Nat → Nat := fun k => match k with
  | 0 => 3
  | 1 => 6
  | 2 => 3
  | 3 => 3
  | 4 => 4
  | 5 => 6
  | 6 => 7
  | 7 => 2
  | 8 => 16
  | 9 => 5
  | 10 => 12
  | 11 => 41
  | 12 => 15
  | 13 => 15
  | 14 => 5
  | 15 => 5
  | 16 => 20
  | 17 => 3
  | 18 => 8
  | 19 => 8
  | 20 => 8
  | 21 => 8
  | 22 => 4
  | 23 => 4
  | 24 => 5
  | 25 => 20
  | 26 => 240
  | 27 => 5
  | 28 => 5
  | 29 => 5
  | 30 => 4
  | 31 => 4
  | 32 => 4
  | 33 => 6
  | 34 => 4
  | 35 => 4
  | 36 => 6
  | 37 => 5
  | 38 => 2
  | 39 => 1080
  | 40 => 2
  | 41 => 5
  | 42 => 5
  | 43 => 4
  | 44 => 4
  | 45 => 6
  | 46 => 4
  | 47 => 4
  | 48 => 240
  | 49 => 2
  | 50 => 15
  | 51 => 12
  | 52 => 6
  | 53 => 8
  | 54 => 8
  | 55 => 8
  | 56 => 8
  | 57 => 8
  | 58 => 15
  | 59 => 15
  | _ => 0
/-- how many there are of a kind -/
def cnt : Nat → Nat := fun k => match k with
  | 0 => 1
  | 1 => 29
  | 2 => 2
  | 3 => 1
  | 4 => 1
  | 5 => 1
  | 6 => 23
  | 7 => 1
  | 8 => 2
  | 9 => 1
  | 10 => 1
  | 11 => 1
  | 12 => 1
  | 13 => 1
  | 14 => 29
  | 15 => 29
  | 16 => 1
  | 17 => 1
  | 18 => 1
  | 19 => 1
  | 20 => 1
  | 21 => 1
  | 22 => 1
  | 23 => 23
  | 24 => 23
  | 25 => 23
  | 26 => 1
  | 27 => 2
  | 28 => 2
  | 29 => 2
  | 30 => 2
  | 31 => 2
  | 32 => 2
  | 33 => 2
  | 34 => 2
  | 35 => 2
  | 36 => 1
  | 37 => 1
  | 38 => 1
  | 39 => 1
  | 40 => 1
  | 41 => 1
  | 42 => 1
  | 43 => 1
  | 44 => 1
  | 45 => 1
  | 46 => 1
  | 47 => 1
  | 48 => 1
  | 49 => 1
  | 50 => 1
  | 51 => 1
  | 52 => 1
  | 53 => 1
  | 54 => 1
  | 55 => 1
  | 56 => 1
  | 57 => 1
  | 58 => 1
  | 59 => 1
  | _ => 0
/-- 0 object, 1 ints, 2 booleans, 3 Sieges, 4 Camps, 5 Images -/
def shp : Nat → Nat := fun k => match k with
  | 0 => 0
  | 1 => 0
  | 2 => 0
  | 3 => 0
  | 4 => 0
  | 5 => 0
  | 6 => 0
  | 7 => 0
  | 8 => 0
  | 9 => 0
  | 10 => 0
  | 11 => 0
  | 16 => 3
  | 36 => 4
  | 38 => 5
  | 40 => 2
  | _ => 1
/-- the type of a field -/
def fty : Nat → (Nat → FieldType) := fun k => match k with
  | 0 => tyX0
  | 1 => tyX1
  | 2 => tyX2
  | 3 => tyX3
  | 4 => tyX4
  | 5 => tyX5
  | 6 => tyX6
  | 7 => tyX7
  | 8 => tyX8
  | 9 => tyX9
  | 10 => tyX10
  | 11 => tyX11
  | _ => fun _ => .int
/-- which fields are references -/
def isr : Nat → (Nat → Bool) := fun k => match k with
  | 0 => fun i => match i with | 0 => true | 1 => true | _ => false
  | 1 => fun i => match i with | 2 => true | 3 => true | _ => false
  | 2 => fun i => match i with | 0 => true | _ => false
  | 3 => fun i => match i with | 0 => true | _ => false
  | 4 => fun i => match i with | 0 => true | _ => false
  | 5 => fun i => match i with | 0 => true | 1 => true | 2 => true | 3 => true | 4 => true | _ => false
  | 6 => fun i => match i with | 0 => true | 4 => true | 5 => true | 6 => true | _ => false
  | 7 => fun i => match i with | 0 => true | _ => false
  | 8 => fun i => match i with | 7 => true | 8 => true | 9 => true | 10 => true | 11 => true | 12 => true | 13 => true | 14 => true | 15 => true | _ => false
  | 9 => fun i => match i with | 0 => true | 1 => true | _ => false
  | 10 => fun i => match i with | 0 => true | 1 => true | 2 => true | 3 => true | 4 => true | 5 => true | 6 => true | 7 => true | 8 => true | 9 => true | _ => false
  | 11 => fun i => match i with | 0 => true | 1 => true | 5 => true | 6 => true | 8 => true | 9 => true | 11 => true | 13 => true | 14 => true | 15 => true | 23 => true | 25 => true | 27 => true | 29 => true | 31 => true | 34 => true | 35 => true | 36 => true | 37 => true | 39 => true | 40 => true | _ => false
  | _ => fun _ => false
/-- which cell a reference leads to, once all is made: theTown is town a, draft town b -/
def Rs (a b : Nat) : RF := fun k j i => match k with
  | 0 => (match i with | 0 => some (12, 0) | 1 => some (13, 0) | _ => none)
  | 1 => (match i with | 2 => some (14, j) | 3 => some (15, j) | _ => none)
  | 2 => (match i with | 0 => some (6, 21 + j) | _ => none)
  | 3 => (match i with | 0 => some (16, 0) | _ => none)
  | 4 => (match i with | 0 => some (17, 0) | _ => none)
  | 5 => (match i with | 0 => some (18, 0) | 1 => some (19, 0) | 2 => some (20, 0) | 3 => some (21, 0) | 4 => some (22, 0) | _ => none)
  | 6 => (match i with | 0 => some (1, j) | 4 => some (23, j) | 5 => some (24, j) | 6 => some (25, j) | _ => none)
  | 7 => (match i with | 0 => some (26, 0) | _ => none)
  | 8 => (match i with | 7 => some (27, j) | 8 => some (28, j) | 9 => some (29, j) | 10 => some (30, j) | 11 => some (31, j) | 12 => some (32, j) | 13 => some (33, j) | 14 => some (34, j) | 15 => some (35, j) | _ => none)
  | 9 => (match i with | 0 => some (36, 0) | 1 => some (37, 0) | _ => none)
  | 10 => (match i with | 0 => some (7, 0) | 1 => some (4, 0) | 2 => some (8, a) | 3 => some (8, b) | 4 => some (6, 0) | 5 => some (3, 0) | 6 => some (38, 0) | 7 => some (9, 0) | 8 => some (5, 0) | 9 => some (0, 0) | _ => none)
  | 11 => (match i with | 0 => some (39, 0) | 1 => some (40, 0) | 5 => some (41, 0) | 6 => some (42, 0) | 8 => some (43, 0) | 9 => some (44, 0) | 11 => some (45, 0) | 13 => some (46, 0) | 14 => some (47, 0) | 15 => some (48, 0) | 23 => some (49, 0) | 25 => some (50, 0) | 27 => some (51, 0) | 29 => some (52, 0) | 31 => some (53, 0) | 34 => some (54, 0) | 35 => some (55, 0) | 36 => some (56, 0) | 37 => some (57, 0) | 39 => some (58, 0) | 40 => some (59, 0) | _ => none)
  | 16 => some (6, i + 1)
  | 36 => some (1, 23 + i)
  | 38 => some (2, i)
  | _ => none
/-- the launch, the first cell's address, slots and classes, the classes of rows, the addresses of the given rows (60 .. 63), the script -/
abbrev Ev : Type := Launch × Nat × va_G × (Nat → ClassId) × (Nat → Nat) × Nat × (Nat → Int32)
def ixq : List (Nat × Nat) → Nat × Nat → Nat
  | [], _ => 0
  | q :: r, p => if q = p then 0 else ixq r p + 1
def pos (k j : Nat) : Nat := ixq ids (k, j)
def idq (i : Nat) : Nat × Nat := ids.getD i (0, 0)
def lcq (E : Ev) (q : Nat × Nat) : Nat := if q.1 < 60 then E.2.1 + pos q.1 q.2 else E.2.2.2.2.1 q.1
def cv (E : Ev) : AV → Value
  | .inl x => .int x
  | .inr (.inl x) => .long x
  | .inr (.inr none) => .null
  | .inr (.inr (some q)) => .ref (lcq E q)
def ca (E : Ev) (t : Nat) : ClassId := E.2.2.2.1 t
/-- what a cell holds: of its row of references and its row of ints -/
def ent (E : Ev) (k : Nat) (Rr : Nat → Option (Nat × Nat)) (hr : Nat → Int32) : va_E := match shp k with
  | 0 => .inr (k, (List.range (nf k)).map (fun i => if isr k i = true then va_rf ((Rr i).map (lcq E)) else .int (hr i)))
  | 1 => .inl (ca E 0, nf k, .inl hr)
  | 2 => .inl (ca E 1, nf k, .inl hr)
  | t + 3 => .inl (ca E (t + 2), nf k, .inr (.inr (.inr (.inr (fun i => (Rr i).map (lcq E))))))
def wsl (E : Ev) (n : Nat) (R : RF) (h : HF) : va_W := (List.range n).map (fun i => (E.2.1 + i, ent E (idq i).1 (R (idq i).1 (idq i).2) (h (idq i).1 (idq i).2)))
def Rp (E : Ev) (n : Nat) (R : RF) (h : HF) (H : Heap) : Prop := va_P E.2.2.1 vwCl (wsl E n R h) H
def fA (E : Ev) : Nat → Prop := fun q => E.2.1 ≤ q
theorem pos_all : ∀ k, k < 60 → ∀ j, j < cnt k → pos k j < 243 ∧ idq (pos k j) = (k, j) := by decide +kernel
theorem pos_idq : ∀ i, i < 243 → pos (idq i).1 (idq i).2 = i ∧ (idq i).1 < 60 := by decide +kernel
theorem wsl_get {E : Ev} {n i : Nat} {R : RF} {h : HF} (hi : i < n) : (wsl E n R h)[i]? = some (E.2.1 + i, ent E (idq i).1 (R (idq i).1 (idq i).2) (h (idq i).1 (idq i).2)) := by
  simp [wsl, hi]
theorem wsl_lt {E : Ev} {n i : Nat} {R : RF} {h : HF} {q : Nat × va_E} (hq : (wsl E n R h)[i]? = some q) : i < n ∧ q.1 = E.2.1 + i := by
  have hi : i < n := by
    have h1 := (List.getElem?_eq_some_iff.mp hq).1
    simpa [wsl] using h1
  rw [wsl_get hi] at hq
  cases hq
  exact ⟨hi, rfl⟩
theorem wsl_D {E : Ev} {n : Nat} {R : RF} {h : HF} : va_D (fA E) (wsl E n R h) := by
  refine ⟨fun i j p q hp hq e => ?_, fun k q hq => ?_⟩
  · have a := (wsl_lt hp).2
    have b := (wsl_lt hq).2
    omega
  · show E.2.1 ≤ q.1
    rw [(wsl_lt hq).2]
    omega
/-- a cell that there is, at its place -/
theorem wsl_at {E : Ev} {n k j : Nat} {R : RF} {h : HF} (hk : k < 60) (hj : j < cnt k) (hn : pos k j < n) : (wsl E n R h)[pos k j]? = some (lcq E (k, j), ent E k (R k j) (h k j)) := by
  rw [wsl_get hn, (pos_all k hk j hj).2]
  simp [lcq, hk]
theorem wsl_set {E : Ev} {n k j : Nat} {R R' : RF} {h h' : HF} (hk : k < 60) (hj : j < cnt k) (hn : pos k j < n) (hN : n ≤ 243) (ho : ∀ k' j', ¬ (k' = k ∧ j' = j) → R' k' j' = R k' j' ∧ h' k' j' = h k' j') :
    (wsl E n R h).set (pos k j) (lcq E (k, j), ent E k (R' k j) (h' k j)) = wsl E n R' h' := by
  apply List.ext_getElem?
  intro i
  by_cases hi : i < n
  · by_cases e : i = pos k j
    · subst e
      rw [List.getElem?_set_self (by simpa [wsl] using hi), wsl_at hk hj hn]
    · rw [List.getElem?_set_ne (fun z => e z.symm), wsl_get hi, wsl_get hi]
      have hne : ¬ ((idq i).1 = k ∧ (idq i).2 = j) := fun z => e (by rw [← (pos_idq i (by omega)).1, z.1, z.2])
      rw [(ho _ _ hne).1, (ho _ _ hne).2]
  · rw [List.getElem?_eq_none (by simp [wsl]; omega), List.getElem?_eq_none (by simp [wsl]; omega)]
/-- how many slots the first n cells have -/
def sl : Nat → Nat
  | 0 => 0
  | n + 1 => sl n + nf (idq n).1
theorem sl_mono {a b : Nat} (h : a ≤ b) : sl a ≤ sl b := by
  induction h with
  | refl => exact Nat.le_refl _
  | step _ ih => exact Nat.le_trans ih (Nat.le_add_right _ _)
def put (h : HF) (k j i : Nat) (v : Int32) : HF := fun k' j' i' => if k' = k then (if i' = i then (if j' = j then v else h k' j' i') else h k' j' i') else h k' j' i'
def putR (R : RF) (k j i : Nat) (v : Option (Nat × Nat)) : RF := fun k' j' i' => if k' = k then (if i' = i then (if j' = j then v else R k' j' i') else R k' j' i') else R k' j' i'
theorem put_off {h : HF} {k j i k' j' : Nat} {v : Int32} (hn : ¬ (k' = k ∧ j' = j)) : put h k j i v k' j' = h k' j' := by
  funext i'
  simp only [put]
  by_cases a : k' = k
  · have b : ¬ j' = j := fun z => hn ⟨a, z⟩
    simp [a, b]
  · simp [a]
theorem put_on {h : HF} {k j i : Nat} {v : Int32} : put h k j i v k j = upd (h k j) i v := by
  funext i'
  simp only [put, upd]
  by_cases a : i' = i <;> simp [a]
theorem putR_off {R : RF} {k j i k' j' : Nat} {v : Option (Nat × Nat)} (hn : ¬ (k' = k ∧ j' = j)) : putR R k j i v k' j' = R k' j' := by
  funext i'
  simp only [putR]
  by_cases a : k' = k
  · have b : ¬ j' = j := fun z => hn ⟨a, z⟩
    simp [a, b]
  · simp [a]
theorem putR_on {R : RF} {k j i : Nat} {v : Option (Nat × Nat)} : putR R k j i v k j = va_up (R k j) i v := by
  funext i'
  simp only [putR, va_up]
  by_cases a : i' = i <;> simp [a]
/-- the words that hold however far the tables are warm -/
def tb : List Cond := lw_tbl.filter goodWord
theorem tb_good : ∀ w ∈ tb, (w.onTables && w.keeps) = true ∨ ∃ ty, w = .arrayClass ty := fun w h => good_of_word (List.mem_filter.mp h).2
/-- links of private constructors, and the rows of objects: they are carried beside -/
def nestW : List Cond := tables_1.filter (fun w => match w with | .methodLinkNest _ _ _ _ => true | _ => false)
def numV : List Int32 := [2, 3, 3, 1, 2]
def lowV : List Int32 := [0, 0, 0, 0, 0, 0, 0, 1, 0, 1, 0, 0, 0, 1, 0]
def higV : List Int32 := [999, 99, 0, 99, 9, 9, 999, 99, 99, 99, 0, 0, 99, 99, 0]
def tys (E : Ev) : List (ClassId × FieldType) := [(ca E 0, .int), (ca E 1, .boolean), (ca E 2, .object "SiegePlate$Siege"), (ca E 3, .object "SiegePlate$Camp"), (ca E 4, .object "SiegePlate$Image")]
/-- a given row of ints: a static's, which is a reference to it -/
def Gr (E : Ev) (nm : String) (k : Nat) (xs : List Int32) (U : State) (H : Heap) : Prop := va_Z "SiegePlate$Reader" nm "[I" (.ref (E.2.2.2.2.1 k)) (fA E) U H ∧ va_T .int (E.2.2.2.2.1 k) xs.length (fun j => .int (xs.getD j 0)) (fA E) U H
/-- what holds of the tables and of the given rows, wherever a method begins -/
def En (E : Ev) (U : State) (H : Heap) : Prop := va_K E.2.2.1 vwCl (tys E) U ∧ (∀ w ∈ nestW, va_Nw w U) ∧ (va_AO "SiegePlate$Siege" U ∧ va_AO "SiegePlate$Camp" U ∧ va_AO "SiegePlate$Image" U) ∧ Gr E "NUMBERS" 60 numV U H ∧ Gr E "LOWEST" 61 lowV U H ∧ Gr E "HIGHEST" 62 higV U H
theorem nest_is {w : Cond} (h : w ∈ nestW) : ∃ a i x b, w = .methodLinkNest a i x b := by
  have h2 := (List.mem_filter.mp h).2
  cases w <;> first | exact ⟨_, _, _, _, rfl⟩ | cases h2
theorem Gr.go {E : Ev} {nm : String} {k : Nat} {xs : List Int32} {u U : State} {H H1 : Heap} (hvm : u.vm.Alike U.vm) (hq : ∀ a : Nat, a < H.size → ¬ fA E a → H1[a]? = H[a]?) (h : Gr E nm k xs u H) : Gr E nm k xs U H1 := ⟨(h.1.kept hq).moved hvm, (h.2.kept hq).moved hvm⟩
theorem En.warm {E : Ev} {u U : State} {H H1 : Heap} (hW : u.WarmedH U.vm) (hq : ∀ a : Nat, a < H.size → ¬ fA E a → H1[a]? = H[a]?) (h : En E u H) : En E U H1 := by
  obtain ⟨h1, h2, ⟨h3, h4, h5⟩, h6, h7, h8⟩ := h
  have hA := hW.alike
  refine ⟨h1.moved hA, fun w hw => ?_, ⟨h3.moved hA, h4.moved hA, h5.moved hA⟩, h6.go hA hq, h7.go hA hq, h8.go hA hq⟩
  obtain ⟨a, i, x, b, rfl⟩ := nest_is hw
  exact va_Nw.warmM hW (h2 _ hw)
theorem En.same {E : Ev} {u U : State} {H : Heap} (hv : u.vm = U.vm) (h : En E u H) : En E U H := by
  obtain ⟨h1, h2, ⟨h3, h4, h5⟩, h6, h7, h8⟩ := h
  have hA : u.vm.Alike U.vm := by rw [hv]; exact Vm.Alike.refl _
  refine ⟨h1.moved hA, fun w hw => ?_, ⟨h3.moved hA, h4.moved hA, h5.moved hA⟩, h6.go hA (fun _ _ _ => rfl), h7.go hA (fun _ _ _ => rfl), h8.go hA (fun _ _ _ => rfl)⟩
  obtain ⟨a, i, x, b, rfl⟩ := nest_is hw
  exact va_Nw.same rfl hv (h2 _ hw)
end
section
/-- program, env, room, start, method, arguments, below, method's record, code, cells that stood at the start -/
abbrev Gv : Type := Program × Env × Room × State × MethodId × Array Value × List Frame × Method × Code × Nat
abbrev gp (G : Gv) : Program := G.1
abbrev ge (G : Gv) : Env := G.2.1
abbrev gR (G : Gv) : Room := G.2.2.1
abbrev gs (G : Gv) : State := G.2.2.2.1
abbrev gm (G : Gv) : MethodId := G.2.2.2.2.1
abbrev ga (G : Gv) : Array Value := G.2.2.2.2.2.1
abbrev gb (G : Gv) : List Frame := G.2.2.2.2.2.2.1
abbrev gme (G : Gv) : Method := G.2.2.2.2.2.2.2.1
abbrev gc (G : Gv) : Code := G.2.2.2.2.2.2.2.2.1
abbrev gn (G : Gv) : Nat := G.2.2.2.2.2.2.2.2.2
def lvl (E : Ev) : Nat → List (Option AV) → List (Nat × Value)
  | _, [] => []
  | i, none :: r => lvl E (i + 1) r
  | i, some v :: r => (i, cv E v) :: lvl E (i + 1) r
theorem lvl_mem {E : Ev} {q : Nat × Value} : ∀ {b : Nat} {L : List (Option AV)}, q ∈ lvl E b L ↔ ∃ i v, L[i]? = some (some v) ∧ q = (b + i, cv E v)
  | b, [] => by simp [lvl]
  | b, none :: r => by
    rw [lvl, lvl_mem (b := b + 1) (L := r)]
    constructor
    · rintro ⟨i, v, h1, h2⟩
      exact ⟨i + 1, v, by simpa using h1, by rw [h2]; congr 1; omega⟩
    · rintro ⟨i, v, h1, h2⟩
      cases i with
      | zero => simp at h1
      | succ i => exact ⟨i, v, by simpa using h1, by rw [h2]; congr 1; omega⟩
  | b, some w :: r => by
    rw [lvl, List.mem_cons, lvl_mem (b := b + 1) (L := r)]
    constructor
    · rintro (h | ⟨i, v, h1, h2⟩)
      · exact ⟨0, w, by simp, by rw [h]; rfl⟩
      · exact ⟨i + 1, v, by simpa using h1, by rw [h2]; congr 1; omega⟩
    · rintro ⟨i, v, h1, h2⟩
      cases i with
      | zero =>
        left
        have e : w = v := by simpa using h1
        rw [h2, e]; rfl
      | succ i => exact Or.inr ⟨i, v, by simpa using h1, by rw [h2]; congr 1; omega⟩
def lok (E : Ev) (c : Code) (ls : Array Slot) (L : List (Option AV)) : Prop := L.length ≤ c.maxLocals ∧ lv_has ls c.maxLocals (lvl E 0 L)
theorem lok_at {E : Ev} {c : Code} {ls : Array Slot} {L : List (Option AV)} {i : Nat} {v : AV} (h : lok E c ls L) (hv : L[i]? = some (some v)) : ls[i]? = some (.val (cv E v)) :=
  h.2.2.2 (i, cv E v) (lvl_mem.mpr ⟨i, v, hv, by rw [Nat.zero_add]⟩)
/-- L' is L with v at i, which kills no long ahead of it -/
def SL (L : List (Option AV)) (i : Nat) (v : AV) (L' : List (Option AV)) : Prop := L' = L.set i (some v) ∧ i < L.length ∧ ∀ w j, i = j + 1 → L[j]? = some (some w) → ∀ y, w ≠ aL y
/-- L' is L with the long v at i -/
def SL2 (L : List (Option AV)) (i : Nat) (v : AV) (L' : List (Option AV)) : Prop := L' = (L.set i (some v)).set (i + 1) none ∧ i + 1 < L.length ∧ ∀ w j, i = j + 1 → L[j]? = some (some w) → ∀ y, w ≠ aL y
def nlg : Option AV → Bool
  | some (.inr (.inl _)) => false
  | _ => true
theorem nlg_ne {w : AV} (h : nlg (some w) = true) (y : Int64) : w ≠ aL y := by
  intro e
  subst e
  cases h
theorem cv_cat {E : Ev} {v : AV} (h : ∀ y, v ≠ aL y) : (cv E v).category = 1 := by
  match v, h with
  | .inl x, _ => rfl
  | .inr (.inl x), h => exact absurd rfl (h x)
  | .inr (.inr none), _ => rfl
  | .inr (.inr (some q)), _ => rfl
theorem lok_set {E : Ev} {c : Code} {ls : Array Slot} {L L' : List (Option AV)} {i : Nat} {v : AV} (h : lok E c ls L) (hs : SL L i v L') (hv : ∀ y, v ≠ aL y) : ∃ ls', storeLocals ls i (cv E v) = some ls' ∧ lok E c ls' L' := by
  obtain ⟨e, hi, hn⟩ := hs
  obtain ⟨ls', a, b⟩ := lv_store1 (v := cv E v) h.2 (Nat.lt_of_lt_of_le hi h.1) (cv_cat hv)
  refine ⟨ls', a, by rw [e, List.length_set]; exact h.1, b.1, b.2.1, fun q hq => b.2.2 q ?_⟩
  obtain ⟨j, w, h1, h2⟩ := lvl_mem.mp hq
  rw [Nat.zero_add] at h2
  subst h2
  rw [e] at h1
  by_cases hj : j = i
  · subst hj
    rw [List.getElem?_set_self hi] at h1
    cases h1
    exact List.mem_cons_self
  · rw [List.getElem?_set_ne (fun z => hj z.symm)] at h1
    refine List.mem_cons_of_mem _ (List.mem_filter.mpr ⟨lvl_mem.mpr ⟨j, w, h1, by rw [Nat.zero_add]⟩, ?_⟩)
    simp only [Bool.and_eq_true, Bool.not_eq_true', beq_eq_false_iff_ne, ne_eq, Bool.and_eq_false_iff]
    refine ⟨hj, ?_⟩
    by_cases hz : j + 1 = i
    · right
      rw [cv_cat (hn w j hz.symm h1)]
      omega
    · left
      exact hz
theorem lok_set2 {E : Ev} {c : Code} {ls : Array Slot} {L L' : List (Option AV)} {i : Nat} {x : Int64} (h : lok E c ls L) (hs : SL2 L i (aL x) L') : ∃ ls', storeLocals ls i (.long x) = some ls' ∧ lok E c ls' L' := by
  obtain ⟨e, hi, hn⟩ := hs
  obtain ⟨ls', a, b⟩ := lv_store2 (v := .long x) h.2 (Nat.lt_of_lt_of_le hi h.1) rfl
  refine ⟨ls', a, by rw [e, List.length_set, List.length_set]; exact h.1, b.1, b.2.1, fun q hq => b.2.2 q ?_⟩
  obtain ⟨j, w, h1, h2⟩ := lvl_mem.mp hq
  rw [Nat.zero_add] at h2
  subst h2
  rw [e] at h1
  by_cases hj1 : j = i + 1
  · subst hj1
    rw [List.getElem?_set_self (by rw [List.length_set]; exact hi)] at h1
    cases h1
  · rw [List.getElem?_set_ne (fun z => hj1 z.symm)] at h1
    by_cases hj : j = i
    · subst hj
      rw [List.getElem?_set_self (by omega)] at h1
      cases h1
      exact List.mem_cons_self
    · rw [List.getElem?_set_ne (fun z => hj z.symm)] at h1
      refine List.mem_cons_of_mem _ (List.mem_filter.mpr ⟨lvl_mem.mpr ⟨j, w, h1, by rw [Nat.zero_add]⟩, ?_⟩)
      simp only [Bool.and_eq_true, Bool.not_eq_true', beq_eq_false_iff_ne, ne_eq, Bool.and_eq_false_iff]
      refine ⟨hj, hj1, ?_⟩
      by_cases hz : j + 1 = i
      · right
        rw [cv_cat (hn w j hz.symm h1)]
        omega
      · left
        exact hz
theorem st0 {a0 : Option AV} {r : List (Option AV)} {v : AV} : SL (a0 :: r) 0 v (some v :: r) := ⟨rfl, Nat.zero_lt_succ _, fun _ _ h => by cases h⟩
theorem st1 {a0 a1 : Option AV} {r : List (Option AV)} {v : AV} (hn : nlg a0 = true := by rfl) : SL (a0 :: a1 :: r) 1 v (a0 :: some v :: r) := ⟨rfl, by simp, fun w j h h1 => by
  have e : j = 0 := by omega
  subst e
  have e2 : a0 = some w := by simpa using h1
  subst e2
  exact nlg_ne hn⟩
theorem st2 {a0 a1 a2 : Option AV} {r : List (Option AV)} {v : AV} (hn : nlg a1 = true := by rfl) : SL (a0 :: a1 :: a2 :: r) 2 v (a0 :: a1 :: some v :: r) := ⟨rfl, by simp, fun w j h h1 => by
  have e : j = 1 := by omega
  subst e
  have e2 : a1 = some w := by simpa using h1
  subst e2
  exact nlg_ne hn⟩
theorem st3 {a0 a1 a2 a3 : Option AV} {r : List (Option AV)} {v : AV} (hn : nlg a2 = true := by rfl) : SL (a0 :: a1 :: a2 :: a3 :: r) 3 v (a0 :: a1 :: a2 :: some v :: r) := ⟨rfl, by simp, fun w j h h1 => by
  have e : j = 2 := by omega
  subst e
  have e2 : a2 = some w := by simpa using h1
  subst e2
  exact nlg_ne hn⟩
theorem st4 {a0 a1 a2 a3 a4 : Option AV} {r : List (Option AV)} {v : AV} (hn : nlg a3 = true := by rfl) : SL (a0 :: a1 :: a2 :: a3 :: a4 :: r) 4 v (a0 :: a1 :: a2 :: a3 :: some v :: r) := ⟨rfl, by simp, fun w j h h1 => by
  have e : j = 3 := by omega
  subst e
  have e2 : a3 = some w := by simpa using h1
  subst e2
  exact nlg_ne hn⟩
theorem st5 {a0 a1 a2 a3 a4 a5 : Option AV} {r : List (Option AV)} {v : AV} (hn : nlg a4 = true := by rfl) : SL (a0 :: a1 :: a2 :: a3 :: a4 :: a5 :: r) 5 v (a0 :: a1 :: a2 :: a3 :: a4 :: some v :: r) := ⟨rfl, by simp, fun w j h h1 => by
  have e : j = 4 := by omega
  subst e
  have e2 : a4 = some w := by simpa using h1
  subst e2
  exact nlg_ne hn⟩
theorem st6 {a0 a1 a2 a3 a4 a5 a6 : Option AV} {r : List (Option AV)} {v : AV} (hn : nlg a5 = true := by rfl) : SL (a0 :: a1 :: a2 :: a3 :: a4 :: a5 :: a6 :: r) 6 v (a0 :: a1 :: a2 :: a3 :: a4 :: a5 :: some v :: r) := ⟨rfl, by simp, fun w j h h1 => by
  have e : j = 5 := by omega
  subst e
  have e2 : a5 = some w := by simpa using h1
  subst e2
  exact nlg_ne hn⟩
theorem st7 {a0 a1 a2 a3 a4 a5 a6 a7 : Option AV} {r : List (Option AV)} {v : AV} (hn : nlg a6 = true := by rfl) : SL (a0 :: a1 :: a2 :: a3 :: a4 :: a5 :: a6 :: a7 :: r) 7 v (a0 :: a1 :: a2 :: a3 :: a4 :: a5 :: a6 :: some v :: r) := ⟨rfl, by simp, fun w j h h1 => by
  have e : j = 6 := by omega
  subst e
  have e2 : a6 = some w := by simpa using h1
  subst e2
  exact nlg_ne hn⟩
theorem st8 {a0 a1 a2 a3 a4 a5 a6 a7 a8 : Option AV} {r : List (Option AV)} {v : AV} (hn : nlg a7 = true := by rfl) : SL (a0 :: a1 :: a2 :: a3 :: a4 :: a5 :: a6 :: a7 :: a8 :: r) 8 v (a0 :: a1 :: a2 :: a3 :: a4 :: a5 :: a6 :: a7 :: some v :: r) := ⟨rfl, by simp, fun w j h h1 => by
  have e : j = 7 := by omega
  subst e
  have e2 : a7 = some w := by simpa using h1
  subst e2
  exact nlg_ne hn⟩
theorem st9 {a0 a1 a2 a3 a4 a5 a6 a7 a8 a9 : Option AV} {r : List (Option AV)} {v : AV} (hn : nlg a8 = true := by rfl) : SL (a0 :: a1 :: a2 :: a3 :: a4 :: a5 :: a6 :: a7 :: a8 :: a9 :: r) 9 v (a0 :: a1 :: a2 :: a3 :: a4 :: a5 :: a6 :: a7 :: a8 :: some v :: r) := ⟨rfl, by simp, fun w j h h1 => by
  have e : j = 8 := by omega
  subst e
  have e2 : a8 = some w := by simpa using h1
  subst e2
  exact nlg_ne hn⟩
theorem sl0 {a0 a1 : Option AV} {r : List (Option AV)} {v : AV} : SL2 (a0 :: a1 :: r) 0 v (some v :: none :: r) := ⟨rfl, by simp, fun _ _ h => by cases h⟩
theorem sl1 {a0 a1 a2 : Option AV} {r : List (Option AV)} {v : AV} (hn : nlg a0 = true := by rfl) : SL2 (a0 :: a1 :: a2 :: r) 1 v (a0 :: some v :: none :: r) := ⟨rfl, by simp, fun w j h h1 => by
  have e : j = 0 := by omega
  subst e
  have e2 : a0 = some w := by simpa using h1
  subst e2
  exact nlg_ne hn⟩
theorem sl2 {a0 a1 a2 a3 : Option AV} {r : List (Option AV)} {v : AV} (hn : nlg a1 = true := by rfl) : SL2 (a0 :: a1 :: a2 :: a3 :: r) 2 v (a0 :: a1 :: some v :: none :: r) := ⟨rfl, by simp, fun w j h h1 => by
  have e : j = 1 := by omega
  subst e
  have e2 : a1 = some w := by simpa using h1
  subst e2
  exact nlg_ne hn⟩
theorem sl3 {a0 a1 a2 a3 a4 : Option AV} {r : List (Option AV)} {v : AV} (hn : nlg a2 = true := by rfl) : SL2 (a0 :: a1 :: a2 :: a3 :: a4 :: r) 3 v (a0 :: a1 :: a2 :: some v :: none :: r) := ⟨rfl, by simp, fun w j h h1 => by
  have e : j = 2 := by omega
  subst e
  have e2 : a2 = some w := by simpa using h1
  subst e2
  exact nlg_ne hn⟩
theorem sl4 {a0 a1 a2 a3 a4 a5 : Option AV} {r : List (Option AV)} {v : AV} (hn : nlg a3 = true := by rfl) : SL2 (a0 :: a1 :: a2 :: a3 :: a4 :: a5 :: r) 4 v (a0 :: a1 :: a2 :: a3 :: some v :: none :: r) := ⟨rfl, by simp, fun w j h h1 => by
  have e : j = 3 := by omega
  subst e
  have e2 : a3 = some w := by simpa using h1
  subst e2
  exact nlg_ne hn⟩
theorem sl5 {a0 a1 a2 a3 a4 a5 a6 : Option AV} {r : List (Option AV)} {v : AV} (hn : nlg a4 = true := by rfl) : SL2 (a0 :: a1 :: a2 :: a3 :: a4 :: a5 :: a6 :: r) 5 v (a0 :: a1 :: a2 :: a3 :: a4 :: some v :: none :: r) := ⟨rfl, by simp, fun w j h h1 => by
  have e : j = 4 := by omega
  subst e
  have e2 : a4 = some w := by simpa using h1
  subst e2
  exact nlg_ne hn⟩
theorem sl6 {a0 a1 a2 a3 a4 a5 a6 a7 : Option AV} {r : List (Option AV)} {v : AV} (hn : nlg a5 = true := by rfl) : SL2 (a0 :: a1 :: a2 :: a3 :: a4 :: a5 :: a6 :: a7 :: r) 6 v (a0 :: a1 :: a2 :: a3 :: a4 :: a5 :: some v :: none :: r) := ⟨rfl, by simp, fun w j h h1 => by
  have e : j = 5 := by omega
  subst e
  have e2 : a5 = some w := by simpa using h1
  subst e2
  exact nlg_ne hn⟩
theorem sl7 {a0 a1 a2 a3 a4 a5 a6 a7 a8 : Option AV} {r : List (Option AV)} {v : AV} (hn : nlg a6 = true := by rfl) : SL2 (a0 :: a1 :: a2 :: a3 :: a4 :: a5 :: a6 :: a7 :: a8 :: r) 7 v (a0 :: a1 :: a2 :: a3 :: a4 :: a5 :: a6 :: some v :: none :: r) := ⟨rfl, by simp, fun w j h h1 => by
  have e : j = 6 := by omega
  subst e
  have e2 : a6 = some w := by simpa using h1
  subst e2
  exact nlg_ne hn⟩
theorem sl8 {a0 a1 a2 a3 a4 a5 a6 a7 a8 a9 : Option AV} {r : List (Option AV)} {v : AV} (hn : nlg a7 = true := by rfl) : SL2 (a0 :: a1 :: a2 :: a3 :: a4 :: a5 :: a6 :: a7 :: a8 :: a9 :: r) 8 v (a0 :: a1 :: a2 :: a3 :: a4 :: a5 :: a6 :: a7 :: some v :: none :: r) := ⟨rfl, by simp, fun w j h h1 => by
  have e : j = 7 := by omega
  subst e
  have e2 : a7 = some w := by simpa using h1
  subst e2
  exact nlg_ne hn⟩
/-- at pc, with these locals, this stack, n cells made, references R and ints h: the machine comes to Q -/
def Wa (E : Ev) (G : Gv) (n : Nat) (R : RF) (h : HF) (Q : State → Prop) (pc : Nat) (L : List (Option AV)) (st : List AV) : Prop :=
  ∀ (H : Heap) (locs : List Loc) (ls : Array Slot), Rp E n R h H → va_S (fA E) (gs G).heap H locs → lok E (gc G) ls L →
    W (gp G) E.1 (ge G) (gR G) (gs G) (gm G) (ga G) (gb G) (gme G) (gc G) H locs (n - gn G) (sl n - sl (gn G)) Q (F0 (gm G) pc ls (st.map (cv E)))
/-- what a method's walk may use -/
def Cx (E : Ev) (G : Gv) (d : Nat) (cc : ByteArray) (own : String) (nm : Nat) : Prop :=
  (gp G).tables.exec = Jvm.exec ∧ (gc G).code = cc ∧ (gs G).vm.findClass own = some (gm G).cls ∧ (∀ w ∈ tb, w.before (ga G) (gs G) = true) ∧ En E (gs G) (gs G).heap ∧ (gs G).heap.size = E.2.1 + gn G ∧
  (d ≤ (gR G).frames ∧ 30 * d ≤ (gR G).locals) ∧ (nm - gn G ≤ (gR G).cells ∧ sl nm - sl (gn G) ≤ (gR G).slots) ∧ (gn G ≤ nm ∧ nm ≤ 243) ∧ (gme G).locks = false
def Dc (cc : ByteArray) (pc : Nat) (i : Instr) (len pc' : Nat) : Prop := decode cc pc = .ok (i, len) ∧ pc + len = pc'
def Dj (cc : ByteArray) (pc : Nat) (i : Instr) (len pc' : Nat) (off : Int) (tgt : Nat) : Prop := decode cc pc = .ok (i, len) ∧ pc + len = pc' ∧ (pc : Int) + off = (tgt : Int)
section RW1
variable {E : Ev} {G : Gv} {n d nm pc pc' : Nat} {R : RF} {h : HF} {Q : State → Prop} {L L' : List (Option AV)} {st : List AV} {cc : ByteArray} {own : String}
theorem r_iload_n (C : Cx E G d cc own nm) {k : Fin 4} {x : Int32} (hd : Dc cc pc (.iload_n k) 1 pc') (hv : L[(k : Nat)]? = some (some (aI x))) (kk : Wa E G n R h Q pc' L (aI x :: st)) : Wa E G n R h Q pc L (st) := by
  obtain ⟨hd, rfl⟩ := hd
  intro H locs ls hP hS hl
  exact lv_iload_n C.1 C.2.1 hd rfl (lok_at hl hv) (kk H locs ls hP hS hl)
theorem r_iload (C : Cx E G d cc own nm) {i : Nat} {x : Int32} (hd : Dc cc pc (.iload i) 2 pc') (hv : L[i]? = some (some (aI x))) (kk : Wa E G n R h Q pc' L (aI x :: st)) : Wa E G n R h Q pc L (st) := by
  obtain ⟨hd, rfl⟩ := hd
  intro H locs ls hP hS hl
  exact lv_iload C.1 C.2.1 hd (lok_at hl hv) (kk H locs ls hP hS hl)
theorem r_lload_n (C : Cx E G d cc own nm) {k : Fin 4} {x : Int64} (hd : Dc cc pc (.lload_n k) 1 pc') (hv : L[(k : Nat)]? = some (some (aL x))) (kk : Wa E G n R h Q pc' L (aL x :: st)) : Wa E G n R h Q pc L (st) := by
  obtain ⟨hd, rfl⟩ := hd
  intro H locs ls hP hS hl
  exact lv_lload_n C.1 C.2.1 hd rfl (lok_at hl hv) (kk H locs ls hP hS hl)
theorem r_lload (C : Cx E G d cc own nm) {i : Nat} {x : Int64} (hd : Dc cc pc (.lload i) 2 pc') (hv : L[i]? = some (some (aL x))) (kk : Wa E G n R h Q pc' L (aL x :: st)) : Wa E G n R h Q pc L (st) := by
  obtain ⟨hd, rfl⟩ := hd
  intro H locs ls hP hS hl
  exact lv_lload C.1 C.2.1 hd (lok_at hl hv) (kk H locs ls hP hS hl)
theorem r_aload_n (C : Cx E G d cc own nm) {k : Fin 4} {a b : Nat} (hd : Dc cc pc (.aload_n k) 1 pc') (hv : L[(k : Nat)]? = some (some (aR a b))) (kk : Wa E G n R h Q pc' L (aR a b :: st)) : Wa E G n R h Q pc L (st) := by
  obtain ⟨hd, rfl⟩ := hd
  intro H locs ls hP hS hl
  exact lv_aload_n C.1 C.2.1 hd rfl (lok_at hl hv) (kk H locs ls hP hS hl)
theorem r_aload (C : Cx E G d cc own nm) {i a b : Nat} (hd : Dc cc pc (.aload i) 2 pc') (hv : L[i]? = some (some (aR a b))) (kk : Wa E G n R h Q pc' L (aR a b :: st)) : Wa E G n R h Q pc L (st) := by
  obtain ⟨hd, rfl⟩ := hd
  intro H locs ls hP hS hl
  exact lv_aload C.1 C.2.1 hd (lok_at hl hv) (kk H locs ls hP hS hl)
theorem r_iconst (C : Cx E G d cc own nm) {i : Int} {v : Int32} (hd : Dc cc pc (.iconst i) 1 pc') (hv : Int32.ofInt i = v) (kk : Wa E G n R h Q pc' L (aI v :: st)) : Wa E G n R h Q pc L (st) := by
  obtain ⟨hd, rfl⟩ := hd
  intro H locs ls hP hS hl
  exact lv_iconst C.1 C.2.1 hd hv (kk H locs ls hP hS hl)
theorem r_bipush (C : Cx E G d cc own nm) {i : Int} {v : Int32} (hd : Dc cc pc (.bipush i) 2 pc') (hv : (Int8.ofInt i).toInt32 = v) (kk : Wa E G n R h Q pc' L (aI v :: st)) : Wa E G n R h Q pc L (st) := by
  obtain ⟨hd, rfl⟩ := hd
  intro H locs ls hP hS hl
  exact lv_bipush C.1 C.2.1 hd hv (kk H locs ls hP hS hl)
theorem r_sipush (C : Cx E G d cc own nm) {i : Int} {v : Int32} (hd : Dc cc pc (.sipush i) 3 pc') (hv : (Int16.ofInt i).toInt32 = v) (kk : Wa E G n R h Q pc' L (aI v :: st)) : Wa E G n R h Q pc L (st) := by
  obtain ⟨hd, rfl⟩ := hd
  intro H locs ls hP hS hl
  exact lv_sipush C.1 C.2.1 hd hv (kk H locs ls hP hS hl)
theorem r_lconst (C : Cx E G d cc own nm) {i : Fin 2} {v : Int64} (hd : Dc cc pc (.lconst i) 1 pc') (hv : Int64.ofNat (i : Nat) = v) (kk : Wa E G n R h Q pc' L (aL v :: st)) : Wa E G n R h Q pc L (st) := by
  obtain ⟨hd, rfl⟩ := hd
  intro H locs ls hP hS hl
  exact lv_lconst C.1 C.2.1 hd hv (kk H locs ls hP hS hl)
theorem r_ldc (C : Cx E G d cc own nm) {i : Nat} {v : Int32} (hd : Dc cc pc (.ldc i) 2 pc') (hv : Cond.constant own i v ∈ tb) (kk : Wa E G n R h Q pc' L (aI v :: st)) : Wa E G n R h Q pc L (st) := by
  obtain ⟨hd, rfl⟩ := hd
  intro H locs ls hP hS hl
  exact lv_ldc C.1 C.2.1 C.2.2.1 (C.2.2.2.1 _ hv) hd (kk H locs ls hP hS hl)
theorem r_ldcw (C : Cx E G d cc own nm) {i : Nat} {v : Int32} (hd : Dc cc pc (.ldc_w i) 3 pc') (hv : Cond.constant own i v ∈ tb) (kk : Wa E G n R h Q pc' L (aI v :: st)) : Wa E G n R h Q pc L (st) := by
  obtain ⟨hd, rfl⟩ := hd
  intro H locs ls hP hS hl
  exact lv_ldcw C.1 C.2.1 C.2.2.1 (C.2.2.2.1 _ hv) hd (kk H locs ls hP hS hl)
theorem r_ldc2 (C : Cx E G d cc own nm) {i : Nat} {v : Int64} (hd : Dc cc pc (.ldc2_w i) 3 pc') (hv : Cond.constantLong own i v ∈ tb) (kk : Wa E G n R h Q pc' L (aL v :: st)) : Wa E G n R h Q pc L (st) := by
  obtain ⟨hd, rfl⟩ := hd
  intro H locs ls hP hS hl
  exact lv_ldc2 C.1 C.2.1 C.2.2.1 (C.2.2.2.1 _ hv) hd (kk H locs ls hP hS hl)
theorem r_iadd (C : Cx E G d cc own nm) {x y : Int32} (hd : Dc cc pc (.iadd) 1 pc')  (kk : Wa E G n R h Q pc' L (aI (x + y) :: st)) : Wa E G n R h Q pc L (aI y :: aI x :: st) := by
  obtain ⟨hd, rfl⟩ := hd
  intro H locs ls hP hS hl
  exact lv_iadd C.1 C.2.1 hd (kk H locs ls hP hS hl)
theorem r_isub (C : Cx E G d cc own nm) {x y : Int32} (hd : Dc cc pc (.isub) 1 pc')  (kk : Wa E G n R h Q pc' L (aI (x - y) :: st)) : Wa E G n R h Q pc L (aI y :: aI x :: st) := by
  obtain ⟨hd, rfl⟩ := hd
  intro H locs ls hP hS hl
  exact lv_isub C.1 C.2.1 hd (kk H locs ls hP hS hl)
theorem r_imul (C : Cx E G d cc own nm) {x y : Int32} (hd : Dc cc pc (.imul) 1 pc')  (kk : Wa E G n R h Q pc' L (aI (x * y) :: st)) : Wa E G n R h Q pc L (aI y :: aI x :: st) := by
  obtain ⟨hd, rfl⟩ := hd
  intro H locs ls hP hS hl
  exact lv_imul C.1 C.2.1 hd (kk H locs ls hP hS hl)
theorem r_iand (C : Cx E G d cc own nm) {x y : Int32} (hd : Dc cc pc (.iand) 1 pc')  (kk : Wa E G n R h Q pc' L (aI (x &&& y) :: st)) : Wa E G n R h Q pc L (aI y :: aI x :: st) := by
  obtain ⟨hd, rfl⟩ := hd
  intro H locs ls hP hS hl
  exact lv_iand C.1 C.2.1 hd (kk H locs ls hP hS hl)
theorem r_ior (C : Cx E G d cc own nm) {x y : Int32} (hd : Dc cc pc (.ior) 1 pc')  (kk : Wa E G n R h Q pc' L (aI (x ||| y) :: st)) : Wa E G n R h Q pc L (aI y :: aI x :: st) := by
  obtain ⟨hd, rfl⟩ := hd
  intro H locs ls hP hS hl
  exact lv_ior C.1 C.2.1 hd (kk H locs ls hP hS hl)
theorem r_ishl (C : Cx E G d cc own nm) {x y : Int32} (hd : Dc cc pc (.ishl) 1 pc')  (kk : Wa E G n R h Q pc' L (aI (x <<< (y &&& 31)) :: st)) : Wa E G n R h Q pc L (aI y :: aI x :: st) := by
  obtain ⟨hd, rfl⟩ := hd
  intro H locs ls hP hS hl
  exact lv_ishl C.1 C.2.1 hd (kk H locs ls hP hS hl)
theorem r_ishr (C : Cx E G d cc own nm) {x y : Int32} (hd : Dc cc pc (.ishr) 1 pc')  (kk : Wa E G n R h Q pc' L (aI (x >>> (y &&& 31)) :: st)) : Wa E G n R h Q pc L (aI y :: aI x :: st) := by
  obtain ⟨hd, rfl⟩ := hd
  intro H locs ls hP hS hl
  exact lv_ishr C.1 C.2.1 hd (kk H locs ls hP hS hl)
theorem r_idiv (C : Cx E G d cc own nm) {x y : Int32} (hd : Dc cc pc (.idiv) 1 pc') (hy : ¬ y = 0) (kk : Wa E G n R h Q pc' L (aI (x / y) :: st)) : Wa E G n R h Q pc L (aI y :: aI x :: st) := by
  obtain ⟨hd, rfl⟩ := hd
  intro H locs ls hP hS hl
  exact lv_idiv C.1 C.2.1 hd hy (kk H locs ls hP hS hl)
theorem r_irem (C : Cx E G d cc own nm) {x y : Int32} (hd : Dc cc pc (.irem) 1 pc') (hy : ¬ y = 0) (kk : Wa E G n R h Q pc' L (aI (x - x / y * y) :: st)) : Wa E G n R h Q pc L (aI y :: aI x :: st) := by
  obtain ⟨hd, rfl⟩ := hd
  intro H locs ls hP hS hl
  exact lv_irem C.1 C.2.1 hd hy (kk H locs ls hP hS hl)
theorem r_ladd (C : Cx E G d cc own nm) {x y : Int64} (hd : Dc cc pc (.ladd) 1 pc')  (kk : Wa E G n R h Q pc' L (aL (x + y) :: st)) : Wa E G n R h Q pc L (aL y :: aL x :: st) := by
  obtain ⟨hd, rfl⟩ := hd
  intro H locs ls hP hS hl
  exact lv_ladd C.1 C.2.1 hd (kk H locs ls hP hS hl)
theorem r_lsub (C : Cx E G d cc own nm) {x y : Int64} (hd : Dc cc pc (.lsub) 1 pc')  (kk : Wa E G n R h Q pc' L (aL (x - y) :: st)) : Wa E G n R h Q pc L (aL y :: aL x :: st) := by
  obtain ⟨hd, rfl⟩ := hd
  intro H locs ls hP hS hl
  exact lv_lsub C.1 C.2.1 hd (kk H locs ls hP hS hl)
theorem r_lmul (C : Cx E G d cc own nm) {x y : Int64} (hd : Dc cc pc (.lmul) 1 pc')  (kk : Wa E G n R h Q pc' L (aL (x * y) :: st)) : Wa E G n R h Q pc L (aL y :: aL x :: st) := by
  obtain ⟨hd, rfl⟩ := hd
  intro H locs ls hP hS hl
  exact lv_lmul C.1 C.2.1 hd (kk H locs ls hP hS hl)
theorem r_ldiv (C : Cx E G d cc own nm) {x y : Int64} (hd : Dc cc pc (.ldiv) 1 pc') (hy : ¬ y = 0) (kk : Wa E G n R h Q pc' L (aL (x / y) :: st)) : Wa E G n R h Q pc L (aL y :: aL x :: st) := by
  obtain ⟨hd, rfl⟩ := hd
  intro H locs ls hP hS hl
  exact lv_ldiv C.1 C.2.1 hd hy (kk H locs ls hP hS hl)
theorem r_lrem (C : Cx E G d cc own nm) {x y : Int64} (hd : Dc cc pc (.lrem) 1 pc') (hy : ¬ y = 0) (kk : Wa E G n R h Q pc' L (aL (x - x / y * y) :: st)) : Wa E G n R h Q pc L (aL y :: aL x :: st) := by
  obtain ⟨hd, rfl⟩ := hd
  intro H locs ls hP hS hl
  exact lv_lrem C.1 C.2.1 hd hy (kk H locs ls hP hS hl)
theorem r_i2l (C : Cx E G d cc own nm) {x : Int32} (hd : Dc cc pc (.i2l) 1 pc')  (kk : Wa E G n R h Q pc' L (aL x.toInt64 :: st)) : Wa E G n R h Q pc L (aI x :: st) := by
  obtain ⟨hd, rfl⟩ := hd
  intro H locs ls hP hS hl
  exact lv_i2l C.1 C.2.1 hd rfl (kk H locs ls hP hS hl)
theorem r_l2i (C : Cx E G d cc own nm) {x : Int64} (hd : Dc cc pc (.l2i) 1 pc')  (kk : Wa E G n R h Q pc' L (aI x.toInt32 :: st)) : Wa E G n R h Q pc L (aL x :: st) := by
  obtain ⟨hd, rfl⟩ := hd
  intro H locs ls hP hS hl
  exact lv_l2i C.1 C.2.1 hd rfl (kk H locs ls hP hS hl)
theorem r_lcmp (C : Cx E G d cc own nm) {x y : Int64} (hd : Dc cc pc (.lcmp) 1 pc')  (kk : Wa E G n R h Q pc' L (aI (lg_cmp x y) :: st)) : Wa E G n R h Q pc L (aL y :: aL x :: st) := by
  obtain ⟨hd, rfl⟩ := hd
  intro H locs ls hP hS hl
  exact W.lcmp C.1 C.2.1 hd (kk H locs ls hP hS hl)
theorem r_dup (C : Cx E G d cc own nm) {v : AV} (hd : Dc cc pc (.dup) 1 pc') (hv : nlg (some v) = true) (kk : Wa E G n R h Q pc' L (v :: v :: st)) : Wa E G n R h Q pc L (v :: st) := by
  obtain ⟨hd, rfl⟩ := hd
  intro H locs ls hP hS hl
  exact lv_dup C.1 C.2.1 hd (cv_cat (nlg_ne hv)) (kk H locs ls hP hS hl)
theorem r_dup2 (C : Cx E G d cc own nm) {v w : AV} (hd : Dc cc pc (.dup2) 1 pc') (hv : nlg (some v) = true) (hw : nlg (some w) = true) (kk : Wa E G n R h Q pc' L (v :: w :: v :: w :: st)) : Wa E G n R h Q pc L (v :: w :: st) := by
  obtain ⟨hd, rfl⟩ := hd
  intro H locs ls hP hS hl
  exact lv_dup2_11 C.1 C.2.1 hd (cv_cat (nlg_ne hv)) (cv_cat (nlg_ne hw)) (kk H locs ls hP hS hl)
theorem r_top {v w : AV} (e : v = w) (kk : Wa E G n R h Q pc L (w :: st)) : Wa E G n R h Q pc L (v :: st) := e ▸ kk
theorem r_iaddN (C : Cx E G d cc own nm) {a b : Nat} (hd : Dc cc pc .iadd 1 pc') (kk : Wa E G n R h Q pc' L (aI (nI (a + b)) :: st)) : Wa E G n R h Q pc L (aI (nI b) :: aI (nI a) :: st) := r_iadd C hd (by rw [nI_add]; exact kk)
theorem r_imulN (C : Cx E G d cc own nm) {a b : Nat} (hd : Dc cc pc .imul 1 pc') (kk : Wa E G n R h Q pc' L (aI (nI (a * b)) :: st)) : Wa E G n R h Q pc L (aI (nI b) :: aI (nI a) :: st) := r_imul C hd (by rw [pk_mul]; exact kk)
theorem r_isubN (C : Cx E G d cc own nm) {a b : Nat} (hd : Dc cc pc .isub 1 pc') (hb : b ≤ a) (kk : Wa E G n R h Q pc' L (aI (nI (a - b)) :: st)) : Wa E G n R h Q pc L (aI (nI b) :: aI (nI a) :: st) := r_isub C hd (by rw [pk_sub hb]; exact kk)
theorem r_istore_n (C : Cx E G d cc own nm) {k : Fin 4} {x : Int32} (hd : Dc cc pc (.istore_n k) 1 pc') (hs : SL L (k : Nat) (aI x) L') (kk : Wa E G n R h Q pc' L' st) : Wa E G n R h Q pc L (aI x :: st) := by
  obtain ⟨hd, rfl⟩ := hd
  intro H locs ls hP hS hl
  obtain ⟨ls', e, hl'⟩ := lok_set hl hs (fun y z => by cases z)
  intro T hT X
  obtain ⟨t, a1, b1⟩ := kk H locs ls' hP hS hl' T hT X
  refine ⟨t, ?_, b1⟩
  replace e : storeLocals ls (k : Nat) _ = some ls' := e
  simp only [cv] at e
  simp only [List.map_cons, cv]
  jvm_step X.here [X.here.top, ↓top_set X.here.top, C.1, C.2.1, hd, e, Value.isRef]
  exact a1
theorem r_istore (C : Cx E G d cc own nm) {i : Nat} {x : Int32} (hd : Dc cc pc (.istore i) 2 pc') (hs : SL L i (aI x) L') (kk : Wa E G n R h Q pc' L' st) : Wa E G n R h Q pc L (aI x :: st) := by
  obtain ⟨hd, rfl⟩ := hd
  intro H locs ls hP hS hl
  obtain ⟨ls', e, hl'⟩ := lok_set hl hs (fun y z => by cases z)
  intro T hT X
  obtain ⟨t, a1, b1⟩ := kk H locs ls' hP hS hl' T hT X
  refine ⟨t, ?_, b1⟩
  simp only [cv] at e
  simp only [List.map_cons, cv]
  jvm_step X.here [X.here.top, ↓top_set X.here.top, C.1, C.2.1, hd, e, Value.isRef]
  exact a1
theorem r_astore_n (C : Cx E G d cc own nm) {k : Fin 4} {a b : Nat} (hd : Dc cc pc (.astore_n k) 1 pc') (hs : SL L (k : Nat) (aR a b) L') (kk : Wa E G n R h Q pc' L' st) : Wa E G n R h Q pc L (aR a b :: st) := by
  obtain ⟨hd, rfl⟩ := hd
  intro H locs ls hP hS hl
  obtain ⟨ls', e, hl'⟩ := lok_set hl hs (fun y z => by cases z)
  intro T hT X
  obtain ⟨t, a1, b1⟩ := kk H locs ls' hP hS hl' T hT X
  refine ⟨t, ?_, b1⟩
  replace e : storeLocals ls (k : Nat) _ = some ls' := e
  simp only [cv] at e
  simp only [List.map_cons, cv]
  jvm_step X.here [X.here.top, ↓top_set X.here.top, C.1, C.2.1, hd, e, Value.isRef]
  exact a1
theorem r_astore (C : Cx E G d cc own nm) {i : Nat} {a b : Nat} (hd : Dc cc pc (.astore i) 2 pc') (hs : SL L i (aR a b) L') (kk : Wa E G n R h Q pc' L' st) : Wa E G n R h Q pc L (aR a b :: st) := by
  obtain ⟨hd, rfl⟩ := hd
  intro H locs ls hP hS hl
  obtain ⟨ls', e, hl'⟩ := lok_set hl hs (fun y z => by cases z)
  intro T hT X
  obtain ⟨t, a1, b1⟩ := kk H locs ls' hP hS hl' T hT X
  refine ⟨t, ?_, b1⟩
  simp only [cv] at e
  simp only [List.map_cons, cv]
  jvm_step X.here [X.here.top, ↓top_set X.here.top, C.1, C.2.1, hd, e, Value.isRef]
  exact a1
theorem r_lstore_n (C : Cx E G d cc own nm) {k : Fin 4} {x : Int64} (hd : Dc cc pc (.lstore_n k) 1 pc') (hs : SL2 L (k : Nat) (aL x) L') (kk : Wa E G n R h Q pc' L' st) : Wa E G n R h Q pc L (aL x :: st) := by
  obtain ⟨hd, rfl⟩ := hd
  intro H locs ls hP hS hl
  obtain ⟨ls', e, hl'⟩ := lok_set2 hl hs
  intro T hT X
  obtain ⟨t, a1, b1⟩ := kk H locs ls' hP hS hl' T hT X
  refine ⟨t, ?_, b1⟩
  simp only [List.map_cons, cv]
  jvm_step X.here [X.here.top, ↓top_set X.here.top, C.1, C.2.1, hd, e]
  exact a1
theorem r_iinc (C : Cx E G d cc own nm) {i : Nat} {m : Int} {x v : Int32} (hd : Dc cc pc (.iinc i m) 3 pc') (hx : L[i]? = some (some (aI x))) (hv : x + Int32.ofInt m = v) (hs : SL L i (aI v) L') (kk : Wa E G n R h Q pc' L' st) : Wa E G n R h Q pc L st := by
  obtain ⟨hd, rfl⟩ := hd
  subst hv
  intro H locs ls hP hS hl
  have hg := lok_at hl hx
  obtain ⟨ls', e, hl'⟩ := lok_set hl hs (fun y z => by cases z)
  intro T hT X
  obtain ⟨t, a1, b1⟩ := kk H locs ls' hP hS hl' T hT X
  refine ⟨t, ?_, b1⟩
  simp only [cv] at e hg
  jvm_step X.here [X.here.top, ↓top_set X.here.top, C.1, C.2.1, hd, hg, e]
  exact a1
theorem r_iincN (C : Cx E G d cc own nm) {i a : Nat} (hd : Dc cc pc (.iinc i 1) 3 pc') (hx : L[i]? = some (some (aI (nI a)))) (hs : SL L i (aI (nI (a + 1))) L') (kk : Wa E G n R h Q pc' L' st) : Wa E G n R h Q pc L st := r_iinc C hd hx (v := nI (a + 1)) (by rw [← nI_1]; rfl) hs kk
theorem r_if_eq (C : Cx E G d cc own nm) {x : Int32} {off : Int} {tgt : Nat} (hd : Dj cc pc (.ifCond .eq off) 3 pc' off tgt) (kt : x = 0 → Wa E G n R h Q tgt L st) (kf : ¬ x = 0 → Wa E G n R h Q pc' L st) : Wa E G n R h Q pc L (aI x :: st) := by
  obtain ⟨hd, rfl, ht⟩ := hd
  intro H locs ls hP hS hl
  exact lv_if_eq C.1 C.2.1 hd ht (fun c => kt c H locs ls hP hS hl) (fun c => kf c H locs ls hP hS hl)
theorem r_if_ne (C : Cx E G d cc own nm) {x : Int32} {off : Int} {tgt : Nat} (hd : Dj cc pc (.ifCond .ne off) 3 pc' off tgt) (kt : ¬ x = 0 → Wa E G n R h Q tgt L st) (kf : x = 0 → Wa E G n R h Q pc' L st) : Wa E G n R h Q pc L (aI x :: st) := by
  obtain ⟨hd, rfl, ht⟩ := hd
  intro H locs ls hP hS hl
  exact lv_if_ne C.1 C.2.1 hd ht (fun c => kt c H locs ls hP hS hl) (fun c => kf c H locs ls hP hS hl)
theorem r_if_lt (C : Cx E G d cc own nm) {x : Int32} {off : Int} {tgt : Nat} (hd : Dj cc pc (.ifCond .lt off) 3 pc' off tgt) (kt : x < 0 → Wa E G n R h Q tgt L st) (kf : ¬ x < 0 → Wa E G n R h Q pc' L st) : Wa E G n R h Q pc L (aI x :: st) := by
  obtain ⟨hd, rfl, ht⟩ := hd
  intro H locs ls hP hS hl
  exact lv_if_lt C.1 C.2.1 hd ht (fun c => kt c H locs ls hP hS hl) (fun c => kf c H locs ls hP hS hl)
theorem r_if_ge (C : Cx E G d cc own nm) {x : Int32} {off : Int} {tgt : Nat} (hd : Dj cc pc (.ifCond .ge off) 3 pc' off tgt) (kt : 0 ≤ x → Wa E G n R h Q tgt L st) (kf : ¬ 0 ≤ x → Wa E G n R h Q pc' L st) : Wa E G n R h Q pc L (aI x :: st) := by
  obtain ⟨hd, rfl, ht⟩ := hd
  intro H locs ls hP hS hl
  exact lv_if_ge C.1 C.2.1 hd ht (fun c => kt c H locs ls hP hS hl) (fun c => kf c H locs ls hP hS hl)
theorem r_if_gt (C : Cx E G d cc own nm) {x : Int32} {off : Int} {tgt : Nat} (hd : Dj cc pc (.ifCond .gt off) 3 pc' off tgt) (kt : 0 < x → Wa E G n R h Q tgt L st) (kf : ¬ 0 < x → Wa E G n R h Q pc' L st) : Wa E G n R h Q pc L (aI x :: st) := by
  obtain ⟨hd, rfl, ht⟩ := hd
  intro H locs ls hP hS hl
  exact lv_if_gt C.1 C.2.1 hd ht (fun c => kt c H locs ls hP hS hl) (fun c => kf c H locs ls hP hS hl)
theorem r_if_le (C : Cx E G d cc own nm) {x : Int32} {off : Int} {tgt : Nat} (hd : Dj cc pc (.ifCond .le off) 3 pc' off tgt) (kt : x ≤ 0 → Wa E G n R h Q tgt L st) (kf : ¬ x ≤ 0 → Wa E G n R h Q pc' L st) : Wa E G n R h Q pc L (aI x :: st) := by
  obtain ⟨hd, rfl, ht⟩ := hd
  intro H locs ls hP hS hl
  exact lv_if_le C.1 C.2.1 hd ht (fun c => kt c H locs ls hP hS hl) (fun c => kf c H locs ls hP hS hl)
theorem r_icmp_eq (C : Cx E G d cc own nm) {x y : Int32} {off : Int} {tgt : Nat} (hd : Dj cc pc (.if_icmp .eq off) 3 pc' off tgt) (kt : x = y → Wa E G n R h Q tgt L st) (kf : ¬ x = y → Wa E G n R h Q pc' L st) : Wa E G n R h Q pc L (aI y :: aI x :: st) := by
  obtain ⟨hd, rfl, ht⟩ := hd
  intro H locs ls hP hS hl
  exact lv_icmp_eq C.1 C.2.1 hd ht (fun c => kt c H locs ls hP hS hl) (fun c => kf c H locs ls hP hS hl)
theorem r_icmp_ne (C : Cx E G d cc own nm) {x y : Int32} {off : Int} {tgt : Nat} (hd : Dj cc pc (.if_icmp .ne off) 3 pc' off tgt) (kt : ¬ x = y → Wa E G n R h Q tgt L st) (kf : x = y → Wa E G n R h Q pc' L st) : Wa E G n R h Q pc L (aI y :: aI x :: st) := by
  obtain ⟨hd, rfl, ht⟩ := hd
  intro H locs ls hP hS hl
  exact lv_icmp_ne C.1 C.2.1 hd ht (fun c => kt c H locs ls hP hS hl) (fun c => kf c H locs ls hP hS hl)
theorem r_icmp_lt (C : Cx E G d cc own nm) {x y : Int32} {off : Int} {tgt : Nat} (hd : Dj cc pc (.if_icmp .lt off) 3 pc' off tgt) (kt : x < y → Wa E G n R h Q tgt L st) (kf : ¬ x < y → Wa E G n R h Q pc' L st) : Wa E G n R h Q pc L (aI y :: aI x :: st) := by
  obtain ⟨hd, rfl, ht⟩ := hd
  intro H locs ls hP hS hl
  exact lv_icmp_lt C.1 C.2.1 hd ht (fun c => kt c H locs ls hP hS hl) (fun c => kf c H locs ls hP hS hl)
theorem r_icmp_ge (C : Cx E G d cc own nm) {x y : Int32} {off : Int} {tgt : Nat} (hd : Dj cc pc (.if_icmp .ge off) 3 pc' off tgt) (kt : y ≤ x → Wa E G n R h Q tgt L st) (kf : ¬ y ≤ x → Wa E G n R h Q pc' L st) : Wa E G n R h Q pc L (aI y :: aI x :: st) := by
  obtain ⟨hd, rfl, ht⟩ := hd
  intro H locs ls hP hS hl
  exact lv_icmp_ge C.1 C.2.1 hd ht (fun c => kt c H locs ls hP hS hl) (fun c => kf c H locs ls hP hS hl)
theorem r_icmp_gt (C : Cx E G d cc own nm) {x y : Int32} {off : Int} {tgt : Nat} (hd : Dj cc pc (.if_icmp .gt off) 3 pc' off tgt) (kt : y < x → Wa E G n R h Q tgt L st) (kf : ¬ y < x → Wa E G n R h Q pc' L st) : Wa E G n R h Q pc L (aI y :: aI x :: st) := by
  obtain ⟨hd, rfl, ht⟩ := hd
  intro H locs ls hP hS hl
  exact lv_icmp_gt C.1 C.2.1 hd ht (fun c => kt c H locs ls hP hS hl) (fun c => kf c H locs ls hP hS hl)
theorem r_icmp_le (C : Cx E G d cc own nm) {x y : Int32} {off : Int} {tgt : Nat} (hd : Dj cc pc (.if_icmp .le off) 3 pc' off tgt) (kt : x ≤ y → Wa E G n R h Q tgt L st) (kf : ¬ x ≤ y → Wa E G n R h Q pc' L st) : Wa E G n R h Q pc L (aI y :: aI x :: st) := by
  obtain ⟨hd, rfl, ht⟩ := hd
  intro H locs ls hP hS hl
  exact lv_icmp_le C.1 C.2.1 hd ht (fun c => kt c H locs ls hP hS hl) (fun c => kf c H locs ls hP hS hl)
theorem r_icmpN_eq (C : Cx E G d cc own nm) {a b : Nat} {off : Int} {tgt : Nat} (hd : Dj cc pc (.if_icmp .eq off) 3 pc' off tgt) (ha : a < 2 ^ 31) (hb : b < 2 ^ 31) (kt : a = b → Wa E G n R h Q tgt L st) (kf : a ≠ b → Wa E G n R h Q pc' L st) : Wa E G n R h Q pc L (aI (nI b) :: aI (nI a) :: st) :=
  r_icmp_eq C hd (fun c => kt (by rw [nI_eq ha hb] at c; omega)) (fun c => kf (by rw [nI_eq ha hb] at c; omega))
theorem r_icmpN_ne (C : Cx E G d cc own nm) {a b : Nat} {off : Int} {tgt : Nat} (hd : Dj cc pc (.if_icmp .ne off) 3 pc' off tgt) (ha : a < 2 ^ 31) (hb : b < 2 ^ 31) (kt : a ≠ b → Wa E G n R h Q tgt L st) (kf : a = b → Wa E G n R h Q pc' L st) : Wa E G n R h Q pc L (aI (nI b) :: aI (nI a) :: st) :=
  r_icmp_ne C hd (fun c => kt (by rw [nI_eq ha hb] at c; omega)) (fun c => kf (by rw [nI_eq ha hb] at c; omega))
theorem r_icmpN_lt (C : Cx E G d cc own nm) {a b : Nat} {off : Int} {tgt : Nat} (hd : Dj cc pc (.if_icmp .lt off) 3 pc' off tgt) (ha : a < 2 ^ 31) (hb : b < 2 ^ 31) (kt : a < b → Wa E G n R h Q tgt L st) (kf : b ≤ a → Wa E G n R h Q pc' L st) : Wa E G n R h Q pc L (aI (nI b) :: aI (nI a) :: st) :=
  r_icmp_lt C hd (fun c => kt (by rw [nI_ltI ha hb] at c; omega)) (fun c => kf (by rw [nI_ltI ha hb] at c; omega))
theorem r_icmpN_ge (C : Cx E G d cc own nm) {a b : Nat} {off : Int} {tgt : Nat} (hd : Dj cc pc (.if_icmp .ge off) 3 pc' off tgt) (ha : a < 2 ^ 31) (hb : b < 2 ^ 31) (kt : b ≤ a → Wa E G n R h Q tgt L st) (kf : a < b → Wa E G n R h Q pc' L st) : Wa E G n R h Q pc L (aI (nI b) :: aI (nI a) :: st) :=
  r_icmp_ge C hd (fun c => kt (by rw [nI_leI hb ha] at c; omega)) (fun c => kf (by rw [nI_leI hb ha] at c; omega))
theorem r_icmpN_gt (C : Cx E G d cc own nm) {a b : Nat} {off : Int} {tgt : Nat} (hd : Dj cc pc (.if_icmp .gt off) 3 pc' off tgt) (ha : a < 2 ^ 31) (hb : b < 2 ^ 31) (kt : b < a → Wa E G n R h Q tgt L st) (kf : a ≤ b → Wa E G n R h Q pc' L st) : Wa E G n R h Q pc L (aI (nI b) :: aI (nI a) :: st) :=
  r_icmp_gt C hd (fun c => kt (by rw [nI_ltI hb ha] at c; omega)) (fun c => kf (by rw [nI_ltI hb ha] at c; omega))
theorem r_icmpN_le (C : Cx E G d cc own nm) {a b : Nat} {off : Int} {tgt : Nat} (hd : Dj cc pc (.if_icmp .le off) 3 pc' off tgt) (ha : a < 2 ^ 31) (hb : b < 2 ^ 31) (kt : a ≤ b → Wa E G n R h Q tgt L st) (kf : b < a → Wa E G n R h Q pc' L st) : Wa E G n R h Q pc L (aI (nI b) :: aI (nI a) :: st) :=
  r_icmp_le C hd (fun c => kt (by rw [nI_leI ha hb] at c; omega)) (fun c => kf (by rw [nI_leI ha hb] at c; omega))
theorem r_goto (C : Cx E G d cc own nm) {off : Int} {tgt : Nat} (hd : Dj cc pc (.goto off) 3 pc' off tgt) (kk : Wa E G n R h Q tgt L st) : Wa E G n R h Q pc L st := by
  obtain ⟨hd, rfl, ht⟩ := hd
  intro H locs ls hP hS hl
  exact lv_goto C.1 C.2.1 hd ht (kk H locs ls hP hS hl)
theorem r_tabOut (C : Cx E G d cc own nm) {x : Int32} {dflt lo hi : Int} {offs : Array Int} {len tgt : Nat} (hd : Dj cc pc (.tableswitch dflt lo hi offs) len pc' dflt tgt) (hx : x.toInt < lo ∨ hi < x.toInt) (kk : Wa E G n R h Q tgt L st) : Wa E G n R h Q pc L (aI x :: st) := by
  obtain ⟨hd, rfl, ht⟩ := hd
  intro H locs ls hP hS hl
  exact lv_tableOut C.1 C.2.1 hd hx ht (kk H locs ls hP hS hl)
theorem r_tabIn (C : Cx E G d cc own nm) {x : Int32} {dflt lo hi off : Int} {offs : Array Int} {len tgt : Nat} (hd : Dj cc pc (.tableswitch dflt lo hi offs) len pc' off tgt) (h1 : ¬ x.toInt < lo) (h2 : ¬ hi < x.toInt) (ho : offs[(x.toInt - lo).toNat]? = some off) (kk : Wa E G n R h Q tgt L st) : Wa E G n R h Q pc L (aI x :: st) := by
  obtain ⟨hd, rfl, ht⟩ := hd
  intro H locs ls hP hS hl
  exact lv_tableIn C.1 C.2.1 hd h1 h2 ho ht (kk H locs ls hP hS hl)
theorem r_look (C : Cx E G d cc own nm) {x : Int32} {dflt off : Int} {ps : Array (Int × Int)} {len tgt : Nat} (hd : Dj cc pc (.lookupswitch dflt ps) len pc' off tgt) (hp : (ps.toList.zip (ps.toList.drop 1)).all (fun (a, next) => a.1 < next.1) = true) (ho : Op.lookupswitch.offset ps.toList dflt x.toInt = off) (kk : Wa E G n R h Q tgt L st) : Wa E G n R h Q pc L (aI x :: st) := by
  obtain ⟨hd, rfl, ht⟩ := hd
  intro H locs ls hP hS hl
  exact lv_lookup C.1 C.2.1 hd hp ho ht (kk H locs ls hP hS hl)
end RW1
end
section
/-- the facts of a class: its fields as the tables lay them -/
def CF (k : Nat) (Cn : String) (T : u_T) (N : Nat) : Prop := vwCl[k]? = some (Cn, T, N) ∧ nf k = N ∧ (∀ w ∈ u_ws Cn T N, w ∈ tb) ∧ (∀ i, i < N → parseFieldDescriptor (T i).2.2.1 = some (fty k i)) ∧ (∀ a, a < N → ∀ b, b < N → a ≠ b → (T a).2.1 ≠ (T b).2.1) ∧ (∀ i, i < N → (T i).1 = Cn) ∧ shp k = 0 ∧ k < 12
/-- entry idx of class own is field i of class k -/
def FL (own : String) (idx k i : Nat) (fin : Bool) : Prop := ∃ Cn T N, CF k Cn T N ∧ i < N ∧ Cond.fieldLink own idx Cn (T i).2.1 (T i).2.2.1 ∈ tb ∧ (T i).2.2.2 = fin
/-- the cell is made: of n -/
def Ok (n k j : Nat) : Prop := k < 60 ∧ j < cnt k ∧ pos k j < n ∧ n ≤ 243
theorem Ok.full {k j : Nat} (hk : k < 60) (hj : j < cnt k) : Ok 243 k j := ⟨hk, hj, (pos_all k hk j hj).1, Nat.le_refl _⟩
theorem Ok.lit {n k j : Nat} (h : (decide (k < 60) && decide (j < cnt k) && decide (pos k j < n) && decide (n ≤ 243)) = true) : Ok n k j := by
  simp only [Bool.and_eq_true, decide_eq_true_eq] at h
  exact ⟨h.1.1.1, h.1.1.2, h.1.2, h.2⟩
theorem ent_obj {E : Ev} {k : Nat} {Rr : Nat → Option (Nat × Nat)} {hr : Nat → Int32} (h : shp k = 0) : ent E k Rr hr = .inr (k, (List.range (nf k)).map (fun i => if isr k i = true then va_rf ((Rr i).map (lcq E)) else .int (hr i))) := by
  simp [ent, h]
theorem ent_int {E : Ev} {k : Nat} {Rr : Nat → Option (Nat × Nat)} {hr : Nat → Int32} (h : shp k = 1) : ent E k Rr hr = .inl (ca E 0, nf k, .inl hr) := by
  simp [ent, h]
theorem ent_bool {E : Ev} {k : Nat} {Rr : Nat → Option (Nat × Nat)} {hr : Nat → Int32} (h : shp k = 2) : ent E k Rr hr = .inl (ca E 1, nf k, .inl hr) := by
  simp [ent, h]
theorem ent_ref {E : Ev} {k t : Nat} {Rr : Nat → Option (Nat × Nat)} {hr : Nat → Int32} (h : shp k = t + 3) : ent E k Rr hr = .inl (ca E (t + 2), nf k, .inr (.inr (.inr (.inr (fun i => (Rr i).map (lcq E)))))) := by
  simp [ent, h]
section RW2
variable {E : Ev} {G : Gv} {n d nm pc pc' : Nat} {R : RF} {h : HF} {Q : State → Prop} {L L' : List (Option AV)} {st : List AV} {cc : ByteArray} {own : String} {k j i idx : Nat}
theorem r_getI (C : Cx E G d cc own nm) {fin : Bool} (hf : FL own idx k i fin) (hd : Dc cc pc (.getfield idx) 3 pc') (ho : Ok n k j) (hr : isr k i = false) (kk : Wa E G n R h Q pc' L (aI (h k j i) :: st)) : Wa E G n R h Q pc L (aR k j :: st) := by
  obtain ⟨hd, rfl⟩ := hd
  obtain ⟨Cn, T, N, ⟨hc, hN, hin, -, -, hcl, hsh, -⟩, hi, hlink, -⟩ := hf
  intro H locs ls hP hS hl
  have he : (wsl E n R h)[pos k j]? = some (lcq E (k, j), .inr (k, (List.range (nf k)).map (fun i => if isr k i = true then va_rf ((R k j i).map (lcq E)) else .int (h k j i)))) := by rw [wsl_at ho.1 ho.2.1 ho.2.2.1, ent_obj hsh]
  exact va_get C.1 C.2.1 C.2.2.2.1 hin C.2.2.1 C.2.2.2.2.1.1 hP (pos k j) he hc i hi (C.2.2.2.1 _ hlink) (fun x hx => by rw [hcl i hi] at hx; exact hx) (v := .int (h k j i)) (by simp [hN, hi, hr]) hd (kk H locs ls hP hS hl)
theorem r_getR (C : Cx E G d cc own nm) {fin : Bool} (hf : FL own idx k i fin) (hd : Dc cc pc (.getfield idx) 3 pc') (ho : Ok n k j) (hr : isr k i = true) {a b : Nat} (hR : R k j i = some (a, b)) (kk : Wa E G n R h Q pc' L (aR a b :: st)) : Wa E G n R h Q pc L (aR k j :: st) := by
  obtain ⟨hd, rfl⟩ := hd
  obtain ⟨Cn, T, N, ⟨hc, hN, hin, -, -, hcl, hsh, -⟩, hi, hlink, -⟩ := hf
  intro H locs ls hP hS hl
  have he : (wsl E n R h)[pos k j]? = some (lcq E (k, j), .inr (k, (List.range (nf k)).map (fun i => if isr k i = true then va_rf ((R k j i).map (lcq E)) else .int (h k j i)))) := by rw [wsl_at ho.1 ho.2.1 ho.2.2.1, ent_obj hsh]
  exact va_get C.1 C.2.1 C.2.2.2.1 hin C.2.2.1 C.2.2.2.2.1.1 hP (pos k j) he hc i hi (C.2.2.2.1 _ hlink) (fun x hx => by rw [hcl i hi] at hx; exact hx) (v := .ref (lcq E (a, b))) (by simp [hN, hi, hr, hR, va_rf]) hd (kk H locs ls hP hS hl)
/-- writing one field: the list of cells behind it -/
theorem wsl_put {E : Ev} {n k j i : Nat} {R R' : RF} {h h' : HF} {v : Value} (ho : Ok n k j) (hsh : shp k = 0) (hi : i < nf k) (hoff : ∀ k' j', ¬ (k' = k ∧ j' = j) → R' k' j' = R k' j' ∧ h' k' j' = h k' j')
    (hrow : ∀ a, (if isr k a = true then va_rf ((R' k j a).map (lcq E)) else Value.int (h' k j a)) = if a = i then v else (if isr k a = true then va_rf ((R k j a).map (lcq E)) else Value.int (h k j a))) :
    (wsl E n R h).set (pos k j) (lcq E (k, j), .inr (k, ((List.range (nf k)).map (fun i => if isr k i = true then va_rf ((R k j i).map (lcq E)) else .int (h k j i))).set i v)) = wsl E n R' h' := by
  rw [← wsl_set ho.1 ho.2.1 ho.2.2.1 ho.2.2.2 hoff, ent_obj hsh]
  refine congrArg (fun z => List.set (wsl E n R h) (pos k j) (lcq E (k, j), (.inr (k, z) : va_E))) ?_
  apply List.ext_getElem?
  intro a
  by_cases ha : a < nf k
  · by_cases e : a = i
    · subst e
      rw [List.getElem?_set_self (by simpa using ha)]
      simp [ha, hrow]
    · rw [List.getElem?_set_ne (fun z => e z.symm)]
      simp [ha, hrow, e]
  · rw [List.getElem?_eq_none (by simp; omega), List.getElem?_eq_none (by simp; omega)]
theorem r_putI (C : Cx E G d cc own nm) (hf : FL own idx k i false) (hd : Dc cc pc (.putfield idx) 3 pc') (ho : Ok n k j) (hr : isr k i = false) {x : Int32} (hn : narrow (fty k i) (.int x) = .int x ∧ fits (fty k i) (.int x) = true) (kk : Wa E G n R (put h k j i x) Q pc' L st) : Wa E G n R h Q pc L (aI x :: aR k j :: st) := by
  obtain ⟨hd, rfl⟩ := hd
  obtain ⟨Cn, T, N, ⟨hc, hN, hin, hty, hnm, hcl, hsh, -⟩, hi, hlink, hfin⟩ := hf
  intro H locs ls hP hS hl
  have he : (wsl E n R h)[pos k j]? = some (lcq E (k, j), .inr (k, (List.range (nf k)).map (fun i => if isr k i = true then va_rf ((R k j i).map (lcq E)) else .int (h k j i)))) := by rw [wsl_at ho.1 ho.2.1 ho.2.2.1, ent_obj hsh]
  refine va_put C.1 C.2.1 C.2.2.2.1 hin (fty k) hty hnm C.2.2.1 C.2.2.2.2.1.1 hP wsl_D hS (pos k j) he hc i hi (C.2.2.2.1 _ hlink) (fun x hx => by rw [hcl i hi] at hx; exact hx) hfin (hty i hi) hn.1 hn.2 (by simp [hN, hi]) hd (fun H1 locs1 hP1 hD1 hS1 => ?_)
  rw [wsl_put (R' := R) (h' := put h k j i x) ho hsh (by rw [hN]; exact hi) (fun k' j' hne => ⟨rfl, put_off hne⟩) (fun a => by
    by_cases e : a = i
    · subst e
      simp [hr, put, cv]
    · simp [put, e])] at hP1
  exact kk H1 locs1 ls hP1 hS1 hl
theorem r_putR (C : Cx E G d cc own nm) (hf : FL own idx k i false) (hd : Dc cc pc (.putfield idx) 3 pc') (ho : Ok n k j) (hr : isr k i = true) {a b : Nat} (hn : ∀ q, narrow (fty k i) (.ref q) = .ref q ∧ fits (fty k i) (.ref q) = true) (kk : Wa E G n (putR R k j i (some (a, b))) h Q pc' L st) : Wa E G n R h Q pc L (aR a b :: aR k j :: st) := by
  obtain ⟨hd, rfl⟩ := hd
  obtain ⟨Cn, T, N, ⟨hc, hN, hin, hty, hnm, hcl, hsh, -⟩, hi, hlink, hfin⟩ := hf
  intro H locs ls hP hS hl
  have he : (wsl E n R h)[pos k j]? = some (lcq E (k, j), .inr (k, (List.range (nf k)).map (fun i => if isr k i = true then va_rf ((R k j i).map (lcq E)) else .int (h k j i)))) := by rw [wsl_at ho.1 ho.2.1 ho.2.2.1, ent_obj hsh]
  refine va_put C.1 C.2.1 C.2.2.2.1 hin (fty k) hty hnm C.2.2.1 C.2.2.2.2.1.1 hP wsl_D hS (pos k j) he hc i hi (C.2.2.2.1 _ hlink) (fun x hx => by rw [hcl i hi] at hx; exact hx) hfin (hty i hi) (hn (lcq E (a, b))).1 (hn (lcq E (a, b))).2 (by simp [hN, hi]) hd (fun H1 locs1 hP1 hD1 hS1 => ?_)
  rw [wsl_put (R' := putR R k j i (some (a, b))) (h' := h) ho hsh (by rw [hN]; exact hi) (fun k' j' hne => ⟨putR_off hne, rfl⟩) (fun a => by
    by_cases e : a = i
    · subst e
      simp [hr, putR, va_rf, cv]
    · simp [putR, e])] at hP1
  exact kk H1 locs1 ls hP1 hS1 hl
theorem r_putF (C : Cx E G d cc own nm) (hm : (gme G).name = "<init>") (hf : FL own idx k i true) (hw : vwCl[k]?.map (fun q => q.1) = some own) (hd : Dc cc pc (.putfield idx) 3 pc') (ho : Ok n k j) (hr : isr k i = true) {a b : Nat} (hn : ∀ q, narrow (fty k i) (.ref q) = .ref q ∧ fits (fty k i) (.ref q) = true) (kk : Wa E G n (putR R k j i (some (a, b))) h Q pc' L st) : Wa E G n R h Q pc L (aR a b :: aR k j :: st) := by
  obtain ⟨hd, rfl⟩ := hd
  obtain ⟨Cn, T, N, ⟨hc, hN, hin, hty, hnm, hcl, hsh, -⟩, hi, hlink, hfin⟩ := hf
  have hown : Cn = own := by rw [hc] at hw; exact Option.some.inj hw
  intro H locs ls hP hS hl
  have he : (wsl E n R h)[pos k j]? = some (lcq E (k, j), .inr (k, (List.range (nf k)).map (fun i => if isr k i = true then va_rf ((R k j i).map (lcq E)) else .int (h k j i)))) := by rw [wsl_at ho.1 ho.2.1 ho.2.2.1, ent_obj hsh]
  refine va_putF C.1 C.2.1 C.2.2.2.1 hin (fty k) hty hnm C.2.2.1 C.2.2.2.2.1.1 hP wsl_D hS (pos k j) he hc i hi (C.2.2.2.1 _ hlink) (fun x hx => by rw [hcl i hi] at hx; exact hx) hfin hm ((hcl i hi).trans hown) (hty i hi) (hn (lcq E (a, b))).1 (hn (lcq E (a, b))).2 (by simp [hN, hi]) hd (fun H1 locs1 hP1 hD1 hS1 => ?_)
  rw [wsl_put (R' := putR R k j i (some (a, b))) (h' := h) ho hsh (by rw [hN]; exact hi) (fun k' j' hne => ⟨putR_off hne, rfl⟩) (fun a => by
    by_cases e : a = i
    · subst e
      simp [hr, putR, va_rf, cv]
    · simp [putR, e])] at hP1
  exact kk H1 locs1 ls hP1 hS1 hl
theorem r_iald (C : Cx E G d cc own nm) {x : Nat} {v : Int32} (hd : Dc cc pc .iaload 1 pc') (ho : Ok n k j) (hs : shp k = 1) (hv : v = nI x) (hx : x < nf k) (hb : nf k < 2 ^ 31) (kk : Wa E G n R h Q pc' L (aI (h k j x) :: st)) : Wa E G n R h Q pc L (aI v :: aR k j :: st) := by
  obtain ⟨hd, rfl⟩ := hd
  subst hv
  intro H locs ls hP hS hl
  have he : (wsl E n R h)[pos k j]? = some (lcq E (k, j), .inl (ca E 0, nf k, .inl (h k j))) := by rw [wsl_at ho.1 ho.2.1 ho.2.2.1, ent_int hs]
  have e := nI_clamp (n := x) (by omega)
  refine va_iald C.1 C.2.1 C.2.2.2.2.1.1 hP (pos k j) 0 he rfl (vp_in_nI hx hb) hd ?_
  rw [e]
  exact kk H locs ls hP hS hl
theorem r_zald (C : Cx E G d cc own nm) {x : Nat} {v : Int32} (hd : Dc cc pc .baload 1 pc') (ho : Ok n k j) (hs : shp k = 2) (hv : v = nI x) (hx : x < nf k) (hb : nf k < 2 ^ 31) (kk : Wa E G n R h Q pc' L (aI (h k j x) :: st)) : Wa E G n R h Q pc L (aI v :: aR k j :: st) := by
  obtain ⟨hd, rfl⟩ := hd
  subst hv
  intro H locs ls hP hS hl
  have he : (wsl E n R h)[pos k j]? = some (lcq E (k, j), .inl (ca E 1, nf k, .inl (h k j))) := by rw [wsl_at ho.1 ho.2.1 ho.2.2.1, ent_bool hs]
  have e := nI_clamp (n := x) (by omega)
  refine va_zald C.1 C.2.1 C.2.2.2.2.1.1 hP (pos k j) 1 he rfl (vp_in_nI hx hb) hd ?_
  rw [e]
  exact kk H locs ls hP hS hl
theorem r_aald (C : Cx E G d cc own nm) {x t a b : Nat} {v : Int32} (hd : Dc cc pc .aaload 1 pc') (ho : Ok n k j) (hs : shp k = t + 3) (ht : t < 3) (hv : v = nI x) (hx : x < nf k) (hb : nf k < 2 ^ 31) (hR : R k j x = some (a, b)) (kk : Wa E G n R h Q pc' L (aR a b :: st)) : Wa E G n R h Q pc L (aI v :: aR k j :: st) := by
  obtain ⟨hd, rfl⟩ := hd
  subst hv
  intro H locs ls hP hS hl
  have he : (wsl E n R h)[pos k j]? = some (lcq E (k, j), .inl (ca E (t + 2), nf k, .inr (.inr (.inr (.inr (fun i => (R k j i).map (lcq E))))))) := by rw [wsl_at ho.1 ho.2.1 ho.2.2.1, ent_ref hs]
  have e := nI_clamp (n := x) (by omega)
  have hty : ∃ Cn, (tys E)[t + 2]? = some (ca E (t + 2), .object Cn) := by
    rcases (show t = 0 ∨ t = 1 ∨ t = 2 by omega) with rfl | rfl | rfl <;> exact ⟨_, rfl⟩
  obtain ⟨Cn, hty⟩ := hty
  refine va_aldq C.1 C.2.1 C.2.2.2.2.1.1 hP (pos k j) (t + 2) he hty (vp_in_nI hx hb) hd ?_
  rw [e, hR]
  exact kk H locs ls hP hS hl
theorem wsl_row {E : Ev} {n k j : Nat} {R : RF} {h h' : HF} {e : va_E} (ho : Ok n k j) (hoff : ∀ k' j', ¬ (k' = k ∧ j' = j) → h' k' j' = h k' j') (he : ent E k (R k j) (h' k j) = e) : (wsl E n R h).set (pos k j) (lcq E (k, j), e) = wsl E n R h' := by
  rw [← wsl_set (R := R) (R' := R) ho.1 ho.2.1 ho.2.2.1 ho.2.2.2 (fun k' j' hne => ⟨rfl, hoff k' j' hne⟩), he]
theorem r_iast (C : Cx E G d cc own nm) {x : Nat} {v y : Int32} (hd : Dc cc pc .iastore 1 pc') (ho : Ok n k j) (hs : shp k = 1) (hv : v = nI x) (hx : x < nf k) (hb : nf k < 2 ^ 31) (kk : Wa E G n R (put h k j x y) Q pc' L st) : Wa E G n R h Q pc L (aI y :: aI v :: aR k j :: st) := by
  obtain ⟨hd, rfl⟩ := hd
  subst hv
  intro H locs ls hP hS hl
  have he : (wsl E n R h)[pos k j]? = some (lcq E (k, j), .inl (ca E 0, nf k, .inl (h k j))) := by rw [wsl_at ho.1 ho.2.1 ho.2.2.1, ent_int hs]
  have e := nI_clamp (n := x) (by omega)
  refine va_iast C.1 C.2.1 C.2.2.2.2.1.1 hP wsl_D hS (pos k j) 0 he rfl (vp_in_nI hx hb) hd (fun H1 locs1 hP1 hD1 hS1 => ?_)
  rw [e, wsl_row (h' := put h k j x y) ho (fun k' j' hne => put_off hne) (by rw [ent_int hs, put_on])] at hP1
  exact kk H1 locs1 ls hP1 hS1 hl
theorem r_zast (C : Cx E G d cc own nm) {x : Nat} {v y : Int32} (hd : Dc cc pc .bastore 1 pc') (ho : Ok n k j) (hs : shp k = 2) (hv : v = nI x) (hx : x < nf k) (hb : nf k < 2 ^ 31) (hy : vp_nar .boolean y = y) (kk : Wa E G n R (put h k j x y) Q pc' L st) : Wa E G n R h Q pc L (aI y :: aI v :: aR k j :: st) := by
  obtain ⟨hd, rfl⟩ := hd
  subst hv
  intro H locs ls hP hS hl
  have he : (wsl E n R h)[pos k j]? = some (lcq E (k, j), .inl (ca E 1, nf k, .inl (h k j))) := by rw [wsl_at ho.1 ho.2.1 ho.2.2.1, ent_bool hs]
  have e := nI_clamp (n := x) (by omega)
  refine va_zast C.1 C.2.1 C.2.2.2.2.1.1 hP wsl_D hS (pos k j) 1 he rfl (vp_in_nI hx hb) hd (fun H1 locs1 hP1 hD1 hS1 => ?_)
  rw [e, hy, wsl_row (h' := put h k j x y) ho (fun k' j' hne => put_off hne) (by rw [ent_bool hs, put_on])] at hP1
  exact kk H1 locs1 ls hP1 hS1 hl
theorem r_aast (C : Cx E G d cc own nm) {x t a b : Nat} {v : Int32} {q : vw_C} (hd : Dc cc pc .aastore 1 pc') (ho : Ok n k j) (hs : shp k = t + 3) (hv : v = nI x) (hx : x < nf k) (hb : nf k < 2 ^ 31) (hq : vwCl[a]? = some q) (ht : (tys E)[t + 2]? = some (ca E (t + 2), .object q.1)) (ho2 : Ok n a b) (hs2 : shp a = 0) (kk : Wa E G n (putR R k j x (some (a, b))) h Q pc' L st) : Wa E G n R h Q pc L (aR a b :: aI v :: aR k j :: st) := by
  obtain ⟨hd, rfl⟩ := hd
  subst hv
  intro H locs ls hP hS hl
  have he : (wsl E n R h)[pos k j]? = some (lcq E (k, j), .inl (ca E (t + 2), nf k, .inr (.inr (.inr (.inr (fun i => (R k j i).map (lcq E))))))) := by rw [wsl_at ho.1 ho.2.1 ho.2.2.1, ent_ref hs]
  have he2 : (wsl E n R h)[pos a b]? = some (lcq E (a, b), .inr (a, (List.range (nf a)).map (fun i => if isr a i = true then va_rf ((R a b i).map (lcq E)) else .int (h a b i)))) := by rw [wsl_at ho2.1 ho2.2.1 ho2.2.2.1, ent_obj hs2]
  have e := nI_clamp (n := x) (by omega)
  refine va_astq C.1 C.2.1 C.2.2.2.2.1.1 hP wsl_D hS (pos k j) (t + 2) (pos a b) a he ht he2 hq (vp_in_nI hx hb) hd (fun H1 locs1 hP1 hD1 hS1 => ?_)
  rw [e] at hP1
  have hset := wsl_set (E := E) (R := R) (R' := putR R k j x (some (a, b))) (h := h) (h' := h) ho.1 ho.2.1 ho.2.2.1 ho.2.2.2 (fun k' j' hne => ⟨putR_off hne, rfl⟩)
  rw [ent_ref hs, putR_on] at hset
  have hfun : (fun i => (va_up (R k j) x (some (a, b)) i).map (lcq E)) = va_up (fun i => (R k j i).map (lcq E)) x (some (lcq E (a, b))) := by
    funext i
    by_cases z : i = x <;> simp [va_up, z]
  rw [hfun] at hset
  rw [hset] at hP1
  exact kk H1 locs1 ls hP1 hS1 hl
end RW2
end
section
def CL (own : String) (idx k : Nat) : Prop := ∃ Cn T N, CF k Cn T N ∧ Cond.classLink own idx Cn ∈ tb ∧ Cond.instantiable Cn N ∈ tb ∧ Cond.initialized Cn ∈ tb ∧ ∀ i, i < N → defaultValue (fty k i) = if isr k i = true then .null else .int 0
theorem rp_size {E : Ev} {G : Gv} {n d nm : Nat} {R : RF} {h : HF} {cc : ByteArray} {own : String} {T : State} {H : Heap} {locs : List Loc} (C : Cx E G d cc own nm) (hP : Rp E n R h H) (hS : va_S (fA E) (gs G).heap H locs) (hT : T.heap = H) (hn : gn G ≤ n)
    (X : Stand (gp G) E.1 (ge G) (gR G) (gs G) (gm G) (ga G) (gb G) (gme G) (gc G) T locs (n - gn G) (sl n - sl (gn G))) : H.size = E.2.1 + n := by
  have h1 := X.heapSize
  have h2 := C.2.2.2.2.2.1
  rw [hT] at h1
  by_cases h0 : n = 0
  · subst h0
    have := hS.1
    omega
  · have h3 := (hP (n - 1) _ (wsl_get (by omega))).lt
    have h4 : E.2.1 + (n - 1) < H.size := h3
    omega
theorem wsl_succ {E : Ev} {n : Nat} {R : RF} {h : HF} : wsl E (n + 1) R h = wsl E n R h ++ [(E.2.1 + n, ent E (idq n).1 (R (idq n).1 (idq n).2) (h (idq n).1 (idq n).2))] := by
  simp [wsl, List.range_succ]
theorem rp_push {E : Ev} {n : Nat} {R : RF} {h : HF} {H H1 : Heap} (hP : Rp E n R h H) (hz : H.size = E.2.1 + n) (ho : ∀ q, q < E.2.1 + n → H1[q]? = H[q]?) (hn : va_at E.2.2.1 vwCl (E.2.1 + n, ent E (idq n).1 (R (idq n).1 (idq n).2) (h (idq n).1 (idq n).2)) H1) : Rp E (n + 1) R h H1 := by
  unfold Rp
  rw [wsl_succ]
  refine va_P.app (va_P.kept hP (fun k q hk => ho q.1 ?_)) (fun k q hk => ?_)
  · rw [(wsl_lt hk).2]
    have := (wsl_lt hk).1
    omega
  · have hz : k < 1 := (List.getElem?_eq_some_iff.mp hk).1
    rw [show k = 0 by omega] at hk
    cases hk
    exact hn
section RW3
variable {E : Ev} {G : Gv} {n d nm pc pc' : Nat} {R : RF} {h : HF} {Q : State → Prop} {L L' : List (Option AV)} {st : List AV} {cc : ByteArray} {own : String} {k j i idx : Nat}
theorem r_new (C : Cx E G d cc own nm) (hf : CL own idx k) (hd : Dc cc pc (.new idx) 3 pc') (hq : idq n = (k, j)) (hnm : gn G ≤ n ∧ n < nm) (hR : ∀ i, R k j i = none) (hh : ∀ i, h k j i = 0) (kk : Wa E G (n + 1) R h Q pc' L (aR k j :: st)) : Wa E G n R h Q pc L st := by
  obtain ⟨hd, rfl⟩ := hd
  obtain ⟨Cn, T0, N, ⟨hc, hN, hin, hty, hnms, hcl, hsh, hk12⟩, hlink, hinst, hini, hdef⟩ := hf
  intro H locs ls hP hS hl T hT X
  have hsz := rp_size C hP hS hT hnm.1 X
  have hKn := C.2.2.2.2.1.1.1 k _ hc
  have hsl : sl (n + 1) = sl n + N := by show sl n + nf (idq n).1 = _; rw [hq, hN]
  have hm := sl_mono hnm.1
  have hm2 := sl_mono (show n + 1 ≤ nm by omega)
  have hcs := C.2.2.2.2.2.2.2.1
  have hpos : pos k j = n := by
    have h1 := (pos_idq n (by have := C.2.2.2.2.2.2.2.2.1.2; omega)).1
    rw [hq] at h1
    exact h1
  refine W.newcK C.1 C.2.1 C.2.2.1 (C.2.2.2.1 _ hlink) (C.2.2.2.1 _ hinst) (C.2.2.2.1 _ hini) (g := F0 (gm G) pc ls (List.map (cv E) st)) rfl hd (by omega) (by omega) hKn.2.1 hsz (fun H1 kC hkC e1 z1 o1 => ?_) T hT X
  have hP1 : Rp E (n + 1) R h H1 := by
    refine rp_push hP hsz o1 ?_
    rw [hq]
    show va_at _ _ (_, ent E k (R k j) (h k j)) _
    rw [ent_obj hsh]
    refine ⟨_, hc, (u_born (fty k) C.2.2.2.1 hin hKn hkC e1 hty).to (fun i hi => ?_)⟩
    rw [hdef i hi]
    have hi2 : i < nf k := by rw [hN]; exact hi
    simp [vp_V, List.getD, hi2, hR, hh, va_rf]
  have e := kk H1 locs ls hP1 ⟨Nat.le_trans hS.1 (by omega), fun q h1 h2 => (o1 q (by have := hS.1; omega)).trans (hS.2.1 q h1 h2), hS.2.2⟩ hl
  have e1 : n + 1 - gn G = n - gn G + 1 := by omega
  have e2 : sl (n + 1) - sl (gn G) = sl n - sl (gn G) + N := by omega
  rw [e1, e2] at e
  have e3 : lcq E (k, j) = E.2.1 + n := by
    show (if k < 60 then E.2.1 + pos k j else _) = _
    rw [if_pos (by omega), hpos]
  simp only [List.map_cons, cv, e3] at e
  exact e
theorem r_newI (C : Cx E G d cc own nm) {v : Int32} (hd : Dc cc pc (.newarray .int) 2 pc') (hw : Cond.arrayClass .int ∈ tb) (hq : idq n = (k, j)) (hs : shp k = 1) (hv : v = nI (nf k)) (hb : nf k < 2 ^ 20) (hnm : gn G ≤ n ∧ n < nm) (hh : ∀ i, h k j i = 0) (kk : Wa E G (n + 1) R h Q pc' L (aR k j :: st)) : Wa E G n R h Q pc L (aI v :: st) := by
  obtain ⟨hd, rfl⟩ := hd
  subst hv
  intro H locs ls hP hS hl T hT X
  have hsz := rp_size C hP hS hT hnm.1 X
  have hsl : sl (n + 1) = sl n + nf k := by show sl n + nf (idq n).1 = _; rw [hq]
  have hm := sl_mono hnm.1
  have hm2 := sl_mono (show n + 1 ≤ nm by omega)
  have hcs := C.2.2.2.2.2.2.2.1
  have hN := C.2.2.2.2.2.2.2.2.1.2
  have hpp := pos_idq n (by omega)
  rw [hq] at hpp
  have hcl := nI_clamp (n := nf k) (by omega)
  refine va_newaK C.1 C.2.1 (atype := .int) (C.2.2.2.1 _ hw) (g := F0 (gm G) pc ls (List.map (cv E) (aI (nI (nf k)) :: st))) rfl hd rfl (nI_pos (by omega)) hcl (by show nf k * 4 ≤ _; omega) (by omega) (by omega) hsz (fun H1 cA e1 z1 o1 hAr hfc => ?_) T hT X
  have hca : cA = ca E 0 := by
    have h0 := (C.2.2.2.2.1.1.2 0 (ca E 0, .int) rfl).2
    exact Option.some.inj (hfc.symm.trans h0)
  subst hca
  have hP1 : Rp E (n + 1) R h H1 := by
    refine rp_push hP hsz o1 ?_
    rw [hq]
    show va_at _ _ (_, ent E k (R k j) (h k j)) _
    rw [ent_int hs, show h k j = fun _ => 0 from funext hh]
    exact e1
  have e := kk H1 locs ls hP1 ⟨Nat.le_trans hS.1 (by omega), fun q h1 h2 => (o1 q (by have := hS.1; omega)).trans (hS.2.1 q h1 h2), hS.2.2⟩ hl
  have e1 : n + 1 - gn G = n - gn G + 1 := by omega
  have e2 : sl (n + 1) - sl (gn G) = sl n - sl (gn G) + nf k := by omega
  rw [e1, e2] at e
  have e3 : lcq E (k, j) = E.2.1 + n := by
    show (if k < 60 then E.2.1 + pos k j else _) = _
    rw [if_pos hpp.2, hpp.1]
  simp only [List.map_cons, cv, e3] at e
  exact e
theorem r_newZ (C : Cx E G d cc own nm) {v : Int32} (hd : Dc cc pc (.newarray .boolean) 2 pc') (hw : Cond.arrayClass .boolean ∈ tb) (hq : idq n = (k, j)) (hs : shp k = 2) (hv : v = nI (nf k)) (hb : nf k < 2 ^ 20) (hnm : gn G ≤ n ∧ n < nm) (hh : ∀ i, h k j i = 0) (kk : Wa E G (n + 1) R h Q pc' L (aR k j :: st)) : Wa E G n R h Q pc L (aI v :: st) := by
  obtain ⟨hd, rfl⟩ := hd
  subst hv
  intro H locs ls hP hS hl T hT X
  have hsz := rp_size C hP hS hT hnm.1 X
  have hsl : sl (n + 1) = sl n + nf k := by show sl n + nf (idq n).1 = _; rw [hq]
  have hm := sl_mono hnm.1
  have hm2 := sl_mono (show n + 1 ≤ nm by omega)
  have hcs := C.2.2.2.2.2.2.2.1
  have hN := C.2.2.2.2.2.2.2.2.1.2
  have hpp := pos_idq n (by omega)
  rw [hq] at hpp
  have hcl := nI_clamp (n := nf k) (by omega)
  refine va_newaK C.1 C.2.1 (atype := .boolean) (C.2.2.2.1 _ hw) (g := F0 (gm G) pc ls (List.map (cv E) (aI (nI (nf k)) :: st))) rfl hd rfl (nI_pos (by omega)) hcl (by show nf k * 1 ≤ _; omega) (by omega) (by omega) hsz (fun H1 cA e1 z1 o1 hAr hfc => ?_) T hT X
  have hca : cA = ca E 1 := by
    have h0 := (C.2.2.2.2.1.1.2 1 (ca E 1, .boolean) rfl).2
    exact Option.some.inj (hfc.symm.trans h0)
  subst hca
  have hP1 : Rp E (n + 1) R h H1 := by
    refine rp_push hP hsz o1 ?_
    rw [hq]
    show va_at _ _ (_, ent E k (R k j) (h k j)) _
    rw [ent_bool hs, show h k j = fun _ => 0 from funext hh]
    exact e1
  have e := kk H1 locs ls hP1 ⟨Nat.le_trans hS.1 (by omega), fun q h1 h2 => (o1 q (by have := hS.1; omega)).trans (hS.2.1 q h1 h2), hS.2.2⟩ hl
  have e1 : n + 1 - gn G = n - gn G + 1 := by omega
  have e2 : sl (n + 1) - sl (gn G) = sl n - sl (gn G) + nf k := by omega
  rw [e1, e2] at e
  have e3 : lcq E (k, j) = E.2.1 + n := by
    show (if k < 60 then E.2.1 + pos k j else _) = _
    rw [if_pos hpp.2, hpp.1]
  simp only [List.map_cons, cv, e3] at e
  exact e
theorem r_newA (C : Cx E G d cc own nm) {v : Int32} {t : Nat} {Cn : String} (hd : Dc cc pc (.anewarray idx) 3 pc') (hw : Cond.classLink own idx Cn ∈ tb) (hao : va_AO Cn (gs G)) (ht : (tys E)[t + 2]? = some (ca E (t + 2), .object Cn)) (hq : idq n = (k, j)) (hs : shp k = t + 3) (hv : v = nI (nf k)) (hb : nf k < 2 ^ 20) (hnm : gn G ≤ n ∧ n < nm) (hh : ∀ i, R k j i = none) (kk : Wa E G (n + 1) R h Q pc' L (aR k j :: st)) : Wa E G n R h Q pc L (aI v :: st) := by
  obtain ⟨hd, rfl⟩ := hd
  subst hv
  intro H locs ls hP hS hl T hT X
  have hsz := rp_size C hP hS hT hnm.1 X
  have hsl : sl (n + 1) = sl n + nf k := by show sl n + nf (idq n).1 = _; rw [hq]
  have hm := sl_mono hnm.1
  have hm2 := sl_mono (show n + 1 ≤ nm by omega)
  have hcs := C.2.2.2.2.2.2.2.1
  have hN := C.2.2.2.2.2.2.2.2.1.2
  have hpp := pos_idq n (by omega)
  rw [hq] at hpp
  have hcl := nI_clamp (n := nf k) (by omega)
  refine W.anew C.1 C.2.1 C.2.2.1 (C.2.2.2.1 _ hw) (va_AO.use hao) (g := F0 (gm G) pc ls (List.map (cv E) (aI (nI (nf k)) :: st))) rfl hd rfl (nI_pos (by omega)) (by rw [hcl]; omega) (by omega) (by rw [hcl]; omega) (fun cA kA comp f1 f2 f3 f4 => ?_) T hT X
  have hca : cA = ca E (t + 2) := by
    obtain ⟨_, _, _, _, _, h0⟩ := (C.2.2.2.2.1.1.2 (t + 2) _ ht).2
    exact Option.some.inj (f1.symm.trans h0)
  subst hca
  generalize hH1 : H.push ({ cls := ca E (t + 2), slots := Array.replicate (nI (nf k)).toNatClampNeg .null, vm := .none } : Cell) = H1
  have z1 : H1.size = H.size + 1 := by rw [← hH1, Array.size_push]
  have e1 : H1[H.size]? = some (arrV (ca E (t + 2)) (nI (nf k)).toNatClampNeg (fun _ => .null)) := by rw [← hH1, Array.getElem?_push_size, ← arrV_new]
  have o1 : ∀ q : Nat, q < H.size → H1[q]? = H[q]? := fun q hq => by rw [← hH1, Array.getElem?_push, if_neg (Nat.ne_of_lt hq)]
  rw [hsz] at o1 e1
  rw [hcl] at e1
  have hP1 : Rp E (n + 1) R h H1 := by
    refine rp_push hP hsz o1 ?_
    rw [hq]
    show va_at _ _ (_, ent E k (R k j) (h k j)) _
    rw [ent_ref hs, show R k j = fun _ => none from funext hh]
    exact e1
  have e := kk H1 locs ls hP1 ⟨Nat.le_trans hS.1 (by omega), fun q h1 h2 => (o1 q (by have := hS.1; omega)).trans (hS.2.1 q h1 h2), hS.2.2⟩ hl
  have e1 : n + 1 - gn G = n - gn G + 1 := by omega
  have e2 : sl (n + 1) - sl (gn G) = sl n - sl (gn G) + nf k := by omega
  rw [e1, e2] at e
  have e3 : lcq E (k, j) = E.2.1 + n := by
    show (if k < 60 then E.2.1 + pos k j else _) = _
    rw [if_pos hpp.2, hpp.1]
  simp only [List.map_cons, cv, e3] at e
  rw [hsz, hcl]
  exact e
theorem r_gets (C : Cx E G d cc own nm) {nme : String} {xs : List Int32} (hd : Dc cc pc (.getstatic idx) 3 pc') (hg : Gr E nme k xs (gs G) (gs G).heap) (hk : 60 ≤ k) (hw : Cond.fieldLink own idx "SiegePlate$Reader" nme "[I" ∈ tb) (kk : Wa E G n R h Q pc' L (aR k 0 :: st)) : Wa E G n R h Q pc L st := by
  obtain ⟨hd, rfl⟩ := hd
  intro H locs ls hP hS hl
  have e := kk H locs ls hP hS hl
  have e3 : lcq E (k, 0) = E.2.2.2.2.1 k := by
    show (if k < 60 then _ else E.2.2.2.2.1 k) = _
    rw [if_neg (by omega)]
  simp only [List.map_cons, cv, e3] at e
  exact va_gets C.1 C.2.1 hg.1 hS C.2.2.1 (C.2.2.2.1 _ hw) (fun _ h => h) hd e
theorem r_sti (C : Cx E G d cc own nm) {nme : String} {xs : List Int32} {x : Nat} {v : Int32} (hd : Dc cc pc .iaload 1 pc') (hg : Gr E nme k xs (gs G) (gs G).heap) (hk : 60 ≤ k) (hv : v = nI x) (hx : x < xs.length) (hb : xs.length < 2 ^ 31) (kk : Wa E G n R h Q pc' L (aI (xs.getD x 0) :: st)) : Wa E G n R h Q pc L (aI v :: aR k 0 :: st) := by
  obtain ⟨hd, rfl⟩ := hd
  subst hv
  intro H locs ls hP hS hl
  have e3 : lcq E (k, 0) = E.2.2.2.2.1 k := by
    show (if k < 60 then _ else E.2.2.2.2.1 k) = _
    rw [if_neg (by omega)]
  simp only [List.map_cons, cv, e3]
  exact va_ti C.1 C.2.1 hg.2 hS (vp_in_nI hx hb) (by rw [nI_clamp (by omega)]; rfl) hd (kk H locs ls hP hS hl)
theorem r_sld (C : Cx E G d cc own nm) {xs : Nat → Int32} {x LL : Nat} {v : Int32} (hd : Dc cc pc .iaload 1 pc') (hX : va_X (E.2.2.2.2.1 63) LL xs (gs G) (gs G).heap) (hA : E.2.2.2.2.1 63 < E.2.1) (hv : v = nI x) (hx : x < LL) (hb : LL < 2 ^ 31) (kk : Wa E G n R h Q pc' L (aI (xs x) :: st)) : Wa E G n R h Q pc L (aI v :: aR 63 0 :: st) := by
  obtain ⟨hd, rfl⟩ := hd
  subst hv
  intro H locs ls hP hS hl
  have e3 : lcq E (63, 0) = E.2.2.2.2.1 63 := rfl
  simp only [List.map_cons, cv, e3]
  refine va_sld C.1 C.2.1 hX (by have := C.2.2.2.2.2.1; omega) (show ¬ E.2.1 ≤ _ by omega) hS (vp_in_nI hx hb) hd ?_
  rw [nI_clamp (by omega)]
  exact kk H locs ls hP hS hl
theorem r_slen (C : Cx E G d cc own nm) {xs : Nat → Int32} {LL : Nat} (hd : Dc cc pc .arraylength 1 pc') (hX : va_X (E.2.2.2.2.1 63) LL xs (gs G) (gs G).heap) (hA : E.2.2.2.2.1 63 < E.2.1) (kk : Wa E G n R h Q pc' L (aI (nI LL) :: st)) : Wa E G n R h Q pc L (aR 63 0 :: st) := by
  obtain ⟨hd, rfl⟩ := hd
  intro H locs ls hP hS hl
  have e3 : lcq E (63, 0) = E.2.2.2.2.1 63 := rfl
  simp only [List.map_cons, cv, e3]
  exact va_slen C.1 C.2.1 hX (by have := C.2.2.2.2.2.1; omega) (show ¬ E.2.1 ≤ _ by omega) hS hd (kk H locs ls hP hS hl)
theorem r_min (C : Cx E G d cc own nm) {x y : Int32} (hd : Dc cc pc (.invokestatic idx) 3 pc') (hw : Cond.methodLink own idx Lib.Math.min.name ∈ tb ∧ Cond.static Lib.Math.min.name ∈ tb ∧ Cond.initialized "java/lang/Math" ∈ tb ∧ Cond.code Lib.Math.min.name Lib.Math.min.code 2 (some .int) ∈ tb) (hd1 : 1 ≤ d) (hs : ((st.map (cv E)).map fun v => v.category).sum ≤ 8) (hn : gn G ≤ n ∧ n ≤ nm) (kk : Wa E G n R h Q pc' L (aI (if y < x then y else x) :: st)) : Wa E G n R h Q pc L (aI y :: aI x :: st) := by
  obtain ⟨hd, rfl⟩ := hd
  intro H locs ls hP hS hl
  have hm := sl_mono hn.2
  have hcs := C.2.2.2.2.2.2.2.1
  have hfr := C.2.2.2.2.2.2.1
  exact va_mmin C.1 C.2.1 hl.2.1.symm C.2.2.1 (C.2.2.2.1 _ hw.1) (C.2.2.2.1 _ hw.2.1) (C.2.2.2.1 _ hw.2.2.1) (C.2.2.2.1 _ hw.2.2.2) (by omega) (by omega) (by omega) (by omega) hd (kk H locs ls hP hS hl)
theorem r_max (C : Cx E G d cc own nm) {x y : Int32} (hd : Dc cc pc (.invokestatic idx) 3 pc') (hw : Cond.methodLink own idx Lib.Math.max.name ∈ tb ∧ Cond.static Lib.Math.max.name ∈ tb ∧ Cond.initialized "java/lang/Math" ∈ tb ∧ Cond.code Lib.Math.max.name Lib.Math.max.code 2 (some .int) ∈ tb) (hd1 : 1 ≤ d) (hs : ((st.map (cv E)).map fun v => v.category).sum ≤ 8) (hn : gn G ≤ n ∧ n ≤ nm) (kk : Wa E G n R h Q pc' L (aI (if x < y then y else x) :: st)) : Wa E G n R h Q pc L (aI y :: aI x :: st) := by
  obtain ⟨hd, rfl⟩ := hd
  intro H locs ls hP hS hl
  have hm := sl_mono hn.2
  have hcs := C.2.2.2.2.2.2.2.1
  have hfr := C.2.2.2.2.2.2.1
  exact va_mmax C.1 C.2.1 hl.2.1.symm C.2.2.1 (C.2.2.2.1 _ hw.1) (C.2.2.2.1 _ hw.2.1) (C.2.2.2.1 _ hw.2.2.1) (C.2.2.2.1 _ hw.2.2.2) (by omega) (by omega) (by omega) (by omega) hd (kk H locs ls hP hS hl)
theorem r_objI (C : Cx E G d cc own nm) (hd : Dc cc pc (.invokespecial idx) 3 pc') (hw : Cond.methodLink own idx objectInit ∈ tb ∧ Cond.instanceMethod objectInit ∈ tb ∧ Cond.code objectInit ⟨#[0xb1]⟩ 1 none ∈ tb) (hd1 : 1 ≤ d) (hs : ((st.map (cv E)).map fun v => v.category).sum ≤ 8) (kk : Wa E G n R h Q pc' L st) : Wa E G n R h Q pc L (aR k j :: st) := by
  obtain ⟨hd, rfl⟩ := hd
  intro H locs ls hP hS hl
  have hfr := C.2.2.2.2.2.2.1
  refine W.objInit C.1 C.2.1 C.2.2.1 (C.2.2.2.1 _ hw.1) (C.2.2.2.1 _ hw.2.1) (C.2.2.2.1 _ hw.2.2) rfl hl.2.1 (a := lcq E (k, j)) (rest := st.map (cv E)) rfl hd (by omega) ?_ (kk H locs ls hP hS hl)
  show 2 * 0 + _ + 12 ≤ _
  omega
end RW3
end
section
def rmd (d mc ms : Nat) : Room := { frames := d, cells := mc, slots := ms, locals := 30 * d }
def Pcn (E : Ev) (as : List AV) (n : Nat) (R : RF) (h : HF) : Array Value → State → Prop := fun a U => a = (as.map (cv E)).toArray ∧ U.heap.size = E.2.1 + n ∧ Rp E n R h U.heap ∧ En E U U.heap
def Qcn (E : Ev) (n' : Nat) (P : Option AV → RF → HF → Prop) : Array Value → State → Outcome → State → Prop := fun _ st oc t => ∃ v R' h', P v R' h' ∧ oc = .returned (v.map (cv E)) ∧ Rp E n' R' h' t.heap ∧ va_F (fA E) st t
/-- THE CONTRACT of a method: from n cells that hold R and h, with the arguments as, at most d frames deep: it returns v with n' cells that hold R' and h', and P -/
def Ct (E : Ev) (d : Nat) (y : MethodName) (cc : ByteArray) (mL : Nat) (rt : Option FieldType) (as : List AV) (n : Nat) (R : RF) (h : HF) (n' : Nat) (P : Option AV → RF → HF → Prop) : Prop :=
  Met E.1 y (.code y cc mL rt :: tb) (rmd d (n' - n) (sl n' - sl n)) (Pcn E as n R h) (Qcn E n' P) (n' - n) (sl n' - sl n) (fA E)
def QQ (E : Ev) (G : Gv) (n' : Nat) (P : Option AV → RF → HF → Prop) : State → Prop := MQ (gb G) (Qcn E n' P) (ga G) (gs G) (n' - gn G) (sl n' - sl (gn G)) (fA E)
def entL : List AV → List (Option AV)
  | [] => []
  | .inr (.inl x) :: r => some (aL x) :: none :: entL r
  | v :: r => some v :: entL r
theorem entL_mem {E : Ev} {m : Nat} : ∀ (as : List AV) (b : Nat) (q : Nat × Value), q ∈ lvl E b (entL as ++ List.replicate m none) → q ∈ lv_args b (as.map (cv E))
  | [], b, q, h => by
    obtain ⟨i, v, h1, -⟩ := lvl_mem.mp h
    simp only [entL, List.nil_append] at h1
    have := List.eq_of_mem_replicate (List.mem_of_getElem? h1)
    cases this
  | .inl x :: r, b, q, h => by
    simp only [entL, List.cons_append, lvl] at h
    simp only [List.map_cons, cv, lv_args, Value.category]
    rcases List.mem_cons.mp h with h | h
    · rw [h]; exact List.mem_cons_self
    · exact List.mem_cons_of_mem _ (entL_mem r (b + 1) q h)
  | .inr (.inr none) :: r, b, q, h => by
    simp only [entL, List.cons_append, lvl] at h
    simp only [List.map_cons, cv, lv_args, Value.category]
    rcases List.mem_cons.mp h with h | h
    · rw [h]; exact List.mem_cons_self
    · exact List.mem_cons_of_mem _ (entL_mem r (b + 1) q h)
  | .inr (.inr (some z)) :: r, b, q, h => by
    simp only [entL, List.cons_append, lvl] at h
    simp only [List.map_cons, cv, lv_args, Value.category]
    rcases List.mem_cons.mp h with h | h
    · rw [h]; exact List.mem_cons_self
    · exact List.mem_cons_of_mem _ (entL_mem r (b + 1) q h)
  | .inr (.inl x) :: r, b, q, h => by
    simp only [entL, List.cons_append, lvl] at h
    simp only [List.map_cons, cv, lv_args, Value.category]
    rcases List.mem_cons.mp h with h | h
    · rw [h]; exact List.mem_cons_self
    · exact List.mem_cons_of_mem _ (entL_mem r (b + 2) q h)
theorem entL_len {E : Ev} : ∀ (as : List AV), (lg_sl (as.map (cv E))).length = (entL as).length
  | [] => rfl
  | .inl x :: r => by
    show (Slot.val (Value.int x) :: lg_sl (r.map (cv E))).length = (some (aI x) :: entL r).length
    simp only [List.length_cons, entL_len (E := E) r]
  | .inr (.inr none) :: r => by
    show (Slot.val Value.null :: lg_sl (r.map (cv E))).length = (some aN :: entL r).length
    simp only [List.length_cons, entL_len (E := E) r]
  | .inr (.inr (some z)) :: r => by
    show (Slot.val (Value.ref (lcq E z)) :: lg_sl (r.map (cv E))).length = (some (.inr (.inr (some z))) :: entL r).length
    simp only [List.length_cons, entL_len (E := E) r]
  | .inr (.inl x) :: r => by
    show (Slot.val (Value.long x) :: Slot.second :: lg_sl (r.map (cv E))).length = (some (aL x) :: none :: entL r).length
    simp only [List.length_cons, entL_len (E := E) r]
theorem Ct.of {E : Ev} {d : Nat} {y : MethodName} {cc : ByteArray} {mL : Nat} {rt : Option FieldType} {as : List AV} {n : Nat} {R : RF} {h : HF} {n' : Nat} {P : Option AV → RF → HF → Prop} (m : Nat) {L0 : List (Option AV)} (hy : plainName y.cls = true) (hnn : n ≤ n' ∧ n' ≤ 243) (hL : entL as ++ List.replicate m none = L0) (hlen : L0.length = mL)
    (body : ∀ G : Gv, Cx E G d cc y.cls n' → gn G = n → (gme G).sig.returnType = rt → (gme G).name = y.name → Wa E G n R h (QQ E G n' P) 0 L0 []) : Ct E d y cc mL rt as n R h n' P := by
  refine Met.ofW (cc := cc) (maxL := mL) (ret := rt) hy rfl ?_
  intro p e s m0 args below meth c s₁ B hml hv
  obtain ⟨rfl, hsz, hRp, hEn⟩ := hv
  have hts := atoms_spec (ws := .code y cc mL rt :: tb) B.pre
  have hown : s.vm.findClass y.cls = some m0.cls := findClass_of_methodNamed B.named
  have hk := body (p, e, rmd d (n' - n) (sl n' - sl n), s, m0, (as.map (cv E)).toArray, below, meth, c, n)
    ⟨B.exec, B.bytes, hown, fun w hw => hts w (List.mem_cons_of_mem _ hw), hEn, hsz, ⟨Nat.le_refl _, Nat.le_refl _⟩, ⟨Nat.le_refl _, Nat.le_refl _⟩, hnn, B.notSynchronized⟩ rfl B.returns (name_of_methodNamed B.named B.method).1
  have hle : (lg_sl (as.map (cv E))).length ≤ mL := by
    rw [entL_len, ← hlen, ← hL, List.length_append]
    omega
  have hl := lv_entry (as.map (cv E)) (n := mL) hle
  rw [lg_entry_eq]
  have h2 := hk s.heap [] _ hRp va_S.rf (show lok E c _ L0 from ⟨by rw [hml, hlen]; exact Nat.le_refl _, by rw [hml]; exact ⟨hl.1, hl.2.1, fun q hq => hl.2.2 q (entL_mem (m := m) as 0 q (by rw [hL]; exact hq))⟩⟩)
  have z1 : n - n = 0 := by omega
  have z2 : sl n - sl n = 0 := by omega
  simp only [gn, z1, z2] at h2
  exact h2
theorem Ct.mono {E : Ev} {d : Nat} {y : MethodName} {cc : ByteArray} {mL : Nat} {rt : Option FieldType} {as : List AV} {n : Nat} {R : RF} {h : HF} {n' : Nat} {P P' : Option AV → RF → HF → Prop} (hc : Ct E d y cc mL rt as n R h n' P) (hp : ∀ v R' h', P v R' h' → P' v R' h') : Ct E d y cc mL rt as n R h n' P' := by
  intro p e ha hcas hclk s m args below hf happ hP hK
  obtain ⟨k, o, h1, h2, h3, ⟨⟨v, R', h', q1, q2⟩, q3⟩⟩ := hc p e ha hcas hclk s m args below hf happ hP hK
  exact ⟨k, o, h1, h2, h3, ⟨⟨v, R', h', hp v R' h' q1, q2⟩, q3⟩⟩
section RW4
variable {E : Ev} {G : Gv} {n n' d d' nm pc pc' mL : Nat} {R : RF} {h : HF} {Q : State → Prop} {L L' : List (Option AV)} {st st0 : List AV} {cc cc' : ByteArray} {own : String} {k j i idx : Nat} {P : Option AV → RF → HF → Prop} {y : MethodName} {rt : Option FieldType} {as : List AV}
theorem r_iret (C : Cx E G d cc own nm) {x : Int32} (hrt : (gme G).sig.returnType = some .int) (hd : Dc cc pc .ireturn 1 pc') (hp : P (some (aI x)) R h) : Wa E G n R h (QQ E G n P) pc L [aI x] := by
  intro H locs ls hP hS hl
  exact W.iret C.1 C.2.1 hrt (fun t ht hW => ⟨some (aI x), R, h, hp, rfl, by rw [ht]; exact hP, hS.F ht⟩) hS.2.2 hd.1 C.2.2.2.2.2.2.2.2.2
theorem r_zret (C : Cx E G d cc own nm) {x : Int32} (hrt : (gme G).sig.returnType = some .boolean) (hd : Dc cc pc .ireturn 1 pc') (hx : narrow .boolean (.int x) = .int x) (hp : P (some (aI x)) R h) : Wa E G n R h (QQ E G n P) pc L [aI x] := by
  intro H locs ls hP hS hl
  exact W.zret C.1 C.2.1 hrt hx (fun t ht hW => ⟨some (aI x), R, h, hp, rfl, by rw [ht]; exact hP, hS.F ht⟩) hS.2.2 hd.1 C.2.2.2.2.2.2.2.2.2
theorem r_vret (C : Cx E G d cc own nm) (hrt : (gme G).sig.returnType = none) (hd : Dc cc pc .return_ 1 pc') (hp : P none R h) : Wa E G n R h (QQ E G n P) pc L [] := by
  intro H locs ls hP hS hl
  exact W.vret C.1 C.2.1 hrt (fun t ht hW => ⟨none, R, h, hp, rfl, by rw [ht]; exact hP, hS.F ht⟩) hS.2.2 hd.1 C.2.2.2.2.2.2.2.2.2
theorem pcn_blind : FrameBlind (Pcn E as n R h) := by
  intro a U g mk q
  obtain ⟨q0, q1, q2, q3⟩ := q
  exact ⟨q0, q1, q2, En.same (u := U) rfl q3⟩
theorem pcn_at {H : Heap} {locs : List Loc} (C : Cx E G d cc own nm) (hP : Rp E n R h H) (hS : va_S (fA E) (gs G).heap H locs) (hz : H.size = E.2.1 + n) (U : State) (hU : U.heap = H) (hW : (gs G).WarmedH U.vm) : Pcn E as n R h (as.map (cv E)).toArray U :=
  ⟨rfl, by rw [hU]; exact hz, by rw [hU]; exact hP, En.warm hW (fun a ha hn => by rw [hU]; exact hS.2.1 a ha hn) C.2.2.2.2.1⟩
/-- behind a call -/
theorem r_after {H : Heap} {locs : List Loc} {ls : Array Slot} {T : State} {stk : List Value} {a : Array Value} (hn : gn G ≤ n ∧ n ≤ n')
    (hr : va_Run (gp G) E.1 (ge G) (gR G) (gs G) (gm G) (ga G) (gb G) (gme G) (gc G) H locs (n - gn G) (sl n - sl (gn G)) (n' - n) (sl n' - sl n) (F0 (gm G) pc ls stk) (st.map (cv E)) (Qcn E n' P a) (fA E))
    (hS : va_S (fA E) (gs G).heap H locs) (hl : lok E (gc G) ls L) (hT : T.heap = H) (X : Stand (gp G) E.1 (ge G) (gR G) (gs G) (gm G) (ga G) (gb G) (gme G) (gc G) T locs (n - gn G) (sl n - sl (gn G)))
    (kk : ∀ v R' h', P v R' h' → Wa E G n' R' h' Q (pc + 3) L (v.toList ++ st)) : ∃ t, Steps (gp G).tables (ge G) (gb G) (T.setTop (F0 (gm G) pc ls stk)) t ∧ Q t := by
  obtain ⟨v0, st₀, t, T', Lc, h0, X', hLc, e1, e2, ⟨v, R', h', hp, hv, hRp, hF⟩, go⟩ := hr T hT X
  cases hv
  have hm1 := sl_mono hn.1
  have hm2 := sl_mono hn.2
  have c1 : n - gn G + (n' - n) = n' - gn G := by omega
  have c2 : sl n - sl (gn G) + (sl n' - sl n) = sl n' - sl (gn G) := by omega
  rw [c1, c2] at X'
  have hS' : va_S (fA E) (gs G).heap T'.heap (locs ++ Lc) := by
    refine ⟨Nat.le_trans hS.1 (by rw [e1, ← h0]; exact hF.1), fun q h1 h2 => ?_, fun q hq => ?_⟩
    · rw [e1, hF.2 q (by rw [h0]; exact Nat.lt_of_lt_of_le h1 hS.1) h2, h0]
      exact hS.2.1 q h1 h2
    · rcases List.mem_append.mp hq with z | z
      · exact hS.2.2 q z
      · exact hLc q z
  obtain ⟨t2, a1, b1⟩ := kk v R' h' hp T'.heap (locs ++ Lc) ls (by rw [e1]; exact hRp) hS' hl T' rfl X'
  refine ⟨t2, go t2 ?_, b1⟩
  have e3 : List.map (cv E) (v.toList ++ st) = (v.map (cv E)).toList ++ st.map (cv E) := by cases v <;> simp
  rw [e3] at a1
  exact a1
/-- what a call's words say -/
def CW (y : MethodName) (cc' : ByteArray) (mL : Nat) (rt : Option FieldType) (na : Nat) : Prop := Cond.code y cc' mL rt ∈ tb ∧ Cond.initialized y.cls ∈ tb ∧ (y.cls ≠ "java/lang/invoke/MethodHandle" ∧ y.cls ≠ "java/lang/invoke/VarHandle" ∧ (parseMethodDescriptor y.desc).map (fun d => d.parameters.length) = some na) ∧ mL ≤ 11
theorem cw_good (hw : CW y cc' mL rt i) : GoodIn tb (.code y cc' mL rt :: tb) := by
  intro w h
  rcases List.mem_cons.mp h with rfl | h
  · exact ⟨hw.1, tb_good _ hw.1⟩
  · exact ⟨h, tb_good _ h⟩
theorem cw_callB {na : Nat} (C : Cx E G d cc own nm) (hw : CW y cc' mL rt na) (hl : Cond.methodLink own idx y ∈ tb) (hdd : d' < d) : CallB (gR G) (gs G) (ga G) own idx y cc' mL rt (.code y cc' mL rt :: tb) (rmd d' (n' - n) (sl n' - sl n)) (n' - n) (sl n' - sl n) na := by
  have hfr := C.2.2.2.2.2.2.1
  have h11 := hw.2.2.2
  exact callB_of na C.2.2.2.1 (cw_good hw) rfl rfl rfl (C.2.2.2.1 _ hw.2.1) (C.2.2.2.1 _ hl) hw.2.2.1 ⟨by show d' + 1 ≤ _; omega, by show 8 + (mL + 11) + 30 * d' ≤ _; omega⟩
def CV (own : String) (idx : Nat) (y : MethodName) (k : Nat) : Prop := Cond.methodLink own idx y ∈ tb ∧ Cond.instanceMethod y ∈ tb ∧ Cond.selects y.cls y y ∈ tb ∧ (vwCl[k]?).map (fun q => q.1) = some y.cls ∧ shp k = 0
theorem r_callV {na : Nat} (C : Cx E G d cc own nm) (hM : Ct E d' y cc' mL rt (aR k j :: as) n R h n' P) (hdg : Dc cc pc (.invokevirtual idx) 3 pc') (hw : CW y cc' mL rt na) (hv : CV own idx y k) (hdd : d' < d) (ho : Ok n k j) (hna : as.length = na) (hn : gn G ≤ n ∧ n ≤ n' ∧ n' ≤ nm) (hst : as.reverse ++ aR k j :: st = st0) (hs : ((st.map (cv E)).map fun v => v.category).sum ≤ 8)
    (kk : ∀ v R' h', P v R' h' → Wa E G n' R' h' Q pc' L (v.toList ++ st)) : Wa E G n R h Q pc L st0 := by
  obtain ⟨hdg, rfl⟩ := hdg
  subst hst
  intro H locs ls hP hS hl T hT X
  have hsz := rp_size C hP hS hT hn.1 X
  have hm1 := sl_mono hn.1
  have hm2 := sl_mono hn.2.1
  have hm3 := sl_mono hn.2.2
  have hcs := C.2.2.2.2.2.2.2.1
  obtain ⟨q, hq1, hq2⟩ : ∃ q, vwCl[k]? = some q ∧ q.1 = y.cls := by
    have h2 := hv.2.2.2.1
    cases hh : vwCl[k]? with
    | none => rw [hh] at h2; cases h2
    | some q => rw [hh] at h2; exact ⟨q, rfl, Option.some.inj h2⟩
  have he : (wsl E n R h)[pos k j]? = some (lcq E (k, j), .inr (k, (List.range (nf k)).map (fun i => if isr k i = true then va_rf ((R k j i).map (lcq E)) else .int (h k j i)))) := by rw [wsl_at ho.1 ho.2.1 ho.2.2.1, ent_obj hv.2.2.2.2]
  have hrecv := va_recv C.2.2.2.2.1.1 hP hq1 he
  rw [hq2] at hrecv
  refine r_after ⟨hn.1, hn.2.1⟩ (va_runV (C := y.cls) (b := lcq E (k, j)) (As := as.map (cv E)) (rest := st.map (cv E)) ⟨C.1, C.2.1, rfl, C.2.2.1, C.2.2.2.1⟩ hM ⟨cw_callB C hw hv.1 hdd, C.2.2.2.1 _ hv.2.1, C.2.2.2.1 _ hv.2.2.1⟩ ⟨pcn_blind, hrecv, fun U hU hW => pcn_at C hP hS hsz U hU hW⟩ rfl (by rw [List.length_map]; exact hna) hl.2.1 (by simp [cv]) (lv_room hs) hdg ⟨by omega, by omega⟩) hS hl hT X kk
theorem r_callS {na : Nat} (C : Cx E G d cc own nm) (hM : Ct E d' y cc' mL rt as n R h n' P) (hdg : Dc cc pc (.invokestatic idx) 3 pc') (hw : CW y cc' mL rt na) (hv : Cond.methodLink own idx y ∈ tb ∧ Cond.static y ∈ tb) (hdd : d' < d) (hna : as.length = na) (hn : gn G ≤ n ∧ n ≤ n' ∧ n' ≤ nm) (hst : as.reverse ++ st = st0) (hs : ((st.map (cv E)).map fun v => v.category).sum ≤ 8)
    (kk : ∀ v R' h', P v R' h' → Wa E G n' R' h' Q pc' L (v.toList ++ st)) : Wa E G n R h Q pc L st0 := by
  obtain ⟨hdg, rfl⟩ := hdg
  subst hst
  intro H locs ls hP hS hl T hT X
  have hsz := rp_size C hP hS hT hn.1 X
  have hm1 := sl_mono hn.1
  have hm2 := sl_mono hn.2.1
  have hm3 := sl_mono hn.2.2
  have hcs := C.2.2.2.2.2.2.2.1
  refine r_after ⟨hn.1, hn.2.1⟩ (va_runS (As := as.map (cv E)) (rest := st.map (cv E)) ⟨C.1, C.2.1, rfl, C.2.2.1, C.2.2.2.1⟩ hM ⟨cw_callB C hw hv.1 hdd, C.2.2.2.1 _ hv.2⟩ ⟨pcn_blind, fun U hU hW => pcn_at C hP hS hsz U hU hW⟩ rfl (by rw [List.length_map]; exact hna) hl.2.1 (by simp) (lv_room hs) hdg ⟨by omega, by omega⟩) hS hl hT X kk
theorem r_callSN {na : Nat} {host : String} (C : Cx E G d cc own nm) (hM : Ct E d' y cc' mL rt as n R h n' P) (hdg : Dc cc pc (.invokestatic idx) 3 pc') (hw : CW y cc' mL rt na) (hv : Cond.methodLinkNest own idx y host ∈ nestW ∧ Cond.static y ∈ tb) (hdd : d' < d) (hna : as.length = na) (hn : gn G ≤ n ∧ n ≤ n' ∧ n' ≤ nm) (hst : as.reverse ++ st = st0) (hs : ((st.map (cv E)).map fun v => v.category).sum ≤ 8)
    (kk : ∀ v R' h', P v R' h' → Wa E G n' R' h' Q pc' L (v.toList ++ st)) : Wa E G n R h Q pc L st0 := by
  obtain ⟨hdg, rfl⟩ := hdg
  subst hst
  intro H locs ls hP hS hl T hT X
  have hsz := rp_size C hP hS hT hn.1 X
  have hm1 := sl_mono hn.1
  have hm2 := sl_mono hn.2.1
  have hm3 := sl_mono hn.2.2
  have hcs := C.2.2.2.2.2.2.2.1
  have hfr := C.2.2.2.2.2.2.1
  have h11 := hw.2.2.2
  refine r_after ⟨hn.1, hn.2.1⟩ (va_runSN (As := as.map (cv E)) (rest := st.map (cv E)) ⟨C.1, C.2.1, rfl, C.2.2.1, C.2.2.2.1⟩ hM ⟨va_cnB na C.2.2.2.1 (cw_good hw) rfl rfl rfl (C.2.2.2.2.1.2.1 _ hv.1) (C.2.2.2.1 _ hw.2.1) hw.2.2.1 ⟨by show d' + 1 ≤ _; omega, by show 8 + (mL + 11) + 30 * d' ≤ _; omega⟩, C.2.2.2.1 _ hv.2, trivial⟩ ⟨pcn_blind, fun U hU hW => pcn_at C hP hS hsz U hU hW⟩ rfl (by rw [List.length_map]; exact hna) hl.2.1 (by simp) (lv_room hs) hdg ⟨by omega, by omega⟩) hS hl hT X kk
theorem r_callI {na : Nat} (C : Cx E G d cc own nm) (hM : Ct E d' y cc' mL none (aR k j :: as) n R h n' P) (hdg : Dc cc pc (.invokespecial idx) 3 pc') (hw : CW y cc' mL none na) (hv : Cond.methodLink own idx y ∈ tb ∧ Cond.instanceMethod y ∈ tb ∧ y.name = "<init>") (hdd : d' < d) (hna : as.length = na) (hn : gn G ≤ n ∧ n ≤ n' ∧ n' ≤ nm) (hst : as.reverse ++ aR k j :: st = st0) (hs : ((st.map (cv E)).map fun v => v.category).sum ≤ 8)
    (kk : ∀ v R' h', P v R' h' → Wa E G n' R' h' Q pc' L (v.toList ++ st)) : Wa E G n R h Q pc L st0 := by
  obtain ⟨hdg, rfl⟩ := hdg
  subst hst
  intro H locs ls hP hS hl T hT X
  have hsz := rp_size C hP hS hT hn.1 X
  have hm1 := sl_mono hn.1
  have hm2 := sl_mono hn.2.1
  have hm3 := sl_mono hn.2.2
  have hcs := C.2.2.2.2.2.2.2.1
  refine r_after ⟨hn.1, hn.2.1⟩ (va_runI (b := lcq E (k, j)) (As := as.map (cv E)) (rest := st.map (cv E)) ⟨C.1, C.2.1, rfl, C.2.2.1, C.2.2.2.1⟩ hM ⟨cw_callB C hw hv.1 hdd, hv.2.2, C.2.2.2.1 _ hv.2.1⟩ ⟨pcn_blind, fun U hU hW => pcn_at C hP hS hsz U hU hW⟩ rfl (by rw [List.length_map]; exact hna) hl.2.1 (by simp [cv]) (lv_room hs) hdg ⟨by omega, by omega⟩) hS hl hT X kk
theorem r_callIN {na : Nat} {host : String} (C : Cx E G d cc own nm) (hM : Ct E d' y cc' mL none (aR k j :: as) n R h n' P) (hdg : Dc cc pc (.invokespecial idx) 3 pc') (hw : CW y cc' mL none na) (hv : Cond.methodLinkNest own idx y host ∈ nestW ∧ Cond.instanceMethod y ∈ tb ∧ y.name = "<init>") (hdd : d' < d) (hna : as.length = na) (hn : gn G ≤ n ∧ n ≤ n' ∧ n' ≤ nm) (hst : as.reverse ++ aR k j :: st = st0) (hs : ((st.map (cv E)).map fun v => v.category).sum ≤ 8)
    (kk : ∀ v R' h', P v R' h' → Wa E G n' R' h' Q pc' L (v.toList ++ st)) : Wa E G n R h Q pc L st0 := by
  obtain ⟨hdg, rfl⟩ := hdg
  subst hst
  intro H locs ls hP hS hl T hT X
  have hsz := rp_size C hP hS hT hn.1 X
  have hm1 := sl_mono hn.1
  have hm2 := sl_mono hn.2.1
  have hm3 := sl_mono hn.2.2
  have hcs := C.2.2.2.2.2.2.2.1
  have hfr := C.2.2.2.2.2.2.1
  have h11 := hw.2.2.2
  refine r_after ⟨hn.1, hn.2.1⟩ (va_runIN (b := lcq E (k, j)) (As := as.map (cv E)) (rest := st.map (cv E)) ⟨C.1, C.2.1, rfl, C.2.2.1, C.2.2.2.1⟩ hM ⟨va_cnB na C.2.2.2.1 (cw_good hw) rfl rfl rfl (C.2.2.2.2.1.2.1 _ hv.1) (C.2.2.2.1 _ hw.2.1) hw.2.2.1 ⟨by show d' + 1 ≤ _; omega, by show 8 + (mL + 11) + 30 * d' ≤ _; omega⟩, hv.2.2, C.2.2.2.1 _ hv.2.1⟩ ⟨pcn_blind, fun U hU hW => pcn_at C hP hS hsz U hU hW⟩ rfl (by rw [List.length_map]; exact hna) hl.2.1 (by simp [cv]) (lv_room hs) hdg ⟨by omega, by omega⟩) hS hl hT X kk
end RW4
end
section
theorem dX0_init_0 : Dc cX0_init 0 (.aload_n 0) 1 1 := ⟨by decide +kernel, rfl⟩
theorem dX0_init_1 : Dc cX0_init 1 (.invokespecial 3) 3 4 := ⟨by decide +kernel, rfl⟩
theorem dX0_init_4 : Dc cX0_init 4 (.aload_n 0) 1 5 := ⟨by decide +kernel, rfl⟩
theorem dX0_init_5 : Dc cX0_init 5 (.bipush 15) 2 7 := ⟨by decide +kernel, rfl⟩
theorem dX0_init_7 : Dc cX0_init 7 (.newarray .int) 2 9 := ⟨by decide +kernel, rfl⟩
theorem dX0_init_9 : Dc cX0_init 9 (.putfield 9) 3 12 := ⟨by decide +kernel, rfl⟩
theorem dX0_init_12 : Dc cX0_init 12 (.aload_n 0) 1 13 := ⟨by decide +kernel, rfl⟩
theorem dX0_init_13 : Dc cX0_init 13 (.bipush 15) 2 15 := ⟨by decide +kernel, rfl⟩
theorem dX0_init_15 : Dc cX0_init 15 (.newarray .int) 2 17 := ⟨by decide +kernel, rfl⟩
theorem dX0_init_17 : Dc cX0_init 17 (.putfield 15) 3 20 := ⟨by decide +kernel, rfl⟩
theorem dX0_init_20 : Dc cX0_init 20 (.aload_n 0) 1 21 := ⟨by decide +kernel, rfl⟩
theorem dX0_init_21 : Dc cX0_init 21 (.iconst 0) 1 22 := ⟨by decide +kernel, rfl⟩
theorem dX0_init_22 : Dc cX0_init 22 (.putfield 18) 3 25 := ⟨by decide +kernel, rfl⟩
theorem dX0_init_25 : Dc cX0_init 25 (.return_) 1 26 := ⟨by decide +kernel, rfl⟩
theorem dX0_add_0 : Dc cX0_add 0 (.aload_n 0) 1 1 := ⟨by decide +kernel, rfl⟩
theorem dX0_add_1 : Dc cX0_add 1 (.getfield 18) 3 4 := ⟨by decide +kernel, rfl⟩
theorem dX0_add_4 : Dc cX0_add 4 (.bipush 15) 2 6 := ⟨by decide +kernel, rfl⟩
theorem dX0_add_6 : Dj cX0_add 6 (.if_icmp .ge 33) 3 9 (33) 39 := ⟨by decide +kernel, rfl, by decide⟩
theorem dX0_add_9 : Dc cX0_add 9 (.aload_n 0) 1 10 := ⟨by decide +kernel, rfl⟩
theorem dX0_add_10 : Dc cX0_add 10 (.getfield 9) 3 13 := ⟨by decide +kernel, rfl⟩
theorem dX0_add_13 : Dc cX0_add 13 (.aload_n 0) 1 14 := ⟨by decide +kernel, rfl⟩
theorem dX0_add_14 : Dc cX0_add 14 (.getfield 18) 3 17 := ⟨by decide +kernel, rfl⟩
theorem dX0_add_17 : Dc cX0_add 17 (.iload_n 1) 1 18 := ⟨by decide +kernel, rfl⟩
theorem dX0_add_18 : Dc cX0_add 18 (.iastore) 1 19 := ⟨by decide +kernel, rfl⟩
theorem dX0_add_19 : Dc cX0_add 19 (.aload_n 0) 1 20 := ⟨by decide +kernel, rfl⟩
theorem dX0_add_20 : Dc cX0_add 20 (.getfield 15) 3 23 := ⟨by decide +kernel, rfl⟩
theorem dX0_add_23 : Dc cX0_add 23 (.aload_n 0) 1 24 := ⟨by decide +kernel, rfl⟩
theorem dX0_add_24 : Dc cX0_add 24 (.getfield 18) 3 27 := ⟨by decide +kernel, rfl⟩
theorem dX0_add_27 : Dc cX0_add 27 (.iload_n 2) 1 28 := ⟨by decide +kernel, rfl⟩
theorem dX0_add_28 : Dc cX0_add 28 (.iastore) 1 29 := ⟨by decide +kernel, rfl⟩
theorem dX0_add_29 : Dc cX0_add 29 (.aload_n 0) 1 30 := ⟨by decide +kernel, rfl⟩
theorem dX0_add_30 : Dc cX0_add 30 (.dup) 1 31 := ⟨by decide +kernel, rfl⟩
theorem dX0_add_31 : Dc cX0_add 31 (.getfield 18) 3 34 := ⟨by decide +kernel, rfl⟩
theorem dX0_add_34 : Dc cX0_add 34 (.iconst 1) 1 35 := ⟨by decide +kernel, rfl⟩
theorem dX0_add_35 : Dc cX0_add 35 (.iadd) 1 36 := ⟨by decide +kernel, rfl⟩
theorem dX0_add_36 : Dc cX0_add 36 (.putfield 18) 3 39 := ⟨by decide +kernel, rfl⟩
theorem dX0_add_39 : Dc cX0_add 39 (.return_) 1 40 := ⟨by decide +kernel, rfl⟩
theorem dX0_firstWrong_0 : Dc cX0_firstWrong 0 (.iconst 0) 1 1 := ⟨by decide +kernel, rfl⟩
theorem dX0_firstWrong_1 : Dc cX0_firstWrong 1 (.istore_n 2) 1 2 := ⟨by decide +kernel, rfl⟩
theorem dX0_firstWrong_2 : Dc cX0_firstWrong 2 (.iload_n 2) 1 3 := ⟨by decide +kernel, rfl⟩
theorem dX0_firstWrong_3 : Dc cX0_firstWrong 3 (.aload_n 0) 1 4 := ⟨by decide +kernel, rfl⟩
theorem dX0_firstWrong_4 : Dc cX0_firstWrong 4 (.getfield 18) 3 7 := ⟨by decide +kernel, rfl⟩
theorem dX0_firstWrong_7 : Dj cX0_firstWrong 7 (.if_icmp .ge 31) 3 10 (31) 38 := ⟨by decide +kernel, rfl, by decide⟩
theorem dX0_firstWrong_10 : Dc cX0_firstWrong 10 (.aload_n 1) 1 11 := ⟨by decide +kernel, rfl⟩
theorem dX0_firstWrong_11 : Dc cX0_firstWrong 11 (.getfield 22) 3 14 := ⟨by decide +kernel, rfl⟩
theorem dX0_firstWrong_14 : Dc cX0_firstWrong 14 (.aload_n 0) 1 15 := ⟨by decide +kernel, rfl⟩
theorem dX0_firstWrong_15 : Dc cX0_firstWrong 15 (.getfield 9) 3 18 := ⟨by decide +kernel, rfl⟩
theorem dX0_firstWrong_18 : Dc cX0_firstWrong 18 (.iload_n 2) 1 19 := ⟨by decide +kernel, rfl⟩
theorem dX0_firstWrong_19 : Dc cX0_firstWrong 19 (.iaload) 1 20 := ⟨by decide +kernel, rfl⟩
theorem dX0_firstWrong_20 : Dc cX0_firstWrong 20 (.iaload) 1 21 := ⟨by decide +kernel, rfl⟩
theorem dX0_firstWrong_21 : Dc cX0_firstWrong 21 (.aload_n 0) 1 22 := ⟨by decide +kernel, rfl⟩
theorem dX0_firstWrong_22 : Dc cX0_firstWrong 22 (.getfield 15) 3 25 := ⟨by decide +kernel, rfl⟩
theorem dX0_firstWrong_25 : Dc cX0_firstWrong 25 (.iload_n 2) 1 26 := ⟨by decide +kernel, rfl⟩
theorem dX0_firstWrong_26 : Dc cX0_firstWrong 26 (.iaload) 1 27 := ⟨by decide +kernel, rfl⟩
theorem dX0_firstWrong_27 : Dj cX0_firstWrong 27 (.if_icmp .eq 5) 3 30 (5) 32 := ⟨by decide +kernel, rfl, by decide⟩
theorem dX0_firstWrong_30 : Dc cX0_firstWrong 30 (.iload_n 2) 1 31 := ⟨by decide +kernel, rfl⟩
theorem dX0_firstWrong_31 : Dc cX0_firstWrong 31 (.ireturn) 1 32 := ⟨by decide +kernel, rfl⟩
theorem dX0_firstWrong_32 : Dc cX0_firstWrong 32 (.iinc 2 1) 3 35 := ⟨by decide +kernel, rfl⟩
theorem dX0_firstWrong_35 : Dj cX0_firstWrong 35 (.goto (-33)) 3 38 (-33) 2 := ⟨by decide +kernel, rfl, by decide⟩
theorem dX0_firstWrong_38 : Dc cX0_firstWrong 38 (.iconst (-1)) 1 39 := ⟨by decide +kernel, rfl⟩
theorem dX0_firstWrong_39 : Dc cX0_firstWrong 39 (.ireturn) 1 40 := ⟨by decide +kernel, rfl⟩
theorem dX1_init_0 : Dc cX1_init 0 (.aload_n 0) 1 1 := ⟨by decide +kernel, rfl⟩
theorem dX1_init_1 : Dc cX1_init 1 (.invokespecial 3) 3 4 := ⟨by decide +kernel, rfl⟩
theorem dX1_init_4 : Dc cX1_init 4 (.aload_n 0) 1 5 := ⟨by decide +kernel, rfl⟩
theorem dX1_init_5 : Dc cX1_init 5 (.iconst 0) 1 6 := ⟨by decide +kernel, rfl⟩
theorem dX1_init_6 : Dc cX1_init 6 (.putfield 9) 3 9 := ⟨by decide +kernel, rfl⟩
theorem dX1_init_9 : Dc cX1_init 9 (.aload_n 0) 1 10 := ⟨by decide +kernel, rfl⟩
theorem dX1_init_10 : Dc cX1_init 10 (.iconst 0) 1 11 := ⟨by decide +kernel, rfl⟩
theorem dX1_init_11 : Dc cX1_init 11 (.putfield 15) 3 14 := ⟨by decide +kernel, rfl⟩
theorem dX1_init_14 : Dc cX1_init 14 (.aload_n 0) 1 15 := ⟨by decide +kernel, rfl⟩
theorem dX1_init_15 : Dc cX1_init 15 (.iconst 5) 1 16 := ⟨by decide +kernel, rfl⟩
theorem dX1_init_16 : Dc cX1_init 16 (.newarray .int) 2 18 := ⟨by decide +kernel, rfl⟩
theorem dX1_init_18 : Dc cX1_init 18 (.putfield 18) 3 21 := ⟨by decide +kernel, rfl⟩
theorem dX1_init_21 : Dc cX1_init 21 (.aload_n 0) 1 22 := ⟨by decide +kernel, rfl⟩
theorem dX1_init_22 : Dc cX1_init 22 (.iconst 5) 1 23 := ⟨by decide +kernel, rfl⟩
theorem dX1_init_23 : Dc cX1_init 23 (.newarray .int) 2 25 := ⟨by decide +kernel, rfl⟩
theorem dX1_init_25 : Dc cX1_init 25 (.putfield 22) 3 28 := ⟨by decide +kernel, rfl⟩
theorem dX1_init_28 : Dc cX1_init 28 (.aload_n 0) 1 29 := ⟨by decide +kernel, rfl⟩
theorem dX1_init_29 : Dc cX1_init 29 (.iconst 0) 1 30 := ⟨by decide +kernel, rfl⟩
theorem dX1_init_30 : Dc cX1_init 30 (.putfield 25) 3 33 := ⟨by decide +kernel, rfl⟩
theorem dX1_init_33 : Dc cX1_init 33 (.aload_n 0) 1 34 := ⟨by decide +kernel, rfl⟩
theorem dX1_init_34 : Dc cX1_init 34 (.iconst (-1)) 1 35 := ⟨by decide +kernel, rfl⟩
theorem dX1_init_35 : Dc cX1_init 35 (.putfield 29) 3 38 := ⟨by decide +kernel, rfl⟩
theorem dX1_init_38 : Dc cX1_init 38 (.return_) 1 39 := ⟨by decide +kernel, rfl⟩
theorem dX1_begin_0 : Dc cX1_begin 0 (.aload_n 0) 1 1 := ⟨by decide +kernel, rfl⟩
theorem dX1_begin_1 : Dc cX1_begin 1 (.aload_n 1) 1 2 := ⟨by decide +kernel, rfl⟩
theorem dX1_begin_2 : Dc cX1_begin 2 (.getfield 32) 3 5 := ⟨by decide +kernel, rfl⟩
theorem dX1_begin_5 : Dc cX1_begin 5 (.putfield 9) 3 8 := ⟨by decide +kernel, rfl⟩
theorem dX1_begin_8 : Dc cX1_begin 8 (.aload_n 0) 1 9 := ⟨by decide +kernel, rfl⟩
theorem dX1_begin_9 : Dc cX1_begin 9 (.iconst 0) 1 10 := ⟨by decide +kernel, rfl⟩
theorem dX1_begin_10 : Dc cX1_begin 10 (.putfield 15) 3 13 := ⟨by decide +kernel, rfl⟩
theorem dX1_begin_13 : Dc cX1_begin 13 (.iconst 0) 1 14 := ⟨by decide +kernel, rfl⟩
theorem dX1_begin_14 : Dc cX1_begin 14 (.istore_n 2) 1 15 := ⟨by decide +kernel, rfl⟩
theorem dX1_begin_15 : Dc cX1_begin 15 (.iload_n 2) 1 16 := ⟨by decide +kernel, rfl⟩
theorem dX1_begin_16 : Dc cX1_begin 16 (.iconst 5) 1 17 := ⟨by decide +kernel, rfl⟩
theorem dX1_begin_17 : Dj cX1_begin 17 (.if_icmp .ge 40) 3 20 (40) 57 := ⟨by decide +kernel, rfl, by decide⟩
theorem dX1_begin_20 : Dc cX1_begin 20 (.aload_n 0) 1 21 := ⟨by decide +kernel, rfl⟩
theorem dX1_begin_21 : Dc cX1_begin 21 (.getfield 18) 3 24 := ⟨by decide +kernel, rfl⟩
theorem dX1_begin_24 : Dc cX1_begin 24 (.iload_n 2) 1 25 := ⟨by decide +kernel, rfl⟩
theorem dX1_begin_25 : Dc cX1_begin 25 (.iload_n 2) 1 26 := ⟨by decide +kernel, rfl⟩
theorem dX1_begin_26 : Dc cX1_begin 26 (.aload_n 1) 1 27 := ⟨by decide +kernel, rfl⟩
theorem dX1_begin_27 : Dc cX1_begin 27 (.getfield 35) 3 30 := ⟨by decide +kernel, rfl⟩
theorem dX1_begin_30 : Dj cX1_begin 30 (.if_icmp .ge 12) 3 33 (12) 42 := ⟨by decide +kernel, rfl, by decide⟩
theorem dX1_begin_33 : Dc cX1_begin 33 (.aload_n 1) 1 34 := ⟨by decide +kernel, rfl⟩
theorem dX1_begin_34 : Dc cX1_begin 34 (.getfield 38) 3 37 := ⟨by decide +kernel, rfl⟩
theorem dX1_begin_37 : Dc cX1_begin 37 (.iload_n 2) 1 38 := ⟨by decide +kernel, rfl⟩
theorem dX1_begin_38 : Dc cX1_begin 38 (.iaload) 1 39 := ⟨by decide +kernel, rfl⟩
theorem dX1_begin_39 : Dj cX1_begin 39 (.goto 4) 3 42 (4) 43 := ⟨by decide +kernel, rfl, by decide⟩
theorem dX1_begin_42 : Dc cX1_begin 42 (.iconst 0) 1 43 := ⟨by decide +kernel, rfl⟩
theorem dX1_begin_43 : Dc cX1_begin 43 (.iastore) 1 44 := ⟨by decide +kernel, rfl⟩
theorem dX1_begin_44 : Dc cX1_begin 44 (.aload_n 0) 1 45 := ⟨by decide +kernel, rfl⟩
theorem dX1_begin_45 : Dc cX1_begin 45 (.getfield 22) 3 48 := ⟨by decide +kernel, rfl⟩
theorem dX1_begin_48 : Dc cX1_begin 48 (.iload_n 2) 1 49 := ⟨by decide +kernel, rfl⟩
theorem dX1_begin_49 : Dc cX1_begin 49 (.iconst 0) 1 50 := ⟨by decide +kernel, rfl⟩
theorem dX1_begin_50 : Dc cX1_begin 50 (.iastore) 1 51 := ⟨by decide +kernel, rfl⟩
theorem dX1_begin_51 : Dc cX1_begin 51 (.iinc 2 1) 3 54 := ⟨by decide +kernel, rfl⟩
theorem dX1_begin_54 : Dj cX1_begin 54 (.goto (-39)) 3 57 (-39) 15 := ⟨by decide +kernel, rfl, by decide⟩
theorem dX1_begin_57 : Dc cX1_begin 57 (.return_) 1 58 := ⟨by decide +kernel, rfl⟩
theorem dX1_become_0 : Dc cX1_become 0 (.aload_n 0) 1 1 := ⟨by decide +kernel, rfl⟩
theorem dX1_become_1 : Dc cX1_become 1 (.aload_n 1) 1 2 := ⟨by decide +kernel, rfl⟩
theorem dX1_become_2 : Dc cX1_become 2 (.getfield 9) 3 5 := ⟨by decide +kernel, rfl⟩
theorem dX1_become_5 : Dc cX1_become 5 (.putfield 9) 3 8 := ⟨by decide +kernel, rfl⟩
theorem dX1_become_8 : Dc cX1_become 8 (.aload_n 0) 1 9 := ⟨by decide +kernel, rfl⟩
theorem dX1_become_9 : Dc cX1_become 9 (.aload_n 1) 1 10 := ⟨by decide +kernel, rfl⟩
theorem dX1_become_10 : Dc cX1_become 10 (.getfield 15) 3 13 := ⟨by decide +kernel, rfl⟩
theorem dX1_become_13 : Dc cX1_become 13 (.putfield 15) 3 16 := ⟨by decide +kernel, rfl⟩
theorem dX1_become_16 : Dc cX1_become 16 (.iconst 0) 1 17 := ⟨by decide +kernel, rfl⟩
theorem dX1_become_17 : Dc cX1_become 17 (.istore_n 2) 1 18 := ⟨by decide +kernel, rfl⟩
theorem dX1_become_18 : Dc cX1_become 18 (.iload_n 2) 1 19 := ⟨by decide +kernel, rfl⟩
theorem dX1_become_19 : Dc cX1_become 19 (.iconst 5) 1 20 := ⟨by decide +kernel, rfl⟩
theorem dX1_become_20 : Dj cX1_become 20 (.if_icmp .ge 33) 3 23 (33) 53 := ⟨by decide +kernel, rfl, by decide⟩
theorem dX1_become_23 : Dc cX1_become 23 (.aload_n 0) 1 24 := ⟨by decide +kernel, rfl⟩
theorem dX1_become_24 : Dc cX1_become 24 (.getfield 18) 3 27 := ⟨by decide +kernel, rfl⟩
theorem dX1_become_27 : Dc cX1_become 27 (.iload_n 2) 1 28 := ⟨by decide +kernel, rfl⟩
theorem dX1_become_28 : Dc cX1_become 28 (.aload_n 1) 1 29 := ⟨by decide +kernel, rfl⟩
theorem dX1_become_29 : Dc cX1_become 29 (.getfield 18) 3 32 := ⟨by decide +kernel, rfl⟩
theorem dX1_become_32 : Dc cX1_become 32 (.iload_n 2) 1 33 := ⟨by decide +kernel, rfl⟩
theorem dX1_become_33 : Dc cX1_become 33 (.iaload) 1 34 := ⟨by decide +kernel, rfl⟩
theorem dX1_become_34 : Dc cX1_become 34 (.iastore) 1 35 := ⟨by decide +kernel, rfl⟩
theorem dX1_become_35 : Dc cX1_become 35 (.aload_n 0) 1 36 := ⟨by decide +kernel, rfl⟩
theorem dX1_become_36 : Dc cX1_become 36 (.getfield 22) 3 39 := ⟨by decide +kernel, rfl⟩
theorem dX1_become_39 : Dc cX1_become 39 (.iload_n 2) 1 40 := ⟨by decide +kernel, rfl⟩
theorem dX1_become_40 : Dc cX1_become 40 (.aload_n 1) 1 41 := ⟨by decide +kernel, rfl⟩
theorem dX1_become_41 : Dc cX1_become 41 (.getfield 22) 3 44 := ⟨by decide +kernel, rfl⟩
theorem dX1_become_44 : Dc cX1_become 44 (.iload_n 2) 1 45 := ⟨by decide +kernel, rfl⟩
theorem dX1_become_45 : Dc cX1_become 45 (.iaload) 1 46 := ⟨by decide +kernel, rfl⟩
theorem dX1_become_46 : Dc cX1_become 46 (.iastore) 1 47 := ⟨by decide +kernel, rfl⟩
theorem dX1_become_47 : Dc cX1_become 47 (.iinc 2 1) 3 50 := ⟨by decide +kernel, rfl⟩
theorem dX1_become_50 : Dj cX1_become 50 (.goto (-32)) 3 53 (-32) 18 := ⟨by decide +kernel, rfl, by decide⟩
theorem dX1_become_53 : Dc cX1_become 53 (.return_) 1 54 := ⟨by decide +kernel, rfl⟩
theorem dX1_menOfAll_0 : Dc cX1_menOfAll 0 (.iconst 0) 1 1 := ⟨by decide +kernel, rfl⟩
theorem dX1_menOfAll_1 : Dc cX1_menOfAll 1 (.istore_n 1) 1 2 := ⟨by decide +kernel, rfl⟩
theorem dX1_menOfAll_2 : Dc cX1_menOfAll 2 (.iconst 0) 1 3 := ⟨by decide +kernel, rfl⟩
theorem dX1_menOfAll_3 : Dc cX1_menOfAll 3 (.istore_n 2) 1 4 := ⟨by decide +kernel, rfl⟩
theorem dX1_menOfAll_4 : Dc cX1_menOfAll 4 (.iload_n 2) 1 5 := ⟨by decide +kernel, rfl⟩
theorem dX1_menOfAll_5 : Dc cX1_menOfAll 5 (.iconst 5) 1 6 := ⟨by decide +kernel, rfl⟩
theorem dX1_menOfAll_6 : Dj cX1_menOfAll 6 (.if_icmp .ge 18) 3 9 (18) 24 := ⟨by decide +kernel, rfl, by decide⟩
theorem dX1_menOfAll_9 : Dc cX1_menOfAll 9 (.iload_n 1) 1 10 := ⟨by decide +kernel, rfl⟩
theorem dX1_menOfAll_10 : Dc cX1_menOfAll 10 (.aload_n 0) 1 11 := ⟨by decide +kernel, rfl⟩
theorem dX1_menOfAll_11 : Dc cX1_menOfAll 11 (.getfield 18) 3 14 := ⟨by decide +kernel, rfl⟩
theorem dX1_menOfAll_14 : Dc cX1_menOfAll 14 (.iload_n 2) 1 15 := ⟨by decide +kernel, rfl⟩
theorem dX1_menOfAll_15 : Dc cX1_menOfAll 15 (.iaload) 1 16 := ⟨by decide +kernel, rfl⟩
theorem dX1_menOfAll_16 : Dc cX1_menOfAll 16 (.iadd) 1 17 := ⟨by decide +kernel, rfl⟩
theorem dX1_menOfAll_17 : Dc cX1_menOfAll 17 (.istore_n 1) 1 18 := ⟨by decide +kernel, rfl⟩
theorem dX1_menOfAll_18 : Dc cX1_menOfAll 18 (.iinc 2 1) 3 21 := ⟨by decide +kernel, rfl⟩
theorem dX1_menOfAll_21 : Dj cX1_menOfAll 21 (.goto (-17)) 3 24 (-17) 4 := ⟨by decide +kernel, rfl, by decide⟩
theorem dX1_menOfAll_24 : Dc cX1_menOfAll 24 (.iload_n 1) 1 25 := ⟨by decide +kernel, rfl⟩
theorem dX1_menOfAll_25 : Dc cX1_menOfAll 25 (.ireturn) 1 26 := ⟨by decide +kernel, rfl⟩
theorem dX1_eatADay_0 : Dc cX1_eatADay 0 (.aload_n 0) 1 1 := ⟨by decide +kernel, rfl⟩
theorem dX1_eatADay_1 : Dc cX1_eatADay 1 (.dup) 1 2 := ⟨by decide +kernel, rfl⟩
theorem dX1_eatADay_2 : Dc cX1_eatADay 2 (.getfield 9) 3 5 := ⟨by decide +kernel, rfl⟩
theorem dX1_eatADay_5 : Dc cX1_eatADay 5 (.aload_n 1) 1 6 := ⟨by decide +kernel, rfl⟩
theorem dX1_eatADay_6 : Dc cX1_eatADay 6 (.aload_n 0) 1 7 := ⟨by decide +kernel, rfl⟩
theorem dX1_eatADay_7 : Dc cX1_eatADay 7 (.getfield 15) 3 10 := ⟨by decide +kernel, rfl⟩
theorem dX1_eatADay_10 : Dc cX1_eatADay 10 (.invokevirtual 39) 3 13 := ⟨by decide +kernel, rfl⟩
theorem dX1_eatADay_13 : Dc cX1_eatADay 13 (.iadd) 1 14 := ⟨by decide +kernel, rfl⟩
theorem dX1_eatADay_14 : Dc cX1_eatADay 14 (.putfield 9) 3 17 := ⟨by decide +kernel, rfl⟩
theorem dX1_eatADay_17 : Dc cX1_eatADay 17 (.aload_n 0) 1 18 := ⟨by decide +kernel, rfl⟩
theorem dX1_eatADay_18 : Dc cX1_eatADay 18 (.iconst 0) 1 19 := ⟨by decide +kernel, rfl⟩
theorem dX1_eatADay_19 : Dc cX1_eatADay 19 (.putfield 25) 3 22 := ⟨by decide +kernel, rfl⟩
theorem dX1_eatADay_22 : Dc cX1_eatADay 22 (.aload_n 0) 1 23 := ⟨by decide +kernel, rfl⟩
theorem dX1_eatADay_23 : Dc cX1_eatADay 23 (.iconst (-1)) 1 24 := ⟨by decide +kernel, rfl⟩
theorem dX1_eatADay_24 : Dc cX1_eatADay 24 (.putfield 29) 3 27 := ⟨by decide +kernel, rfl⟩
theorem dX1_eatADay_27 : Dc cX1_eatADay 27 (.iconst 0) 1 28 := ⟨by decide +kernel, rfl⟩
theorem dX1_eatADay_28 : Dc cX1_eatADay 28 (.istore_n 3) 1 29 := ⟨by decide +kernel, rfl⟩
theorem dX1_eatADay_29 : Dc cX1_eatADay 29 (.iload_n 3) 1 30 := ⟨by decide +kernel, rfl⟩
theorem dX1_eatADay_30 : Dc cX1_eatADay 30 (.aload_n 1) 1 31 := ⟨by decide +kernel, rfl⟩
theorem dX1_eatADay_31 : Dc cX1_eatADay 31 (.getfield 35) 3 34 := ⟨by decide +kernel, rfl⟩
theorem dX1_eatADay_34 : Dj cX1_eatADay 34 (.if_icmp .ge 39) 3 37 (39) 73 := ⟨by decide +kernel, rfl, by decide⟩
theorem dX1_eatADay_37 : Dc cX1_eatADay 37 (.aload_n 0) 1 38 := ⟨by decide +kernel, rfl⟩
theorem dX1_eatADay_38 : Dc cX1_eatADay 38 (.iload_n 3) 1 39 := ⟨by decide +kernel, rfl⟩
theorem dX1_eatADay_39 : Dc cX1_eatADay 39 (.iload_n 2) 1 40 := ⟨by decide +kernel, rfl⟩
theorem dX1_eatADay_40 : Dc cX1_eatADay 40 (.invokevirtual 43) 3 43 := ⟨by decide +kernel, rfl⟩
theorem dX1_eatADay_43 : Dj cX1_eatADay 43 (.ifCond .eq 13) 3 46 (13) 56 := ⟨by decide +kernel, rfl, by decide⟩
theorem dX1_eatADay_46 : Dc cX1_eatADay 46 (.aload_n 0) 1 47 := ⟨by decide +kernel, rfl⟩
theorem dX1_eatADay_47 : Dc cX1_eatADay 47 (.getfield 22) 3 50 := ⟨by decide +kernel, rfl⟩
theorem dX1_eatADay_50 : Dc cX1_eatADay 50 (.iload_n 3) 1 51 := ⟨by decide +kernel, rfl⟩
theorem dX1_eatADay_51 : Dc cX1_eatADay 51 (.iconst 0) 1 52 := ⟨by decide +kernel, rfl⟩
theorem dX1_eatADay_52 : Dc cX1_eatADay 52 (.iastore) 1 53 := ⟨by decide +kernel, rfl⟩
theorem dX1_eatADay_53 : Dj cX1_eatADay 53 (.goto 14) 3 56 (14) 67 := ⟨by decide +kernel, rfl, by decide⟩
theorem dX1_eatADay_56 : Dc cX1_eatADay 56 (.aload_n 0) 1 57 := ⟨by decide +kernel, rfl⟩
theorem dX1_eatADay_57 : Dc cX1_eatADay 57 (.iload_n 3) 1 58 := ⟨by decide +kernel, rfl⟩
theorem dX1_eatADay_58 : Dc cX1_eatADay 58 (.aload_n 1) 1 59 := ⟨by decide +kernel, rfl⟩
theorem dX1_eatADay_59 : Dc cX1_eatADay 59 (.getfield 47) 3 62 := ⟨by decide +kernel, rfl⟩
theorem dX1_eatADay_62 : Dc cX1_eatADay 62 (.iload_n 3) 1 63 := ⟨by decide +kernel, rfl⟩
theorem dX1_eatADay_63 : Dc cX1_eatADay 63 (.iaload) 1 64 := ⟨by decide +kernel, rfl⟩
theorem dX1_eatADay_64 : Dc cX1_eatADay 64 (.invokevirtual 50) 3 67 := ⟨by decide +kernel, rfl⟩
theorem dX1_eatADay_67 : Dc cX1_eatADay 67 (.iinc 3 1) 3 70 := ⟨by decide +kernel, rfl⟩
theorem dX1_eatADay_70 : Dj cX1_eatADay 70 (.goto (-41)) 3 73 (-41) 29 := ⟨by decide +kernel, rfl, by decide⟩
theorem dX1_eatADay_73 : Dc cX1_eatADay 73 (.aload_n 0) 1 74 := ⟨by decide +kernel, rfl⟩
theorem dX1_eatADay_74 : Dc cX1_eatADay 74 (.dup) 1 75 := ⟨by decide +kernel, rfl⟩
theorem dX1_eatADay_75 : Dc cX1_eatADay 75 (.getfield 15) 3 78 := ⟨by decide +kernel, rfl⟩
theorem dX1_eatADay_78 : Dc cX1_eatADay 78 (.iconst 1) 1 79 := ⟨by decide +kernel, rfl⟩
theorem dX1_eatADay_79 : Dc cX1_eatADay 79 (.iadd) 1 80 := ⟨by decide +kernel, rfl⟩
theorem dX1_eatADay_80 : Dc cX1_eatADay 80 (.putfield 15) 3 83 := ⟨by decide +kernel, rfl⟩
theorem dX1_eatADay_83 : Dc cX1_eatADay 83 (.return_) 1 84 := ⟨by decide +kernel, rfl⟩
theorem dX1_isFed_0 : Dc cX1_isFed 0 (.iload_n 2) 1 1 := ⟨by decide +kernel, rfl⟩
theorem dX1_isFed_1 : Dc cX1_isFed 1 (.aload_n 0) 1 2 := ⟨by decide +kernel, rfl⟩
theorem dX1_isFed_2 : Dc cX1_isFed 2 (.getfield 18) 3 5 := ⟨by decide +kernel, rfl⟩
theorem dX1_isFed_5 : Dc cX1_isFed 5 (.iload_n 1) 1 6 := ⟨by decide +kernel, rfl⟩
theorem dX1_isFed_6 : Dc cX1_isFed 6 (.iaload) 1 7 := ⟨by decide +kernel, rfl⟩
theorem dX1_isFed_7 : Dc cX1_isFed 7 (.imul) 1 8 := ⟨by decide +kernel, rfl⟩
theorem dX1_isFed_8 : Dc cX1_isFed 8 (.istore_n 3) 1 9 := ⟨by decide +kernel, rfl⟩
theorem dX1_isFed_9 : Dc cX1_isFed 9 (.iload_n 3) 1 10 := ⟨by decide +kernel, rfl⟩
theorem dX1_isFed_10 : Dc cX1_isFed 10 (.aload_n 0) 1 11 := ⟨by decide +kernel, rfl⟩
theorem dX1_isFed_11 : Dc cX1_isFed 11 (.getfield 9) 3 14 := ⟨by decide +kernel, rfl⟩
theorem dX1_isFed_14 : Dj cX1_isFed 14 (.if_icmp .le 5) 3 17 (5) 19 := ⟨by decide +kernel, rfl, by decide⟩
theorem dX1_isFed_17 : Dc cX1_isFed 17 (.iconst 0) 1 18 := ⟨by decide +kernel, rfl⟩
theorem dX1_isFed_18 : Dc cX1_isFed 18 (.ireturn) 1 19 := ⟨by decide +kernel, rfl⟩
theorem dX1_isFed_19 : Dc cX1_isFed 19 (.aload_n 0) 1 20 := ⟨by decide +kernel, rfl⟩
theorem dX1_isFed_20 : Dc cX1_isFed 20 (.dup) 1 21 := ⟨by decide +kernel, rfl⟩
theorem dX1_isFed_21 : Dc cX1_isFed 21 (.getfield 9) 3 24 := ⟨by decide +kernel, rfl⟩
theorem dX1_isFed_24 : Dc cX1_isFed 24 (.iload_n 3) 1 25 := ⟨by decide +kernel, rfl⟩
theorem dX1_isFed_25 : Dc cX1_isFed 25 (.isub) 1 26 := ⟨by decide +kernel, rfl⟩
theorem dX1_isFed_26 : Dc cX1_isFed 26 (.putfield 9) 3 29 := ⟨by decide +kernel, rfl⟩
theorem dX1_isFed_29 : Dc cX1_isFed 29 (.iload_n 2) 1 30 := ⟨by decide +kernel, rfl⟩
theorem dX1_isFed_30 : Dc cX1_isFed 30 (.iconst 2) 1 31 := ⟨by decide +kernel, rfl⟩
theorem dX1_isFed_31 : Dj cX1_isFed 31 (.if_icmp .lt 7) 3 34 (7) 38 := ⟨by decide +kernel, rfl, by decide⟩
theorem dX1_isFed_34 : Dc cX1_isFed 34 (.iconst 1) 1 35 := ⟨by decide +kernel, rfl⟩
theorem dX1_isFed_35 : Dj cX1_isFed 35 (.goto 4) 3 38 (4) 39 := ⟨by decide +kernel, rfl, by decide⟩
theorem dX1_isFed_38 : Dc cX1_isFed 38 (.iconst 0) 1 39 := ⟨by decide +kernel, rfl⟩
theorem dX1_isFed_39 : Dc cX1_isFed 39 (.ireturn) 1 40 := ⟨by decide +kernel, rfl⟩
theorem dX1_starve_0 : Dc cX1_starve 0 (.aload_n 0) 1 1 := ⟨by decide +kernel, rfl⟩
theorem dX1_starve_1 : Dc cX1_starve 1 (.getfield 22) 3 4 := ⟨by decide +kernel, rfl⟩
theorem dX1_starve_4 : Dc cX1_starve 4 (.iload_n 1) 1 5 := ⟨by decide +kernel, rfl⟩
theorem dX1_starve_5 : Dc cX1_starve 5 (.dup2) 1 6 := ⟨by decide +kernel, rfl⟩
theorem dX1_starve_6 : Dc cX1_starve 6 (.iaload) 1 7 := ⟨by decide +kernel, rfl⟩
theorem dX1_starve_7 : Dc cX1_starve 7 (.iconst 1) 1 8 := ⟨by decide +kernel, rfl⟩
theorem dX1_starve_8 : Dc cX1_starve 8 (.iadd) 1 9 := ⟨by decide +kernel, rfl⟩
theorem dX1_starve_9 : Dc cX1_starve 9 (.iastore) 1 10 := ⟨by decide +kernel, rfl⟩
theorem dX1_starve_10 : Dc cX1_starve 10 (.aload_n 0) 1 11 := ⟨by decide +kernel, rfl⟩
theorem dX1_starve_11 : Dc cX1_starve 11 (.getfield 18) 3 14 := ⟨by decide +kernel, rfl⟩
theorem dX1_starve_14 : Dc cX1_starve 14 (.iload_n 1) 1 15 := ⟨by decide +kernel, rfl⟩
theorem dX1_starve_15 : Dc cX1_starve 15 (.iaload) 1 16 := ⟨by decide +kernel, rfl⟩
theorem dX1_starve_16 : Dj cX1_starve 16 (.ifCond .ne 4) 3 19 (4) 20 := ⟨by decide +kernel, rfl, by decide⟩
theorem dX1_starve_19 : Dc cX1_starve 19 (.return_) 1 20 := ⟨by decide +kernel, rfl⟩
theorem dX1_starve_20 : Dc cX1_starve 20 (.aload_n 0) 1 21 := ⟨by decide +kernel, rfl⟩
theorem dX1_starve_21 : Dc cX1_starve 21 (.iconst 1) 1 22 := ⟨by decide +kernel, rfl⟩
theorem dX1_starve_22 : Dc cX1_starve 22 (.putfield 25) 3 25 := ⟨by decide +kernel, rfl⟩
theorem dX1_starve_25 : Dc cX1_starve 25 (.aload_n 0) 1 26 := ⟨by decide +kernel, rfl⟩
theorem dX1_starve_26 : Dc cX1_starve 26 (.getfield 22) 3 29 := ⟨by decide +kernel, rfl⟩
theorem dX1_starve_29 : Dc cX1_starve 29 (.iload_n 1) 1 30 := ⟨by decide +kernel, rfl⟩
theorem dX1_starve_30 : Dc cX1_starve 30 (.iaload) 1 31 := ⟨by decide +kernel, rfl⟩
theorem dX1_starve_31 : Dc cX1_starve 31 (.iload_n 2) 1 32 := ⟨by decide +kernel, rfl⟩
theorem dX1_starve_32 : Dj cX1_starve 32 (.if_icmp .le 44) 3 35 (44) 76 := ⟨by decide +kernel, rfl, by decide⟩
theorem dX1_starve_35 : Dc cX1_starve 35 (.aload_n 0) 1 36 := ⟨by decide +kernel, rfl⟩
theorem dX1_starve_36 : Dc cX1_starve 36 (.getfield 18) 3 39 := ⟨by decide +kernel, rfl⟩
theorem dX1_starve_39 : Dc cX1_starve 39 (.iload_n 1) 1 40 := ⟨by decide +kernel, rfl⟩
theorem dX1_starve_40 : Dc cX1_starve 40 (.dup2) 1 41 := ⟨by decide +kernel, rfl⟩
theorem dX1_starve_41 : Dc cX1_starve 41 (.iaload) 1 42 := ⟨by decide +kernel, rfl⟩
theorem dX1_starve_42 : Dc cX1_starve 42 (.aload_n 0) 1 43 := ⟨by decide +kernel, rfl⟩
theorem dX1_starve_43 : Dc cX1_starve 43 (.getfield 18) 3 46 := ⟨by decide +kernel, rfl⟩
theorem dX1_starve_46 : Dc cX1_starve 46 (.iload_n 1) 1 47 := ⟨by decide +kernel, rfl⟩
theorem dX1_starve_47 : Dc cX1_starve 47 (.iaload) 1 48 := ⟨by decide +kernel, rfl⟩
theorem dX1_starve_48 : Dc cX1_starve 48 (.aload_n 0) 1 49 := ⟨by decide +kernel, rfl⟩
theorem dX1_starve_49 : Dc cX1_starve 49 (.getfield 18) 3 52 := ⟨by decide +kernel, rfl⟩
theorem dX1_starve_52 : Dc cX1_starve 52 (.iload_n 1) 1 53 := ⟨by decide +kernel, rfl⟩
theorem dX1_starve_53 : Dc cX1_starve 53 (.iaload) 1 54 := ⟨by decide +kernel, rfl⟩
theorem dX1_starve_54 : Dc cX1_starve 54 (.iconst 5) 1 55 := ⟨by decide +kernel, rfl⟩
theorem dX1_starve_55 : Dc cX1_starve 55 (.idiv) 1 56 := ⟨by decide +kernel, rfl⟩
theorem dX1_starve_56 : Dc cX1_starve 56 (.iconst 1) 1 57 := ⟨by decide +kernel, rfl⟩
theorem dX1_starve_57 : Dc cX1_starve 57 (.iadd) 1 58 := ⟨by decide +kernel, rfl⟩
theorem dX1_starve_58 : Dc cX1_starve 58 (.invokestatic 54) 3 61 := ⟨by decide +kernel, rfl⟩
theorem dX1_starve_61 : Dc cX1_starve 61 (.isub) 1 62 := ⟨by decide +kernel, rfl⟩
theorem dX1_starve_62 : Dc cX1_starve 62 (.iastore) 1 63 := ⟨by decide +kernel, rfl⟩
theorem dX1_starve_63 : Dc cX1_starve 63 (.aload_n 0) 1 64 := ⟨by decide +kernel, rfl⟩
theorem dX1_starve_64 : Dc cX1_starve 64 (.getfield 29) 3 67 := ⟨by decide +kernel, rfl⟩
theorem dX1_starve_67 : Dc cX1_starve 67 (.iconst (-1)) 1 68 := ⟨by decide +kernel, rfl⟩
theorem dX1_starve_68 : Dj cX1_starve 68 (.if_icmp .ne 8) 3 71 (8) 76 := ⟨by decide +kernel, rfl, by decide⟩
theorem dX1_starve_71 : Dc cX1_starve 71 (.aload_n 0) 1 72 := ⟨by decide +kernel, rfl⟩
theorem dX1_starve_72 : Dc cX1_starve 72 (.iload_n 1) 1 73 := ⟨by decide +kernel, rfl⟩
theorem dX1_starve_73 : Dc cX1_starve 73 (.putfield 29) 3 76 := ⟨by decide +kernel, rfl⟩
theorem dX1_starve_76 : Dc cX1_starve 76 (.return_) 1 77 := ⟨by decide +kernel, rfl⟩
theorem dX2_init_0 : Dc cX2_init 0 (.aload_n 0) 1 1 := ⟨by decide +kernel, rfl⟩
theorem dX2_init_1 : Dc cX2_init 1 (.invokespecial 1) 3 4 := ⟨by decide +kernel, rfl⟩
theorem dX2_init_4 : Dc cX2_init 4 (.aload_n 0) 1 5 := ⟨by decide +kernel, rfl⟩
theorem dX2_init_5 : Dc cX2_init 5 (.new 7) 3 8 := ⟨by decide +kernel, rfl⟩
theorem dX2_init_8 : Dc cX2_init 8 (.dup) 1 9 := ⟨by decide +kernel, rfl⟩
theorem dX2_init_9 : Dc cX2_init 9 (.invokespecial 9) 3 12 := ⟨by decide +kernel, rfl⟩
theorem dX2_init_12 : Dc cX2_init 12 (.putfield 10) 3 15 := ⟨by decide +kernel, rfl⟩
theorem dX2_init_15 : Dc cX2_init 15 (.aload_n 0) 1 16 := ⟨by decide +kernel, rfl⟩
theorem dX2_init_16 : Dc cX2_init 16 (.iconst 0) 1 17 := ⟨by decide +kernel, rfl⟩
theorem dX2_init_17 : Dc cX2_init 17 (.putfield 16) 3 20 := ⟨by decide +kernel, rfl⟩
theorem dX2_init_20 : Dc cX2_init 20 (.aload_n 0) 1 21 := ⟨by decide +kernel, rfl⟩
theorem dX2_init_21 : Dc cX2_init 21 (.iconst 0) 1 22 := ⟨by decide +kernel, rfl⟩
theorem dX2_init_22 : Dc cX2_init 22 (.putfield 20) 3 25 := ⟨by decide +kernel, rfl⟩
theorem dX2_init_25 : Dc cX2_init 25 (.return_) 1 26 := ⟨by decide +kernel, rfl⟩
theorem dX3_init_0 : Dc cX3_init 0 (.aload_n 0) 1 1 := ⟨by decide +kernel, rfl⟩
theorem dX3_init_1 : Dc cX3_init 1 (.invokespecial 3) 3 4 := ⟨by decide +kernel, rfl⟩
theorem dX3_init_4 : Dc cX3_init 4 (.aload_n 0) 1 5 := ⟨by decide +kernel, rfl⟩
theorem dX3_init_5 : Dc cX3_init 5 (.bipush 20) 2 7 := ⟨by decide +kernel, rfl⟩
theorem dX3_init_7 : Dc cX3_init 7 (.anewarray 9) 3 10 := ⟨by decide +kernel, rfl⟩
theorem dX3_init_10 : Dc cX3_init 10 (.putfield 11) 3 13 := ⟨by decide +kernel, rfl⟩
theorem dX3_init_13 : Dc cX3_init 13 (.aload_n 0) 1 14 := ⟨by decide +kernel, rfl⟩
theorem dX3_init_14 : Dc cX3_init 14 (.iconst 0) 1 15 := ⟨by decide +kernel, rfl⟩
theorem dX3_init_15 : Dc cX3_init 15 (.putfield 17) 3 18 := ⟨by decide +kernel, rfl⟩
theorem dX3_init_18 : Dc cX3_init 18 (.aload_n 0) 1 19 := ⟨by decide +kernel, rfl⟩
theorem dX3_init_19 : Dc cX3_init 19 (.iconst 0) 1 20 := ⟨by decide +kernel, rfl⟩
theorem dX3_init_20 : Dc cX3_init 20 (.putfield 21) 3 23 := ⟨by decide +kernel, rfl⟩
theorem dX3_init_23 : Dc cX3_init 23 (.iconst 0) 1 24 := ⟨by decide +kernel, rfl⟩
theorem dX3_init_24 : Dc cX3_init 24 (.istore_n 1) 1 25 := ⟨by decide +kernel, rfl⟩
theorem dX3_init_25 : Dc cX3_init 25 (.iload_n 1) 1 26 := ⟨by decide +kernel, rfl⟩
theorem dX3_init_26 : Dc cX3_init 26 (.bipush 20) 2 28 := ⟨by decide +kernel, rfl⟩
theorem dX3_init_28 : Dj cX3_init 28 (.if_icmp .ge 22) 3 31 (22) 50 := ⟨by decide +kernel, rfl, by decide⟩
theorem dX3_init_31 : Dc cX3_init 31 (.aload_n 0) 1 32 := ⟨by decide +kernel, rfl⟩
theorem dX3_init_32 : Dc cX3_init 32 (.getfield 11) 3 35 := ⟨by decide +kernel, rfl⟩
theorem dX3_init_35 : Dc cX3_init 35 (.iload_n 1) 1 36 := ⟨by decide +kernel, rfl⟩
theorem dX3_init_36 : Dc cX3_init 36 (.new 9) 3 39 := ⟨by decide +kernel, rfl⟩
theorem dX3_init_39 : Dc cX3_init 39 (.dup) 1 40 := ⟨by decide +kernel, rfl⟩
theorem dX3_init_40 : Dc cX3_init 40 (.invokespecial 24) 3 43 := ⟨by decide +kernel, rfl⟩
theorem dX3_init_43 : Dc cX3_init 43 (.aastore) 1 44 := ⟨by decide +kernel, rfl⟩
theorem dX3_init_44 : Dc cX3_init 44 (.iinc 1 1) 3 47 := ⟨by decide +kernel, rfl⟩
theorem dX3_init_47 : Dj cX3_init 47 (.goto (-22)) 3 50 (-22) 25 := ⟨by decide +kernel, rfl, by decide⟩
theorem dX3_init_50 : Dc cX3_init 50 (.return_) 1 51 := ⟨by decide +kernel, rfl⟩
theorem dX3_clear_0 : Dc cX3_clear 0 (.aload_n 0) 1 1 := ⟨by decide +kernel, rfl⟩
theorem dX3_clear_1 : Dc cX3_clear 1 (.iconst 0) 1 2 := ⟨by decide +kernel, rfl⟩
theorem dX3_clear_2 : Dc cX3_clear 2 (.putfield 21) 3 5 := ⟨by decide +kernel, rfl⟩
theorem dX3_clear_5 : Dc cX3_clear 5 (.return_) 1 6 := ⟨by decide +kernel, rfl⟩
theorem dX3_push_0 : Dc cX3_push 0 (.aload_n 0) 1 1 := ⟨by decide +kernel, rfl⟩
theorem dX3_push_1 : Dc cX3_push 1 (.getfield 11) 3 4 := ⟨by decide +kernel, rfl⟩
theorem dX3_push_4 : Dc cX3_push 4 (.aload_n 0) 1 5 := ⟨by decide +kernel, rfl⟩
theorem dX3_push_5 : Dc cX3_push 5 (.getfield 17) 3 8 := ⟨by decide +kernel, rfl⟩
theorem dX3_push_8 : Dc cX3_push 8 (.aaload) 1 9 := ⟨by decide +kernel, rfl⟩
theorem dX3_push_9 : Dc cX3_push 9 (.aload_n 1) 1 10 := ⟨by decide +kernel, rfl⟩
theorem dX3_push_10 : Dc cX3_push 10 (.invokevirtual 25) 3 13 := ⟨by decide +kernel, rfl⟩
theorem dX3_push_13 : Dc cX3_push 13 (.aload_n 0) 1 14 := ⟨by decide +kernel, rfl⟩
theorem dX3_push_14 : Dc cX3_push 14 (.aload_n 0) 1 15 := ⟨by decide +kernel, rfl⟩
theorem dX3_push_15 : Dc cX3_push 15 (.getfield 17) 3 18 := ⟨by decide +kernel, rfl⟩
theorem dX3_push_18 : Dc cX3_push 18 (.iconst 1) 1 19 := ⟨by decide +kernel, rfl⟩
theorem dX3_push_19 : Dc cX3_push 19 (.iadd) 1 20 := ⟨by decide +kernel, rfl⟩
theorem dX3_push_20 : Dc cX3_push 20 (.bipush 20) 2 22 := ⟨by decide +kernel, rfl⟩
theorem dX3_push_22 : Dc cX3_push 22 (.irem) 1 23 := ⟨by decide +kernel, rfl⟩
theorem dX3_push_23 : Dc cX3_push 23 (.putfield 17) 3 26 := ⟨by decide +kernel, rfl⟩
theorem dX3_push_26 : Dc cX3_push 26 (.aload_n 0) 1 27 := ⟨by decide +kernel, rfl⟩
theorem dX3_push_27 : Dc cX3_push 27 (.bipush 20) 2 29 := ⟨by decide +kernel, rfl⟩
theorem dX3_push_29 : Dc cX3_push 29 (.aload_n 0) 1 30 := ⟨by decide +kernel, rfl⟩
theorem dX3_push_30 : Dc cX3_push 30 (.getfield 21) 3 33 := ⟨by decide +kernel, rfl⟩
theorem dX3_push_33 : Dc cX3_push 33 (.iconst 1) 1 34 := ⟨by decide +kernel, rfl⟩
theorem dX3_push_34 : Dc cX3_push 34 (.iadd) 1 35 := ⟨by decide +kernel, rfl⟩
theorem dX3_push_35 : Dc cX3_push 35 (.invokestatic 29) 3 38 := ⟨by decide +kernel, rfl⟩
theorem dX3_push_38 : Dc cX3_push 38 (.putfield 21) 3 41 := ⟨by decide +kernel, rfl⟩
theorem dX3_push_41 : Dc cX3_push 41 (.return_) 1 42 := ⟨by decide +kernel, rfl⟩
theorem dX3_popInto_0 : Dc cX3_popInto 0 (.aload_n 0) 1 1 := ⟨by decide +kernel, rfl⟩
theorem dX3_popInto_1 : Dc cX3_popInto 1 (.getfield 21) 3 4 := ⟨by decide +kernel, rfl⟩
theorem dX3_popInto_4 : Dj cX3_popInto 4 (.ifCond .le 42) 3 7 (42) 46 := ⟨by decide +kernel, rfl, by decide⟩
theorem dX3_popInto_7 : Dc cX3_popInto 7 (.aload_n 0) 1 8 := ⟨by decide +kernel, rfl⟩
theorem dX3_popInto_8 : Dc cX3_popInto 8 (.dup) 1 9 := ⟨by decide +kernel, rfl⟩
theorem dX3_popInto_9 : Dc cX3_popInto 9 (.getfield 21) 3 12 := ⟨by decide +kernel, rfl⟩
theorem dX3_popInto_12 : Dc cX3_popInto 12 (.iconst 1) 1 13 := ⟨by decide +kernel, rfl⟩
theorem dX3_popInto_13 : Dc cX3_popInto 13 (.isub) 1 14 := ⟨by decide +kernel, rfl⟩
theorem dX3_popInto_14 : Dc cX3_popInto 14 (.putfield 21) 3 17 := ⟨by decide +kernel, rfl⟩
theorem dX3_popInto_17 : Dc cX3_popInto 17 (.aload_n 0) 1 18 := ⟨by decide +kernel, rfl⟩
theorem dX3_popInto_18 : Dc cX3_popInto 18 (.aload_n 0) 1 19 := ⟨by decide +kernel, rfl⟩
theorem dX3_popInto_19 : Dc cX3_popInto 19 (.getfield 17) 3 22 := ⟨by decide +kernel, rfl⟩
theorem dX3_popInto_22 : Dc cX3_popInto 22 (.bipush 20) 2 24 := ⟨by decide +kernel, rfl⟩
theorem dX3_popInto_24 : Dc cX3_popInto 24 (.iadd) 1 25 := ⟨by decide +kernel, rfl⟩
theorem dX3_popInto_25 : Dc cX3_popInto 25 (.iconst 1) 1 26 := ⟨by decide +kernel, rfl⟩
theorem dX3_popInto_26 : Dc cX3_popInto 26 (.isub) 1 27 := ⟨by decide +kernel, rfl⟩
theorem dX3_popInto_27 : Dc cX3_popInto 27 (.bipush 20) 2 29 := ⟨by decide +kernel, rfl⟩
theorem dX3_popInto_29 : Dc cX3_popInto 29 (.irem) 1 30 := ⟨by decide +kernel, rfl⟩
theorem dX3_popInto_30 : Dc cX3_popInto 30 (.putfield 17) 3 33 := ⟨by decide +kernel, rfl⟩
theorem dX3_popInto_33 : Dc cX3_popInto 33 (.aload_n 1) 1 34 := ⟨by decide +kernel, rfl⟩
theorem dX3_popInto_34 : Dc cX3_popInto 34 (.aload_n 0) 1 35 := ⟨by decide +kernel, rfl⟩
theorem dX3_popInto_35 : Dc cX3_popInto 35 (.getfield 11) 3 38 := ⟨by decide +kernel, rfl⟩
theorem dX3_popInto_38 : Dc cX3_popInto 38 (.aload_n 0) 1 39 := ⟨by decide +kernel, rfl⟩
theorem dX3_popInto_39 : Dc cX3_popInto 39 (.getfield 17) 3 42 := ⟨by decide +kernel, rfl⟩
theorem dX3_popInto_42 : Dc cX3_popInto 42 (.aaload) 1 43 := ⟨by decide +kernel, rfl⟩
theorem dX3_popInto_43 : Dc cX3_popInto 43 (.invokevirtual 25) 3 46 := ⟨by decide +kernel, rfl⟩
theorem dX3_popInto_46 : Dc cX3_popInto 46 (.return_) 1 47 := ⟨by decide +kernel, rfl⟩
theorem dX4_init_0 : Dc cX4_init 0 (.aload_n 0) 1 1 := ⟨by decide +kernel, rfl⟩
theorem dX4_init_1 : Dc cX4_init 1 (.invokespecial 3) 3 4 := ⟨by decide +kernel, rfl⟩
theorem dX4_init_4 : Dc cX4_init 4 (.aload_n 0) 1 5 := ⟨by decide +kernel, rfl⟩
theorem dX4_init_5 : Dc cX4_init 5 (.iconst 3) 1 6 := ⟨by decide +kernel, rfl⟩
theorem dX4_init_6 : Dc cX4_init 6 (.newarray .int) 2 8 := ⟨by decide +kernel, rfl⟩
theorem dX4_init_8 : Dc cX4_init 8 (.putfield 11) 3 11 := ⟨by decide +kernel, rfl⟩
theorem dX4_init_11 : Dc cX4_init 11 (.aload_n 0) 1 12 := ⟨by decide +kernel, rfl⟩
theorem dX4_init_12 : Dc cX4_init 12 (.iconst 0) 1 13 := ⟨by decide +kernel, rfl⟩
theorem dX4_init_13 : Dc cX4_init 13 (.putfield 15) 3 16 := ⟨by decide +kernel, rfl⟩
theorem dX4_init_16 : Dc cX4_init 16 (.aload_n 0) 1 17 := ⟨by decide +kernel, rfl⟩
theorem dX4_init_17 : Dc cX4_init 17 (.iconst 0) 1 18 := ⟨by decide +kernel, rfl⟩
theorem dX4_init_18 : Dc cX4_init 18 (.putfield 19) 3 21 := ⟨by decide +kernel, rfl⟩
theorem dX4_init_21 : Dc cX4_init 21 (.aload_n 0) 1 22 := ⟨by decide +kernel, rfl⟩
theorem dX4_init_22 : Dc cX4_init 22 (.iconst (-1)) 1 23 := ⟨by decide +kernel, rfl⟩
theorem dX4_init_23 : Dc cX4_init 23 (.putfield 22) 3 26 := ⟨by decide +kernel, rfl⟩
theorem dX4_init_26 : Dc cX4_init 26 (.return_) 1 27 := ⟨by decide +kernel, rfl⟩
theorem dX4_readTown_0 : Dc cX4_readTown 0 (.aload_n 0) 1 1 := ⟨by decide +kernel, rfl⟩
theorem dX4_readTown_1 : Dc cX4_readTown 1 (.iconst 0) 1 2 := ⟨by decide +kernel, rfl⟩
theorem dX4_readTown_2 : Dc cX4_readTown 2 (.putfield 15) 3 5 := ⟨by decide +kernel, rfl⟩
theorem dX4_readTown_5 : Dc cX4_readTown 5 (.aload_n 0) 1 6 := ⟨by decide +kernel, rfl⟩
theorem dX4_readTown_6 : Dc cX4_readTown 6 (.iconst 0) 1 7 := ⟨by decide +kernel, rfl⟩
theorem dX4_readTown_7 : Dc cX4_readTown 7 (.putfield 19) 3 10 := ⟨by decide +kernel, rfl⟩
theorem dX4_readTown_10 : Dc cX4_readTown 10 (.aload_n 0) 1 11 := ⟨by decide +kernel, rfl⟩
theorem dX4_readTown_11 : Dc cX4_readTown 11 (.iconst (-1)) 1 12 := ⟨by decide +kernel, rfl⟩
theorem dX4_readTown_12 : Dc cX4_readTown 12 (.putfield 22) 3 15 := ⟨by decide +kernel, rfl⟩
theorem dX4_readTown_15 : Dc cX4_readTown 15 (.aload_n 2) 1 16 := ⟨by decide +kernel, rfl⟩
theorem dX4_readTown_16 : Dc cX4_readTown 16 (.invokevirtual 25) 3 19 := ⟨by decide +kernel, rfl⟩
theorem dX4_readTown_19 : Dc cX4_readTown 19 (.aload_n 0) 1 20 := ⟨by decide +kernel, rfl⟩
theorem dX4_readTown_20 : Dc cX4_readTown 20 (.aload_n 1) 1 21 := ⟨by decide +kernel, rfl⟩
theorem dX4_readTown_21 : Dc cX4_readTown 21 (.invokevirtual 30) 3 24 := ⟨by decide +kernel, rfl⟩
theorem dX4_readTown_24 : Dc cX4_readTown 24 (.iconst 0) 1 25 := ⟨by decide +kernel, rfl⟩
theorem dX4_readTown_25 : Dc cX4_readTown 25 (.istore_n 3) 1 26 := ⟨by decide +kernel, rfl⟩
theorem dX4_readTown_26 : Dc cX4_readTown 26 (.iload_n 3) 1 27 := ⟨by decide +kernel, rfl⟩
theorem dX4_readTown_27 : Dc cX4_readTown 27 (.sipush 240) 3 30 := ⟨by decide +kernel, rfl⟩
theorem dX4_readTown_30 : Dj cX4_readTown 30 (.if_icmp .ge 38) 3 33 (38) 68 := ⟨by decide +kernel, rfl, by decide⟩
theorem dX4_readTown_33 : Dc cX4_readTown 33 (.aload_n 0) 1 34 := ⟨by decide +kernel, rfl⟩
theorem dX4_readTown_34 : Dc cX4_readTown 34 (.getfield 15) 3 37 := ⟨by decide +kernel, rfl⟩
theorem dX4_readTown_37 : Dc cX4_readTown 37 (.aload_n 1) 1 38 := ⟨by decide +kernel, rfl⟩
theorem dX4_readTown_38 : Dc cX4_readTown 38 (.getfield 34) 3 41 := ⟨by decide +kernel, rfl⟩
theorem dX4_readTown_41 : Dj cX4_readTown 41 (.if_icmp .ge 27) 3 44 (27) 68 := ⟨by decide +kernel, rfl, by decide⟩
theorem dX4_readTown_44 : Dc cX4_readTown 44 (.aload_n 0) 1 45 := ⟨by decide +kernel, rfl⟩
theorem dX4_readTown_45 : Dc cX4_readTown 45 (.getfield 19) 3 48 := ⟨by decide +kernel, rfl⟩
theorem dX4_readTown_48 : Dj cX4_readTown 48 (.ifCond .ne 20) 3 51 (20) 68 := ⟨by decide +kernel, rfl, by decide⟩
theorem dX4_readTown_51 : Dc cX4_readTown 51 (.aload_n 0) 1 52 := ⟨by decide +kernel, rfl⟩
theorem dX4_readTown_52 : Dc cX4_readTown 52 (.aload_n 1) 1 53 := ⟨by decide +kernel, rfl⟩
theorem dX4_readTown_53 : Dc cX4_readTown 53 (.aload_n 2) 1 54 := ⟨by decide +kernel, rfl⟩
theorem dX4_readTown_54 : Dc cX4_readTown 54 (.invokevirtual 39) 3 57 := ⟨by decide +kernel, rfl⟩
theorem dX4_readTown_57 : Dc cX4_readTown 57 (.aload_n 0) 1 58 := ⟨by decide +kernel, rfl⟩
theorem dX4_readTown_58 : Dc cX4_readTown 58 (.aload_n 1) 1 59 := ⟨by decide +kernel, rfl⟩
theorem dX4_readTown_59 : Dc cX4_readTown 59 (.invokevirtual 30) 3 62 := ⟨by decide +kernel, rfl⟩
theorem dX4_readTown_62 : Dc cX4_readTown 62 (.iinc 3 1) 3 65 := ⟨by decide +kernel, rfl⟩
theorem dX4_readTown_65 : Dj cX4_readTown 65 (.goto (-39)) 3 68 (-39) 26 := ⟨by decide +kernel, rfl, by decide⟩
theorem dX4_readTown_68 : Dc cX4_readTown 68 (.return_) 1 69 := ⟨by decide +kernel, rfl⟩
theorem dX4_readClause_0 : Dc cX4_readClause 0 (.aload_n 1) 1 1 := ⟨by decide +kernel, rfl⟩
theorem dX4_readClause_1 : Dc cX4_readClause 1 (.getfield 43) 3 4 := ⟨by decide +kernel, rfl⟩
theorem dX4_readClause_4 : Dc cX4_readClause 4 (.aload_n 0) 1 5 := ⟨by decide +kernel, rfl⟩
theorem dX4_readClause_5 : Dc cX4_readClause 5 (.getfield 15) 3 8 := ⟨by decide +kernel, rfl⟩
theorem dX4_readClause_8 : Dc cX4_readClause 8 (.iaload) 1 9 := ⟨by decide +kernel, rfl⟩
theorem dX4_readClause_9 : Dc cX4_readClause 9 (.invokestatic 46) 3 12 := ⟨by decide +kernel, rfl⟩
theorem dX4_readClause_12 : Dc cX4_readClause 12 (.istore_n 3) 1 13 := ⟨by decide +kernel, rfl⟩
theorem dX4_readClause_13 : Dc cX4_readClause 13 (.iload_n 3) 1 14 := ⟨by decide +kernel, rfl⟩
theorem dX4_readClause_14 : Dc cX4_readClause 14 (.iconst (-1)) 1 15 := ⟨by decide +kernel, rfl⟩
theorem dX4_readClause_15 : Dj cX4_readClause 15 (.if_icmp .eq 14) 3 18 (14) 29 := ⟨by decide +kernel, rfl, by decide⟩
theorem dX4_readClause_18 : Dc cX4_readClause 18 (.aload_n 2) 1 19 := ⟨by decide +kernel, rfl⟩
theorem dX4_readClause_19 : Dc cX4_readClause 19 (.getfield 50) 3 22 := ⟨by decide +kernel, rfl⟩
theorem dX4_readClause_22 : Dj cX4_readClause 22 (.ifCond .ne 17) 3 25 (17) 39 := ⟨by decide +kernel, rfl, by decide⟩
theorem dX4_readClause_25 : Dc cX4_readClause 25 (.iload_n 3) 1 26 := ⟨by decide +kernel, rfl⟩
theorem dX4_readClause_26 : Dj cX4_readClause 26 (.ifCond .eq 13) 3 29 (13) 39 := ⟨by decide +kernel, rfl, by decide⟩
theorem dX4_readClause_29 : Dc cX4_readClause 29 (.aload_n 0) 1 30 := ⟨by decide +kernel, rfl⟩
theorem dX4_readClause_30 : Dc cX4_readClause 30 (.iconst 1) 1 31 := ⟨by decide +kernel, rfl⟩
theorem dX4_readClause_31 : Dc cX4_readClause 31 (.aload_n 0) 1 32 := ⟨by decide +kernel, rfl⟩
theorem dX4_readClause_32 : Dc cX4_readClause 32 (.getfield 15) 3 35 := ⟨by decide +kernel, rfl⟩
theorem dX4_readClause_35 : Dc cX4_readClause 35 (.invokevirtual 54) 3 38 := ⟨by decide +kernel, rfl⟩
theorem dX4_readClause_38 : Dc cX4_readClause 38 (.return_) 1 39 := ⟨by decide +kernel, rfl⟩
theorem dX4_readClause_39 : Dc cX4_readClause 39 (.aload_n 2) 1 40 := ⟨by decide +kernel, rfl⟩
theorem dX4_readClause_40 : Dc cX4_readClause 40 (.iload_n 3) 1 41 := ⟨by decide +kernel, rfl⟩
theorem dX4_readClause_41 : Dc cX4_readClause 41 (.invokevirtual 58) 3 44 := ⟨by decide +kernel, rfl⟩
theorem dX4_readClause_44 : Dj cX4_readClause 44 (.ifCond .ne 13) 3 47 (13) 57 := ⟨by decide +kernel, rfl, by decide⟩
theorem dX4_readClause_47 : Dc cX4_readClause 47 (.aload_n 0) 1 48 := ⟨by decide +kernel, rfl⟩
theorem dX4_readClause_48 : Dc cX4_readClause 48 (.iconst 3) 1 49 := ⟨by decide +kernel, rfl⟩
theorem dX4_readClause_49 : Dc cX4_readClause 49 (.aload_n 0) 1 50 := ⟨by decide +kernel, rfl⟩
theorem dX4_readClause_50 : Dc cX4_readClause 50 (.getfield 15) 3 53 := ⟨by decide +kernel, rfl⟩
theorem dX4_readClause_53 : Dc cX4_readClause 53 (.invokevirtual 54) 3 56 := ⟨by decide +kernel, rfl⟩
theorem dX4_readClause_56 : Dc cX4_readClause 56 (.return_) 1 57 := ⟨by decide +kernel, rfl⟩
theorem dX4_readClause_57 : Dc cX4_readClause 57 (.aload_n 0) 1 58 := ⟨by decide +kernel, rfl⟩
theorem dX4_readClause_58 : Dc cX4_readClause 58 (.dup) 1 59 := ⟨by decide +kernel, rfl⟩
theorem dX4_readClause_59 : Dc cX4_readClause 59 (.getfield 15) 3 62 := ⟨by decide +kernel, rfl⟩
theorem dX4_readClause_62 : Dc cX4_readClause 62 (.iconst 1) 1 63 := ⟨by decide +kernel, rfl⟩
theorem dX4_readClause_63 : Dc cX4_readClause 63 (.iadd) 1 64 := ⟨by decide +kernel, rfl⟩
theorem dX4_readClause_64 : Dc cX4_readClause 64 (.putfield 15) 3 67 := ⟨by decide +kernel, rfl⟩
theorem dX4_readClause_67 : Dc cX4_readClause 67 (.aload_n 0) 1 68 := ⟨by decide +kernel, rfl⟩
theorem dX4_readClause_68 : Dc cX4_readClause 68 (.aload_n 1) 1 69 := ⟨by decide +kernel, rfl⟩
theorem dX4_readClause_69 : Dc cX4_readClause 69 (.iload_n 3) 1 70 := ⟨by decide +kernel, rfl⟩
theorem dX4_readClause_70 : Dc cX4_readClause 70 (.invokevirtual 62) 3 73 := ⟨by decide +kernel, rfl⟩
theorem dX4_readClause_73 : Dc cX4_readClause 73 (.aload_n 0) 1 74 := ⟨by decide +kernel, rfl⟩
theorem dX4_readClause_74 : Dc cX4_readClause 74 (.aload_n 1) 1 75 := ⟨by decide +kernel, rfl⟩
theorem dX4_readClause_75 : Dc cX4_readClause 75 (.invokevirtual 66) 3 78 := ⟨by decide +kernel, rfl⟩
theorem dX4_readClause_78 : Dc cX4_readClause 78 (.aload_n 0) 1 79 := ⟨by decide +kernel, rfl⟩
theorem dX4_readClause_79 : Dc cX4_readClause 79 (.getfield 19) 3 82 := ⟨by decide +kernel, rfl⟩
theorem dX4_readClause_82 : Dj cX4_readClause 82 (.ifCond .ne 26) 3 85 (26) 108 := ⟨by decide +kernel, rfl, by decide⟩
theorem dX4_readClause_85 : Dc cX4_readClause 85 (.aload_n 2) 1 86 := ⟨by decide +kernel, rfl⟩
theorem dX4_readClause_86 : Dc cX4_readClause 86 (.iload_n 3) 1 87 := ⟨by decide +kernel, rfl⟩
theorem dX4_readClause_87 : Dc cX4_readClause 87 (.aload_n 0) 1 88 := ⟨by decide +kernel, rfl⟩
theorem dX4_readClause_88 : Dc cX4_readClause 88 (.getfield 11) 3 91 := ⟨by decide +kernel, rfl⟩
theorem dX4_readClause_91 : Dc cX4_readClause 91 (.iconst 0) 1 92 := ⟨by decide +kernel, rfl⟩
theorem dX4_readClause_92 : Dc cX4_readClause 92 (.iaload) 1 93 := ⟨by decide +kernel, rfl⟩
theorem dX4_readClause_93 : Dc cX4_readClause 93 (.aload_n 0) 1 94 := ⟨by decide +kernel, rfl⟩
theorem dX4_readClause_94 : Dc cX4_readClause 94 (.getfield 11) 3 97 := ⟨by decide +kernel, rfl⟩
theorem dX4_readClause_97 : Dc cX4_readClause 97 (.iconst 1) 1 98 := ⟨by decide +kernel, rfl⟩
theorem dX4_readClause_98 : Dc cX4_readClause 98 (.iaload) 1 99 := ⟨by decide +kernel, rfl⟩
theorem dX4_readClause_99 : Dc cX4_readClause 99 (.aload_n 0) 1 100 := ⟨by decide +kernel, rfl⟩
theorem dX4_readClause_100 : Dc cX4_readClause 100 (.getfield 11) 3 103 := ⟨by decide +kernel, rfl⟩
theorem dX4_readClause_103 : Dc cX4_readClause 103 (.iconst 2) 1 104 := ⟨by decide +kernel, rfl⟩
theorem dX4_readClause_104 : Dc cX4_readClause 104 (.iaload) 1 105 := ⟨by decide +kernel, rfl⟩
theorem dX4_readClause_105 : Dc cX4_readClause 105 (.invokevirtual 69) 3 108 := ⟨by decide +kernel, rfl⟩
theorem dX4_readClause_108 : Dc cX4_readClause 108 (.return_) 1 109 := ⟨by decide +kernel, rfl⟩
theorem dX4_readNumbers_0 : Dc cX4_readNumbers 0 (.iconst 0) 1 1 := ⟨by decide +kernel, rfl⟩
theorem dX4_readNumbers_1 : Dc cX4_readNumbers 1 (.istore_n 3) 1 2 := ⟨by decide +kernel, rfl⟩
theorem dX4_readNumbers_2 : Dc cX4_readNumbers 2 (.iload_n 3) 1 3 := ⟨by decide +kernel, rfl⟩
theorem dX4_readNumbers_3 : Dc cX4_readNumbers 3 (.getstatic 73) 3 6 := ⟨by decide +kernel, rfl⟩
theorem dX4_readNumbers_6 : Dc cX4_readNumbers 6 (.iload_n 2) 1 7 := ⟨by decide +kernel, rfl⟩
theorem dX4_readNumbers_7 : Dc cX4_readNumbers 7 (.iaload) 1 8 := ⟨by decide +kernel, rfl⟩
theorem dX4_readNumbers_8 : Dj cX4_readNumbers 8 (.if_icmp .ge 46) 3 11 (46) 54 := ⟨by decide +kernel, rfl, by decide⟩
theorem dX4_readNumbers_11 : Dc cX4_readNumbers 11 (.aload_n 0) 1 12 := ⟨by decide +kernel, rfl⟩
theorem dX4_readNumbers_12 : Dc cX4_readNumbers 12 (.getfield 19) 3 15 := ⟨by decide +kernel, rfl⟩
theorem dX4_readNumbers_15 : Dj cX4_readNumbers 15 (.ifCond .ne 39) 3 18 (39) 54 := ⟨by decide +kernel, rfl, by decide⟩
theorem dX4_readNumbers_18 : Dc cX4_readNumbers 18 (.iload_n 2) 1 19 := ⟨by decide +kernel, rfl⟩
theorem dX4_readNumbers_19 : Dc cX4_readNumbers 19 (.iconst 3) 1 20 := ⟨by decide +kernel, rfl⟩
theorem dX4_readNumbers_20 : Dc cX4_readNumbers 20 (.imul) 1 21 := ⟨by decide +kernel, rfl⟩
theorem dX4_readNumbers_21 : Dc cX4_readNumbers 21 (.iload_n 3) 1 22 := ⟨by decide +kernel, rfl⟩
theorem dX4_readNumbers_22 : Dc cX4_readNumbers 22 (.iadd) 1 23 := ⟨by decide +kernel, rfl⟩
theorem dX4_readNumbers_23 : Dc cX4_readNumbers 23 (.istore 4) 2 25 := ⟨by decide +kernel, rfl⟩
theorem dX4_readNumbers_25 : Dc cX4_readNumbers 25 (.aload_n 0) 1 26 := ⟨by decide +kernel, rfl⟩
theorem dX4_readNumbers_26 : Dc cX4_readNumbers 26 (.getfield 11) 3 29 := ⟨by decide +kernel, rfl⟩
theorem dX4_readNumbers_29 : Dc cX4_readNumbers 29 (.iload_n 3) 1 30 := ⟨by decide +kernel, rfl⟩
theorem dX4_readNumbers_30 : Dc cX4_readNumbers 30 (.aload_n 0) 1 31 := ⟨by decide +kernel, rfl⟩
theorem dX4_readNumbers_31 : Dc cX4_readNumbers 31 (.aload_n 1) 1 32 := ⟨by decide +kernel, rfl⟩
theorem dX4_readNumbers_32 : Dc cX4_readNumbers 32 (.getstatic 76) 3 35 := ⟨by decide +kernel, rfl⟩
theorem dX4_readNumbers_35 : Dc cX4_readNumbers 35 (.iload 4) 2 37 := ⟨by decide +kernel, rfl⟩
theorem dX4_readNumbers_37 : Dc cX4_readNumbers 37 (.iaload) 1 38 := ⟨by decide +kernel, rfl⟩
theorem dX4_readNumbers_38 : Dc cX4_readNumbers 38 (.getstatic 79) 3 41 := ⟨by decide +kernel, rfl⟩
theorem dX4_readNumbers_41 : Dc cX4_readNumbers 41 (.iload 4) 2 43 := ⟨by decide +kernel, rfl⟩
theorem dX4_readNumbers_43 : Dc cX4_readNumbers 43 (.iaload) 1 44 := ⟨by decide +kernel, rfl⟩
theorem dX4_readNumbers_44 : Dc cX4_readNumbers 44 (.invokevirtual 82) 3 47 := ⟨by decide +kernel, rfl⟩
theorem dX4_readNumbers_47 : Dc cX4_readNumbers 47 (.iastore) 1 48 := ⟨by decide +kernel, rfl⟩
theorem dX4_readNumbers_48 : Dc cX4_readNumbers 48 (.iinc 3 1) 3 51 := ⟨by decide +kernel, rfl⟩
theorem dX4_readNumbers_51 : Dj cX4_readNumbers 51 (.goto (-49)) 3 54 (-49) 2 := ⟨by decide +kernel, rfl, by decide⟩
theorem dX4_readNumbers_54 : Dc cX4_readNumbers 54 (.return_) 1 55 := ⟨by decide +kernel, rfl⟩
theorem dX4_readNumber_0 : Dc cX4_readNumber 0 (.aload_n 0) 1 1 := ⟨by decide +kernel, rfl⟩
theorem dX4_readNumber_1 : Dc cX4_readNumber 1 (.aload_n 1) 1 2 := ⟨by decide +kernel, rfl⟩
theorem dX4_readNumber_2 : Dc cX4_readNumber 2 (.invokevirtual 30) 3 5 := ⟨by decide +kernel, rfl⟩
theorem dX4_readNumber_5 : Dc cX4_readNumber 5 (.aload_n 0) 1 6 := ⟨by decide +kernel, rfl⟩
theorem dX4_readNumber_6 : Dc cX4_readNumber 6 (.getfield 15) 3 9 := ⟨by decide +kernel, rfl⟩
theorem dX4_readNumber_9 : Dc cX4_readNumber 9 (.istore 4) 2 11 := ⟨by decide +kernel, rfl⟩
theorem dX4_readNumber_11 : Dc cX4_readNumber 11 (.iconst 0) 1 12 := ⟨by decide +kernel, rfl⟩
theorem dX4_readNumber_12 : Dc cX4_readNumber 12 (.istore 5) 2 14 := ⟨by decide +kernel, rfl⟩
theorem dX4_readNumber_14 : Dc cX4_readNumber 14 (.aload_n 0) 1 15 := ⟨by decide +kernel, rfl⟩
theorem dX4_readNumber_15 : Dc cX4_readNumber 15 (.getfield 15) 3 18 := ⟨by decide +kernel, rfl⟩
theorem dX4_readNumber_18 : Dc cX4_readNumber 18 (.aload_n 1) 1 19 := ⟨by decide +kernel, rfl⟩
theorem dX4_readNumber_19 : Dc cX4_readNumber 19 (.getfield 34) 3 22 := ⟨by decide +kernel, rfl⟩
theorem dX4_readNumber_22 : Dj cX4_readNumber 22 (.if_icmp .ge 62) 3 25 (62) 84 := ⟨by decide +kernel, rfl, by decide⟩
theorem dX4_readNumber_25 : Dc cX4_readNumber 25 (.aload_n 1) 1 26 := ⟨by decide +kernel, rfl⟩
theorem dX4_readNumber_26 : Dc cX4_readNumber 26 (.getfield 43) 3 29 := ⟨by decide +kernel, rfl⟩
theorem dX4_readNumber_29 : Dc cX4_readNumber 29 (.aload_n 0) 1 30 := ⟨by decide +kernel, rfl⟩
theorem dX4_readNumber_30 : Dc cX4_readNumber 30 (.getfield 15) 3 33 := ⟨by decide +kernel, rfl⟩
theorem dX4_readNumber_33 : Dc cX4_readNumber 33 (.iaload) 1 34 := ⟨by decide +kernel, rfl⟩
theorem dX4_readNumber_34 : Dc cX4_readNumber 34 (.invokestatic 86) 3 37 := ⟨by decide +kernel, rfl⟩
theorem dX4_readNumber_37 : Dj cX4_readNumber 37 (.ifCond .eq 47) 3 40 (47) 84 := ⟨by decide +kernel, rfl, by decide⟩
theorem dX4_readNumber_40 : Dc cX4_readNumber 40 (.aload_n 0) 1 41 := ⟨by decide +kernel, rfl⟩
theorem dX4_readNumber_41 : Dc cX4_readNumber 41 (.getfield 15) 3 44 := ⟨by decide +kernel, rfl⟩
theorem dX4_readNumber_44 : Dc cX4_readNumber 44 (.iload 4) 2 46 := ⟨by decide +kernel, rfl⟩
theorem dX4_readNumber_46 : Dc cX4_readNumber 46 (.isub) 1 47 := ⟨by decide +kernel, rfl⟩
theorem dX4_readNumber_47 : Dc cX4_readNumber 47 (.iconst 3) 1 48 := ⟨by decide +kernel, rfl⟩
theorem dX4_readNumber_48 : Dj cX4_readNumber 48 (.if_icmp .ge 23) 3 51 (23) 71 := ⟨by decide +kernel, rfl, by decide⟩
theorem dX4_readNumber_51 : Dc cX4_readNumber 51 (.iload 5) 2 53 := ⟨by decide +kernel, rfl⟩
theorem dX4_readNumber_53 : Dc cX4_readNumber 53 (.bipush 10) 2 55 := ⟨by decide +kernel, rfl⟩
theorem dX4_readNumber_55 : Dc cX4_readNumber 55 (.imul) 1 56 := ⟨by decide +kernel, rfl⟩
theorem dX4_readNumber_56 : Dc cX4_readNumber 56 (.aload_n 1) 1 57 := ⟨by decide +kernel, rfl⟩
theorem dX4_readNumber_57 : Dc cX4_readNumber 57 (.getfield 43) 3 60 := ⟨by decide +kernel, rfl⟩
theorem dX4_readNumber_60 : Dc cX4_readNumber 60 (.aload_n 0) 1 61 := ⟨by decide +kernel, rfl⟩
theorem dX4_readNumber_61 : Dc cX4_readNumber 61 (.getfield 15) 3 64 := ⟨by decide +kernel, rfl⟩
theorem dX4_readNumber_64 : Dc cX4_readNumber 64 (.iaload) 1 65 := ⟨by decide +kernel, rfl⟩
theorem dX4_readNumber_65 : Dc cX4_readNumber 65 (.iadd) 1 66 := ⟨by decide +kernel, rfl⟩
theorem dX4_readNumber_66 : Dc cX4_readNumber 66 (.bipush 48) 2 68 := ⟨by decide +kernel, rfl⟩
theorem dX4_readNumber_68 : Dc cX4_readNumber 68 (.isub) 1 69 := ⟨by decide +kernel, rfl⟩
theorem dX4_readNumber_69 : Dc cX4_readNumber 69 (.istore 5) 2 71 := ⟨by decide +kernel, rfl⟩
theorem dX4_readNumber_71 : Dc cX4_readNumber 71 (.aload_n 0) 1 72 := ⟨by decide +kernel, rfl⟩
theorem dX4_readNumber_72 : Dc cX4_readNumber 72 (.dup) 1 73 := ⟨by decide +kernel, rfl⟩
theorem dX4_readNumber_73 : Dc cX4_readNumber 73 (.getfield 15) 3 76 := ⟨by decide +kernel, rfl⟩
theorem dX4_readNumber_76 : Dc cX4_readNumber 76 (.iconst 1) 1 77 := ⟨by decide +kernel, rfl⟩
theorem dX4_readNumber_77 : Dc cX4_readNumber 77 (.iadd) 1 78 := ⟨by decide +kernel, rfl⟩
theorem dX4_readNumber_78 : Dc cX4_readNumber 78 (.putfield 15) 3 81 := ⟨by decide +kernel, rfl⟩
theorem dX4_readNumber_81 : Dj cX4_readNumber 81 (.goto (-67)) 3 84 (-67) 14 := ⟨by decide +kernel, rfl, by decide⟩
theorem dX4_readNumber_84 : Dc cX4_readNumber 84 (.aload_n 0) 1 85 := ⟨by decide +kernel, rfl⟩
theorem dX4_readNumber_85 : Dc cX4_readNumber 85 (.getfield 15) 3 88 := ⟨by decide +kernel, rfl⟩
theorem dX4_readNumber_88 : Dc cX4_readNumber 88 (.iload 4) 2 90 := ⟨by decide +kernel, rfl⟩
theorem dX4_readNumber_90 : Dj cX4_readNumber 90 (.if_icmp .ne 15) 3 93 (15) 105 := ⟨by decide +kernel, rfl, by decide⟩
theorem dX4_readNumber_93 : Dc cX4_readNumber 93 (.aload_n 0) 1 94 := ⟨by decide +kernel, rfl⟩
theorem dX4_readNumber_94 : Dc cX4_readNumber 94 (.iconst 1) 1 95 := ⟨by decide +kernel, rfl⟩
theorem dX4_readNumber_95 : Dc cX4_readNumber 95 (.aload_n 0) 1 96 := ⟨by decide +kernel, rfl⟩
theorem dX4_readNumber_96 : Dc cX4_readNumber 96 (.getfield 15) 3 99 := ⟨by decide +kernel, rfl⟩
theorem dX4_readNumber_99 : Dc cX4_readNumber 99 (.invokevirtual 54) 3 102 := ⟨by decide +kernel, rfl⟩
theorem dX4_readNumber_102 : Dj cX4_readNumber 102 (.goto 31) 3 105 (31) 133 := ⟨by decide +kernel, rfl, by decide⟩
theorem dX4_readNumber_105 : Dc cX4_readNumber 105 (.aload_n 0) 1 106 := ⟨by decide +kernel, rfl⟩
theorem dX4_readNumber_106 : Dc cX4_readNumber 106 (.getfield 15) 3 109 := ⟨by decide +kernel, rfl⟩
theorem dX4_readNumber_109 : Dc cX4_readNumber 109 (.iload 4) 2 111 := ⟨by decide +kernel, rfl⟩
theorem dX4_readNumber_111 : Dc cX4_readNumber 111 (.isub) 1 112 := ⟨by decide +kernel, rfl⟩
theorem dX4_readNumber_112 : Dc cX4_readNumber 112 (.iconst 3) 1 113 := ⟨by decide +kernel, rfl⟩
theorem dX4_readNumber_113 : Dj cX4_readNumber 113 (.if_icmp .gt 13) 3 116 (13) 126 := ⟨by decide +kernel, rfl, by decide⟩
theorem dX4_readNumber_116 : Dc cX4_readNumber 116 (.iload 5) 2 118 := ⟨by decide +kernel, rfl⟩
theorem dX4_readNumber_118 : Dc cX4_readNumber 118 (.iload_n 2) 1 119 := ⟨by decide +kernel, rfl⟩
theorem dX4_readNumber_119 : Dc cX4_readNumber 119 (.iload_n 3) 1 120 := ⟨by decide +kernel, rfl⟩
theorem dX4_readNumber_120 : Dc cX4_readNumber 120 (.invokestatic 89) 3 123 := ⟨by decide +kernel, rfl⟩
theorem dX4_readNumber_123 : Dj cX4_readNumber 123 (.ifCond .ne 10) 3 126 (10) 133 := ⟨by decide +kernel, rfl, by decide⟩
theorem dX4_readNumber_126 : Dc cX4_readNumber 126 (.aload_n 0) 1 127 := ⟨by decide +kernel, rfl⟩
theorem dX4_readNumber_127 : Dc cX4_readNumber 127 (.iconst 2) 1 128 := ⟨by decide +kernel, rfl⟩
theorem dX4_readNumber_128 : Dc cX4_readNumber 128 (.iload 4) 2 130 := ⟨by decide +kernel, rfl⟩
theorem dX4_readNumber_130 : Dc cX4_readNumber 130 (.invokevirtual 54) 3 133 := ⟨by decide +kernel, rfl⟩
theorem dX4_readNumber_133 : Dc cX4_readNumber 133 (.iload 5) 2 135 := ⟨by decide +kernel, rfl⟩
theorem dX4_readNumber_135 : Dc cX4_readNumber 135 (.ireturn) 1 136 := ⟨by decide +kernel, rfl⟩
theorem dX4_readEnd_0 : Dc cX4_readEnd 0 (.aload_n 0) 1 1 := ⟨by decide +kernel, rfl⟩
theorem dX4_readEnd_1 : Dc cX4_readEnd 1 (.aload_n 1) 1 2 := ⟨by decide +kernel, rfl⟩
theorem dX4_readEnd_2 : Dc cX4_readEnd 2 (.invokevirtual 30) 3 5 := ⟨by decide +kernel, rfl⟩
theorem dX4_readEnd_5 : Dc cX4_readEnd 5 (.aload_n 0) 1 6 := ⟨by decide +kernel, rfl⟩
theorem dX4_readEnd_6 : Dc cX4_readEnd 6 (.getfield 15) 3 9 := ⟨by decide +kernel, rfl⟩
theorem dX4_readEnd_9 : Dc cX4_readEnd 9 (.aload_n 1) 1 10 := ⟨by decide +kernel, rfl⟩
theorem dX4_readEnd_10 : Dc cX4_readEnd 10 (.getfield 34) 3 13 := ⟨by decide +kernel, rfl⟩
theorem dX4_readEnd_13 : Dj cX4_readEnd 13 (.if_icmp .ge 30) 3 16 (30) 43 := ⟨by decide +kernel, rfl, by decide⟩
theorem dX4_readEnd_16 : Dc cX4_readEnd 16 (.aload_n 1) 1 17 := ⟨by decide +kernel, rfl⟩
theorem dX4_readEnd_17 : Dc cX4_readEnd 17 (.getfield 43) 3 20 := ⟨by decide +kernel, rfl⟩
theorem dX4_readEnd_20 : Dc cX4_readEnd 20 (.aload_n 0) 1 21 := ⟨by decide +kernel, rfl⟩
theorem dX4_readEnd_21 : Dc cX4_readEnd 21 (.getfield 15) 3 24 := ⟨by decide +kernel, rfl⟩
theorem dX4_readEnd_24 : Dc cX4_readEnd 24 (.iaload) 1 25 := ⟨by decide +kernel, rfl⟩
theorem dX4_readEnd_25 : Dc cX4_readEnd 25 (.bipush 59) 2 27 := ⟨by decide +kernel, rfl⟩
theorem dX4_readEnd_27 : Dj cX4_readEnd 27 (.if_icmp .ne 16) 3 30 (16) 43 := ⟨by decide +kernel, rfl, by decide⟩
theorem dX4_readEnd_30 : Dc cX4_readEnd 30 (.aload_n 0) 1 31 := ⟨by decide +kernel, rfl⟩
theorem dX4_readEnd_31 : Dc cX4_readEnd 31 (.dup) 1 32 := ⟨by decide +kernel, rfl⟩
theorem dX4_readEnd_32 : Dc cX4_readEnd 32 (.getfield 15) 3 35 := ⟨by decide +kernel, rfl⟩
theorem dX4_readEnd_35 : Dc cX4_readEnd 35 (.iconst 1) 1 36 := ⟨by decide +kernel, rfl⟩
theorem dX4_readEnd_36 : Dc cX4_readEnd 36 (.iadd) 1 37 := ⟨by decide +kernel, rfl⟩
theorem dX4_readEnd_37 : Dc cX4_readEnd 37 (.putfield 15) 3 40 := ⟨by decide +kernel, rfl⟩
theorem dX4_readEnd_40 : Dj cX4_readEnd 40 (.goto 12) 3 43 (12) 52 := ⟨by decide +kernel, rfl, by decide⟩
theorem dX4_readEnd_43 : Dc cX4_readEnd 43 (.aload_n 0) 1 44 := ⟨by decide +kernel, rfl⟩
theorem dX4_readEnd_44 : Dc cX4_readEnd 44 (.iconst 1) 1 45 := ⟨by decide +kernel, rfl⟩
theorem dX4_readEnd_45 : Dc cX4_readEnd 45 (.aload_n 0) 1 46 := ⟨by decide +kernel, rfl⟩
theorem dX4_readEnd_46 : Dc cX4_readEnd 46 (.getfield 15) 3 49 := ⟨by decide +kernel, rfl⟩
theorem dX4_readEnd_49 : Dc cX4_readEnd 49 (.invokevirtual 54) 3 52 := ⟨by decide +kernel, rfl⟩
theorem dX4_readEnd_52 : Dc cX4_readEnd 52 (.return_) 1 53 := ⟨by decide +kernel, rfl⟩
theorem dX4_skipBlanks_0 : Dc cX4_skipBlanks 0 (.aload_n 0) 1 1 := ⟨by decide +kernel, rfl⟩
theorem dX4_skipBlanks_1 : Dc cX4_skipBlanks 1 (.getfield 15) 3 4 := ⟨by decide +kernel, rfl⟩
theorem dX4_skipBlanks_4 : Dc cX4_skipBlanks 4 (.aload_n 1) 1 5 := ⟨by decide +kernel, rfl⟩
theorem dX4_skipBlanks_5 : Dc cX4_skipBlanks 5 (.getfield 34) 3 8 := ⟨by decide +kernel, rfl⟩
theorem dX4_skipBlanks_8 : Dj cX4_skipBlanks 8 (.if_icmp .ge 30) 3 11 (30) 38 := ⟨by decide +kernel, rfl, by decide⟩
theorem dX4_skipBlanks_11 : Dc cX4_skipBlanks 11 (.aload_n 1) 1 12 := ⟨by decide +kernel, rfl⟩
theorem dX4_skipBlanks_12 : Dc cX4_skipBlanks 12 (.getfield 43) 3 15 := ⟨by decide +kernel, rfl⟩
theorem dX4_skipBlanks_15 : Dc cX4_skipBlanks 15 (.aload_n 0) 1 16 := ⟨by decide +kernel, rfl⟩
theorem dX4_skipBlanks_16 : Dc cX4_skipBlanks 16 (.getfield 15) 3 19 := ⟨by decide +kernel, rfl⟩
theorem dX4_skipBlanks_19 : Dc cX4_skipBlanks 19 (.iaload) 1 20 := ⟨by decide +kernel, rfl⟩
theorem dX4_skipBlanks_20 : Dc cX4_skipBlanks 20 (.bipush 32) 2 22 := ⟨by decide +kernel, rfl⟩
theorem dX4_skipBlanks_22 : Dj cX4_skipBlanks 22 (.if_icmp .ne 16) 3 25 (16) 38 := ⟨by decide +kernel, rfl, by decide⟩
theorem dX4_skipBlanks_25 : Dc cX4_skipBlanks 25 (.aload_n 0) 1 26 := ⟨by decide +kernel, rfl⟩
theorem dX4_skipBlanks_26 : Dc cX4_skipBlanks 26 (.dup) 1 27 := ⟨by decide +kernel, rfl⟩
theorem dX4_skipBlanks_27 : Dc cX4_skipBlanks 27 (.getfield 15) 3 30 := ⟨by decide +kernel, rfl⟩
theorem dX4_skipBlanks_30 : Dc cX4_skipBlanks 30 (.iconst 1) 1 31 := ⟨by decide +kernel, rfl⟩
theorem dX4_skipBlanks_31 : Dc cX4_skipBlanks 31 (.iadd) 1 32 := ⟨by decide +kernel, rfl⟩
theorem dX4_skipBlanks_32 : Dc cX4_skipBlanks 32 (.putfield 15) 3 35 := ⟨by decide +kernel, rfl⟩
theorem dX4_skipBlanks_35 : Dj cX4_skipBlanks 35 (.goto (-35)) 3 38 (-35) 0 := ⟨by decide +kernel, rfl, by decide⟩
theorem dX4_skipBlanks_38 : Dc cX4_skipBlanks 38 (.return_) 1 39 := ⟨by decide +kernel, rfl⟩
theorem dX4_setFault_0 : Dc cX4_setFault 0 (.aload_n 0) 1 1 := ⟨by decide +kernel, rfl⟩
theorem dX4_setFault_1 : Dc cX4_setFault 1 (.getfield 19) 3 4 := ⟨by decide +kernel, rfl⟩
theorem dX4_setFault_4 : Dj cX4_setFault 4 (.ifCond .ne 13) 3 7 (13) 17 := ⟨by decide +kernel, rfl, by decide⟩
theorem dX4_setFault_7 : Dc cX4_setFault 7 (.aload_n 0) 1 8 := ⟨by decide +kernel, rfl⟩
theorem dX4_setFault_8 : Dc cX4_setFault 8 (.iload_n 1) 1 9 := ⟨by decide +kernel, rfl⟩
theorem dX4_setFault_9 : Dc cX4_setFault 9 (.putfield 19) 3 12 := ⟨by decide +kernel, rfl⟩
theorem dX4_setFault_12 : Dc cX4_setFault 12 (.aload_n 0) 1 13 := ⟨by decide +kernel, rfl⟩
theorem dX4_setFault_13 : Dc cX4_setFault 13 (.iload_n 2) 1 14 := ⟨by decide +kernel, rfl⟩
theorem dX4_setFault_14 : Dc cX4_setFault 14 (.putfield 22) 3 17 := ⟨by decide +kernel, rfl⟩
theorem dX4_setFault_17 : Dc cX4_setFault 17 (.return_) 1 18 := ⟨by decide +kernel, rfl⟩
theorem dX4_isFigure_0 : Dc cX4_isFigure 0 (.iload_n 0) 1 1 := ⟨by decide +kernel, rfl⟩
theorem dX4_isFigure_1 : Dc cX4_isFigure 1 (.bipush 48) 2 3 := ⟨by decide +kernel, rfl⟩
theorem dX4_isFigure_3 : Dc cX4_isFigure 3 (.bipush 57) 2 5 := ⟨by decide +kernel, rfl⟩
theorem dX4_isFigure_5 : Dc cX4_isFigure 5 (.invokestatic 89) 3 8 := ⟨by decide +kernel, rfl⟩
theorem dX4_isFigure_8 : Dc cX4_isFigure 8 (.ireturn) 1 9 := ⟨by decide +kernel, rfl⟩
theorem dX4_clauseOf_0 : Dc cX4_clauseOf 0 (.iload_n 0) 1 1 := ⟨by decide +kernel, rfl⟩
theorem dX4_clauseOf_1 : decode cX4_clauseOf 1 = .ok (.lookupswitch 61 #[(99, 53), (103, 57), (104, 59), (109, 55), (116, 51)], 51) := by decide +kernel
theorem dX4_clauseOf_52 : Dc cX4_clauseOf 52 (.iconst 0) 1 53 := ⟨by decide +kernel, rfl⟩
theorem dX4_clauseOf_53 : Dc cX4_clauseOf 53 (.ireturn) 1 54 := ⟨by decide +kernel, rfl⟩
theorem dX4_clauseOf_54 : Dc cX4_clauseOf 54 (.iconst 1) 1 55 := ⟨by decide +kernel, rfl⟩
theorem dX4_clauseOf_55 : Dc cX4_clauseOf 55 (.ireturn) 1 56 := ⟨by decide +kernel, rfl⟩
theorem dX4_clauseOf_56 : Dc cX4_clauseOf 56 (.iconst 2) 1 57 := ⟨by decide +kernel, rfl⟩
theorem dX4_clauseOf_57 : Dc cX4_clauseOf 57 (.ireturn) 1 58 := ⟨by decide +kernel, rfl⟩
theorem dX4_clauseOf_58 : Dc cX4_clauseOf 58 (.iconst 3) 1 59 := ⟨by decide +kernel, rfl⟩
theorem dX4_clauseOf_59 : Dc cX4_clauseOf 59 (.ireturn) 1 60 := ⟨by decide +kernel, rfl⟩
theorem dX4_clauseOf_60 : Dc cX4_clauseOf 60 (.iconst 4) 1 61 := ⟨by decide +kernel, rfl⟩
theorem dX4_clauseOf_61 : Dc cX4_clauseOf 61 (.ireturn) 1 62 := ⟨by decide +kernel, rfl⟩
theorem dX4_clauseOf_62 : Dc cX4_clauseOf 62 (.iconst (-1)) 1 63 := ⟨by decide +kernel, rfl⟩
theorem dX4_clauseOf_63 : Dc cX4_clauseOf 63 (.ireturn) 1 64 := ⟨by decide +kernel, rfl⟩
theorem dX5_init_0 : Dc cX5_init 0 (.aload_n 0) 1 1 := ⟨by decide +kernel, rfl⟩
theorem dX5_init_1 : Dc cX5_init 1 (.invokespecial 3) 3 4 := ⟨by decide +kernel, rfl⟩
theorem dX5_init_4 : Dc cX5_init 4 (.aload_n 0) 1 5 := ⟨by decide +kernel, rfl⟩
theorem dX5_init_5 : Dc cX5_init 5 (.bipush 8) 2 7 := ⟨by decide +kernel, rfl⟩
theorem dX5_init_7 : Dc cX5_init 7 (.newarray .int) 2 9 := ⟨by decide +kernel, rfl⟩
theorem dX5_init_9 : Dc cX5_init 9 (.putfield 9) 3 12 := ⟨by decide +kernel, rfl⟩
theorem dX5_init_12 : Dc cX5_init 12 (.aload_n 0) 1 13 := ⟨by decide +kernel, rfl⟩
theorem dX5_init_13 : Dc cX5_init 13 (.bipush 8) 2 15 := ⟨by decide +kernel, rfl⟩
theorem dX5_init_15 : Dc cX5_init 15 (.newarray .int) 2 17 := ⟨by decide +kernel, rfl⟩
theorem dX5_init_17 : Dc cX5_init 17 (.putfield 15) 3 20 := ⟨by decide +kernel, rfl⟩
theorem dX5_init_20 : Dc cX5_init 20 (.aload_n 0) 1 21 := ⟨by decide +kernel, rfl⟩
theorem dX5_init_21 : Dc cX5_init 21 (.bipush 8) 2 23 := ⟨by decide +kernel, rfl⟩
theorem dX5_init_23 : Dc cX5_init 23 (.newarray .int) 2 25 := ⟨by decide +kernel, rfl⟩
theorem dX5_init_25 : Dc cX5_init 25 (.putfield 18) 3 28 := ⟨by decide +kernel, rfl⟩
theorem dX5_init_28 : Dc cX5_init 28 (.aload_n 0) 1 29 := ⟨by decide +kernel, rfl⟩
theorem dX5_init_29 : Dc cX5_init 29 (.bipush 8) 2 31 := ⟨by decide +kernel, rfl⟩
theorem dX5_init_31 : Dc cX5_init 31 (.newarray .int) 2 33 := ⟨by decide +kernel, rfl⟩
theorem dX5_init_33 : Dc cX5_init 33 (.putfield 21) 3 36 := ⟨by decide +kernel, rfl⟩
theorem dX5_init_36 : Dc cX5_init 36 (.aload_n 0) 1 37 := ⟨by decide +kernel, rfl⟩
theorem dX5_init_37 : Dc cX5_init 37 (.iconst 4) 1 38 := ⟨by decide +kernel, rfl⟩
theorem dX5_init_38 : Dc cX5_init 38 (.newarray .int) 2 40 := ⟨by decide +kernel, rfl⟩
theorem dX5_init_40 : Dc cX5_init 40 (.putfield 24) 3 43 := ⟨by decide +kernel, rfl⟩
theorem dX5_init_43 : Dc cX5_init 43 (.aload_n 0) 1 44 := ⟨by decide +kernel, rfl⟩
theorem dX5_init_44 : Dc cX5_init 44 (.iconst 0) 1 45 := ⟨by decide +kernel, rfl⟩
theorem dX5_init_45 : Dc cX5_init 45 (.putfield 27) 3 48 := ⟨by decide +kernel, rfl⟩
theorem dX5_init_48 : Dc cX5_init 48 (.return_) 1 49 := ⟨by decide +kernel, rfl⟩
theorem dX5_add_0 : Dc cX5_add 0 (.aload_n 0) 1 1 := ⟨by decide +kernel, rfl⟩
theorem dX5_add_1 : Dc cX5_add 1 (.getfield 27) 3 4 := ⟨by decide +kernel, rfl⟩
theorem dX5_add_4 : Dc cX5_add 4 (.bipush 8) 2 6 := ⟨by decide +kernel, rfl⟩
theorem dX5_add_6 : Dj cX5_add 6 (.if_icmp .ge 54) 3 9 (54) 60 := ⟨by decide +kernel, rfl, by decide⟩
theorem dX5_add_9 : Dc cX5_add 9 (.aload_n 0) 1 10 := ⟨by decide +kernel, rfl⟩
theorem dX5_add_10 : Dc cX5_add 10 (.getfield 9) 3 13 := ⟨by decide +kernel, rfl⟩
theorem dX5_add_13 : Dc cX5_add 13 (.aload_n 0) 1 14 := ⟨by decide +kernel, rfl⟩
theorem dX5_add_14 : Dc cX5_add 14 (.getfield 27) 3 17 := ⟨by decide +kernel, rfl⟩
theorem dX5_add_17 : Dc cX5_add 17 (.iload_n 1) 1 18 := ⟨by decide +kernel, rfl⟩
theorem dX5_add_18 : Dc cX5_add 18 (.iastore) 1 19 := ⟨by decide +kernel, rfl⟩
theorem dX5_add_19 : Dc cX5_add 19 (.aload_n 0) 1 20 := ⟨by decide +kernel, rfl⟩
theorem dX5_add_20 : Dc cX5_add 20 (.getfield 15) 3 23 := ⟨by decide +kernel, rfl⟩
theorem dX5_add_23 : Dc cX5_add 23 (.aload_n 0) 1 24 := ⟨by decide +kernel, rfl⟩
theorem dX5_add_24 : Dc cX5_add 24 (.getfield 27) 3 27 := ⟨by decide +kernel, rfl⟩
theorem dX5_add_27 : Dc cX5_add 27 (.iload_n 2) 1 28 := ⟨by decide +kernel, rfl⟩
theorem dX5_add_28 : Dc cX5_add 28 (.iastore) 1 29 := ⟨by decide +kernel, rfl⟩
theorem dX5_add_29 : Dc cX5_add 29 (.aload_n 0) 1 30 := ⟨by decide +kernel, rfl⟩
theorem dX5_add_30 : Dc cX5_add 30 (.getfield 18) 3 33 := ⟨by decide +kernel, rfl⟩
theorem dX5_add_33 : Dc cX5_add 33 (.aload_n 0) 1 34 := ⟨by decide +kernel, rfl⟩
theorem dX5_add_34 : Dc cX5_add 34 (.getfield 27) 3 37 := ⟨by decide +kernel, rfl⟩
theorem dX5_add_37 : Dc cX5_add 37 (.iload_n 3) 1 38 := ⟨by decide +kernel, rfl⟩
theorem dX5_add_38 : Dc cX5_add 38 (.iastore) 1 39 := ⟨by decide +kernel, rfl⟩
theorem dX5_add_39 : Dc cX5_add 39 (.aload_n 0) 1 40 := ⟨by decide +kernel, rfl⟩
theorem dX5_add_40 : Dc cX5_add 40 (.getfield 21) 3 43 := ⟨by decide +kernel, rfl⟩
theorem dX5_add_43 : Dc cX5_add 43 (.aload_n 0) 1 44 := ⟨by decide +kernel, rfl⟩
theorem dX5_add_44 : Dc cX5_add 44 (.getfield 27) 3 47 := ⟨by decide +kernel, rfl⟩
theorem dX5_add_47 : Dc cX5_add 47 (.iload 4) 2 49 := ⟨by decide +kernel, rfl⟩
theorem dX5_add_49 : Dc cX5_add 49 (.iastore) 1 50 := ⟨by decide +kernel, rfl⟩
theorem dX5_add_50 : Dc cX5_add 50 (.aload_n 0) 1 51 := ⟨by decide +kernel, rfl⟩
theorem dX5_add_51 : Dc cX5_add 51 (.dup) 1 52 := ⟨by decide +kernel, rfl⟩
theorem dX5_add_52 : Dc cX5_add 52 (.getfield 27) 3 55 := ⟨by decide +kernel, rfl⟩
theorem dX5_add_55 : Dc cX5_add 55 (.iconst 1) 1 56 := ⟨by decide +kernel, rfl⟩
theorem dX5_add_56 : Dc cX5_add 56 (.iadd) 1 57 := ⟨by decide +kernel, rfl⟩
theorem dX5_add_57 : Dc cX5_add 57 (.putfield 27) 3 60 := ⟨by decide +kernel, rfl⟩
theorem dX5_add_60 : Dc cX5_add 60 (.return_) 1 61 := ⟨by decide +kernel, rfl⟩
theorem dX5_forgedOnes_0 : Dc cX5_forgedOnes 0 (.iconst 0) 1 1 := ⟨by decide +kernel, rfl⟩
theorem dX5_forgedOnes_1 : Dc cX5_forgedOnes 1 (.istore_n 2) 1 2 := ⟨by decide +kernel, rfl⟩
theorem dX5_forgedOnes_2 : Dc cX5_forgedOnes 2 (.iconst 0) 1 3 := ⟨by decide +kernel, rfl⟩
theorem dX5_forgedOnes_3 : Dc cX5_forgedOnes 3 (.istore_n 3) 1 4 := ⟨by decide +kernel, rfl⟩
theorem dX5_forgedOnes_4 : Dc cX5_forgedOnes 4 (.iload_n 3) 1 5 := ⟨by decide +kernel, rfl⟩
theorem dX5_forgedOnes_5 : Dc cX5_forgedOnes 5 (.aload_n 0) 1 6 := ⟨by decide +kernel, rfl⟩
theorem dX5_forgedOnes_6 : Dc cX5_forgedOnes 6 (.getfield 27) 3 9 := ⟨by decide +kernel, rfl⟩
theorem dX5_forgedOnes_9 : Dj cX5_forgedOnes 9 (.if_icmp .ge 43) 3 12 (43) 52 := ⟨by decide +kernel, rfl, by decide⟩
theorem dX5_forgedOnes_12 : Dc cX5_forgedOnes 12 (.aload_n 0) 1 13 := ⟨by decide +kernel, rfl⟩
theorem dX5_forgedOnes_13 : Dc cX5_forgedOnes 13 (.iload_n 3) 1 14 := ⟨by decide +kernel, rfl⟩
theorem dX5_forgedOnes_14 : Dc cX5_forgedOnes 14 (.invokevirtual 31) 3 17 := ⟨by decide +kernel, rfl⟩
theorem dX5_forgedOnes_17 : Dj cX5_forgedOnes 17 (.ifCond .ne 23) 3 20 (23) 40 := ⟨by decide +kernel, rfl, by decide⟩
theorem dX5_forgedOnes_20 : Dc cX5_forgedOnes 20 (.aload_n 0) 1 21 := ⟨by decide +kernel, rfl⟩
theorem dX5_forgedOnes_21 : Dc cX5_forgedOnes 21 (.getfield 21) 3 24 := ⟨by decide +kernel, rfl⟩
theorem dX5_forgedOnes_24 : Dc cX5_forgedOnes 24 (.iload_n 3) 1 25 := ⟨by decide +kernel, rfl⟩
theorem dX5_forgedOnes_25 : Dc cX5_forgedOnes 25 (.iaload) 1 26 := ⟨by decide +kernel, rfl⟩
theorem dX5_forgedOnes_26 : Dc cX5_forgedOnes 26 (.aload_n 1) 1 27 := ⟨by decide +kernel, rfl⟩
theorem dX5_forgedOnes_27 : Dc cX5_forgedOnes 27 (.getfield 35) 3 30 := ⟨by decide +kernel, rfl⟩
theorem dX5_forgedOnes_30 : Dc cX5_forgedOnes 30 (.aload_n 0) 1 31 := ⟨by decide +kernel, rfl⟩
theorem dX5_forgedOnes_31 : Dc cX5_forgedOnes 31 (.getfield 9) 3 34 := ⟨by decide +kernel, rfl⟩
theorem dX5_forgedOnes_34 : Dc cX5_forgedOnes 34 (.iload_n 3) 1 35 := ⟨by decide +kernel, rfl⟩
theorem dX5_forgedOnes_35 : Dc cX5_forgedOnes 35 (.iaload) 1 36 := ⟨by decide +kernel, rfl⟩
theorem dX5_forgedOnes_36 : Dc cX5_forgedOnes 36 (.iaload) 1 37 := ⟨by decide +kernel, rfl⟩
theorem dX5_forgedOnes_37 : Dj cX5_forgedOnes 37 (.if_icmp .ge 9) 3 40 (9) 46 := ⟨by decide +kernel, rfl, by decide⟩
theorem dX5_forgedOnes_40 : Dc cX5_forgedOnes 40 (.iload_n 2) 1 41 := ⟨by decide +kernel, rfl⟩
theorem dX5_forgedOnes_41 : Dc cX5_forgedOnes 41 (.iconst 1) 1 42 := ⟨by decide +kernel, rfl⟩
theorem dX5_forgedOnes_42 : Dc cX5_forgedOnes 42 (.iload_n 3) 1 43 := ⟨by decide +kernel, rfl⟩
theorem dX5_forgedOnes_43 : Dc cX5_forgedOnes 43 (.ishl) 1 44 := ⟨by decide +kernel, rfl⟩
theorem dX5_forgedOnes_44 : Dc cX5_forgedOnes 44 (.ior) 1 45 := ⟨by decide +kernel, rfl⟩
theorem dX5_forgedOnes_45 : Dc cX5_forgedOnes 45 (.istore_n 2) 1 46 := ⟨by decide +kernel, rfl⟩
theorem dX5_forgedOnes_46 : Dc cX5_forgedOnes 46 (.iinc 3 1) 3 49 := ⟨by decide +kernel, rfl⟩
theorem dX5_forgedOnes_49 : Dj cX5_forgedOnes 49 (.goto (-45)) 3 52 (-45) 4 := ⟨by decide +kernel, rfl, by decide⟩
theorem dX5_forgedOnes_52 : Dc cX5_forgedOnes 52 (.iload_n 2) 1 53 := ⟨by decide +kernel, rfl⟩
theorem dX5_forgedOnes_53 : Dc cX5_forgedOnes 53 (.ireturn) 1 54 := ⟨by decide +kernel, rfl⟩
theorem dX5_kindToWeigh_0 : Dc cX5_kindToWeigh 0 (.iconst 0) 1 1 := ⟨by decide +kernel, rfl⟩
theorem dX5_kindToWeigh_1 : Dc cX5_kindToWeigh 1 (.istore_n 2) 1 2 := ⟨by decide +kernel, rfl⟩
theorem dX5_kindToWeigh_2 : Dc cX5_kindToWeigh 2 (.iload_n 2) 1 3 := ⟨by decide +kernel, rfl⟩
theorem dX5_kindToWeigh_3 : Dc cX5_kindToWeigh 3 (.iconst 4) 1 4 := ⟨by decide +kernel, rfl⟩
theorem dX5_kindToWeigh_4 : Dj cX5_kindToWeigh 4 (.if_icmp .ge 16) 3 7 (16) 20 := ⟨by decide +kernel, rfl, by decide⟩
theorem dX5_kindToWeigh_7 : Dc cX5_kindToWeigh 7 (.aload_n 0) 1 8 := ⟨by decide +kernel, rfl⟩
theorem dX5_kindToWeigh_8 : Dc cX5_kindToWeigh 8 (.getfield 24) 3 11 := ⟨by decide +kernel, rfl⟩
theorem dX5_kindToWeigh_11 : Dc cX5_kindToWeigh 11 (.iload_n 2) 1 12 := ⟨by decide +kernel, rfl⟩
theorem dX5_kindToWeigh_12 : Dc cX5_kindToWeigh 12 (.iconst 0) 1 13 := ⟨by decide +kernel, rfl⟩
theorem dX5_kindToWeigh_13 : Dc cX5_kindToWeigh 13 (.iastore) 1 14 := ⟨by decide +kernel, rfl⟩
theorem dX5_kindToWeigh_14 : Dc cX5_kindToWeigh 14 (.iinc 2 1) 3 17 := ⟨by decide +kernel, rfl⟩
theorem dX5_kindToWeigh_17 : Dj cX5_kindToWeigh 17 (.goto (-15)) 3 20 (-15) 2 := ⟨by decide +kernel, rfl, by decide⟩
theorem dX5_kindToWeigh_20 : Dc cX5_kindToWeigh 20 (.iconst 0) 1 21 := ⟨by decide +kernel, rfl⟩
theorem dX5_kindToWeigh_21 : Dc cX5_kindToWeigh 21 (.istore_n 2) 1 22 := ⟨by decide +kernel, rfl⟩
theorem dX5_kindToWeigh_22 : Dc cX5_kindToWeigh 22 (.iload_n 2) 1 23 := ⟨by decide +kernel, rfl⟩
theorem dX5_kindToWeigh_23 : Dc cX5_kindToWeigh 23 (.aload_n 0) 1 24 := ⟨by decide +kernel, rfl⟩
theorem dX5_kindToWeigh_24 : Dc cX5_kindToWeigh 24 (.getfield 27) 3 27 := ⟨by decide +kernel, rfl⟩
theorem dX5_kindToWeigh_27 : Dj cX5_kindToWeigh 27 (.if_icmp .ge 32) 3 30 (32) 59 := ⟨by decide +kernel, rfl, by decide⟩
theorem dX5_kindToWeigh_30 : Dc cX5_kindToWeigh 30 (.aload_n 0) 1 31 := ⟨by decide +kernel, rfl⟩
theorem dX5_kindToWeigh_31 : Dc cX5_kindToWeigh 31 (.iload_n 2) 1 32 := ⟨by decide +kernel, rfl⟩
theorem dX5_kindToWeigh_32 : Dc cX5_kindToWeigh 32 (.invokevirtual 31) 3 35 := ⟨by decide +kernel, rfl⟩
theorem dX5_kindToWeigh_35 : Dj cX5_kindToWeigh 35 (.ifCond .ne 18) 3 38 (18) 53 := ⟨by decide +kernel, rfl, by decide⟩
theorem dX5_kindToWeigh_38 : Dc cX5_kindToWeigh 38 (.aload_n 0) 1 39 := ⟨by decide +kernel, rfl⟩
theorem dX5_kindToWeigh_39 : Dc cX5_kindToWeigh 39 (.getfield 24) 3 42 := ⟨by decide +kernel, rfl⟩
theorem dX5_kindToWeigh_42 : Dc cX5_kindToWeigh 42 (.aload_n 0) 1 43 := ⟨by decide +kernel, rfl⟩
theorem dX5_kindToWeigh_43 : Dc cX5_kindToWeigh 43 (.getfield 9) 3 46 := ⟨by decide +kernel, rfl⟩
theorem dX5_kindToWeigh_46 : Dc cX5_kindToWeigh 46 (.iload_n 2) 1 47 := ⟨by decide +kernel, rfl⟩
theorem dX5_kindToWeigh_47 : Dc cX5_kindToWeigh 47 (.iaload) 1 48 := ⟨by decide +kernel, rfl⟩
theorem dX5_kindToWeigh_48 : Dc cX5_kindToWeigh 48 (.dup2) 1 49 := ⟨by decide +kernel, rfl⟩
theorem dX5_kindToWeigh_49 : Dc cX5_kindToWeigh 49 (.iaload) 1 50 := ⟨by decide +kernel, rfl⟩
theorem dX5_kindToWeigh_50 : Dc cX5_kindToWeigh 50 (.iconst 1) 1 51 := ⟨by decide +kernel, rfl⟩
theorem dX5_kindToWeigh_51 : Dc cX5_kindToWeigh 51 (.iadd) 1 52 := ⟨by decide +kernel, rfl⟩
theorem dX5_kindToWeigh_52 : Dc cX5_kindToWeigh 52 (.iastore) 1 53 := ⟨by decide +kernel, rfl⟩
theorem dX5_kindToWeigh_53 : Dc cX5_kindToWeigh 53 (.iinc 2 1) 3 56 := ⟨by decide +kernel, rfl⟩
theorem dX5_kindToWeigh_56 : Dj cX5_kindToWeigh 56 (.goto (-34)) 3 59 (-34) 22 := ⟨by decide +kernel, rfl, by decide⟩
theorem dX5_kindToWeigh_59 : Dc cX5_kindToWeigh 59 (.iconst (-1)) 1 60 := ⟨by decide +kernel, rfl⟩
theorem dX5_kindToWeigh_60 : Dc cX5_kindToWeigh 60 (.istore_n 2) 1 61 := ⟨by decide +kernel, rfl⟩
theorem dX5_kindToWeigh_61 : Dc cX5_kindToWeigh 61 (.iconst 0) 1 62 := ⟨by decide +kernel, rfl⟩
theorem dX5_kindToWeigh_62 : Dc cX5_kindToWeigh 62 (.istore_n 3) 1 63 := ⟨by decide +kernel, rfl⟩
theorem dX5_kindToWeigh_63 : Dc cX5_kindToWeigh 63 (.iload_n 3) 1 64 := ⟨by decide +kernel, rfl⟩
theorem dX5_kindToWeigh_64 : Dc cX5_kindToWeigh 64 (.aload_n 1) 1 65 := ⟨by decide +kernel, rfl⟩
theorem dX5_kindToWeigh_65 : Dc cX5_kindToWeigh 65 (.getfield 40) 3 68 := ⟨by decide +kernel, rfl⟩
theorem dX5_kindToWeigh_68 : Dj cX5_kindToWeigh 68 (.if_icmp .ge 35) 3 71 (35) 103 := ⟨by decide +kernel, rfl, by decide⟩
theorem dX5_kindToWeigh_71 : Dc cX5_kindToWeigh 71 (.aload_n 0) 1 72 := ⟨by decide +kernel, rfl⟩
theorem dX5_kindToWeigh_72 : Dc cX5_kindToWeigh 72 (.getfield 24) 3 75 := ⟨by decide +kernel, rfl⟩
theorem dX5_kindToWeigh_75 : Dc cX5_kindToWeigh 75 (.iload_n 3) 1 76 := ⟨by decide +kernel, rfl⟩
theorem dX5_kindToWeigh_76 : Dc cX5_kindToWeigh 76 (.iaload) 1 77 := ⟨by decide +kernel, rfl⟩
theorem dX5_kindToWeigh_77 : Dc cX5_kindToWeigh 77 (.iload_n 2) 1 78 := ⟨by decide +kernel, rfl⟩
theorem dX5_kindToWeigh_78 : Dc cX5_kindToWeigh 78 (.iconst (-1)) 1 79 := ⟨by decide +kernel, rfl⟩
theorem dX5_kindToWeigh_79 : Dj cX5_kindToWeigh 79 (.if_icmp .ne 7) 3 82 (7) 86 := ⟨by decide +kernel, rfl, by decide⟩
theorem dX5_kindToWeigh_82 : Dc cX5_kindToWeigh 82 (.iconst 0) 1 83 := ⟨by decide +kernel, rfl⟩
theorem dX5_kindToWeigh_83 : Dj cX5_kindToWeigh 83 (.goto 9) 3 86 (9) 92 := ⟨by decide +kernel, rfl, by decide⟩
theorem dX5_kindToWeigh_86 : Dc cX5_kindToWeigh 86 (.aload_n 0) 1 87 := ⟨by decide +kernel, rfl⟩
theorem dX5_kindToWeigh_87 : Dc cX5_kindToWeigh 87 (.getfield 24) 3 90 := ⟨by decide +kernel, rfl⟩
theorem dX5_kindToWeigh_90 : Dc cX5_kindToWeigh 90 (.iload_n 2) 1 91 := ⟨by decide +kernel, rfl⟩
theorem dX5_kindToWeigh_91 : Dc cX5_kindToWeigh 91 (.iaload) 1 92 := ⟨by decide +kernel, rfl⟩
theorem dX5_kindToWeigh_92 : Dj cX5_kindToWeigh 92 (.if_icmp .le 5) 3 95 (5) 97 := ⟨by decide +kernel, rfl, by decide⟩
theorem dX5_kindToWeigh_95 : Dc cX5_kindToWeigh 95 (.iload_n 3) 1 96 := ⟨by decide +kernel, rfl⟩
theorem dX5_kindToWeigh_96 : Dc cX5_kindToWeigh 96 (.istore_n 2) 1 97 := ⟨by decide +kernel, rfl⟩
theorem dX5_kindToWeigh_97 : Dc cX5_kindToWeigh 97 (.iinc 3 1) 3 100 := ⟨by decide +kernel, rfl⟩
theorem dX5_kindToWeigh_100 : Dj cX5_kindToWeigh 100 (.goto (-37)) 3 103 (-37) 63 := ⟨by decide +kernel, rfl, by decide⟩
theorem dX5_kindToWeigh_103 : Dc cX5_kindToWeigh 103 (.iload_n 2) 1 104 := ⟨by decide +kernel, rfl⟩
theorem dX5_kindToWeigh_104 : Dc cX5_kindToWeigh 104 (.ireturn) 1 105 := ⟨by decide +kernel, rfl⟩
theorem dX5_bearsStampOfDead_0 : Dc cX5_bearsStampOfDead 0 (.aload_n 0) 1 1 := ⟨by decide +kernel, rfl⟩
theorem dX5_bearsStampOfDead_1 : Dc cX5_bearsStampOfDead 1 (.getfield 18) 3 4 := ⟨by decide +kernel, rfl⟩
theorem dX5_bearsStampOfDead_4 : Dc cX5_bearsStampOfDead 4 (.iload_n 1) 1 5 := ⟨by decide +kernel, rfl⟩
theorem dX5_bearsStampOfDead_5 : Dc cX5_bearsStampOfDead 5 (.iaload) 1 6 := ⟨by decide +kernel, rfl⟩
theorem dX5_bearsStampOfDead_6 : Dc cX5_bearsStampOfDead 6 (.aload_n 0) 1 7 := ⟨by decide +kernel, rfl⟩
theorem dX5_bearsStampOfDead_7 : Dc cX5_bearsStampOfDead 7 (.getfield 15) 3 10 := ⟨by decide +kernel, rfl⟩
theorem dX5_bearsStampOfDead_10 : Dc cX5_bearsStampOfDead 10 (.iload_n 1) 1 11 := ⟨by decide +kernel, rfl⟩
theorem dX5_bearsStampOfDead_11 : Dc cX5_bearsStampOfDead 11 (.iaload) 1 12 := ⟨by decide +kernel, rfl⟩
theorem dX5_bearsStampOfDead_12 : Dj cX5_bearsStampOfDead 12 (.if_icmp .le 7) 3 15 (7) 19 := ⟨by decide +kernel, rfl, by decide⟩
theorem dX5_bearsStampOfDead_15 : Dc cX5_bearsStampOfDead 15 (.iconst 1) 1 16 := ⟨by decide +kernel, rfl⟩
theorem dX5_bearsStampOfDead_16 : Dj cX5_bearsStampOfDead 16 (.goto 4) 3 19 (4) 20 := ⟨by decide +kernel, rfl, by decide⟩
theorem dX5_bearsStampOfDead_19 : Dc cX5_bearsStampOfDead 19 (.iconst 0) 1 20 := ⟨by decide +kernel, rfl⟩
theorem dX5_bearsStampOfDead_20 : Dc cX5_bearsStampOfDead 20 (.ireturn) 1 21 := ⟨by decide +kernel, rfl⟩
theorem dX6_init_0 : Dc cX6_init 0 (.aload_n 0) 1 1 := ⟨by decide +kernel, rfl⟩
theorem dX6_init_1 : Dc cX6_init 1 (.invokespecial 3) 3 4 := ⟨by decide +kernel, rfl⟩
theorem dX6_init_4 : Dc cX6_init 4 (.aload_n 0) 1 5 := ⟨by decide +kernel, rfl⟩
theorem dX6_init_5 : Dc cX6_init 5 (.new 9) 3 8 := ⟨by decide +kernel, rfl⟩
theorem dX6_init_8 : Dc cX6_init 8 (.dup) 1 9 := ⟨by decide +kernel, rfl⟩
theorem dX6_init_9 : Dc cX6_init 9 (.invokespecial 11) 3 12 := ⟨by decide +kernel, rfl⟩
theorem dX6_init_12 : Dc cX6_init 12 (.putfield 12) 3 15 := ⟨by decide +kernel, rfl⟩
theorem dX6_init_15 : Dc cX6_init 15 (.aload_n 0) 1 16 := ⟨by decide +kernel, rfl⟩
theorem dX6_init_16 : Dc cX6_init 16 (.iconst 0) 1 17 := ⟨by decide +kernel, rfl⟩
theorem dX6_init_17 : Dc cX6_init 17 (.putfield 18) 3 20 := ⟨by decide +kernel, rfl⟩
theorem dX6_init_20 : Dc cX6_init 20 (.aload_n 0) 1 21 := ⟨by decide +kernel, rfl⟩
theorem dX6_init_21 : Dc cX6_init 21 (.iconst 0) 1 22 := ⟨by decide +kernel, rfl⟩
theorem dX6_init_22 : Dc cX6_init 22 (.putfield 22) 3 25 := ⟨by decide +kernel, rfl⟩
theorem dX6_init_25 : Dc cX6_init 25 (.aload_n 0) 1 26 := ⟨by decide +kernel, rfl⟩
theorem dX6_init_26 : Dc cX6_init 26 (.iconst 0) 1 27 := ⟨by decide +kernel, rfl⟩
theorem dX6_init_27 : Dc cX6_init 27 (.putfield 25) 3 30 := ⟨by decide +kernel, rfl⟩
theorem dX6_init_30 : Dc cX6_init 30 (.aload_n 0) 1 31 := ⟨by decide +kernel, rfl⟩
theorem dX6_init_31 : Dc cX6_init 31 (.iconst 4) 1 32 := ⟨by decide +kernel, rfl⟩
theorem dX6_init_32 : Dc cX6_init 32 (.newarray .int) 2 34 := ⟨by decide +kernel, rfl⟩
theorem dX6_init_34 : Dc cX6_init 34 (.putfield 28) 3 37 := ⟨by decide +kernel, rfl⟩
theorem dX6_init_37 : Dc cX6_init 37 (.aload_n 0) 1 38 := ⟨by decide +kernel, rfl⟩
theorem dX6_init_38 : Dc cX6_init 38 (.iconst 5) 1 39 := ⟨by decide +kernel, rfl⟩
theorem dX6_init_39 : Dc cX6_init 39 (.newarray .int) 2 41 := ⟨by decide +kernel, rfl⟩
theorem dX6_init_41 : Dc cX6_init 41 (.putfield 32) 3 44 := ⟨by decide +kernel, rfl⟩
theorem dX6_init_44 : Dc cX6_init 44 (.aload_n 0) 1 45 := ⟨by decide +kernel, rfl⟩
theorem dX6_init_45 : Dc cX6_init 45 (.bipush 20) 2 47 := ⟨by decide +kernel, rfl⟩
theorem dX6_init_47 : Dc cX6_init 47 (.newarray .int) 2 49 := ⟨by decide +kernel, rfl⟩
theorem dX6_init_49 : Dc cX6_init 49 (.putfield 35) 3 52 := ⟨by decide +kernel, rfl⟩
theorem dX6_init_52 : Dc cX6_init 52 (.return_) 1 53 := ⟨by decide +kernel, rfl⟩
theorem dX6_begin_0 : Dc cX6_begin 0 (.aload_n 0) 1 1 := ⟨by decide +kernel, rfl⟩
theorem dX6_begin_1 : Dc cX6_begin 1 (.getfield 12) 3 4 := ⟨by decide +kernel, rfl⟩
theorem dX6_begin_4 : Dc cX6_begin 4 (.aload_n 1) 1 5 := ⟨by decide +kernel, rfl⟩
theorem dX6_begin_5 : Dc cX6_begin 5 (.invokevirtual 38) 3 8 := ⟨by decide +kernel, rfl⟩
theorem dX6_begin_8 : Dc cX6_begin 8 (.aload_n 0) 1 9 := ⟨by decide +kernel, rfl⟩
theorem dX6_begin_9 : Dc cX6_begin 9 (.aload_n 1) 1 10 := ⟨by decide +kernel, rfl⟩
theorem dX6_begin_10 : Dc cX6_begin 10 (.getfield 42) 3 13 := ⟨by decide +kernel, rfl⟩
theorem dX6_begin_13 : Dc cX6_begin 13 (.putfield 18) 3 16 := ⟨by decide +kernel, rfl⟩
theorem dX6_begin_16 : Dc cX6_begin 16 (.aload_n 0) 1 17 := ⟨by decide +kernel, rfl⟩
theorem dX6_begin_17 : Dc cX6_begin 17 (.iconst 0) 1 18 := ⟨by decide +kernel, rfl⟩
theorem dX6_begin_18 : Dc cX6_begin 18 (.putfield 22) 3 21 := ⟨by decide +kernel, rfl⟩
theorem dX6_begin_21 : Dc cX6_begin 21 (.aload_n 0) 1 22 := ⟨by decide +kernel, rfl⟩
theorem dX6_begin_22 : Dc cX6_begin 22 (.iconst 0) 1 23 := ⟨by decide +kernel, rfl⟩
theorem dX6_begin_23 : Dc cX6_begin 23 (.putfield 25) 3 26 := ⟨by decide +kernel, rfl⟩
theorem dX6_begin_26 : Dc cX6_begin 26 (.iconst 0) 1 27 := ⟨by decide +kernel, rfl⟩
theorem dX6_begin_27 : Dc cX6_begin 27 (.istore_n 2) 1 28 := ⟨by decide +kernel, rfl⟩
theorem dX6_begin_28 : Dc cX6_begin 28 (.iload_n 2) 1 29 := ⟨by decide +kernel, rfl⟩
theorem dX6_begin_29 : Dc cX6_begin 29 (.iconst 4) 1 30 := ⟨by decide +kernel, rfl⟩
theorem dX6_begin_30 : Dj cX6_begin 30 (.if_icmp .ge 33) 3 33 (33) 63 := ⟨by decide +kernel, rfl, by decide⟩
theorem dX6_begin_33 : Dc cX6_begin 33 (.aload_n 0) 1 34 := ⟨by decide +kernel, rfl⟩
theorem dX6_begin_34 : Dc cX6_begin 34 (.getfield 28) 3 37 := ⟨by decide +kernel, rfl⟩
theorem dX6_begin_37 : Dc cX6_begin 37 (.iload_n 2) 1 38 := ⟨by decide +kernel, rfl⟩
theorem dX6_begin_38 : Dc cX6_begin 38 (.iload_n 2) 1 39 := ⟨by decide +kernel, rfl⟩
theorem dX6_begin_39 : Dc cX6_begin 39 (.aload_n 1) 1 40 := ⟨by decide +kernel, rfl⟩
theorem dX6_begin_40 : Dc cX6_begin 40 (.getfield 45) 3 43 := ⟨by decide +kernel, rfl⟩
theorem dX6_begin_43 : Dj cX6_begin 43 (.if_icmp .ge 12) 3 46 (12) 55 := ⟨by decide +kernel, rfl, by decide⟩
theorem dX6_begin_46 : Dc cX6_begin 46 (.aload_n 1) 1 47 := ⟨by decide +kernel, rfl⟩
theorem dX6_begin_47 : Dc cX6_begin 47 (.getfield 48) 3 50 := ⟨by decide +kernel, rfl⟩
theorem dX6_begin_50 : Dc cX6_begin 50 (.iload_n 2) 1 51 := ⟨by decide +kernel, rfl⟩
theorem dX6_begin_51 : Dc cX6_begin 51 (.iaload) 1 52 := ⟨by decide +kernel, rfl⟩
theorem dX6_begin_52 : Dj cX6_begin 52 (.goto 4) 3 55 (4) 56 := ⟨by decide +kernel, rfl, by decide⟩
theorem dX6_begin_55 : Dc cX6_begin 55 (.iconst 0) 1 56 := ⟨by decide +kernel, rfl⟩
theorem dX6_begin_56 : Dc cX6_begin 56 (.iastore) 1 57 := ⟨by decide +kernel, rfl⟩
theorem dX6_begin_57 : Dc cX6_begin 57 (.iinc 2 1) 3 60 := ⟨by decide +kernel, rfl⟩
theorem dX6_begin_60 : Dj cX6_begin 60 (.goto (-32)) 3 63 (-32) 28 := ⟨by decide +kernel, rfl, by decide⟩
theorem dX6_begin_63 : Dc cX6_begin 63 (.iconst 0) 1 64 := ⟨by decide +kernel, rfl⟩
theorem dX6_begin_64 : Dc cX6_begin 64 (.istore_n 2) 1 65 := ⟨by decide +kernel, rfl⟩
theorem dX6_begin_65 : Dc cX6_begin 65 (.iload_n 2) 1 66 := ⟨by decide +kernel, rfl⟩
theorem dX6_begin_66 : Dc cX6_begin 66 (.iconst 5) 1 67 := ⟨by decide +kernel, rfl⟩
theorem dX6_begin_67 : Dj cX6_begin 67 (.if_icmp .ge 16) 3 70 (16) 83 := ⟨by decide +kernel, rfl, by decide⟩
theorem dX6_begin_70 : Dc cX6_begin 70 (.aload_n 0) 1 71 := ⟨by decide +kernel, rfl⟩
theorem dX6_begin_71 : Dc cX6_begin 71 (.getfield 32) 3 74 := ⟨by decide +kernel, rfl⟩
theorem dX6_begin_74 : Dc cX6_begin 74 (.iload_n 2) 1 75 := ⟨by decide +kernel, rfl⟩
theorem dX6_begin_75 : Dc cX6_begin 75 (.iconst 0) 1 76 := ⟨by decide +kernel, rfl⟩
theorem dX6_begin_76 : Dc cX6_begin 76 (.iastore) 1 77 := ⟨by decide +kernel, rfl⟩
theorem dX6_begin_77 : Dc cX6_begin 77 (.iinc 2 1) 3 80 := ⟨by decide +kernel, rfl⟩
theorem dX6_begin_80 : Dj cX6_begin 80 (.goto (-15)) 3 83 (-15) 65 := ⟨by decide +kernel, rfl, by decide⟩
theorem dX6_begin_83 : Dc cX6_begin 83 (.iconst 0) 1 84 := ⟨by decide +kernel, rfl⟩
theorem dX6_begin_84 : Dc cX6_begin 84 (.istore_n 2) 1 85 := ⟨by decide +kernel, rfl⟩
theorem dX6_begin_85 : Dc cX6_begin 85 (.iload_n 2) 1 86 := ⟨by decide +kernel, rfl⟩
theorem dX6_begin_86 : Dc cX6_begin 86 (.bipush 20) 2 88 := ⟨by decide +kernel, rfl⟩
theorem dX6_begin_88 : Dj cX6_begin 88 (.if_icmp .ge 16) 3 91 (16) 104 := ⟨by decide +kernel, rfl, by decide⟩
theorem dX6_begin_91 : Dc cX6_begin 91 (.aload_n 0) 1 92 := ⟨by decide +kernel, rfl⟩
theorem dX6_begin_92 : Dc cX6_begin 92 (.getfield 35) 3 95 := ⟨by decide +kernel, rfl⟩
theorem dX6_begin_95 : Dc cX6_begin 95 (.iload_n 2) 1 96 := ⟨by decide +kernel, rfl⟩
theorem dX6_begin_96 : Dc cX6_begin 96 (.iconst 0) 1 97 := ⟨by decide +kernel, rfl⟩
theorem dX6_begin_97 : Dc cX6_begin 97 (.iastore) 1 98 := ⟨by decide +kernel, rfl⟩
theorem dX6_begin_98 : Dc cX6_begin 98 (.iinc 2 1) 3 101 := ⟨by decide +kernel, rfl⟩
theorem dX6_begin_101 : Dj cX6_begin 101 (.goto (-16)) 3 104 (-16) 85 := ⟨by decide +kernel, rfl, by decide⟩
theorem dX6_begin_104 : Dc cX6_begin 104 (.return_) 1 105 := ⟨by decide +kernel, rfl⟩
theorem dX6_become_0 : Dc cX6_become 0 (.aload_n 0) 1 1 := ⟨by decide +kernel, rfl⟩
theorem dX6_become_1 : Dc cX6_become 1 (.getfield 12) 3 4 := ⟨by decide +kernel, rfl⟩
theorem dX6_become_4 : Dc cX6_become 4 (.aload_n 1) 1 5 := ⟨by decide +kernel, rfl⟩
theorem dX6_become_5 : Dc cX6_become 5 (.getfield 12) 3 8 := ⟨by decide +kernel, rfl⟩
theorem dX6_become_8 : Dc cX6_become 8 (.invokevirtual 51) 3 11 := ⟨by decide +kernel, rfl⟩
theorem dX6_become_11 : Dc cX6_become 11 (.aload_n 0) 1 12 := ⟨by decide +kernel, rfl⟩
theorem dX6_become_12 : Dc cX6_become 12 (.aload_n 1) 1 13 := ⟨by decide +kernel, rfl⟩
theorem dX6_become_13 : Dc cX6_become 13 (.getfield 18) 3 16 := ⟨by decide +kernel, rfl⟩
theorem dX6_become_16 : Dc cX6_become 16 (.putfield 18) 3 19 := ⟨by decide +kernel, rfl⟩
theorem dX6_become_19 : Dc cX6_become 19 (.aload_n 0) 1 20 := ⟨by decide +kernel, rfl⟩
theorem dX6_become_20 : Dc cX6_become 20 (.aload_n 1) 1 21 := ⟨by decide +kernel, rfl⟩
theorem dX6_become_21 : Dc cX6_become 21 (.getfield 22) 3 24 := ⟨by decide +kernel, rfl⟩
theorem dX6_become_24 : Dc cX6_become 24 (.putfield 22) 3 27 := ⟨by decide +kernel, rfl⟩
theorem dX6_become_27 : Dc cX6_become 27 (.aload_n 0) 1 28 := ⟨by decide +kernel, rfl⟩
theorem dX6_become_28 : Dc cX6_become 28 (.aload_n 1) 1 29 := ⟨by decide +kernel, rfl⟩
theorem dX6_become_29 : Dc cX6_become 29 (.getfield 25) 3 32 := ⟨by decide +kernel, rfl⟩
theorem dX6_become_32 : Dc cX6_become 32 (.putfield 25) 3 35 := ⟨by decide +kernel, rfl⟩
theorem dX6_become_35 : Dc cX6_become 35 (.iconst 0) 1 36 := ⟨by decide +kernel, rfl⟩
theorem dX6_become_36 : Dc cX6_become 36 (.istore_n 2) 1 37 := ⟨by decide +kernel, rfl⟩
theorem dX6_become_37 : Dc cX6_become 37 (.iload_n 2) 1 38 := ⟨by decide +kernel, rfl⟩
theorem dX6_become_38 : Dc cX6_become 38 (.iconst 4) 1 39 := ⟨by decide +kernel, rfl⟩
theorem dX6_become_39 : Dj cX6_become 39 (.if_icmp .ge 21) 3 42 (21) 60 := ⟨by decide +kernel, rfl, by decide⟩
theorem dX6_become_42 : Dc cX6_become 42 (.aload_n 0) 1 43 := ⟨by decide +kernel, rfl⟩
theorem dX6_become_43 : Dc cX6_become 43 (.getfield 28) 3 46 := ⟨by decide +kernel, rfl⟩
theorem dX6_become_46 : Dc cX6_become 46 (.iload_n 2) 1 47 := ⟨by decide +kernel, rfl⟩
theorem dX6_become_47 : Dc cX6_become 47 (.aload_n 1) 1 48 := ⟨by decide +kernel, rfl⟩
theorem dX6_become_48 : Dc cX6_become 48 (.getfield 28) 3 51 := ⟨by decide +kernel, rfl⟩
theorem dX6_become_51 : Dc cX6_become 51 (.iload_n 2) 1 52 := ⟨by decide +kernel, rfl⟩
theorem dX6_become_52 : Dc cX6_become 52 (.iaload) 1 53 := ⟨by decide +kernel, rfl⟩
theorem dX6_become_53 : Dc cX6_become 53 (.iastore) 1 54 := ⟨by decide +kernel, rfl⟩
theorem dX6_become_54 : Dc cX6_become 54 (.iinc 2 1) 3 57 := ⟨by decide +kernel, rfl⟩
theorem dX6_become_57 : Dj cX6_become 57 (.goto (-20)) 3 60 (-20) 37 := ⟨by decide +kernel, rfl, by decide⟩
theorem dX6_become_60 : Dc cX6_become 60 (.iconst 0) 1 61 := ⟨by decide +kernel, rfl⟩
theorem dX6_become_61 : Dc cX6_become 61 (.istore_n 2) 1 62 := ⟨by decide +kernel, rfl⟩
theorem dX6_become_62 : Dc cX6_become 62 (.iload_n 2) 1 63 := ⟨by decide +kernel, rfl⟩
theorem dX6_become_63 : Dc cX6_become 63 (.iconst 5) 1 64 := ⟨by decide +kernel, rfl⟩
theorem dX6_become_64 : Dj cX6_become 64 (.if_icmp .ge 21) 3 67 (21) 85 := ⟨by decide +kernel, rfl, by decide⟩
theorem dX6_become_67 : Dc cX6_become 67 (.aload_n 0) 1 68 := ⟨by decide +kernel, rfl⟩
theorem dX6_become_68 : Dc cX6_become 68 (.getfield 32) 3 71 := ⟨by decide +kernel, rfl⟩
theorem dX6_become_71 : Dc cX6_become 71 (.iload_n 2) 1 72 := ⟨by decide +kernel, rfl⟩
theorem dX6_become_72 : Dc cX6_become 72 (.aload_n 1) 1 73 := ⟨by decide +kernel, rfl⟩
theorem dX6_become_73 : Dc cX6_become 73 (.getfield 32) 3 76 := ⟨by decide +kernel, rfl⟩
theorem dX6_become_76 : Dc cX6_become 76 (.iload_n 2) 1 77 := ⟨by decide +kernel, rfl⟩
theorem dX6_become_77 : Dc cX6_become 77 (.iaload) 1 78 := ⟨by decide +kernel, rfl⟩
theorem dX6_become_78 : Dc cX6_become 78 (.iastore) 1 79 := ⟨by decide +kernel, rfl⟩
theorem dX6_become_79 : Dc cX6_become 79 (.iinc 2 1) 3 82 := ⟨by decide +kernel, rfl⟩
theorem dX6_become_82 : Dj cX6_become 82 (.goto (-20)) 3 85 (-20) 62 := ⟨by decide +kernel, rfl, by decide⟩
theorem dX6_become_85 : Dc cX6_become 85 (.iconst 0) 1 86 := ⟨by decide +kernel, rfl⟩
theorem dX6_become_86 : Dc cX6_become 86 (.istore_n 2) 1 87 := ⟨by decide +kernel, rfl⟩
theorem dX6_become_87 : Dc cX6_become 87 (.iload_n 2) 1 88 := ⟨by decide +kernel, rfl⟩
theorem dX6_become_88 : Dc cX6_become 88 (.bipush 20) 2 90 := ⟨by decide +kernel, rfl⟩
theorem dX6_become_90 : Dj cX6_become 90 (.if_icmp .ge 21) 3 93 (21) 111 := ⟨by decide +kernel, rfl, by decide⟩
theorem dX6_become_93 : Dc cX6_become 93 (.aload_n 0) 1 94 := ⟨by decide +kernel, rfl⟩
theorem dX6_become_94 : Dc cX6_become 94 (.getfield 35) 3 97 := ⟨by decide +kernel, rfl⟩
theorem dX6_become_97 : Dc cX6_become 97 (.iload_n 2) 1 98 := ⟨by decide +kernel, rfl⟩
theorem dX6_become_98 : Dc cX6_become 98 (.aload_n 1) 1 99 := ⟨by decide +kernel, rfl⟩
theorem dX6_become_99 : Dc cX6_become 99 (.getfield 35) 3 102 := ⟨by decide +kernel, rfl⟩
theorem dX6_become_102 : Dc cX6_become 102 (.iload_n 2) 1 103 := ⟨by decide +kernel, rfl⟩
theorem dX6_become_103 : Dc cX6_become 103 (.iaload) 1 104 := ⟨by decide +kernel, rfl⟩
theorem dX6_become_104 : Dc cX6_become 104 (.iastore) 1 105 := ⟨by decide +kernel, rfl⟩
theorem dX6_become_105 : Dc cX6_become 105 (.iinc 2 1) 3 108 := ⟨by decide +kernel, rfl⟩
theorem dX6_become_108 : Dj cX6_become 108 (.goto (-21)) 3 111 (-21) 87 := ⟨by decide +kernel, rfl, by decide⟩
theorem dX6_become_111 : Dc cX6_become 111 (.return_) 1 112 := ⟨by decide +kernel, rfl⟩
theorem dX6_passDay_0 : Dc cX6_passDay 0 (.aload_n 0) 1 1 := ⟨by decide +kernel, rfl⟩
theorem dX6_passDay_1 : Dc cX6_passDay 1 (.getfield 12) 3 4 := ⟨by decide +kernel, rfl⟩
theorem dX6_passDay_4 : Dc cX6_passDay 4 (.aload_n 1) 1 5 := ⟨by decide +kernel, rfl⟩
theorem dX6_passDay_5 : Dc cX6_passDay 5 (.iload_n 2) 1 6 := ⟨by decide +kernel, rfl⟩
theorem dX6_passDay_6 : Dc cX6_passDay 6 (.invokevirtual 55) 3 9 := ⟨by decide +kernel, rfl⟩
theorem dX6_passDay_9 : Dc cX6_passDay 9 (.iconst 0) 1 10 := ⟨by decide +kernel, rfl⟩
theorem dX6_passDay_10 : Dc cX6_passDay 10 (.istore_n 3) 1 11 := ⟨by decide +kernel, rfl⟩
theorem dX6_passDay_11 : Dc cX6_passDay 11 (.iload_n 3) 1 12 := ⟨by decide +kernel, rfl⟩
theorem dX6_passDay_12 : Dc cX6_passDay 12 (.aload_n 1) 1 13 := ⟨by decide +kernel, rfl⟩
theorem dX6_passDay_13 : Dc cX6_passDay 13 (.getfield 59) 3 16 := ⟨by decide +kernel, rfl⟩
theorem dX6_passDay_16 : Dj cX6_passDay 16 (.if_icmp .ge 34) 3 19 (34) 50 := ⟨by decide +kernel, rfl, by decide⟩
theorem dX6_passDay_19 : Dc cX6_passDay 19 (.aload_n 0) 1 20 := ⟨by decide +kernel, rfl⟩
theorem dX6_passDay_20 : Dc cX6_passDay 20 (.iload_n 3) 1 21 := ⟨by decide +kernel, rfl⟩
theorem dX6_passDay_21 : Dc cX6_passDay 21 (.aload_n 0) 1 22 := ⟨by decide +kernel, rfl⟩
theorem dX6_passDay_22 : Dc cX6_passDay 22 (.getfield 12) 3 25 := ⟨by decide +kernel, rfl⟩
theorem dX6_passDay_25 : Dc cX6_passDay 25 (.getfield 62) 3 28 := ⟨by decide +kernel, rfl⟩
theorem dX6_passDay_28 : Dc cX6_passDay 28 (.iload_n 3) 1 29 := ⟨by decide +kernel, rfl⟩
theorem dX6_passDay_29 : Dc cX6_passDay 29 (.iaload) 1 30 := ⟨by decide +kernel, rfl⟩
theorem dX6_passDay_30 : Dc cX6_passDay 30 (.aload_n 1) 1 31 := ⟨by decide +kernel, rfl⟩
theorem dX6_passDay_31 : Dc cX6_passDay 31 (.getfield 65) 3 34 := ⟨by decide +kernel, rfl⟩
theorem dX6_passDay_34 : Dc cX6_passDay 34 (.iload_n 3) 1 35 := ⟨by decide +kernel, rfl⟩
theorem dX6_passDay_35 : Dc cX6_passDay 35 (.iaload) 1 36 := ⟨by decide +kernel, rfl⟩
theorem dX6_passDay_36 : Dc cX6_passDay 36 (.imul) 1 37 := ⟨by decide +kernel, rfl⟩
theorem dX6_passDay_37 : Dc cX6_passDay 37 (.aload_n 1) 1 38 := ⟨by decide +kernel, rfl⟩
theorem dX6_passDay_38 : Dc cX6_passDay 38 (.getfield 45) 3 41 := ⟨by decide +kernel, rfl⟩
theorem dX6_passDay_41 : Dc cX6_passDay 41 (.invokevirtual 68) 3 44 := ⟨by decide +kernel, rfl⟩
theorem dX6_passDay_44 : Dc cX6_passDay 44 (.iinc 3 1) 3 47 := ⟨by decide +kernel, rfl⟩
theorem dX6_passDay_47 : Dj cX6_passDay 47 (.goto (-36)) 3 50 (-36) 11 := ⟨by decide +kernel, rfl, by decide⟩
theorem dX6_passDay_50 : Dc cX6_passDay 50 (.aload_n 0) 1 51 := ⟨by decide +kernel, rfl⟩
theorem dX6_passDay_51 : Dc cX6_passDay 51 (.aload_n 0) 1 52 := ⟨by decide +kernel, rfl⟩
theorem dX6_passDay_52 : Dc cX6_passDay 52 (.getfield 12) 3 55 := ⟨by decide +kernel, rfl⟩
theorem dX6_passDay_55 : Dc cX6_passDay 55 (.getfield 72) 3 58 := ⟨by decide +kernel, rfl⟩
theorem dX6_passDay_58 : Dj cX6_passDay 58 (.ifCond .eq 12) 3 61 (12) 70 := ⟨by decide +kernel, rfl, by decide⟩
theorem dX6_passDay_61 : Dc cX6_passDay 61 (.aload_n 0) 1 62 := ⟨by decide +kernel, rfl⟩
theorem dX6_passDay_62 : Dc cX6_passDay 62 (.getfield 22) 3 65 := ⟨by decide +kernel, rfl⟩
theorem dX6_passDay_65 : Dc cX6_passDay 65 (.iconst 1) 1 66 := ⟨by decide +kernel, rfl⟩
theorem dX6_passDay_66 : Dc cX6_passDay 66 (.iadd) 1 67 := ⟨by decide +kernel, rfl⟩
theorem dX6_passDay_67 : Dj cX6_passDay 67 (.goto 13) 3 70 (13) 80 := ⟨by decide +kernel, rfl, by decide⟩
theorem dX6_passDay_70 : Dc cX6_passDay 70 (.iconst 0) 1 71 := ⟨by decide +kernel, rfl⟩
theorem dX6_passDay_71 : Dc cX6_passDay 71 (.aload_n 0) 1 72 := ⟨by decide +kernel, rfl⟩
theorem dX6_passDay_72 : Dc cX6_passDay 72 (.getfield 22) 3 75 := ⟨by decide +kernel, rfl⟩
theorem dX6_passDay_75 : Dc cX6_passDay 75 (.iconst 1) 1 76 := ⟨by decide +kernel, rfl⟩
theorem dX6_passDay_76 : Dc cX6_passDay 76 (.isub) 1 77 := ⟨by decide +kernel, rfl⟩
theorem dX6_passDay_77 : Dc cX6_passDay 77 (.invokestatic 76) 3 80 := ⟨by decide +kernel, rfl⟩
theorem dX6_passDay_80 : Dc cX6_passDay 80 (.putfield 22) 3 83 := ⟨by decide +kernel, rfl⟩
theorem dX6_passDay_83 : Dc cX6_passDay 83 (.return_) 1 84 := ⟨by decide +kernel, rfl⟩
theorem dX6_payCompany_0 : Dc cX6_payCompany 0 (.iconst 0) 1 1 := ⟨by decide +kernel, rfl⟩
theorem dX6_payCompany_1 : Dc cX6_payCompany 1 (.istore 4) 2 3 := ⟨by decide +kernel, rfl⟩
theorem dX6_payCompany_3 : Dc cX6_payCompany 3 (.iload 4) 2 5 := ⟨by decide +kernel, rfl⟩
theorem dX6_payCompany_5 : Dc cX6_payCompany 5 (.iload_n 3) 1 6 := ⟨by decide +kernel, rfl⟩
theorem dX6_payCompany_6 : Dj cX6_payCompany 6 (.if_icmp .ge 47) 3 9 (47) 53 := ⟨by decide +kernel, rfl, by decide⟩
theorem dX6_payCompany_9 : Dc cX6_payCompany 9 (.aload_n 0) 1 10 := ⟨by decide +kernel, rfl⟩
theorem dX6_payCompany_10 : Dc cX6_payCompany 10 (.getfield 28) 3 13 := ⟨by decide +kernel, rfl⟩
theorem dX6_payCompany_13 : Dc cX6_payCompany 13 (.iload 4) 2 15 := ⟨by decide +kernel, rfl⟩
theorem dX6_payCompany_15 : Dc cX6_payCompany 15 (.iaload) 1 16 := ⟨by decide +kernel, rfl⟩
theorem dX6_payCompany_16 : Dc cX6_payCompany 16 (.iload_n 2) 1 17 := ⟨by decide +kernel, rfl⟩
theorem dX6_payCompany_17 : Dj cX6_payCompany 17 (.if_icmp .lt 30) 3 20 (30) 47 := ⟨by decide +kernel, rfl, by decide⟩
theorem dX6_payCompany_20 : Dc cX6_payCompany 20 (.aload_n 0) 1 21 := ⟨by decide +kernel, rfl⟩
theorem dX6_payCompany_21 : Dc cX6_payCompany 21 (.getfield 28) 3 24 := ⟨by decide +kernel, rfl⟩
theorem dX6_payCompany_24 : Dc cX6_payCompany 24 (.iload 4) 2 26 := ⟨by decide +kernel, rfl⟩
theorem dX6_payCompany_26 : Dc cX6_payCompany 26 (.dup2) 1 27 := ⟨by decide +kernel, rfl⟩
theorem dX6_payCompany_27 : Dc cX6_payCompany 27 (.iaload) 1 28 := ⟨by decide +kernel, rfl⟩
theorem dX6_payCompany_28 : Dc cX6_payCompany 28 (.iload_n 2) 1 29 := ⟨by decide +kernel, rfl⟩
theorem dX6_payCompany_29 : Dc cX6_payCompany 29 (.isub) 1 30 := ⟨by decide +kernel, rfl⟩
theorem dX6_payCompany_30 : Dc cX6_payCompany 30 (.iastore) 1 31 := ⟨by decide +kernel, rfl⟩
theorem dX6_payCompany_31 : Dc cX6_payCompany 31 (.aload_n 0) 1 32 := ⟨by decide +kernel, rfl⟩
theorem dX6_payCompany_32 : Dc cX6_payCompany 32 (.getfield 35) 3 35 := ⟨by decide +kernel, rfl⟩
theorem dX6_payCompany_35 : Dc cX6_payCompany 35 (.iload_n 1) 1 36 := ⟨by decide +kernel, rfl⟩
theorem dX6_payCompany_36 : Dc cX6_payCompany 36 (.iconst 4) 1 37 := ⟨by decide +kernel, rfl⟩
theorem dX6_payCompany_37 : Dc cX6_payCompany 37 (.imul) 1 38 := ⟨by decide +kernel, rfl⟩
theorem dX6_payCompany_38 : Dc cX6_payCompany 38 (.iload 4) 2 40 := ⟨by decide +kernel, rfl⟩
theorem dX6_payCompany_40 : Dc cX6_payCompany 40 (.iadd) 1 41 := ⟨by decide +kernel, rfl⟩
theorem dX6_payCompany_41 : Dc cX6_payCompany 41 (.dup2) 1 42 := ⟨by decide +kernel, rfl⟩
theorem dX6_payCompany_42 : Dc cX6_payCompany 42 (.iaload) 1 43 := ⟨by decide +kernel, rfl⟩
theorem dX6_payCompany_43 : Dc cX6_payCompany 43 (.iload_n 2) 1 44 := ⟨by decide +kernel, rfl⟩
theorem dX6_payCompany_44 : Dc cX6_payCompany 44 (.iadd) 1 45 := ⟨by decide +kernel, rfl⟩
theorem dX6_payCompany_45 : Dc cX6_payCompany 45 (.iastore) 1 46 := ⟨by decide +kernel, rfl⟩
theorem dX6_payCompany_46 : Dc cX6_payCompany 46 (.return_) 1 47 := ⟨by decide +kernel, rfl⟩
theorem dX6_payCompany_47 : Dc cX6_payCompany 47 (.iinc 4 1) 3 50 := ⟨by decide +kernel, rfl⟩
theorem dX6_payCompany_50 : Dj cX6_payCompany 50 (.goto (-47)) 3 53 (-47) 3 := ⟨by decide +kernel, rfl, by decide⟩
theorem dX6_payCompany_53 : Dc cX6_payCompany 53 (.aload_n 0) 1 54 := ⟨by decide +kernel, rfl⟩
theorem dX6_payCompany_54 : Dc cX6_payCompany 54 (.getfield 32) 3 57 := ⟨by decide +kernel, rfl⟩
theorem dX6_payCompany_57 : Dc cX6_payCompany 57 (.iload_n 1) 1 58 := ⟨by decide +kernel, rfl⟩
theorem dX6_payCompany_58 : Dc cX6_payCompany 58 (.dup2) 1 59 := ⟨by decide +kernel, rfl⟩
theorem dX6_payCompany_59 : Dc cX6_payCompany 59 (.iaload) 1 60 := ⟨by decide +kernel, rfl⟩
theorem dX6_payCompany_60 : Dc cX6_payCompany 60 (.iload_n 2) 1 61 := ⟨by decide +kernel, rfl⟩
theorem dX6_payCompany_61 : Dc cX6_payCompany 61 (.iadd) 1 62 := ⟨by decide +kernel, rfl⟩
theorem dX6_payCompany_62 : Dc cX6_payCompany 62 (.iastore) 1 63 := ⟨by decide +kernel, rfl⟩
theorem dX6_payCompany_63 : Dc cX6_payCompany 63 (.return_) 1 64 := ⟨by decide +kernel, rfl⟩
theorem dX6_owedTo_0 : Dc cX6_owedTo 0 (.aload_n 0) 1 1 := ⟨by decide +kernel, rfl⟩
theorem dX6_owedTo_1 : Dc cX6_owedTo 1 (.getfield 32) 3 4 := ⟨by decide +kernel, rfl⟩
theorem dX6_owedTo_4 : Dc cX6_owedTo 4 (.iload_n 2) 1 5 := ⟨by decide +kernel, rfl⟩
theorem dX6_owedTo_5 : Dc cX6_owedTo 5 (.iaload) 1 6 := ⟨by decide +kernel, rfl⟩
theorem dX6_owedTo_6 : Dc cX6_owedTo 6 (.istore 4) 2 8 := ⟨by decide +kernel, rfl⟩
theorem dX6_owedTo_8 : Dc cX6_owedTo 8 (.iconst 0) 1 9 := ⟨by decide +kernel, rfl⟩
theorem dX6_owedTo_9 : Dc cX6_owedTo 9 (.istore 5) 2 11 := ⟨by decide +kernel, rfl⟩
theorem dX6_owedTo_11 : Dc cX6_owedTo 11 (.iload 5) 2 13 := ⟨by decide +kernel, rfl⟩
theorem dX6_owedTo_13 : Dc cX6_owedTo 13 (.aload_n 1) 1 14 := ⟨by decide +kernel, rfl⟩
theorem dX6_owedTo_14 : Dc cX6_owedTo 14 (.getfield 45) 3 17 := ⟨by decide +kernel, rfl⟩
theorem dX6_owedTo_17 : Dj cX6_owedTo 17 (.if_icmp .ge 33) 3 20 (33) 50 := ⟨by decide +kernel, rfl, by decide⟩
theorem dX6_owedTo_20 : Dc cX6_owedTo 20 (.iload 4) 2 22 := ⟨by decide +kernel, rfl⟩
theorem dX6_owedTo_22 : Dc cX6_owedTo 22 (.aload_n 0) 1 23 := ⟨by decide +kernel, rfl⟩
theorem dX6_owedTo_23 : Dc cX6_owedTo 23 (.getfield 35) 3 26 := ⟨by decide +kernel, rfl⟩
theorem dX6_owedTo_26 : Dc cX6_owedTo 26 (.iload_n 2) 1 27 := ⟨by decide +kernel, rfl⟩
theorem dX6_owedTo_27 : Dc cX6_owedTo 27 (.iconst 4) 1 28 := ⟨by decide +kernel, rfl⟩
theorem dX6_owedTo_28 : Dc cX6_owedTo 28 (.imul) 1 29 := ⟨by decide +kernel, rfl⟩
theorem dX6_owedTo_29 : Dc cX6_owedTo 29 (.iload 5) 2 31 := ⟨by decide +kernel, rfl⟩
theorem dX6_owedTo_31 : Dc cX6_owedTo 31 (.iadd) 1 32 := ⟨by decide +kernel, rfl⟩
theorem dX6_owedTo_32 : Dc cX6_owedTo 32 (.iaload) 1 33 := ⟨by decide +kernel, rfl⟩
theorem dX6_owedTo_33 : Dc cX6_owedTo 33 (.aload_n 1) 1 34 := ⟨by decide +kernel, rfl⟩
theorem dX6_owedTo_34 : Dc cX6_owedTo 34 (.iload 5) 2 36 := ⟨by decide +kernel, rfl⟩
theorem dX6_owedTo_36 : Dc cX6_owedTo 36 (.iload_n 3) 1 37 := ⟨by decide +kernel, rfl⟩
theorem dX6_owedTo_37 : Dc cX6_owedTo 37 (.invokestatic 82) 3 40 := ⟨by decide +kernel, rfl⟩
theorem dX6_owedTo_40 : Dc cX6_owedTo 40 (.imul) 1 41 := ⟨by decide +kernel, rfl⟩
theorem dX6_owedTo_41 : Dc cX6_owedTo 41 (.iadd) 1 42 := ⟨by decide +kernel, rfl⟩
theorem dX6_owedTo_42 : Dc cX6_owedTo 42 (.istore 4) 2 44 := ⟨by decide +kernel, rfl⟩
theorem dX6_owedTo_44 : Dc cX6_owedTo 44 (.iinc 5 1) 3 47 := ⟨by decide +kernel, rfl⟩
theorem dX6_owedTo_47 : Dj cX6_owedTo 47 (.goto (-36)) 3 50 (-36) 11 := ⟨by decide +kernel, rfl, by decide⟩
theorem dX6_owedTo_50 : Dc cX6_owedTo 50 (.iload 4) 2 52 := ⟨by decide +kernel, rfl⟩
theorem dX6_owedTo_52 : Dc cX6_owedTo 52 (.ireturn) 1 53 := ⟨by decide +kernel, rfl⟩
theorem dX6_worthOfSquare_0 : Dc cX6_worthOfSquare 0 (.iload_n 2) 1 1 := ⟨by decide +kernel, rfl⟩
theorem dX6_worthOfSquare_1 : decode cX6_worthOfSquare 1 = .ok (.lookupswitch 41 #[(0, 27), (1, 34)], 27) := by decide +kernel
theorem dX6_worthOfSquare_28 : Dc cX6_worthOfSquare 28 (.aload_n 0) 1 29 := ⟨by decide +kernel, rfl⟩
theorem dX6_worthOfSquare_29 : Dc cX6_worthOfSquare 29 (.getfield 86) 3 32 := ⟨by decide +kernel, rfl⟩
theorem dX6_worthOfSquare_32 : Dc cX6_worthOfSquare 32 (.iload_n 1) 1 33 := ⟨by decide +kernel, rfl⟩
theorem dX6_worthOfSquare_33 : Dc cX6_worthOfSquare 33 (.iaload) 1 34 := ⟨by decide +kernel, rfl⟩
theorem dX6_worthOfSquare_34 : Dc cX6_worthOfSquare 34 (.ireturn) 1 35 := ⟨by decide +kernel, rfl⟩
theorem dX6_worthOfSquare_35 : Dc cX6_worthOfSquare 35 (.aload_n 0) 1 36 := ⟨by decide +kernel, rfl⟩
theorem dX6_worthOfSquare_36 : Dc cX6_worthOfSquare 36 (.getfield 89) 3 39 := ⟨by decide +kernel, rfl⟩
theorem dX6_worthOfSquare_39 : Dc cX6_worthOfSquare 39 (.iload_n 1) 1 40 := ⟨by decide +kernel, rfl⟩
theorem dX6_worthOfSquare_40 : Dc cX6_worthOfSquare 40 (.iaload) 1 41 := ⟨by decide +kernel, rfl⟩
theorem dX6_worthOfSquare_41 : Dc cX6_worthOfSquare 41 (.ireturn) 1 42 := ⟨by decide +kernel, rfl⟩
theorem dX6_worthOfSquare_42 : Dc cX6_worthOfSquare 42 (.iconst 1) 1 43 := ⟨by decide +kernel, rfl⟩
theorem dX6_worthOfSquare_43 : Dc cX6_worthOfSquare 43 (.ireturn) 1 44 := ⟨by decide +kernel, rfl⟩
theorem dX6_hearGun_0 : Dc cX6_hearGun 0 (.aload_n 0) 1 1 := ⟨by decide +kernel, rfl⟩
theorem dX6_hearGun_1 : Dc cX6_hearGun 1 (.iconst 5) 1 2 := ⟨by decide +kernel, rfl⟩
theorem dX6_hearGun_2 : Dc cX6_hearGun 2 (.invokevirtual 92) 3 5 := ⟨by decide +kernel, rfl⟩
theorem dX6_hearGun_5 : Dc cX6_hearGun 5 (.return_) 1 6 := ⟨by decide +kernel, rfl⟩
theorem dX6_raiseOdds_0 : Dc cX6_raiseOdds 0 (.aload_n 0) 1 1 := ⟨by decide +kernel, rfl⟩
theorem dX6_raiseOdds_1 : Dc cX6_raiseOdds 1 (.bipush 99) 2 3 := ⟨by decide +kernel, rfl⟩
theorem dX6_raiseOdds_3 : Dc cX6_raiseOdds 3 (.aload_n 0) 1 4 := ⟨by decide +kernel, rfl⟩
theorem dX6_raiseOdds_4 : Dc cX6_raiseOdds 4 (.getfield 18) 3 7 := ⟨by decide +kernel, rfl⟩
theorem dX6_raiseOdds_7 : Dc cX6_raiseOdds 7 (.iload_n 1) 1 8 := ⟨by decide +kernel, rfl⟩
theorem dX6_raiseOdds_8 : Dc cX6_raiseOdds 8 (.iadd) 1 9 := ⟨by decide +kernel, rfl⟩
theorem dX6_raiseOdds_9 : Dc cX6_raiseOdds 9 (.invokestatic 96) 3 12 := ⟨by decide +kernel, rfl⟩
theorem dX6_raiseOdds_12 : Dc cX6_raiseOdds 12 (.putfield 18) 3 15 := ⟨by decide +kernel, rfl⟩
theorem dX6_raiseOdds_15 : Dc cX6_raiseOdds 15 (.return_) 1 16 := ⟨by decide +kernel, rfl⟩
theorem dX7_init_0 : Dc cX7_init 0 (.aload_n 0) 1 1 := ⟨by decide +kernel, rfl⟩
theorem dX7_init_1 : Dc cX7_init 1 (.invokespecial 3) 3 4 := ⟨by decide +kernel, rfl⟩
theorem dX7_init_4 : Dc cX7_init 4 (.aload_n 0) 1 5 := ⟨by decide +kernel, rfl⟩
theorem dX7_init_5 : Dc cX7_init 5 (.sipush 240) 3 8 := ⟨by decide +kernel, rfl⟩
theorem dX7_init_8 : Dc cX7_init 8 (.newarray .int) 2 10 := ⟨by decide +kernel, rfl⟩
theorem dX7_init_10 : Dc cX7_init 10 (.putfield 9) 3 13 := ⟨by decide +kernel, rfl⟩
theorem dX7_init_13 : Dc cX7_init 13 (.aload_n 0) 1 14 := ⟨by decide +kernel, rfl⟩
theorem dX7_init_14 : Dc cX7_init 14 (.iconst 0) 1 15 := ⟨by decide +kernel, rfl⟩
theorem dX7_init_15 : Dc cX7_init 15 (.putfield 15) 3 18 := ⟨by decide +kernel, rfl⟩
theorem dX7_init_18 : Dc cX7_init 18 (.return_) 1 19 := ⟨by decide +kernel, rfl⟩
theorem dX7_append_0 : Dc cX7_append 0 (.aload_n 0) 1 1 := ⟨by decide +kernel, rfl⟩
theorem dX7_append_1 : Dc cX7_append 1 (.getfield 15) 3 4 := ⟨by decide +kernel, rfl⟩
theorem dX7_append_4 : Dc cX7_append 4 (.sipush 240) 3 7 := ⟨by decide +kernel, rfl⟩
theorem dX7_append_7 : Dj cX7_append 7 (.if_icmp .ge 23) 3 10 (23) 30 := ⟨by decide +kernel, rfl, by decide⟩
theorem dX7_append_10 : Dc cX7_append 10 (.aload_n 0) 1 11 := ⟨by decide +kernel, rfl⟩
theorem dX7_append_11 : Dc cX7_append 11 (.getfield 9) 3 14 := ⟨by decide +kernel, rfl⟩
theorem dX7_append_14 : Dc cX7_append 14 (.aload_n 0) 1 15 := ⟨by decide +kernel, rfl⟩
theorem dX7_append_15 : Dc cX7_append 15 (.getfield 15) 3 18 := ⟨by decide +kernel, rfl⟩
theorem dX7_append_18 : Dc cX7_append 18 (.iload_n 1) 1 19 := ⟨by decide +kernel, rfl⟩
theorem dX7_append_19 : Dc cX7_append 19 (.iastore) 1 20 := ⟨by decide +kernel, rfl⟩
theorem dX7_append_20 : Dc cX7_append 20 (.aload_n 0) 1 21 := ⟨by decide +kernel, rfl⟩
theorem dX7_append_21 : Dc cX7_append 21 (.dup) 1 22 := ⟨by decide +kernel, rfl⟩
theorem dX7_append_22 : Dc cX7_append 22 (.getfield 15) 3 25 := ⟨by decide +kernel, rfl⟩
theorem dX7_append_25 : Dc cX7_append 25 (.iconst 1) 1 26 := ⟨by decide +kernel, rfl⟩
theorem dX7_append_26 : Dc cX7_append 26 (.iadd) 1 27 := ⟨by decide +kernel, rfl⟩
theorem dX7_append_27 : Dc cX7_append 27 (.putfield 15) 3 30 := ⟨by decide +kernel, rfl⟩
theorem dX7_append_30 : Dc cX7_append 30 (.return_) 1 31 := ⟨by decide +kernel, rfl⟩
theorem dX8_init_0 : Dc cX8_init 0 (.aload_n 0) 1 1 := ⟨by decide +kernel, rfl⟩
theorem dX8_init_1 : Dc cX8_init 1 (.invokespecial 3) 3 4 := ⟨by decide +kernel, rfl⟩
theorem dX8_init_4 : Dc cX8_init 4 (.aload_n 0) 1 5 := ⟨by decide +kernel, rfl⟩
theorem dX8_init_5 : Dc cX8_init 5 (.iconst 0) 1 6 := ⟨by decide +kernel, rfl⟩
theorem dX8_init_6 : Dc cX8_init 6 (.putfield 9) 3 9 := ⟨by decide +kernel, rfl⟩
theorem dX8_init_9 : Dc cX8_init 9 (.aload_n 0) 1 10 := ⟨by decide +kernel, rfl⟩
theorem dX8_init_10 : Dc cX8_init 10 (.iconst 0) 1 11 := ⟨by decide +kernel, rfl⟩
theorem dX8_init_11 : Dc cX8_init 11 (.putfield 15) 3 14 := ⟨by decide +kernel, rfl⟩
theorem dX8_init_14 : Dc cX8_init 14 (.aload_n 0) 1 15 := ⟨by decide +kernel, rfl⟩
theorem dX8_init_15 : Dc cX8_init 15 (.iconst 0) 1 16 := ⟨by decide +kernel, rfl⟩
theorem dX8_init_16 : Dc cX8_init 16 (.putfield 19) 3 19 := ⟨by decide +kernel, rfl⟩
theorem dX8_init_19 : Dc cX8_init 19 (.aload_n 0) 1 20 := ⟨by decide +kernel, rfl⟩
theorem dX8_init_20 : Dc cX8_init 20 (.iconst 0) 1 21 := ⟨by decide +kernel, rfl⟩
theorem dX8_init_21 : Dc cX8_init 21 (.putfield 22) 3 24 := ⟨by decide +kernel, rfl⟩
theorem dX8_init_24 : Dc cX8_init 24 (.aload_n 0) 1 25 := ⟨by decide +kernel, rfl⟩
theorem dX8_init_25 : Dc cX8_init 25 (.iconst 0) 1 26 := ⟨by decide +kernel, rfl⟩
theorem dX8_init_26 : Dc cX8_init 26 (.putfield 25) 3 29 := ⟨by decide +kernel, rfl⟩
theorem dX8_init_29 : Dc cX8_init 29 (.aload_n 0) 1 30 := ⟨by decide +kernel, rfl⟩
theorem dX8_init_30 : Dc cX8_init 30 (.iconst 0) 1 31 := ⟨by decide +kernel, rfl⟩
theorem dX8_init_31 : Dc cX8_init 31 (.putfield 28) 3 34 := ⟨by decide +kernel, rfl⟩
theorem dX8_init_34 : Dc cX8_init 34 (.aload_n 0) 1 35 := ⟨by decide +kernel, rfl⟩
theorem dX8_init_35 : Dc cX8_init 35 (.iconst 0) 1 36 := ⟨by decide +kernel, rfl⟩
theorem dX8_init_36 : Dc cX8_init 36 (.putfield 31) 3 39 := ⟨by decide +kernel, rfl⟩
theorem dX8_init_39 : Dc cX8_init 39 (.aload_n 0) 1 40 := ⟨by decide +kernel, rfl⟩
theorem dX8_init_40 : Dc cX8_init 40 (.iconst 5) 1 41 := ⟨by decide +kernel, rfl⟩
theorem dX8_init_41 : Dc cX8_init 41 (.newarray .int) 2 43 := ⟨by decide +kernel, rfl⟩
theorem dX8_init_43 : Dc cX8_init 43 (.putfield 34) 3 46 := ⟨by decide +kernel, rfl⟩
theorem dX8_init_46 : Dc cX8_init 46 (.aload_n 0) 1 47 := ⟨by decide +kernel, rfl⟩
theorem dX8_init_47 : Dc cX8_init 47 (.iconst 5) 1 48 := ⟨by decide +kernel, rfl⟩
theorem dX8_init_48 : Dc cX8_init 48 (.newarray .int) 2 50 := ⟨by decide +kernel, rfl⟩
theorem dX8_init_50 : Dc cX8_init 50 (.putfield 38) 3 53 := ⟨by decide +kernel, rfl⟩
theorem dX8_init_53 : Dc cX8_init 53 (.aload_n 0) 1 54 := ⟨by decide +kernel, rfl⟩
theorem dX8_init_54 : Dc cX8_init 54 (.iconst 5) 1 55 := ⟨by decide +kernel, rfl⟩
theorem dX8_init_55 : Dc cX8_init 55 (.newarray .int) 2 57 := ⟨by decide +kernel, rfl⟩
theorem dX8_init_57 : Dc cX8_init 57 (.putfield 41) 3 60 := ⟨by decide +kernel, rfl⟩
theorem dX8_init_60 : Dc cX8_init 60 (.aload_n 0) 1 61 := ⟨by decide +kernel, rfl⟩
theorem dX8_init_61 : Dc cX8_init 61 (.iconst 4) 1 62 := ⟨by decide +kernel, rfl⟩
theorem dX8_init_62 : Dc cX8_init 62 (.newarray .int) 2 64 := ⟨by decide +kernel, rfl⟩
theorem dX8_init_64 : Dc cX8_init 64 (.putfield 44) 3 67 := ⟨by decide +kernel, rfl⟩
theorem dX8_init_67 : Dc cX8_init 67 (.aload_n 0) 1 68 := ⟨by decide +kernel, rfl⟩
theorem dX8_init_68 : Dc cX8_init 68 (.iconst 4) 1 69 := ⟨by decide +kernel, rfl⟩
theorem dX8_init_69 : Dc cX8_init 69 (.newarray .int) 2 71 := ⟨by decide +kernel, rfl⟩
theorem dX8_init_71 : Dc cX8_init 71 (.putfield 47) 3 74 := ⟨by decide +kernel, rfl⟩
theorem dX8_init_74 : Dc cX8_init 74 (.aload_n 0) 1 75 := ⟨by decide +kernel, rfl⟩
theorem dX8_init_75 : Dc cX8_init 75 (.iconst 4) 1 76 := ⟨by decide +kernel, rfl⟩
theorem dX8_init_76 : Dc cX8_init 76 (.newarray .int) 2 78 := ⟨by decide +kernel, rfl⟩
theorem dX8_init_78 : Dc cX8_init 78 (.putfield 50) 3 81 := ⟨by decide +kernel, rfl⟩
theorem dX8_init_81 : Dc cX8_init 81 (.aload_n 0) 1 82 := ⟨by decide +kernel, rfl⟩
theorem dX8_init_82 : Dc cX8_init 82 (.bipush 6) 2 84 := ⟨by decide +kernel, rfl⟩
theorem dX8_init_84 : Dc cX8_init 84 (.newarray .int) 2 86 := ⟨by decide +kernel, rfl⟩
theorem dX8_init_86 : Dc cX8_init 86 (.putfield 53) 3 89 := ⟨by decide +kernel, rfl⟩
theorem dX8_init_89 : Dc cX8_init 89 (.aload_n 0) 1 90 := ⟨by decide +kernel, rfl⟩
theorem dX8_init_90 : Dc cX8_init 90 (.iconst 4) 1 91 := ⟨by decide +kernel, rfl⟩
theorem dX8_init_91 : Dc cX8_init 91 (.newarray .int) 2 93 := ⟨by decide +kernel, rfl⟩
theorem dX8_init_93 : Dc cX8_init 93 (.putfield 56) 3 96 := ⟨by decide +kernel, rfl⟩
theorem dX8_init_96 : Dc cX8_init 96 (.aload_n 0) 1 97 := ⟨by decide +kernel, rfl⟩
theorem dX8_init_97 : Dc cX8_init 97 (.iconst 4) 1 98 := ⟨by decide +kernel, rfl⟩
theorem dX8_init_98 : Dc cX8_init 98 (.newarray .int) 2 100 := ⟨by decide +kernel, rfl⟩
theorem dX8_init_100 : Dc cX8_init 100 (.putfield 59) 3 103 := ⟨by decide +kernel, rfl⟩
theorem dX8_init_103 : Dc cX8_init 103 (.return_) 1 104 := ⟨by decide +kernel, rfl⟩
theorem dX8_clear_0 : Dc cX8_clear 0 (.aload_n 0) 1 1 := ⟨by decide +kernel, rfl⟩
theorem dX8_clear_1 : Dc cX8_clear 1 (.iconst 0) 1 2 := ⟨by decide +kernel, rfl⟩
theorem dX8_clear_2 : Dc cX8_clear 2 (.putfield 9) 3 5 := ⟨by decide +kernel, rfl⟩
theorem dX8_clear_5 : Dc cX8_clear 5 (.aload_n 0) 1 6 := ⟨by decide +kernel, rfl⟩
theorem dX8_clear_6 : Dc cX8_clear 6 (.iconst 0) 1 7 := ⟨by decide +kernel, rfl⟩
theorem dX8_clear_7 : Dc cX8_clear 7 (.putfield 15) 3 10 := ⟨by decide +kernel, rfl⟩
theorem dX8_clear_10 : Dc cX8_clear 10 (.aload_n 0) 1 11 := ⟨by decide +kernel, rfl⟩
theorem dX8_clear_11 : Dc cX8_clear 11 (.iconst 0) 1 12 := ⟨by decide +kernel, rfl⟩
theorem dX8_clear_12 : Dc cX8_clear 12 (.putfield 19) 3 15 := ⟨by decide +kernel, rfl⟩
theorem dX8_clear_15 : Dc cX8_clear 15 (.aload_n 0) 1 16 := ⟨by decide +kernel, rfl⟩
theorem dX8_clear_16 : Dc cX8_clear 16 (.iconst 0) 1 17 := ⟨by decide +kernel, rfl⟩
theorem dX8_clear_17 : Dc cX8_clear 17 (.putfield 22) 3 20 := ⟨by decide +kernel, rfl⟩
theorem dX8_clear_20 : Dc cX8_clear 20 (.aload_n 0) 1 21 := ⟨by decide +kernel, rfl⟩
theorem dX8_clear_21 : Dc cX8_clear 21 (.iconst 0) 1 22 := ⟨by decide +kernel, rfl⟩
theorem dX8_clear_22 : Dc cX8_clear 22 (.putfield 25) 3 25 := ⟨by decide +kernel, rfl⟩
theorem dX8_clear_25 : Dc cX8_clear 25 (.aload_n 0) 1 26 := ⟨by decide +kernel, rfl⟩
theorem dX8_clear_26 : Dc cX8_clear 26 (.iconst 0) 1 27 := ⟨by decide +kernel, rfl⟩
theorem dX8_clear_27 : Dc cX8_clear 27 (.putfield 28) 3 30 := ⟨by decide +kernel, rfl⟩
theorem dX8_clear_30 : Dc cX8_clear 30 (.aload_n 0) 1 31 := ⟨by decide +kernel, rfl⟩
theorem dX8_clear_31 : Dc cX8_clear 31 (.iconst 0) 1 32 := ⟨by decide +kernel, rfl⟩
theorem dX8_clear_32 : Dc cX8_clear 32 (.putfield 31) 3 35 := ⟨by decide +kernel, rfl⟩
theorem dX8_clear_35 : Dc cX8_clear 35 (.return_) 1 36 := ⟨by decide +kernel, rfl⟩
theorem dX8_hasRoomFor_0 : Dc cX8_hasRoomFor 0 (.iload_n 1) 1 1 := ⟨by decide +kernel, rfl⟩
theorem dX8_hasRoomFor_1 : decode cX8_hasRoomFor 1 = .ok (.tableswitch 105 0 4 #[35, 48, 62, 76, 91], 35) := by decide +kernel
theorem dX8_hasRoomFor_36 : Dc cX8_hasRoomFor 36 (.aload_n 0) 1 37 := ⟨by decide +kernel, rfl⟩
theorem dX8_hasRoomFor_37 : Dc cX8_hasRoomFor 37 (.getfield 9) 3 40 := ⟨by decide +kernel, rfl⟩
theorem dX8_hasRoomFor_40 : Dj cX8_hasRoomFor 40 (.ifCond .ne 7) 3 43 (7) 47 := ⟨by decide +kernel, rfl, by decide⟩
theorem dX8_hasRoomFor_43 : Dc cX8_hasRoomFor 43 (.iconst 1) 1 44 := ⟨by decide +kernel, rfl⟩
theorem dX8_hasRoomFor_44 : Dj cX8_hasRoomFor 44 (.goto 4) 3 47 (4) 48 := ⟨by decide +kernel, rfl, by decide⟩
theorem dX8_hasRoomFor_47 : Dc cX8_hasRoomFor 47 (.iconst 0) 1 48 := ⟨by decide +kernel, rfl⟩
theorem dX8_hasRoomFor_48 : Dc cX8_hasRoomFor 48 (.ireturn) 1 49 := ⟨by decide +kernel, rfl⟩
theorem dX8_hasRoomFor_49 : Dc cX8_hasRoomFor 49 (.aload_n 0) 1 50 := ⟨by decide +kernel, rfl⟩
theorem dX8_hasRoomFor_50 : Dc cX8_hasRoomFor 50 (.getfield 22) 3 53 := ⟨by decide +kernel, rfl⟩
theorem dX8_hasRoomFor_53 : Dc cX8_hasRoomFor 53 (.iconst 5) 1 54 := ⟨by decide +kernel, rfl⟩
theorem dX8_hasRoomFor_54 : Dj cX8_hasRoomFor 54 (.if_icmp .ge 7) 3 57 (7) 61 := ⟨by decide +kernel, rfl, by decide⟩
theorem dX8_hasRoomFor_57 : Dc cX8_hasRoomFor 57 (.iconst 1) 1 58 := ⟨by decide +kernel, rfl⟩
theorem dX8_hasRoomFor_58 : Dj cX8_hasRoomFor 58 (.goto 4) 3 61 (4) 62 := ⟨by decide +kernel, rfl, by decide⟩
theorem dX8_hasRoomFor_61 : Dc cX8_hasRoomFor 61 (.iconst 0) 1 62 := ⟨by decide +kernel, rfl⟩
theorem dX8_hasRoomFor_62 : Dc cX8_hasRoomFor 62 (.ireturn) 1 63 := ⟨by decide +kernel, rfl⟩
theorem dX8_hasRoomFor_63 : Dc cX8_hasRoomFor 63 (.aload_n 0) 1 64 := ⟨by decide +kernel, rfl⟩
theorem dX8_hasRoomFor_64 : Dc cX8_hasRoomFor 64 (.getfield 25) 3 67 := ⟨by decide +kernel, rfl⟩
theorem dX8_hasRoomFor_67 : Dc cX8_hasRoomFor 67 (.iconst 4) 1 68 := ⟨by decide +kernel, rfl⟩
theorem dX8_hasRoomFor_68 : Dj cX8_hasRoomFor 68 (.if_icmp .ge 7) 3 71 (7) 75 := ⟨by decide +kernel, rfl, by decide⟩
theorem dX8_hasRoomFor_71 : Dc cX8_hasRoomFor 71 (.iconst 1) 1 72 := ⟨by decide +kernel, rfl⟩
theorem dX8_hasRoomFor_72 : Dj cX8_hasRoomFor 72 (.goto 4) 3 75 (4) 76 := ⟨by decide +kernel, rfl, by decide⟩
theorem dX8_hasRoomFor_75 : Dc cX8_hasRoomFor 75 (.iconst 0) 1 76 := ⟨by decide +kernel, rfl⟩
theorem dX8_hasRoomFor_76 : Dc cX8_hasRoomFor 76 (.ireturn) 1 77 := ⟨by decide +kernel, rfl⟩
theorem dX8_hasRoomFor_77 : Dc cX8_hasRoomFor 77 (.aload_n 0) 1 78 := ⟨by decide +kernel, rfl⟩
theorem dX8_hasRoomFor_78 : Dc cX8_hasRoomFor 78 (.getfield 28) 3 81 := ⟨by decide +kernel, rfl⟩
theorem dX8_hasRoomFor_81 : Dc cX8_hasRoomFor 81 (.bipush 6) 2 83 := ⟨by decide +kernel, rfl⟩
theorem dX8_hasRoomFor_83 : Dj cX8_hasRoomFor 83 (.if_icmp .ge 7) 3 86 (7) 90 := ⟨by decide +kernel, rfl, by decide⟩
theorem dX8_hasRoomFor_86 : Dc cX8_hasRoomFor 86 (.iconst 1) 1 87 := ⟨by decide +kernel, rfl⟩
theorem dX8_hasRoomFor_87 : Dj cX8_hasRoomFor 87 (.goto 4) 3 90 (4) 91 := ⟨by decide +kernel, rfl, by decide⟩
theorem dX8_hasRoomFor_90 : Dc cX8_hasRoomFor 90 (.iconst 0) 1 91 := ⟨by decide +kernel, rfl⟩
theorem dX8_hasRoomFor_91 : Dc cX8_hasRoomFor 91 (.ireturn) 1 92 := ⟨by decide +kernel, rfl⟩
theorem dX8_hasRoomFor_92 : Dc cX8_hasRoomFor 92 (.aload_n 0) 1 93 := ⟨by decide +kernel, rfl⟩
theorem dX8_hasRoomFor_93 : Dc cX8_hasRoomFor 93 (.getfield 31) 3 96 := ⟨by decide +kernel, rfl⟩
theorem dX8_hasRoomFor_96 : Dc cX8_hasRoomFor 96 (.iconst 4) 1 97 := ⟨by decide +kernel, rfl⟩
theorem dX8_hasRoomFor_97 : Dj cX8_hasRoomFor 97 (.if_icmp .ge 7) 3 100 (7) 104 := ⟨by decide +kernel, rfl, by decide⟩
theorem dX8_hasRoomFor_100 : Dc cX8_hasRoomFor 100 (.iconst 1) 1 101 := ⟨by decide +kernel, rfl⟩
theorem dX8_hasRoomFor_101 : Dj cX8_hasRoomFor 101 (.goto 4) 3 104 (4) 105 := ⟨by decide +kernel, rfl, by decide⟩
theorem dX8_hasRoomFor_104 : Dc cX8_hasRoomFor 104 (.iconst 0) 1 105 := ⟨by decide +kernel, rfl⟩
theorem dX8_hasRoomFor_105 : Dc cX8_hasRoomFor 105 (.ireturn) 1 106 := ⟨by decide +kernel, rfl⟩
theorem dX8_hasRoomFor_106 : Dc cX8_hasRoomFor 106 (.iconst 0) 1 107 := ⟨by decide +kernel, rfl⟩
theorem dX8_hasRoomFor_107 : Dc cX8_hasRoomFor 107 (.ireturn) 1 108 := ⟨by decide +kernel, rfl⟩
theorem dX8_add_0 : Dc cX8_add 0 (.aload_n 0) 1 1 := ⟨by decide +kernel, rfl⟩
theorem dX8_add_1 : Dc cX8_add 1 (.iload_n 1) 1 2 := ⟨by decide +kernel, rfl⟩
theorem dX8_add_2 : Dc cX8_add 2 (.invokevirtual 62) 3 5 := ⟨by decide +kernel, rfl⟩
theorem dX8_add_5 : Dj cX8_add 5 (.ifCond .ne 4) 3 8 (4) 9 := ⟨by decide +kernel, rfl, by decide⟩
theorem dX8_add_8 : Dc cX8_add 8 (.return_) 1 9 := ⟨by decide +kernel, rfl⟩
theorem dX8_add_9 : Dc cX8_add 9 (.iload_n 1) 1 10 := ⟨by decide +kernel, rfl⟩
theorem dX8_add_10 : decode cX8_add 10 = .ok (.tableswitch 69 0 3 #[30, 39, 50, 61], 30) := by decide +kernel
theorem dX8_add_40 : Dc cX8_add 40 (.aload_n 0) 1 41 := ⟨by decide +kernel, rfl⟩
theorem dX8_add_41 : Dc cX8_add 41 (.iload_n 2) 1 42 := ⟨by decide +kernel, rfl⟩
theorem dX8_add_42 : Dc cX8_add 42 (.iload_n 3) 1 43 := ⟨by decide +kernel, rfl⟩
theorem dX8_add_43 : Dc cX8_add 43 (.invokevirtual 66) 3 46 := ⟨by decide +kernel, rfl⟩
theorem dX8_add_46 : Dj cX8_add 46 (.goto 39) 3 49 (39) 85 := ⟨by decide +kernel, rfl, by decide⟩
theorem dX8_add_49 : Dc cX8_add 49 (.aload_n 0) 1 50 := ⟨by decide +kernel, rfl⟩
theorem dX8_add_50 : Dc cX8_add 50 (.iload_n 2) 1 51 := ⟨by decide +kernel, rfl⟩
theorem dX8_add_51 : Dc cX8_add 51 (.iload_n 3) 1 52 := ⟨by decide +kernel, rfl⟩
theorem dX8_add_52 : Dc cX8_add 52 (.iload 4) 2 54 := ⟨by decide +kernel, rfl⟩
theorem dX8_add_54 : Dc cX8_add 54 (.invokevirtual 70) 3 57 := ⟨by decide +kernel, rfl⟩
theorem dX8_add_57 : Dj cX8_add 57 (.goto 28) 3 60 (28) 85 := ⟨by decide +kernel, rfl, by decide⟩
theorem dX8_add_60 : Dc cX8_add 60 (.aload_n 0) 1 61 := ⟨by decide +kernel, rfl⟩
theorem dX8_add_61 : Dc cX8_add 61 (.iload_n 2) 1 62 := ⟨by decide +kernel, rfl⟩
theorem dX8_add_62 : Dc cX8_add 62 (.iload_n 3) 1 63 := ⟨by decide +kernel, rfl⟩
theorem dX8_add_63 : Dc cX8_add 63 (.iload 4) 2 65 := ⟨by decide +kernel, rfl⟩
theorem dX8_add_65 : Dc cX8_add 65 (.invokevirtual 74) 3 68 := ⟨by decide +kernel, rfl⟩
theorem dX8_add_68 : Dj cX8_add 68 (.goto 17) 3 71 (17) 85 := ⟨by decide +kernel, rfl, by decide⟩
theorem dX8_add_71 : Dc cX8_add 71 (.aload_n 0) 1 72 := ⟨by decide +kernel, rfl⟩
theorem dX8_add_72 : Dc cX8_add 72 (.iload_n 2) 1 73 := ⟨by decide +kernel, rfl⟩
theorem dX8_add_73 : Dc cX8_add 73 (.invokevirtual 77) 3 76 := ⟨by decide +kernel, rfl⟩
theorem dX8_add_76 : Dj cX8_add 76 (.goto 9) 3 79 (9) 85 := ⟨by decide +kernel, rfl, by decide⟩
theorem dX8_add_79 : Dc cX8_add 79 (.aload_n 0) 1 80 := ⟨by decide +kernel, rfl⟩
theorem dX8_add_80 : Dc cX8_add 80 (.iload_n 2) 1 81 := ⟨by decide +kernel, rfl⟩
theorem dX8_add_81 : Dc cX8_add 81 (.iload_n 3) 1 82 := ⟨by decide +kernel, rfl⟩
theorem dX8_add_82 : Dc cX8_add 82 (.invokevirtual 81) 3 85 := ⟨by decide +kernel, rfl⟩
theorem dX8_add_85 : Dc cX8_add 85 (.return_) 1 86 := ⟨by decide +kernel, rfl⟩
theorem dX8_addStores_0 : Dc cX8_addStores 0 (.aload_n 0) 1 1 := ⟨by decide +kernel, rfl⟩
theorem dX8_addStores_1 : Dc cX8_addStores 1 (.iload_n 1) 1 2 := ⟨by decide +kernel, rfl⟩
theorem dX8_addStores_2 : Dc cX8_addStores 2 (.putfield 15) 3 5 := ⟨by decide +kernel, rfl⟩
theorem dX8_addStores_5 : Dc cX8_addStores 5 (.aload_n 0) 1 6 := ⟨by decide +kernel, rfl⟩
theorem dX8_addStores_6 : Dc cX8_addStores 6 (.iload_n 2) 1 7 := ⟨by decide +kernel, rfl⟩
theorem dX8_addStores_7 : Dc cX8_addStores 7 (.putfield 19) 3 10 := ⟨by decide +kernel, rfl⟩
theorem dX8_addStores_10 : Dc cX8_addStores 10 (.aload_n 0) 1 11 := ⟨by decide +kernel, rfl⟩
theorem dX8_addStores_11 : Dc cX8_addStores 11 (.iconst 1) 1 12 := ⟨by decide +kernel, rfl⟩
theorem dX8_addStores_12 : Dc cX8_addStores 12 (.putfield 9) 3 15 := ⟨by decide +kernel, rfl⟩
theorem dX8_addStores_15 : Dc cX8_addStores 15 (.return_) 1 16 := ⟨by decide +kernel, rfl⟩
theorem dX8_addCompany_0 : Dc cX8_addCompany 0 (.aload_n 0) 1 1 := ⟨by decide +kernel, rfl⟩
theorem dX8_addCompany_1 : Dc cX8_addCompany 1 (.getfield 34) 3 4 := ⟨by decide +kernel, rfl⟩
theorem dX8_addCompany_4 : Dc cX8_addCompany 4 (.aload_n 0) 1 5 := ⟨by decide +kernel, rfl⟩
theorem dX8_addCompany_5 : Dc cX8_addCompany 5 (.getfield 22) 3 8 := ⟨by decide +kernel, rfl⟩
theorem dX8_addCompany_8 : Dc cX8_addCompany 8 (.iload_n 1) 1 9 := ⟨by decide +kernel, rfl⟩
theorem dX8_addCompany_9 : Dc cX8_addCompany 9 (.iastore) 1 10 := ⟨by decide +kernel, rfl⟩
theorem dX8_addCompany_10 : Dc cX8_addCompany 10 (.aload_n 0) 1 11 := ⟨by decide +kernel, rfl⟩
theorem dX8_addCompany_11 : Dc cX8_addCompany 11 (.getfield 38) 3 14 := ⟨by decide +kernel, rfl⟩
theorem dX8_addCompany_14 : Dc cX8_addCompany 14 (.aload_n 0) 1 15 := ⟨by decide +kernel, rfl⟩
theorem dX8_addCompany_15 : Dc cX8_addCompany 15 (.getfield 22) 3 18 := ⟨by decide +kernel, rfl⟩
theorem dX8_addCompany_18 : Dc cX8_addCompany 18 (.iload_n 2) 1 19 := ⟨by decide +kernel, rfl⟩
theorem dX8_addCompany_19 : Dc cX8_addCompany 19 (.iastore) 1 20 := ⟨by decide +kernel, rfl⟩
theorem dX8_addCompany_20 : Dc cX8_addCompany 20 (.aload_n 0) 1 21 := ⟨by decide +kernel, rfl⟩
theorem dX8_addCompany_21 : Dc cX8_addCompany 21 (.getfield 41) 3 24 := ⟨by decide +kernel, rfl⟩
theorem dX8_addCompany_24 : Dc cX8_addCompany 24 (.aload_n 0) 1 25 := ⟨by decide +kernel, rfl⟩
theorem dX8_addCompany_25 : Dc cX8_addCompany 25 (.getfield 22) 3 28 := ⟨by decide +kernel, rfl⟩
theorem dX8_addCompany_28 : Dc cX8_addCompany 28 (.iload_n 3) 1 29 := ⟨by decide +kernel, rfl⟩
theorem dX8_addCompany_29 : Dc cX8_addCompany 29 (.iastore) 1 30 := ⟨by decide +kernel, rfl⟩
theorem dX8_addCompany_30 : Dc cX8_addCompany 30 (.aload_n 0) 1 31 := ⟨by decide +kernel, rfl⟩
theorem dX8_addCompany_31 : Dc cX8_addCompany 31 (.dup) 1 32 := ⟨by decide +kernel, rfl⟩
theorem dX8_addCompany_32 : Dc cX8_addCompany 32 (.getfield 22) 3 35 := ⟨by decide +kernel, rfl⟩
theorem dX8_addCompany_35 : Dc cX8_addCompany 35 (.iconst 1) 1 36 := ⟨by decide +kernel, rfl⟩
theorem dX8_addCompany_36 : Dc cX8_addCompany 36 (.iadd) 1 37 := ⟨by decide +kernel, rfl⟩
theorem dX8_addCompany_37 : Dc cX8_addCompany 37 (.putfield 22) 3 40 := ⟨by decide +kernel, rfl⟩
theorem dX8_addCompany_40 : Dc cX8_addCompany 40 (.return_) 1 41 := ⟨by decide +kernel, rfl⟩
theorem dX8_addMoney_0 : Dc cX8_addMoney 0 (.aload_n 0) 1 1 := ⟨by decide +kernel, rfl⟩
theorem dX8_addMoney_1 : Dc cX8_addMoney 1 (.getfield 44) 3 4 := ⟨by decide +kernel, rfl⟩
theorem dX8_addMoney_4 : Dc cX8_addMoney 4 (.aload_n 0) 1 5 := ⟨by decide +kernel, rfl⟩
theorem dX8_addMoney_5 : Dc cX8_addMoney 5 (.getfield 25) 3 8 := ⟨by decide +kernel, rfl⟩
theorem dX8_addMoney_8 : Dc cX8_addMoney 8 (.iload_n 1) 1 9 := ⟨by decide +kernel, rfl⟩
theorem dX8_addMoney_9 : Dc cX8_addMoney 9 (.iastore) 1 10 := ⟨by decide +kernel, rfl⟩
theorem dX8_addMoney_10 : Dc cX8_addMoney 10 (.aload_n 0) 1 11 := ⟨by decide +kernel, rfl⟩
theorem dX8_addMoney_11 : Dc cX8_addMoney 11 (.getfield 47) 3 14 := ⟨by decide +kernel, rfl⟩
theorem dX8_addMoney_14 : Dc cX8_addMoney 14 (.aload_n 0) 1 15 := ⟨by decide +kernel, rfl⟩
theorem dX8_addMoney_15 : Dc cX8_addMoney 15 (.getfield 25) 3 18 := ⟨by decide +kernel, rfl⟩
theorem dX8_addMoney_18 : Dc cX8_addMoney 18 (.iload_n 2) 1 19 := ⟨by decide +kernel, rfl⟩
theorem dX8_addMoney_19 : Dc cX8_addMoney 19 (.iastore) 1 20 := ⟨by decide +kernel, rfl⟩
theorem dX8_addMoney_20 : Dc cX8_addMoney 20 (.aload_n 0) 1 21 := ⟨by decide +kernel, rfl⟩
theorem dX8_addMoney_21 : Dc cX8_addMoney 21 (.getfield 50) 3 24 := ⟨by decide +kernel, rfl⟩
theorem dX8_addMoney_24 : Dc cX8_addMoney 24 (.aload_n 0) 1 25 := ⟨by decide +kernel, rfl⟩
theorem dX8_addMoney_25 : Dc cX8_addMoney 25 (.getfield 25) 3 28 := ⟨by decide +kernel, rfl⟩
theorem dX8_addMoney_28 : Dc cX8_addMoney 28 (.iload_n 3) 1 29 := ⟨by decide +kernel, rfl⟩
theorem dX8_addMoney_29 : Dc cX8_addMoney 29 (.iastore) 1 30 := ⟨by decide +kernel, rfl⟩
theorem dX8_addMoney_30 : Dc cX8_addMoney 30 (.aload_n 0) 1 31 := ⟨by decide +kernel, rfl⟩
theorem dX8_addMoney_31 : Dc cX8_addMoney 31 (.dup) 1 32 := ⟨by decide +kernel, rfl⟩
theorem dX8_addMoney_32 : Dc cX8_addMoney 32 (.getfield 25) 3 35 := ⟨by decide +kernel, rfl⟩
theorem dX8_addMoney_35 : Dc cX8_addMoney 35 (.iconst 1) 1 36 := ⟨by decide +kernel, rfl⟩
theorem dX8_addMoney_36 : Dc cX8_addMoney 36 (.iadd) 1 37 := ⟨by decide +kernel, rfl⟩
theorem dX8_addMoney_37 : Dc cX8_addMoney 37 (.putfield 25) 3 40 := ⟨by decide +kernel, rfl⟩
theorem dX8_addMoney_40 : Dc cX8_addMoney 40 (.return_) 1 41 := ⟨by decide +kernel, rfl⟩
theorem dX8_addGood_0 : Dc cX8_addGood 0 (.aload_n 0) 1 1 := ⟨by decide +kernel, rfl⟩
theorem dX8_addGood_1 : Dc cX8_addGood 1 (.getfield 53) 3 4 := ⟨by decide +kernel, rfl⟩
theorem dX8_addGood_4 : Dc cX8_addGood 4 (.aload_n 0) 1 5 := ⟨by decide +kernel, rfl⟩
theorem dX8_addGood_5 : Dc cX8_addGood 5 (.getfield 28) 3 8 := ⟨by decide +kernel, rfl⟩
theorem dX8_addGood_8 : Dc cX8_addGood 8 (.iload_n 1) 1 9 := ⟨by decide +kernel, rfl⟩
theorem dX8_addGood_9 : Dc cX8_addGood 9 (.iastore) 1 10 := ⟨by decide +kernel, rfl⟩
theorem dX8_addGood_10 : Dc cX8_addGood 10 (.aload_n 0) 1 11 := ⟨by decide +kernel, rfl⟩
theorem dX8_addGood_11 : Dc cX8_addGood 11 (.dup) 1 12 := ⟨by decide +kernel, rfl⟩
theorem dX8_addGood_12 : Dc cX8_addGood 12 (.getfield 28) 3 15 := ⟨by decide +kernel, rfl⟩
theorem dX8_addGood_15 : Dc cX8_addGood 15 (.iconst 1) 1 16 := ⟨by decide +kernel, rfl⟩
theorem dX8_addGood_16 : Dc cX8_addGood 16 (.iadd) 1 17 := ⟨by decide +kernel, rfl⟩
theorem dX8_addGood_17 : Dc cX8_addGood 17 (.putfield 28) 3 20 := ⟨by decide +kernel, rfl⟩
theorem dX8_addGood_20 : Dc cX8_addGood 20 (.return_) 1 21 := ⟨by decide +kernel, rfl⟩
theorem dX8_addHorse_0 : Dc cX8_addHorse 0 (.aload_n 0) 1 1 := ⟨by decide +kernel, rfl⟩
theorem dX8_addHorse_1 : Dc cX8_addHorse 1 (.getfield 56) 3 4 := ⟨by decide +kernel, rfl⟩
theorem dX8_addHorse_4 : Dc cX8_addHorse 4 (.aload_n 0) 1 5 := ⟨by decide +kernel, rfl⟩
theorem dX8_addHorse_5 : Dc cX8_addHorse 5 (.getfield 31) 3 8 := ⟨by decide +kernel, rfl⟩
theorem dX8_addHorse_8 : Dc cX8_addHorse 8 (.iload_n 1) 1 9 := ⟨by decide +kernel, rfl⟩
theorem dX8_addHorse_9 : Dc cX8_addHorse 9 (.iastore) 1 10 := ⟨by decide +kernel, rfl⟩
theorem dX8_addHorse_10 : Dc cX8_addHorse 10 (.aload_n 0) 1 11 := ⟨by decide +kernel, rfl⟩
theorem dX8_addHorse_11 : Dc cX8_addHorse 11 (.getfield 59) 3 14 := ⟨by decide +kernel, rfl⟩
theorem dX8_addHorse_14 : Dc cX8_addHorse 14 (.aload_n 0) 1 15 := ⟨by decide +kernel, rfl⟩
theorem dX8_addHorse_15 : Dc cX8_addHorse 15 (.getfield 31) 3 18 := ⟨by decide +kernel, rfl⟩
theorem dX8_addHorse_18 : Dc cX8_addHorse 18 (.iload_n 2) 1 19 := ⟨by decide +kernel, rfl⟩
theorem dX8_addHorse_19 : Dc cX8_addHorse 19 (.iastore) 1 20 := ⟨by decide +kernel, rfl⟩
theorem dX8_addHorse_20 : Dc cX8_addHorse 20 (.aload_n 0) 1 21 := ⟨by decide +kernel, rfl⟩
theorem dX8_addHorse_21 : Dc cX8_addHorse 21 (.dup) 1 22 := ⟨by decide +kernel, rfl⟩
theorem dX8_addHorse_22 : Dc cX8_addHorse 22 (.getfield 31) 3 25 := ⟨by decide +kernel, rfl⟩
theorem dX8_addHorse_25 : Dc cX8_addHorse 25 (.iconst 1) 1 26 := ⟨by decide +kernel, rfl⟩
theorem dX8_addHorse_26 : Dc cX8_addHorse 26 (.iadd) 1 27 := ⟨by decide +kernel, rfl⟩
theorem dX8_addHorse_27 : Dc cX8_addHorse 27 (.putfield 31) 3 30 := ⟨by decide +kernel, rfl⟩
theorem dX8_addHorse_30 : Dc cX8_addHorse 30 (.return_) 1 31 := ⟨by decide +kernel, rfl⟩
theorem dX8_foodOfHorses_0 : Dc cX8_foodOfHorses 0 (.iconst 0) 1 1 := ⟨by decide +kernel, rfl⟩
theorem dX8_foodOfHorses_1 : Dc cX8_foodOfHorses 1 (.istore_n 2) 1 2 := ⟨by decide +kernel, rfl⟩
theorem dX8_foodOfHorses_2 : Dc cX8_foodOfHorses 2 (.iconst 0) 1 3 := ⟨by decide +kernel, rfl⟩
theorem dX8_foodOfHorses_3 : Dc cX8_foodOfHorses 3 (.istore_n 3) 1 4 := ⟨by decide +kernel, rfl⟩
theorem dX8_foodOfHorses_4 : Dc cX8_foodOfHorses 4 (.iload_n 3) 1 5 := ⟨by decide +kernel, rfl⟩
theorem dX8_foodOfHorses_5 : Dc cX8_foodOfHorses 5 (.aload_n 0) 1 6 := ⟨by decide +kernel, rfl⟩
theorem dX8_foodOfHorses_6 : Dc cX8_foodOfHorses 6 (.getfield 31) 3 9 := ⟨by decide +kernel, rfl⟩
theorem dX8_foodOfHorses_9 : Dj cX8_foodOfHorses 9 (.if_icmp .ge 28) 3 12 (28) 37 := ⟨by decide +kernel, rfl, by decide⟩
theorem dX8_foodOfHorses_12 : Dc cX8_foodOfHorses 12 (.aload_n 0) 1 13 := ⟨by decide +kernel, rfl⟩
theorem dX8_foodOfHorses_13 : Dc cX8_foodOfHorses 13 (.getfield 56) 3 16 := ⟨by decide +kernel, rfl⟩
theorem dX8_foodOfHorses_16 : Dc cX8_foodOfHorses 16 (.iload_n 3) 1 17 := ⟨by decide +kernel, rfl⟩
theorem dX8_foodOfHorses_17 : Dc cX8_foodOfHorses 17 (.iaload) 1 18 := ⟨by decide +kernel, rfl⟩
theorem dX8_foodOfHorses_18 : Dc cX8_foodOfHorses 18 (.iload_n 1) 1 19 := ⟨by decide +kernel, rfl⟩
theorem dX8_foodOfHorses_19 : Dj cX8_foodOfHorses 19 (.if_icmp .ne 12) 3 22 (12) 31 := ⟨by decide +kernel, rfl, by decide⟩
theorem dX8_foodOfHorses_22 : Dc cX8_foodOfHorses 22 (.iload_n 2) 1 23 := ⟨by decide +kernel, rfl⟩
theorem dX8_foodOfHorses_23 : Dc cX8_foodOfHorses 23 (.aload_n 0) 1 24 := ⟨by decide +kernel, rfl⟩
theorem dX8_foodOfHorses_24 : Dc cX8_foodOfHorses 24 (.getfield 59) 3 27 := ⟨by decide +kernel, rfl⟩
theorem dX8_foodOfHorses_27 : Dc cX8_foodOfHorses 27 (.iload_n 3) 1 28 := ⟨by decide +kernel, rfl⟩
theorem dX8_foodOfHorses_28 : Dc cX8_foodOfHorses 28 (.iaload) 1 29 := ⟨by decide +kernel, rfl⟩
theorem dX8_foodOfHorses_29 : Dc cX8_foodOfHorses 29 (.iadd) 1 30 := ⟨by decide +kernel, rfl⟩
theorem dX8_foodOfHorses_30 : Dc cX8_foodOfHorses 30 (.istore_n 2) 1 31 := ⟨by decide +kernel, rfl⟩
theorem dX8_foodOfHorses_31 : Dc cX8_foodOfHorses 31 (.iinc 3 1) 3 34 := ⟨by decide +kernel, rfl⟩
theorem dX8_foodOfHorses_34 : Dj cX8_foodOfHorses 34 (.goto (-30)) 3 37 (-30) 4 := ⟨by decide +kernel, rfl, by decide⟩
theorem dX8_foodOfHorses_37 : Dc cX8_foodOfHorses 37 (.iload_n 2) 1 38 := ⟨by decide +kernel, rfl⟩
theorem dX8_foodOfHorses_38 : Dc cX8_foodOfHorses 38 (.ireturn) 1 39 := ⟨by decide +kernel, rfl⟩
theorem dX9_init_0 : Dc cX9_init 0 (.aload_n 0) 1 1 := ⟨by decide +kernel, rfl⟩
theorem dX9_init_1 : Dc cX9_init 1 (.invokespecial 3) 3 4 := ⟨by decide +kernel, rfl⟩
theorem dX9_init_4 : Dc cX9_init 4 (.aload_n 0) 1 5 := ⟨by decide +kernel, rfl⟩
theorem dX9_init_5 : Dc cX9_init 5 (.bipush 6) 2 7 := ⟨by decide +kernel, rfl⟩
theorem dX9_init_7 : Dc cX9_init 7 (.anewarray 9) 3 10 := ⟨by decide +kernel, rfl⟩
theorem dX9_init_10 : Dc cX9_init 10 (.putfield 11) 3 13 := ⟨by decide +kernel, rfl⟩
theorem dX9_init_13 : Dc cX9_init 13 (.aload_n 0) 1 14 := ⟨by decide +kernel, rfl⟩
theorem dX9_init_14 : Dc cX9_init 14 (.iconst 5) 1 15 := ⟨by decide +kernel, rfl⟩
theorem dX9_init_15 : Dc cX9_init 15 (.newarray .int) 2 17 := ⟨by decide +kernel, rfl⟩
theorem dX9_init_17 : Dc cX9_init 17 (.putfield 17) 3 20 := ⟨by decide +kernel, rfl⟩
theorem dX9_init_20 : Dc cX9_init 20 (.aload_n 0) 1 21 := ⟨by decide +kernel, rfl⟩
theorem dX9_init_21 : Dc cX9_init 21 (.iconst 0) 1 22 := ⟨by decide +kernel, rfl⟩
theorem dX9_init_22 : Dc cX9_init 22 (.putfield 21) 3 25 := ⟨by decide +kernel, rfl⟩
theorem dX9_init_25 : Dc cX9_init 25 (.aload_n 0) 1 26 := ⟨by decide +kernel, rfl⟩
theorem dX9_init_26 : Dc cX9_init 26 (.iconst 0) 1 27 := ⟨by decide +kernel, rfl⟩
theorem dX9_init_27 : Dc cX9_init 27 (.putfield 25) 3 30 := ⟨by decide +kernel, rfl⟩
theorem dX9_init_30 : Dc cX9_init 30 (.aload_n 0) 1 31 := ⟨by decide +kernel, rfl⟩
theorem dX9_init_31 : Dc cX9_init 31 (.iconst 0) 1 32 := ⟨by decide +kernel, rfl⟩
theorem dX9_init_32 : Dc cX9_init 32 (.putfield 28) 3 35 := ⟨by decide +kernel, rfl⟩
theorem dX9_init_35 : Dc cX9_init 35 (.iconst 0) 1 36 := ⟨by decide +kernel, rfl⟩
theorem dX9_init_36 : Dc cX9_init 36 (.istore_n 1) 1 37 := ⟨by decide +kernel, rfl⟩
theorem dX9_init_37 : Dc cX9_init 37 (.iload_n 1) 1 38 := ⟨by decide +kernel, rfl⟩
theorem dX9_init_38 : Dc cX9_init 38 (.iconst 5) 1 39 := ⟨by decide +kernel, rfl⟩
theorem dX9_init_39 : Dj cX9_init 39 (.if_icmp .gt 22) 3 42 (22) 61 := ⟨by decide +kernel, rfl, by decide⟩
theorem dX9_init_42 : Dc cX9_init 42 (.aload_n 0) 1 43 := ⟨by decide +kernel, rfl⟩
theorem dX9_init_43 : Dc cX9_init 43 (.getfield 11) 3 46 := ⟨by decide +kernel, rfl⟩
theorem dX9_init_46 : Dc cX9_init 46 (.iload_n 1) 1 47 := ⟨by decide +kernel, rfl⟩
theorem dX9_init_47 : Dc cX9_init 47 (.new 9) 3 50 := ⟨by decide +kernel, rfl⟩
theorem dX9_init_50 : Dc cX9_init 50 (.dup) 1 51 := ⟨by decide +kernel, rfl⟩
theorem dX9_init_51 : Dc cX9_init 51 (.invokespecial 31) 3 54 := ⟨by decide +kernel, rfl⟩
theorem dX9_init_54 : Dc cX9_init 54 (.aastore) 1 55 := ⟨by decide +kernel, rfl⟩
theorem dX9_init_55 : Dc cX9_init 55 (.iinc 1 1) 3 58 := ⟨by decide +kernel, rfl⟩
theorem dX9_init_58 : Dj cX9_init 58 (.goto (-21)) 3 61 (-21) 37 := ⟨by decide +kernel, rfl, by decide⟩
theorem dX9_init_61 : Dc cX9_init 61 (.return_) 1 62 := ⟨by decide +kernel, rfl⟩
theorem dX9_tryAllRows_0 : Dc cX9_tryAllRows 0 (.iload_n 3) 1 1 := ⟨by decide +kernel, rfl⟩
theorem dX9_tryAllRows_1 : Dc cX9_tryAllRows 1 (.iconst 5) 1 2 := ⟨by decide +kernel, rfl⟩
theorem dX9_tryAllRows_2 : Dc cX9_tryAllRows 2 (.invokestatic 32) 3 5 := ⟨by decide +kernel, rfl⟩
theorem dX9_tryAllRows_5 : Dc cX9_tryAllRows 5 (.istore 4) 2 7 := ⟨by decide +kernel, rfl⟩
theorem dX9_tryAllRows_7 : Dc cX9_tryAllRows 7 (.aload_n 0) 1 8 := ⟨by decide +kernel, rfl⟩
theorem dX9_tryAllRows_8 : Dc cX9_tryAllRows 8 (.iconst (-1)) 1 9 := ⟨by decide +kernel, rfl⟩
theorem dX9_tryAllRows_9 : Dc cX9_tryAllRows 9 (.putfield 21) 3 12 := ⟨by decide +kernel, rfl⟩
theorem dX9_tryAllRows_12 : Dc cX9_tryAllRows 12 (.aload_n 0) 1 13 := ⟨by decide +kernel, rfl⟩
theorem dX9_tryAllRows_13 : Dc cX9_tryAllRows 13 (.getfield 11) 3 16 := ⟨by decide +kernel, rfl⟩
theorem dX9_tryAllRows_16 : Dc cX9_tryAllRows 16 (.iconst 0) 1 17 := ⟨by decide +kernel, rfl⟩
theorem dX9_tryAllRows_17 : Dc cX9_tryAllRows 17 (.aaload) 1 18 := ⟨by decide +kernel, rfl⟩
theorem dX9_tryAllRows_18 : Dc cX9_tryAllRows 18 (.aload_n 2) 1 19 := ⟨by decide +kernel, rfl⟩
theorem dX9_tryAllRows_19 : Dc cX9_tryAllRows 19 (.invokevirtual 38) 3 22 := ⟨by decide +kernel, rfl⟩
theorem dX9_tryAllRows_22 : Dc cX9_tryAllRows 22 (.iconst 0) 1 23 := ⟨by decide +kernel, rfl⟩
theorem dX9_tryAllRows_23 : Dc cX9_tryAllRows 23 (.istore 5) 2 25 := ⟨by decide +kernel, rfl⟩
theorem dX9_tryAllRows_25 : Dc cX9_tryAllRows 25 (.iload 5) 2 27 := ⟨by decide +kernel, rfl⟩
theorem dX9_tryAllRows_27 : Dc cX9_tryAllRows 27 (.iconst 1) 1 28 := ⟨by decide +kernel, rfl⟩
theorem dX9_tryAllRows_28 : Dc cX9_tryAllRows 28 (.iconst 2) 1 29 := ⟨by decide +kernel, rfl⟩
theorem dX9_tryAllRows_29 : Dc cX9_tryAllRows 29 (.iload 4) 2 31 := ⟨by decide +kernel, rfl⟩
theorem dX9_tryAllRows_31 : Dc cX9_tryAllRows 31 (.imul) 1 32 := ⟨by decide +kernel, rfl⟩
theorem dX9_tryAllRows_32 : Dc cX9_tryAllRows 32 (.ishl) 1 33 := ⟨by decide +kernel, rfl⟩
theorem dX9_tryAllRows_33 : Dj cX9_tryAllRows 33 (.if_icmp .ge 85) 3 36 (85) 118 := ⟨by decide +kernel, rfl, by decide⟩
theorem dX9_tryAllRows_36 : Dc cX9_tryAllRows 36 (.iload 5) 2 38 := ⟨by decide +kernel, rfl⟩
theorem dX9_tryAllRows_38 : Dc cX9_tryAllRows 38 (.iload 4) 2 40 := ⟨by decide +kernel, rfl⟩
theorem dX9_tryAllRows_40 : Dc cX9_tryAllRows 40 (.invokestatic 42) 3 43 := ⟨by decide +kernel, rfl⟩
theorem dX9_tryAllRows_43 : Dc cX9_tryAllRows 43 (.istore 6) 2 45 := ⟨by decide +kernel, rfl⟩
theorem dX9_tryAllRows_45 : Dc cX9_tryAllRows 45 (.iload 6) 2 47 := ⟨by decide +kernel, rfl⟩
theorem dX9_tryAllRows_47 : Dc cX9_tryAllRows 47 (.iload 4) 2 49 := ⟨by decide +kernel, rfl⟩
theorem dX9_tryAllRows_49 : Dj cX9_tryAllRows 49 (.if_icmp .ge 50) 3 52 (50) 99 := ⟨by decide +kernel, rfl, by decide⟩
theorem dX9_tryAllRows_52 : Dc cX9_tryAllRows 52 (.aload_n 0) 1 53 := ⟨by decide +kernel, rfl⟩
theorem dX9_tryAllRows_53 : Dc cX9_tryAllRows 53 (.getfield 11) 3 56 := ⟨by decide +kernel, rfl⟩
theorem dX9_tryAllRows_56 : Dc cX9_tryAllRows 56 (.iload 6) 2 58 := ⟨by decide +kernel, rfl⟩
theorem dX9_tryAllRows_58 : Dc cX9_tryAllRows 58 (.iconst 1) 1 59 := ⟨by decide +kernel, rfl⟩
theorem dX9_tryAllRows_59 : Dc cX9_tryAllRows 59 (.iadd) 1 60 := ⟨by decide +kernel, rfl⟩
theorem dX9_tryAllRows_60 : Dc cX9_tryAllRows 60 (.aaload) 1 61 := ⟨by decide +kernel, rfl⟩
theorem dX9_tryAllRows_61 : Dc cX9_tryAllRows 61 (.aload_n 0) 1 62 := ⟨by decide +kernel, rfl⟩
theorem dX9_tryAllRows_62 : Dc cX9_tryAllRows 62 (.getfield 11) 3 65 := ⟨by decide +kernel, rfl⟩
theorem dX9_tryAllRows_65 : Dc cX9_tryAllRows 65 (.iload 6) 2 67 := ⟨by decide +kernel, rfl⟩
theorem dX9_tryAllRows_67 : Dc cX9_tryAllRows 67 (.aaload) 1 68 := ⟨by decide +kernel, rfl⟩
theorem dX9_tryAllRows_68 : Dc cX9_tryAllRows 68 (.invokevirtual 38) 3 71 := ⟨by decide +kernel, rfl⟩
theorem dX9_tryAllRows_71 : Dc cX9_tryAllRows 71 (.aload_n 0) 1 72 := ⟨by decide +kernel, rfl⟩
theorem dX9_tryAllRows_72 : Dc cX9_tryAllRows 72 (.getfield 11) 3 75 := ⟨by decide +kernel, rfl⟩
theorem dX9_tryAllRows_75 : Dc cX9_tryAllRows 75 (.iload 6) 2 77 := ⟨by decide +kernel, rfl⟩
theorem dX9_tryAllRows_77 : Dc cX9_tryAllRows 77 (.iconst 1) 1 78 := ⟨by decide +kernel, rfl⟩
theorem dX9_tryAllRows_78 : Dc cX9_tryAllRows 78 (.iadd) 1 79 := ⟨by decide +kernel, rfl⟩
theorem dX9_tryAllRows_79 : Dc cX9_tryAllRows 79 (.aaload) 1 80 := ⟨by decide +kernel, rfl⟩
theorem dX9_tryAllRows_80 : Dc cX9_tryAllRows 80 (.aload_n 1) 1 81 := ⟨by decide +kernel, rfl⟩
theorem dX9_tryAllRows_81 : Dc cX9_tryAllRows 81 (.iload 5) 2 83 := ⟨by decide +kernel, rfl⟩
theorem dX9_tryAllRows_83 : Dc cX9_tryAllRows 83 (.iload 4) 2 85 := ⟨by decide +kernel, rfl⟩
theorem dX9_tryAllRows_85 : Dc cX9_tryAllRows 85 (.iload 6) 2 87 := ⟨by decide +kernel, rfl⟩
theorem dX9_tryAllRows_87 : Dc cX9_tryAllRows 87 (.invokestatic 45) 3 90 := ⟨by decide +kernel, rfl⟩
theorem dX9_tryAllRows_90 : Dc cX9_tryAllRows 90 (.invokevirtual 49) 3 93 := ⟨by decide +kernel, rfl⟩
theorem dX9_tryAllRows_93 : Dc cX9_tryAllRows 93 (.iinc 6 1) 3 96 := ⟨by decide +kernel, rfl⟩
theorem dX9_tryAllRows_96 : Dj cX9_tryAllRows 96 (.goto (-51)) 3 99 (-51) 45 := ⟨by decide +kernel, rfl, by decide⟩
theorem dX9_tryAllRows_99 : Dc cX9_tryAllRows 99 (.aload_n 0) 1 100 := ⟨by decide +kernel, rfl⟩
theorem dX9_tryAllRows_100 : Dc cX9_tryAllRows 100 (.iload 5) 2 102 := ⟨by decide +kernel, rfl⟩
theorem dX9_tryAllRows_102 : Dc cX9_tryAllRows 102 (.aload_n 0) 1 103 := ⟨by decide +kernel, rfl⟩
theorem dX9_tryAllRows_103 : Dc cX9_tryAllRows 103 (.getfield 11) 3 106 := ⟨by decide +kernel, rfl⟩
theorem dX9_tryAllRows_106 : Dc cX9_tryAllRows 106 (.iload 4) 2 108 := ⟨by decide +kernel, rfl⟩
theorem dX9_tryAllRows_108 : Dc cX9_tryAllRows 108 (.aaload) 1 109 := ⟨by decide +kernel, rfl⟩
theorem dX9_tryAllRows_109 : Dc cX9_tryAllRows 109 (.invokevirtual 53) 3 112 := ⟨by decide +kernel, rfl⟩
theorem dX9_tryAllRows_112 : Dc cX9_tryAllRows 112 (.iinc 5 1) 3 115 := ⟨by decide +kernel, rfl⟩
theorem dX9_tryAllRows_115 : Dj cX9_tryAllRows 115 (.goto (-90)) 3 118 (-90) 25 := ⟨by decide +kernel, rfl, by decide⟩
theorem dX9_tryAllRows_118 : Dc cX9_tryAllRows 118 (.return_) 1 119 := ⟨by decide +kernel, rfl⟩
theorem dX9_firstDayToTry_0 : Dc cX9_firstDayToTry 0 (.iload_n 1) 1 1 := ⟨by decide +kernel, rfl⟩
theorem dX9_firstDayToTry_1 : Dc cX9_firstDayToTry 1 (.iconst 1) 1 2 := ⟨by decide +kernel, rfl⟩
theorem dX9_firstDayToTry_2 : Dc cX9_firstDayToTry 2 (.isub) 1 3 := ⟨by decide +kernel, rfl⟩
theorem dX9_firstDayToTry_3 : Dc cX9_firstDayToTry 3 (.istore_n 2) 1 4 := ⟨by decide +kernel, rfl⟩
theorem dX9_firstDayToTry_4 : Dc cX9_firstDayToTry 4 (.iload_n 2) 1 5 := ⟨by decide +kernel, rfl⟩
theorem dX9_firstDayToTry_5 : Dj cX9_firstDayToTry 5 (.ifCond .le 18) 3 8 (18) 23 := ⟨by decide +kernel, rfl, by decide⟩
theorem dX9_firstDayToTry_8 : Dc cX9_firstDayToTry 8 (.iload_n 0) 1 9 := ⟨by decide +kernel, rfl⟩
theorem dX9_firstDayToTry_9 : Dc cX9_firstDayToTry 9 (.iload_n 1) 1 10 := ⟨by decide +kernel, rfl⟩
theorem dX9_firstDayToTry_10 : Dc cX9_firstDayToTry 10 (.iload_n 2) 1 11 := ⟨by decide +kernel, rfl⟩
theorem dX9_firstDayToTry_11 : Dc cX9_firstDayToTry 11 (.invokestatic 45) 3 14 := ⟨by decide +kernel, rfl⟩
theorem dX9_firstDayToTry_14 : Dj cX9_firstDayToTry 14 (.ifCond .ne 9) 3 17 (9) 23 := ⟨by decide +kernel, rfl, by decide⟩
theorem dX9_firstDayToTry_17 : Dc cX9_firstDayToTry 17 (.iinc 2 (-1)) 3 20 := ⟨by decide +kernel, rfl⟩
theorem dX9_firstDayToTry_20 : Dj cX9_firstDayToTry 20 (.goto (-16)) 3 23 (-16) 4 := ⟨by decide +kernel, rfl, by decide⟩
theorem dX9_firstDayToTry_23 : Dc cX9_firstDayToTry 23 (.iload_n 2) 1 24 := ⟨by decide +kernel, rfl⟩
theorem dX9_firstDayToTry_24 : Dc cX9_firstDayToTry 24 (.ireturn) 1 25 := ⟨by decide +kernel, rfl⟩
theorem dX9_compareRow_0 : Dc cX9_compareRow 0 (.aload_n 2) 1 1 := ⟨by decide +kernel, rfl⟩
theorem dX9_compareRow_1 : Dc cX9_compareRow 1 (.invokevirtual 57) 3 4 := ⟨by decide +kernel, rfl⟩
theorem dX9_compareRow_4 : Dc cX9_compareRow 4 (.istore_n 3) 1 5 := ⟨by decide +kernel, rfl⟩
theorem dX9_compareRow_5 : Dc cX9_compareRow 5 (.iload_n 3) 1 6 := ⟨by decide +kernel, rfl⟩
theorem dX9_compareRow_6 : Dc cX9_compareRow 6 (.aload_n 0) 1 7 := ⟨by decide +kernel, rfl⟩
theorem dX9_compareRow_7 : Dc cX9_compareRow 7 (.getfield 21) 3 10 := ⟨by decide +kernel, rfl⟩
theorem dX9_compareRow_10 : Dj cX9_compareRow 10 (.if_icmp .gt 22) 3 13 (22) 32 := ⟨by decide +kernel, rfl, by decide⟩
theorem dX9_compareRow_13 : Dc cX9_compareRow 13 (.iload_n 3) 1 14 := ⟨by decide +kernel, rfl⟩
theorem dX9_compareRow_14 : Dc cX9_compareRow 14 (.aload_n 0) 1 15 := ⟨by decide +kernel, rfl⟩
theorem dX9_compareRow_15 : Dc cX9_compareRow 15 (.getfield 21) 3 18 := ⟨by decide +kernel, rfl⟩
theorem dX9_compareRow_18 : Dj cX9_compareRow 18 (.if_icmp .ne 32) 3 21 (32) 50 := ⟨by decide +kernel, rfl, by decide⟩
theorem dX9_compareRow_21 : Dc cX9_compareRow 21 (.aload_n 2) 1 22 := ⟨by decide +kernel, rfl⟩
theorem dX9_compareRow_22 : Dc cX9_compareRow 22 (.getfield 61) 3 25 := ⟨by decide +kernel, rfl⟩
theorem dX9_compareRow_25 : Dc cX9_compareRow 25 (.aload_n 0) 1 26 := ⟨by decide +kernel, rfl⟩
theorem dX9_compareRow_26 : Dc cX9_compareRow 26 (.getfield 28) 3 29 := ⟨by decide +kernel, rfl⟩
theorem dX9_compareRow_29 : Dj cX9_compareRow 29 (.if_icmp .le 21) 3 32 (21) 50 := ⟨by decide +kernel, rfl, by decide⟩
theorem dX9_compareRow_32 : Dc cX9_compareRow 32 (.aload_n 0) 1 33 := ⟨by decide +kernel, rfl⟩
theorem dX9_compareRow_33 : Dc cX9_compareRow 33 (.iload_n 3) 1 34 := ⟨by decide +kernel, rfl⟩
theorem dX9_compareRow_34 : Dc cX9_compareRow 34 (.putfield 21) 3 37 := ⟨by decide +kernel, rfl⟩
theorem dX9_compareRow_37 : Dc cX9_compareRow 37 (.aload_n 0) 1 38 := ⟨by decide +kernel, rfl⟩
theorem dX9_compareRow_38 : Dc cX9_compareRow 38 (.aload_n 2) 1 39 := ⟨by decide +kernel, rfl⟩
theorem dX9_compareRow_39 : Dc cX9_compareRow 39 (.getfield 61) 3 42 := ⟨by decide +kernel, rfl⟩
theorem dX9_compareRow_42 : Dc cX9_compareRow 42 (.putfield 28) 3 45 := ⟨by decide +kernel, rfl⟩
theorem dX9_compareRow_45 : Dc cX9_compareRow 45 (.aload_n 0) 1 46 := ⟨by decide +kernel, rfl⟩
theorem dX9_compareRow_46 : Dc cX9_compareRow 46 (.iload_n 1) 1 47 := ⟨by decide +kernel, rfl⟩
theorem dX9_compareRow_47 : Dc cX9_compareRow 47 (.putfield 25) 3 50 := ⟨by decide +kernel, rfl⟩
theorem dX9_compareRow_50 : Dc cX9_compareRow 50 (.return_) 1 51 := ⟨by decide +kernel, rfl⟩
theorem dX9_rationOf_0 : Dc cX9_rationOf 0 (.iload_n 0) 1 1 := ⟨by decide +kernel, rfl⟩
theorem dX9_rationOf_1 : Dc cX9_rationOf 1 (.iconst 2) 1 2 := ⟨by decide +kernel, rfl⟩
theorem dX9_rationOf_2 : Dc cX9_rationOf 2 (.iload_n 1) 1 3 := ⟨by decide +kernel, rfl⟩
theorem dX9_rationOf_3 : Dc cX9_rationOf 3 (.iconst 1) 1 4 := ⟨by decide +kernel, rfl⟩
theorem dX9_rationOf_4 : Dc cX9_rationOf 4 (.isub) 1 5 := ⟨by decide +kernel, rfl⟩
theorem dX9_rationOf_5 : Dc cX9_rationOf 5 (.iload_n 2) 1 6 := ⟨by decide +kernel, rfl⟩
theorem dX9_rationOf_6 : Dc cX9_rationOf 6 (.isub) 1 7 := ⟨by decide +kernel, rfl⟩
theorem dX9_rationOf_7 : Dc cX9_rationOf 7 (.imul) 1 8 := ⟨by decide +kernel, rfl⟩
theorem dX9_rationOf_8 : Dc cX9_rationOf 8 (.ishr) 1 9 := ⟨by decide +kernel, rfl⟩
theorem dX9_rationOf_9 : Dc cX9_rationOf 9 (.iconst 3) 1 10 := ⟨by decide +kernel, rfl⟩
theorem dX9_rationOf_10 : Dc cX9_rationOf 10 (.iand) 1 11 := ⟨by decide +kernel, rfl⟩
theorem dX9_rationOf_11 : Dc cX9_rationOf 11 (.ireturn) 1 12 := ⟨by decide +kernel, rfl⟩
theorem dX9_firstDeserter_0 : Dc cX9_firstDeserter 0 (.aload_n 0) 1 1 := ⟨by decide +kernel, rfl⟩
theorem dX9_firstDeserter_1 : Dc cX9_firstDeserter 1 (.getfield 11) 3 4 := ⟨by decide +kernel, rfl⟩
theorem dX9_firstDeserter_4 : Dc cX9_firstDeserter 4 (.iconst 0) 1 5 := ⟨by decide +kernel, rfl⟩
theorem dX9_firstDeserter_5 : Dc cX9_firstDeserter 5 (.aaload) 1 6 := ⟨by decide +kernel, rfl⟩
theorem dX9_firstDeserter_6 : Dc cX9_firstDeserter 6 (.astore 4) 2 8 := ⟨by decide +kernel, rfl⟩
theorem dX9_firstDeserter_8 : Dc cX9_firstDeserter 8 (.aload 4) 2 10 := ⟨by decide +kernel, rfl⟩
theorem dX9_firstDeserter_10 : Dc cX9_firstDeserter 10 (.aload_n 2) 1 11 := ⟨by decide +kernel, rfl⟩
theorem dX9_firstDeserter_11 : Dc cX9_firstDeserter 11 (.invokevirtual 38) 3 14 := ⟨by decide +kernel, rfl⟩
theorem dX9_firstDeserter_14 : Dc cX9_firstDeserter 14 (.iconst 0) 1 15 := ⟨by decide +kernel, rfl⟩
theorem dX9_firstDeserter_15 : Dc cX9_firstDeserter 15 (.istore 5) 2 17 := ⟨by decide +kernel, rfl⟩
theorem dX9_firstDeserter_17 : Dc cX9_firstDeserter 17 (.iload 5) 2 19 := ⟨by decide +kernel, rfl⟩
theorem dX9_firstDeserter_19 : Dc cX9_firstDeserter 19 (.bipush 60) 2 21 := ⟨by decide +kernel, rfl⟩
theorem dX9_firstDeserter_21 : Dj cX9_firstDeserter 21 (.if_icmp .ge 31) 3 24 (31) 52 := ⟨by decide +kernel, rfl, by decide⟩
theorem dX9_firstDeserter_24 : Dc cX9_firstDeserter 24 (.aload 4) 2 26 := ⟨by decide +kernel, rfl⟩
theorem dX9_firstDeserter_26 : Dc cX9_firstDeserter 26 (.aload_n 1) 1 27 := ⟨by decide +kernel, rfl⟩
theorem dX9_firstDeserter_27 : Dc cX9_firstDeserter 27 (.iload_n 3) 1 28 := ⟨by decide +kernel, rfl⟩
theorem dX9_firstDeserter_28 : Dc cX9_firstDeserter 28 (.invokevirtual 49) 3 31 := ⟨by decide +kernel, rfl⟩
theorem dX9_firstDeserter_31 : Dc cX9_firstDeserter 31 (.aload 4) 2 33 := ⟨by decide +kernel, rfl⟩
theorem dX9_firstDeserter_33 : Dc cX9_firstDeserter 33 (.getfield 64) 3 36 := ⟨by decide +kernel, rfl⟩
theorem dX9_firstDeserter_36 : Dc cX9_firstDeserter 36 (.iconst (-1)) 1 37 := ⟨by decide +kernel, rfl⟩
theorem dX9_firstDeserter_37 : Dj cX9_firstDeserter 37 (.if_icmp .eq 9) 3 40 (9) 46 := ⟨by decide +kernel, rfl, by decide⟩
theorem dX9_firstDeserter_40 : Dc cX9_firstDeserter 40 (.aload 4) 2 42 := ⟨by decide +kernel, rfl⟩
theorem dX9_firstDeserter_42 : Dc cX9_firstDeserter 42 (.getfield 64) 3 45 := ⟨by decide +kernel, rfl⟩
theorem dX9_firstDeserter_45 : Dc cX9_firstDeserter 45 (.ireturn) 1 46 := ⟨by decide +kernel, rfl⟩
theorem dX9_firstDeserter_46 : Dc cX9_firstDeserter 46 (.iinc 5 1) 3 49 := ⟨by decide +kernel, rfl⟩
theorem dX9_firstDeserter_49 : Dj cX9_firstDeserter 49 (.goto (-32)) 3 52 (-32) 17 := ⟨by decide +kernel, rfl, by decide⟩
theorem dX9_firstDeserter_52 : Dc cX9_firstDeserter 52 (.iconst (-1)) 1 53 := ⟨by decide +kernel, rfl⟩
theorem dX9_firstDeserter_53 : Dc cX9_firstDeserter 53 (.ireturn) 1 54 := ⟨by decide +kernel, rfl⟩
theorem dX9_daysWithMen_0 : Dc cX9_daysWithMen 0 (.aload_n 0) 1 1 := ⟨by decide +kernel, rfl⟩
theorem dX9_daysWithMen_1 : Dc cX9_daysWithMen 1 (.getfield 11) 3 4 := ⟨by decide +kernel, rfl⟩
theorem dX9_daysWithMen_4 : Dc cX9_daysWithMen 4 (.iconst 0) 1 5 := ⟨by decide +kernel, rfl⟩
theorem dX9_daysWithMen_5 : Dc cX9_daysWithMen 5 (.aaload) 1 6 := ⟨by decide +kernel, rfl⟩
theorem dX9_daysWithMen_6 : Dc cX9_daysWithMen 6 (.astore 4) 2 8 := ⟨by decide +kernel, rfl⟩
theorem dX9_daysWithMen_8 : Dc cX9_daysWithMen 8 (.aload 4) 2 10 := ⟨by decide +kernel, rfl⟩
theorem dX9_daysWithMen_10 : Dc cX9_daysWithMen 10 (.aload_n 2) 1 11 := ⟨by decide +kernel, rfl⟩
theorem dX9_daysWithMen_11 : Dc cX9_daysWithMen 11 (.invokevirtual 38) 3 14 := ⟨by decide +kernel, rfl⟩
theorem dX9_daysWithMen_14 : Dc cX9_daysWithMen 14 (.iconst 0) 1 15 := ⟨by decide +kernel, rfl⟩
theorem dX9_daysWithMen_15 : Dc cX9_daysWithMen 15 (.istore 5) 2 17 := ⟨by decide +kernel, rfl⟩
theorem dX9_daysWithMen_17 : Dc cX9_daysWithMen 17 (.iload 5) 2 19 := ⟨by decide +kernel, rfl⟩
theorem dX9_daysWithMen_19 : Dc cX9_daysWithMen 19 (.bipush 60) 2 21 := ⟨by decide +kernel, rfl⟩
theorem dX9_daysWithMen_21 : Dj cX9_daysWithMen 21 (.if_icmp .ge 24) 3 24 (24) 45 := ⟨by decide +kernel, rfl, by decide⟩
theorem dX9_daysWithMen_24 : Dc cX9_daysWithMen 24 (.aload 4) 2 26 := ⟨by decide +kernel, rfl⟩
theorem dX9_daysWithMen_26 : Dc cX9_daysWithMen 26 (.invokevirtual 57) 3 29 := ⟨by decide +kernel, rfl⟩
theorem dX9_daysWithMen_29 : Dj cX9_daysWithMen 29 (.ifCond .le 16) 3 32 (16) 45 := ⟨by decide +kernel, rfl, by decide⟩
theorem dX9_daysWithMen_32 : Dc cX9_daysWithMen 32 (.aload 4) 2 34 := ⟨by decide +kernel, rfl⟩
theorem dX9_daysWithMen_34 : Dc cX9_daysWithMen 34 (.aload_n 1) 1 35 := ⟨by decide +kernel, rfl⟩
theorem dX9_daysWithMen_35 : Dc cX9_daysWithMen 35 (.iload_n 3) 1 36 := ⟨by decide +kernel, rfl⟩
theorem dX9_daysWithMen_36 : Dc cX9_daysWithMen 36 (.invokevirtual 49) 3 39 := ⟨by decide +kernel, rfl⟩
theorem dX9_daysWithMen_39 : Dc cX9_daysWithMen 39 (.iinc 5 1) 3 42 := ⟨by decide +kernel, rfl⟩
theorem dX9_daysWithMen_42 : Dj cX9_daysWithMen 42 (.goto (-25)) 3 45 (-25) 17 := ⟨by decide +kernel, rfl, by decide⟩
theorem dX9_daysWithMen_45 : Dc cX9_daysWithMen 45 (.iload 5) 2 47 := ⟨by decide +kernel, rfl⟩
theorem dX9_daysWithMen_47 : Dc cX9_daysWithMen 47 (.ireturn) 1 48 := ⟨by decide +kernel, rfl⟩
theorem dX9_leastToPay_0 : Dc cX9_leastToPay 0 (.iconst 0) 1 1 := ⟨by decide +kernel, rfl⟩
theorem dX9_leastToPay_1 : Dc cX9_leastToPay 1 (.istore 5) 2 3 := ⟨by decide +kernel, rfl⟩
theorem dX9_leastToPay_3 : Dc cX9_leastToPay 3 (.iconst 0) 1 4 := ⟨by decide +kernel, rfl⟩
theorem dX9_leastToPay_4 : Dc cX9_leastToPay 4 (.istore 6) 2 6 := ⟨by decide +kernel, rfl⟩
theorem dX9_leastToPay_6 : Dc cX9_leastToPay 6 (.iload 6) 2 8 := ⟨by decide +kernel, rfl⟩
theorem dX9_leastToPay_8 : Dc cX9_leastToPay 8 (.aload_n 1) 1 9 := ⟨by decide +kernel, rfl⟩
theorem dX9_leastToPay_9 : Dc cX9_leastToPay 9 (.getfield 67) 3 12 := ⟨by decide +kernel, rfl⟩
theorem dX9_leastToPay_12 : Dj cX9_leastToPay 12 (.if_icmp .ge 37) 3 15 (37) 49 := ⟨by decide +kernel, rfl, by decide⟩
theorem dX9_leastToPay_15 : Dc cX9_leastToPay 15 (.aload_n 0) 1 16 := ⟨by decide +kernel, rfl⟩
theorem dX9_leastToPay_16 : Dc cX9_leastToPay 16 (.getfield 17) 3 19 := ⟨by decide +kernel, rfl⟩
theorem dX9_leastToPay_19 : Dc cX9_leastToPay 19 (.iload 6) 2 21 := ⟨by decide +kernel, rfl⟩
theorem dX9_leastToPay_21 : Dc cX9_leastToPay 21 (.aload_n 2) 1 22 := ⟨by decide +kernel, rfl⟩
theorem dX9_leastToPay_22 : Dc cX9_leastToPay 22 (.aload_n 1) 1 23 := ⟨by decide +kernel, rfl⟩
theorem dX9_leastToPay_23 : Dc cX9_leastToPay 23 (.iload 6) 2 25 := ⟨by decide +kernel, rfl⟩
theorem dX9_leastToPay_25 : Dc cX9_leastToPay 25 (.iload 4) 2 27 := ⟨by decide +kernel, rfl⟩
theorem dX9_leastToPay_27 : Dc cX9_leastToPay 27 (.invokevirtual 72) 3 30 := ⟨by decide +kernel, rfl⟩
theorem dX9_leastToPay_30 : Dc cX9_leastToPay 30 (.iastore) 1 31 := ⟨by decide +kernel, rfl⟩
theorem dX9_leastToPay_31 : Dc cX9_leastToPay 31 (.iload 5) 2 33 := ⟨by decide +kernel, rfl⟩
theorem dX9_leastToPay_33 : Dc cX9_leastToPay 33 (.aload_n 0) 1 34 := ⟨by decide +kernel, rfl⟩
theorem dX9_leastToPay_34 : Dc cX9_leastToPay 34 (.getfield 17) 3 37 := ⟨by decide +kernel, rfl⟩
theorem dX9_leastToPay_37 : Dc cX9_leastToPay 37 (.iload 6) 2 39 := ⟨by decide +kernel, rfl⟩
theorem dX9_leastToPay_39 : Dc cX9_leastToPay 39 (.iaload) 1 40 := ⟨by decide +kernel, rfl⟩
theorem dX9_leastToPay_40 : Dc cX9_leastToPay 40 (.iadd) 1 41 := ⟨by decide +kernel, rfl⟩
theorem dX9_leastToPay_41 : Dc cX9_leastToPay 41 (.istore 5) 2 43 := ⟨by decide +kernel, rfl⟩
theorem dX9_leastToPay_43 : Dc cX9_leastToPay 43 (.iinc 6 1) 3 46 := ⟨by decide +kernel, rfl⟩
theorem dX9_leastToPay_46 : Dj cX9_leastToPay 46 (.goto (-40)) 3 49 (-40) 6 := ⟨by decide +kernel, rfl, by decide⟩
theorem dX9_leastToPay_49 : Dc cX9_leastToPay 49 (.iconst 0) 1 50 := ⟨by decide +kernel, rfl⟩
theorem dX9_leastToPay_50 : Dc cX9_leastToPay 50 (.istore 6) 2 52 := ⟨by decide +kernel, rfl⟩
theorem dX9_leastToPay_52 : Dc cX9_leastToPay 52 (.iload 6) 2 54 := ⟨by decide +kernel, rfl⟩
theorem dX9_leastToPay_54 : Dc cX9_leastToPay 54 (.iload_n 3) 1 55 := ⟨by decide +kernel, rfl⟩
theorem dX9_leastToPay_55 : Dj cX9_leastToPay 55 (.if_icmp .ge 22) 3 58 (22) 77 := ⟨by decide +kernel, rfl, by decide⟩
theorem dX9_leastToPay_58 : Dc cX9_leastToPay 58 (.iload 5) 2 60 := ⟨by decide +kernel, rfl⟩
theorem dX9_leastToPay_60 : Dc cX9_leastToPay 60 (.aload_n 0) 1 61 := ⟨by decide +kernel, rfl⟩
theorem dX9_leastToPay_61 : Dc cX9_leastToPay 61 (.aload_n 1) 1 62 := ⟨by decide +kernel, rfl⟩
theorem dX9_leastToPay_62 : Dc cX9_leastToPay 62 (.getfield 67) 3 65 := ⟨by decide +kernel, rfl⟩
theorem dX9_leastToPay_65 : Dc cX9_leastToPay 65 (.invokevirtual 78) 3 68 := ⟨by decide +kernel, rfl⟩
theorem dX9_leastToPay_68 : Dc cX9_leastToPay 68 (.isub) 1 69 := ⟨by decide +kernel, rfl⟩
theorem dX9_leastToPay_69 : Dc cX9_leastToPay 69 (.istore 5) 2 71 := ⟨by decide +kernel, rfl⟩
theorem dX9_leastToPay_71 : Dc cX9_leastToPay 71 (.iinc 6 1) 3 74 := ⟨by decide +kernel, rfl⟩
theorem dX9_leastToPay_74 : Dj cX9_leastToPay 74 (.goto (-22)) 3 77 (-22) 52 := ⟨by decide +kernel, rfl, by decide⟩
theorem dX9_leastToPay_77 : Dc cX9_leastToPay 77 (.iload 5) 2 79 := ⟨by decide +kernel, rfl⟩
theorem dX9_leastToPay_79 : Dc cX9_leastToPay 79 (.ireturn) 1 80 := ⟨by decide +kernel, rfl⟩
theorem dX9_strikeGreatestDebt_0 : Dc cX9_strikeGreatestDebt 0 (.iconst 0) 1 1 := ⟨by decide +kernel, rfl⟩
theorem dX9_strikeGreatestDebt_1 : Dc cX9_strikeGreatestDebt 1 (.istore_n 2) 1 2 := ⟨by decide +kernel, rfl⟩
theorem dX9_strikeGreatestDebt_2 : Dc cX9_strikeGreatestDebt 2 (.iconst 1) 1 3 := ⟨by decide +kernel, rfl⟩
theorem dX9_strikeGreatestDebt_3 : Dc cX9_strikeGreatestDebt 3 (.istore_n 3) 1 4 := ⟨by decide +kernel, rfl⟩
theorem dX9_strikeGreatestDebt_4 : Dc cX9_strikeGreatestDebt 4 (.iload_n 3) 1 5 := ⟨by decide +kernel, rfl⟩
theorem dX9_strikeGreatestDebt_5 : Dc cX9_strikeGreatestDebt 5 (.iload_n 1) 1 6 := ⟨by decide +kernel, rfl⟩
theorem dX9_strikeGreatestDebt_6 : Dj cX9_strikeGreatestDebt 6 (.if_icmp .ge 26) 3 9 (26) 32 := ⟨by decide +kernel, rfl, by decide⟩
theorem dX9_strikeGreatestDebt_9 : Dc cX9_strikeGreatestDebt 9 (.aload_n 0) 1 10 := ⟨by decide +kernel, rfl⟩
theorem dX9_strikeGreatestDebt_10 : Dc cX9_strikeGreatestDebt 10 (.getfield 17) 3 13 := ⟨by decide +kernel, rfl⟩
theorem dX9_strikeGreatestDebt_13 : Dc cX9_strikeGreatestDebt 13 (.iload_n 3) 1 14 := ⟨by decide +kernel, rfl⟩
theorem dX9_strikeGreatestDebt_14 : Dc cX9_strikeGreatestDebt 14 (.iaload) 1 15 := ⟨by decide +kernel, rfl⟩
theorem dX9_strikeGreatestDebt_15 : Dc cX9_strikeGreatestDebt 15 (.aload_n 0) 1 16 := ⟨by decide +kernel, rfl⟩
theorem dX9_strikeGreatestDebt_16 : Dc cX9_strikeGreatestDebt 16 (.getfield 17) 3 19 := ⟨by decide +kernel, rfl⟩
theorem dX9_strikeGreatestDebt_19 : Dc cX9_strikeGreatestDebt 19 (.iload_n 2) 1 20 := ⟨by decide +kernel, rfl⟩
theorem dX9_strikeGreatestDebt_20 : Dc cX9_strikeGreatestDebt 20 (.iaload) 1 21 := ⟨by decide +kernel, rfl⟩
theorem dX9_strikeGreatestDebt_21 : Dj cX9_strikeGreatestDebt 21 (.if_icmp .le 5) 3 24 (5) 26 := ⟨by decide +kernel, rfl, by decide⟩
theorem dX9_strikeGreatestDebt_24 : Dc cX9_strikeGreatestDebt 24 (.iload_n 3) 1 25 := ⟨by decide +kernel, rfl⟩
theorem dX9_strikeGreatestDebt_25 : Dc cX9_strikeGreatestDebt 25 (.istore_n 2) 1 26 := ⟨by decide +kernel, rfl⟩
theorem dX9_strikeGreatestDebt_26 : Dc cX9_strikeGreatestDebt 26 (.iinc 3 1) 3 29 := ⟨by decide +kernel, rfl⟩
theorem dX9_strikeGreatestDebt_29 : Dj cX9_strikeGreatestDebt 29 (.goto (-25)) 3 32 (-25) 4 := ⟨by decide +kernel, rfl, by decide⟩
theorem dX9_strikeGreatestDebt_32 : Dc cX9_strikeGreatestDebt 32 (.iload_n 1) 1 33 := ⟨by decide +kernel, rfl⟩
theorem dX9_strikeGreatestDebt_33 : Dj cX9_strikeGreatestDebt 33 (.ifCond .le 12) 3 36 (12) 45 := ⟨by decide +kernel, rfl, by decide⟩
theorem dX9_strikeGreatestDebt_36 : Dc cX9_strikeGreatestDebt 36 (.aload_n 0) 1 37 := ⟨by decide +kernel, rfl⟩
theorem dX9_strikeGreatestDebt_37 : Dc cX9_strikeGreatestDebt 37 (.getfield 17) 3 40 := ⟨by decide +kernel, rfl⟩
theorem dX9_strikeGreatestDebt_40 : Dc cX9_strikeGreatestDebt 40 (.iload_n 2) 1 41 := ⟨by decide +kernel, rfl⟩
theorem dX9_strikeGreatestDebt_41 : Dc cX9_strikeGreatestDebt 41 (.iaload) 1 42 := ⟨by decide +kernel, rfl⟩
theorem dX9_strikeGreatestDebt_42 : Dj cX9_strikeGreatestDebt 42 (.goto 4) 3 45 (4) 46 := ⟨by decide +kernel, rfl, by decide⟩
theorem dX9_strikeGreatestDebt_45 : Dc cX9_strikeGreatestDebt 45 (.iconst 0) 1 46 := ⟨by decide +kernel, rfl⟩
theorem dX9_strikeGreatestDebt_46 : Dc cX9_strikeGreatestDebt 46 (.istore_n 3) 1 47 := ⟨by decide +kernel, rfl⟩
theorem dX9_strikeGreatestDebt_47 : Dc cX9_strikeGreatestDebt 47 (.aload_n 0) 1 48 := ⟨by decide +kernel, rfl⟩
theorem dX9_strikeGreatestDebt_48 : Dc cX9_strikeGreatestDebt 48 (.getfield 17) 3 51 := ⟨by decide +kernel, rfl⟩
theorem dX9_strikeGreatestDebt_51 : Dc cX9_strikeGreatestDebt 51 (.iload_n 2) 1 52 := ⟨by decide +kernel, rfl⟩
theorem dX9_strikeGreatestDebt_52 : Dc cX9_strikeGreatestDebt 52 (.iconst 0) 1 53 := ⟨by decide +kernel, rfl⟩
theorem dX9_strikeGreatestDebt_53 : Dc cX9_strikeGreatestDebt 53 (.iastore) 1 54 := ⟨by decide +kernel, rfl⟩
theorem dX9_strikeGreatestDebt_54 : Dc cX9_strikeGreatestDebt 54 (.iload_n 3) 1 55 := ⟨by decide +kernel, rfl⟩
theorem dX9_strikeGreatestDebt_55 : Dc cX9_strikeGreatestDebt 55 (.ireturn) 1 56 := ⟨by decide +kernel, rfl⟩
theorem dX10_init_0 : Dc cX10_init 0 (.aload_n 0) 1 1 := ⟨by decide +kernel, rfl⟩
theorem dX10_init_1 : Dc cX10_init 1 (.invokespecial 1) 3 4 := ⟨by decide +kernel, rfl⟩
theorem dX10_init_4 : Dc cX10_init 4 (.aload_n 0) 1 5 := ⟨by decide +kernel, rfl⟩
theorem dX10_init_5 : Dc cX10_init 5 (.new 7) 3 8 := ⟨by decide +kernel, rfl⟩
theorem dX10_init_8 : Dc cX10_init 8 (.dup) 1 9 := ⟨by decide +kernel, rfl⟩
theorem dX10_init_9 : Dc cX10_init 9 (.invokespecial 9) 3 12 := ⟨by decide +kernel, rfl⟩
theorem dX10_init_12 : Dc cX10_init 12 (.putfield 10) 3 15 := ⟨by decide +kernel, rfl⟩
theorem dX10_init_15 : Dc cX10_init 15 (.aload_n 0) 1 16 := ⟨by decide +kernel, rfl⟩
theorem dX10_init_16 : Dc cX10_init 16 (.new 16) 3 19 := ⟨by decide +kernel, rfl⟩
theorem dX10_init_19 : Dc cX10_init 19 (.dup) 1 20 := ⟨by decide +kernel, rfl⟩
theorem dX10_init_20 : Dc cX10_init 20 (.invokespecial 18) 3 23 := ⟨by decide +kernel, rfl⟩
theorem dX10_init_23 : Dc cX10_init 23 (.putfield 19) 3 26 := ⟨by decide +kernel, rfl⟩
theorem dX10_init_26 : Dc cX10_init 26 (.aload_n 0) 1 27 := ⟨by decide +kernel, rfl⟩
theorem dX10_init_27 : Dc cX10_init 27 (.new 23) 3 30 := ⟨by decide +kernel, rfl⟩
theorem dX10_init_30 : Dc cX10_init 30 (.dup) 1 31 := ⟨by decide +kernel, rfl⟩
theorem dX10_init_31 : Dc cX10_init 31 (.invokespecial 25) 3 34 := ⟨by decide +kernel, rfl⟩
theorem dX10_init_34 : Dc cX10_init 34 (.putfield 26) 3 37 := ⟨by decide +kernel, rfl⟩
theorem dX10_init_37 : Dc cX10_init 37 (.aload_n 0) 1 38 := ⟨by decide +kernel, rfl⟩
theorem dX10_init_38 : Dc cX10_init 38 (.new 23) 3 41 := ⟨by decide +kernel, rfl⟩
theorem dX10_init_41 : Dc cX10_init 41 (.dup) 1 42 := ⟨by decide +kernel, rfl⟩
theorem dX10_init_42 : Dc cX10_init 42 (.invokespecial 25) 3 45 := ⟨by decide +kernel, rfl⟩
theorem dX10_init_45 : Dc cX10_init 45 (.putfield 30) 3 48 := ⟨by decide +kernel, rfl⟩
theorem dX10_init_48 : Dc cX10_init 48 (.aload_n 0) 1 49 := ⟨by decide +kernel, rfl⟩
theorem dX10_init_49 : Dc cX10_init 49 (.new 33) 3 52 := ⟨by decide +kernel, rfl⟩
theorem dX10_init_52 : Dc cX10_init 52 (.dup) 1 53 := ⟨by decide +kernel, rfl⟩
theorem dX10_init_53 : Dc cX10_init 53 (.invokespecial 35) 3 56 := ⟨by decide +kernel, rfl⟩
theorem dX10_init_56 : Dc cX10_init 56 (.putfield 36) 3 59 := ⟨by decide +kernel, rfl⟩
theorem dX10_init_59 : Dc cX10_init 59 (.aload_n 0) 1 60 := ⟨by decide +kernel, rfl⟩
theorem dX10_init_60 : Dc cX10_init 60 (.new 40) 3 63 := ⟨by decide +kernel, rfl⟩
theorem dX10_init_63 : Dc cX10_init 63 (.dup) 1 64 := ⟨by decide +kernel, rfl⟩
theorem dX10_init_64 : Dc cX10_init 64 (.invokespecial 42) 3 67 := ⟨by decide +kernel, rfl⟩
theorem dX10_init_67 : Dc cX10_init 67 (.putfield 43) 3 70 := ⟨by decide +kernel, rfl⟩
theorem dX10_init_70 : Dc cX10_init 70 (.aload_n 0) 1 71 := ⟨by decide +kernel, rfl⟩
theorem dX10_init_71 : Dc cX10_init 71 (.iconst 2) 1 72 := ⟨by decide +kernel, rfl⟩
theorem dX10_init_72 : Dc cX10_init 72 (.anewarray 47) 3 75 := ⟨by decide +kernel, rfl⟩
theorem dX10_init_75 : Dc cX10_init 75 (.putfield 49) 3 78 := ⟨by decide +kernel, rfl⟩
theorem dX10_init_78 : Dc cX10_init 78 (.aload_n 0) 1 79 := ⟨by decide +kernel, rfl⟩
theorem dX10_init_79 : Dc cX10_init 79 (.new 53) 3 82 := ⟨by decide +kernel, rfl⟩
theorem dX10_init_82 : Dc cX10_init 82 (.dup) 1 83 := ⟨by decide +kernel, rfl⟩
theorem dX10_init_83 : Dc cX10_init 83 (.invokespecial 55) 3 86 := ⟨by decide +kernel, rfl⟩
theorem dX10_init_86 : Dc cX10_init 86 (.putfield 56) 3 89 := ⟨by decide +kernel, rfl⟩
theorem dX10_init_89 : Dc cX10_init 89 (.aload_n 0) 1 90 := ⟨by decide +kernel, rfl⟩
theorem dX10_init_90 : Dc cX10_init 90 (.new 60) 3 93 := ⟨by decide +kernel, rfl⟩
theorem dX10_init_93 : Dc cX10_init 93 (.dup) 1 94 := ⟨by decide +kernel, rfl⟩
theorem dX10_init_94 : Dc cX10_init 94 (.invokespecial 62) 3 97 := ⟨by decide +kernel, rfl⟩
theorem dX10_init_97 : Dc cX10_init 97 (.putfield 63) 3 100 := ⟨by decide +kernel, rfl⟩
theorem dX10_init_100 : Dc cX10_init 100 (.aload_n 0) 1 101 := ⟨by decide +kernel, rfl⟩
theorem dX10_init_101 : Dc cX10_init 101 (.new 67) 3 104 := ⟨by decide +kernel, rfl⟩
theorem dX10_init_104 : Dc cX10_init 104 (.dup) 1 105 := ⟨by decide +kernel, rfl⟩
theorem dX10_init_105 : Dc cX10_init 105 (.invokespecial 69) 3 108 := ⟨by decide +kernel, rfl⟩
theorem dX10_init_108 : Dc cX10_init 108 (.putfield 70) 3 111 := ⟨by decide +kernel, rfl⟩
theorem dX10_init_111 : Dc cX10_init 111 (.aload_n 0) 1 112 := ⟨by decide +kernel, rfl⟩
theorem dX10_init_112 : Dc cX10_init 112 (.iconst 0) 1 113 := ⟨by decide +kernel, rfl⟩
theorem dX10_init_113 : Dc cX10_init 113 (.putfield 74) 3 116 := ⟨by decide +kernel, rfl⟩
theorem dX10_init_116 : Dc cX10_init 116 (.aload_n 0) 1 117 := ⟨by decide +kernel, rfl⟩
theorem dX10_init_117 : Dc cX10_init 117 (.iconst (-1)) 1 118 := ⟨by decide +kernel, rfl⟩
theorem dX10_init_118 : Dc cX10_init 118 (.putfield 78) 3 121 := ⟨by decide +kernel, rfl⟩
theorem dX10_init_121 : Dc cX10_init 121 (.iconst 0) 1 122 := ⟨by decide +kernel, rfl⟩
theorem dX10_init_122 : Dc cX10_init 122 (.istore_n 1) 1 123 := ⟨by decide +kernel, rfl⟩
theorem dX10_init_123 : Dc cX10_init 123 (.iload_n 1) 1 124 := ⟨by decide +kernel, rfl⟩
theorem dX10_init_124 : Dc cX10_init 124 (.iconst 2) 1 125 := ⟨by decide +kernel, rfl⟩
theorem dX10_init_125 : Dj cX10_init 125 (.if_icmp .ge 22) 3 128 (22) 147 := ⟨by decide +kernel, rfl, by decide⟩
theorem dX10_init_128 : Dc cX10_init 128 (.aload_n 0) 1 129 := ⟨by decide +kernel, rfl⟩
theorem dX10_init_129 : Dc cX10_init 129 (.getfield 49) 3 132 := ⟨by decide +kernel, rfl⟩
theorem dX10_init_132 : Dc cX10_init 132 (.iload_n 1) 1 133 := ⟨by decide +kernel, rfl⟩
theorem dX10_init_133 : Dc cX10_init 133 (.new 47) 3 136 := ⟨by decide +kernel, rfl⟩
theorem dX10_init_136 : Dc cX10_init 136 (.dup) 1 137 := ⟨by decide +kernel, rfl⟩
theorem dX10_init_137 : Dc cX10_init 137 (.invokespecial 81) 3 140 := ⟨by decide +kernel, rfl⟩
theorem dX10_init_140 : Dc cX10_init 140 (.aastore) 1 141 := ⟨by decide +kernel, rfl⟩
theorem dX10_init_141 : Dc cX10_init 141 (.iinc 1 1) 3 144 := ⟨by decide +kernel, rfl⟩
theorem dX10_init_144 : Dj cX10_init 144 (.goto (-21)) 3 147 (-21) 123 := ⟨by decide +kernel, rfl, by decide⟩
theorem dX10_init_147 : Dc cX10_init 147 (.return_) 1 148 := ⟨by decide +kernel, rfl⟩
theorem dX10_feed_0 : Dc cX10_feed 0 (.iload_n 1) 1 1 := ⟨by decide +kernel, rfl⟩
theorem dX10_feed_1 : Dc cX10_feed 1 (.iconst 0) 1 2 := ⟨by decide +kernel, rfl⟩
theorem dX10_feed_2 : Dc cX10_feed 2 (.sipush 255) 3 5 := ⟨by decide +kernel, rfl⟩
theorem dX10_feed_5 : Dc cX10_feed 5 (.invokestatic 82) 3 8 := ⟨by decide +kernel, rfl⟩
theorem dX10_feed_8 : Dj cX10_feed 8 (.ifCond .ne 6) 3 11 (6) 14 := ⟨by decide +kernel, rfl, by decide⟩
theorem dX10_feed_11 : Dc cX10_feed 11 (.ldc 86) 2 13 := ⟨by decide +kernel, rfl⟩
theorem dX10_feed_13 : Dc cX10_feed 13 (.ireturn) 1 14 := ⟨by decide +kernel, rfl⟩
theorem dX10_feed_14 : Dc cX10_feed 14 (.aload_n 0) 1 15 := ⟨by decide +kernel, rfl⟩
theorem dX10_feed_15 : Dc cX10_feed 15 (.getfield 10) 3 18 := ⟨by decide +kernel, rfl⟩
theorem dX10_feed_18 : Dc cX10_feed 18 (.getfield 87) 3 21 := ⟨by decide +kernel, rfl⟩
theorem dX10_feed_21 : Dc cX10_feed 21 (.sipush 240) 3 24 := ⟨by decide +kernel, rfl⟩
theorem dX10_feed_24 : Dj cX10_feed 24 (.if_icmp .lt 6) 3 27 (6) 30 := ⟨by decide +kernel, rfl, by decide⟩
theorem dX10_feed_27 : Dc cX10_feed 27 (.ldc 90) 2 29 := ⟨by decide +kernel, rfl⟩
theorem dX10_feed_29 : Dc cX10_feed 29 (.ireturn) 1 30 := ⟨by decide +kernel, rfl⟩
theorem dX10_feed_30 : Dc cX10_feed 30 (.aload_n 0) 1 31 := ⟨by decide +kernel, rfl⟩
theorem dX10_feed_31 : Dc cX10_feed 31 (.getfield 10) 3 34 := ⟨by decide +kernel, rfl⟩
theorem dX10_feed_34 : Dc cX10_feed 34 (.iload_n 1) 1 35 := ⟨by decide +kernel, rfl⟩
theorem dX10_feed_35 : Dc cX10_feed 35 (.invokevirtual 91) 3 38 := ⟨by decide +kernel, rfl⟩
theorem dX10_feed_38 : Dc cX10_feed 38 (.aload_n 0) 1 39 := ⟨by decide +kernel, rfl⟩
theorem dX10_feed_39 : Dc cX10_feed 39 (.getfield 10) 3 42 := ⟨by decide +kernel, rfl⟩
theorem dX10_feed_42 : Dc cX10_feed 42 (.getfield 87) 3 45 := ⟨by decide +kernel, rfl⟩
theorem dX10_feed_45 : Dc cX10_feed 45 (.ireturn) 1 46 := ⟨by decide +kernel, rfl⟩
theorem dX10_town_0 : Dc cX10_town 0 (.aload_n 0) 1 1 := ⟨by decide +kernel, rfl⟩
theorem dX10_town_1 : Dc cX10_town 1 (.getfield 19) 3 4 := ⟨by decide +kernel, rfl⟩
theorem dX10_town_4 : Dc cX10_town 4 (.aload_n 0) 1 5 := ⟨by decide +kernel, rfl⟩
theorem dX10_town_5 : Dc cX10_town 5 (.getfield 10) 3 8 := ⟨by decide +kernel, rfl⟩
theorem dX10_town_8 : Dc cX10_town 8 (.aload_n 0) 1 9 := ⟨by decide +kernel, rfl⟩
theorem dX10_town_9 : Dc cX10_town 9 (.getfield 30) 3 12 := ⟨by decide +kernel, rfl⟩
theorem dX10_town_12 : Dc cX10_town 12 (.invokevirtual 95) 3 15 := ⟨by decide +kernel, rfl⟩
theorem dX10_town_15 : Dc cX10_town 15 (.aload_n 0) 1 16 := ⟨by decide +kernel, rfl⟩
theorem dX10_town_16 : Dc cX10_town 16 (.getfield 10) 3 19 := ⟨by decide +kernel, rfl⟩
theorem dX10_town_19 : Dc cX10_town 19 (.iconst 0) 1 20 := ⟨by decide +kernel, rfl⟩
theorem dX10_town_20 : Dc cX10_town 20 (.putfield 87) 3 23 := ⟨by decide +kernel, rfl⟩
theorem dX10_town_23 : Dc cX10_town 23 (.aload_n 0) 1 24 := ⟨by decide +kernel, rfl⟩
theorem dX10_town_24 : Dc cX10_town 24 (.aload_n 0) 1 25 := ⟨by decide +kernel, rfl⟩
theorem dX10_town_25 : Dc cX10_town 25 (.getfield 19) 3 28 := ⟨by decide +kernel, rfl⟩
theorem dX10_town_28 : Dc cX10_town 28 (.getfield 99) 3 31 := ⟨by decide +kernel, rfl⟩
theorem dX10_town_31 : Dc cX10_town 31 (.putfield 78) 3 34 := ⟨by decide +kernel, rfl⟩
theorem dX10_town_34 : Dc cX10_town 34 (.aload_n 0) 1 35 := ⟨by decide +kernel, rfl⟩
theorem dX10_town_35 : Dc cX10_town 35 (.getfield 19) 3 38 := ⟨by decide +kernel, rfl⟩
theorem dX10_town_38 : Dc cX10_town 38 (.getfield 102) 3 41 := ⟨by decide +kernel, rfl⟩
theorem dX10_town_41 : Dj cX10_town 41 (.ifCond .eq 14) 3 44 (14) 55 := ⟨by decide +kernel, rfl, by decide⟩
theorem dX10_town_44 : Dc cX10_town 44 (.bipush (-10)) 2 46 := ⟨by decide +kernel, rfl⟩
theorem dX10_town_46 : Dc cX10_town 46 (.aload_n 0) 1 47 := ⟨by decide +kernel, rfl⟩
theorem dX10_town_47 : Dc cX10_town 47 (.getfield 19) 3 50 := ⟨by decide +kernel, rfl⟩
theorem dX10_town_50 : Dc cX10_town 50 (.getfield 102) 3 53 := ⟨by decide +kernel, rfl⟩
theorem dX10_town_53 : Dc cX10_town 53 (.isub) 1 54 := ⟨by decide +kernel, rfl⟩
theorem dX10_town_54 : Dc cX10_town 54 (.ireturn) 1 55 := ⟨by decide +kernel, rfl⟩
theorem dX10_town_55 : Dc cX10_town 55 (.aload_n 0) 1 56 := ⟨by decide +kernel, rfl⟩
theorem dX10_town_56 : Dc cX10_town 56 (.getfield 26) 3 59 := ⟨by decide +kernel, rfl⟩
theorem dX10_town_59 : Dc cX10_town 59 (.astore_n 1) 1 60 := ⟨by decide +kernel, rfl⟩
theorem dX10_town_60 : Dc cX10_town 60 (.aload_n 0) 1 61 := ⟨by decide +kernel, rfl⟩
theorem dX10_town_61 : Dc cX10_town 61 (.aload_n 0) 1 62 := ⟨by decide +kernel, rfl⟩
theorem dX10_town_62 : Dc cX10_town 62 (.getfield 30) 3 65 := ⟨by decide +kernel, rfl⟩
theorem dX10_town_65 : Dc cX10_town 65 (.putfield 26) 3 68 := ⟨by decide +kernel, rfl⟩
theorem dX10_town_68 : Dc cX10_town 68 (.aload_n 0) 1 69 := ⟨by decide +kernel, rfl⟩
theorem dX10_town_69 : Dc cX10_town 69 (.aload_n 1) 1 70 := ⟨by decide +kernel, rfl⟩
theorem dX10_town_70 : Dc cX10_town 70 (.putfield 30) 3 73 := ⟨by decide +kernel, rfl⟩
theorem dX10_town_73 : Dc cX10_town 73 (.aload_n 0) 1 74 := ⟨by decide +kernel, rfl⟩
theorem dX10_town_74 : Dc cX10_town 74 (.invokevirtual 105) 3 77 := ⟨by decide +kernel, rfl⟩
theorem dX10_town_77 : Dc cX10_town 77 (.aload_n 0) 1 78 := ⟨by decide +kernel, rfl⟩
theorem dX10_town_78 : Dc cX10_town 78 (.getfield 26) 3 81 := ⟨by decide +kernel, rfl⟩
theorem dX10_town_81 : Dc cX10_town 81 (.getfield 108) 3 84 := ⟨by decide +kernel, rfl⟩
theorem dX10_town_84 : Dc cX10_town 84 (.ireturn) 1 85 := ⟨by decide +kernel, rfl⟩
theorem dX10_beginSiege_0 : Dc cX10_beginSiege 0 (.aload_n 0) 1 1 := ⟨by decide +kernel, rfl⟩
theorem dX10_beginSiege_1 : Dc cX10_beginSiege 1 (.getfield 36) 3 4 := ⟨by decide +kernel, rfl⟩
theorem dX10_beginSiege_4 : Dc cX10_beginSiege 4 (.aload_n 0) 1 5 := ⟨by decide +kernel, rfl⟩
theorem dX10_beginSiege_5 : Dc cX10_beginSiege 5 (.getfield 26) 3 8 := ⟨by decide +kernel, rfl⟩
theorem dX10_beginSiege_8 : Dc cX10_beginSiege 8 (.invokevirtual 111) 3 11 := ⟨by decide +kernel, rfl⟩
theorem dX10_beginSiege_11 : Dc cX10_beginSiege 11 (.aload_n 0) 1 12 := ⟨by decide +kernel, rfl⟩
theorem dX10_beginSiege_12 : Dc cX10_beginSiege 12 (.getfield 43) 3 15 := ⟨by decide +kernel, rfl⟩
theorem dX10_beginSiege_15 : Dc cX10_beginSiege 15 (.invokevirtual 115) 3 18 := ⟨by decide +kernel, rfl⟩
theorem dX10_beginSiege_18 : Dc cX10_beginSiege 18 (.aload_n 0) 1 19 := ⟨by decide +kernel, rfl⟩
theorem dX10_beginSiege_19 : Dc cX10_beginSiege 19 (.getfield 63) 3 22 := ⟨by decide +kernel, rfl⟩
theorem dX10_beginSiege_22 : Dc cX10_beginSiege 22 (.iconst 0) 1 23 := ⟨by decide +kernel, rfl⟩
theorem dX10_beginSiege_23 : Dc cX10_beginSiege 23 (.putfield 118) 3 26 := ⟨by decide +kernel, rfl⟩
theorem dX10_beginSiege_26 : Dc cX10_beginSiege 26 (.aload_n 0) 1 27 := ⟨by decide +kernel, rfl⟩
theorem dX10_beginSiege_27 : Dc cX10_beginSiege 27 (.getfield 70) 3 30 := ⟨by decide +kernel, rfl⟩
theorem dX10_beginSiege_30 : Dc cX10_beginSiege 30 (.iconst 0) 1 31 := ⟨by decide +kernel, rfl⟩
theorem dX10_beginSiege_31 : Dc cX10_beginSiege 31 (.putfield 121) 3 34 := ⟨by decide +kernel, rfl⟩
theorem dX10_beginSiege_34 : Dc cX10_beginSiege 34 (.iconst 0) 1 35 := ⟨by decide +kernel, rfl⟩
theorem dX10_beginSiege_35 : Dc cX10_beginSiege 35 (.istore_n 1) 1 36 := ⟨by decide +kernel, rfl⟩
theorem dX10_beginSiege_36 : Dc cX10_beginSiege 36 (.iload_n 1) 1 37 := ⟨by decide +kernel, rfl⟩
theorem dX10_beginSiege_37 : Dc cX10_beginSiege 37 (.iconst 2) 1 38 := ⟨by decide +kernel, rfl⟩
theorem dX10_beginSiege_38 : Dj cX10_beginSiege 38 (.if_icmp .ge 19) 3 41 (19) 57 := ⟨by decide +kernel, rfl, by decide⟩
theorem dX10_beginSiege_41 : Dc cX10_beginSiege 41 (.aload_n 0) 1 42 := ⟨by decide +kernel, rfl⟩
theorem dX10_beginSiege_42 : Dc cX10_beginSiege 42 (.getfield 49) 3 45 := ⟨by decide +kernel, rfl⟩
theorem dX10_beginSiege_45 : Dc cX10_beginSiege 45 (.iload_n 1) 1 46 := ⟨by decide +kernel, rfl⟩
theorem dX10_beginSiege_46 : Dc cX10_beginSiege 46 (.aaload) 1 47 := ⟨by decide +kernel, rfl⟩
theorem dX10_beginSiege_47 : Dc cX10_beginSiege 47 (.iconst 0) 1 48 := ⟨by decide +kernel, rfl⟩
theorem dX10_beginSiege_48 : Dc cX10_beginSiege 48 (.putfield 122) 3 51 := ⟨by decide +kernel, rfl⟩
theorem dX10_beginSiege_51 : Dc cX10_beginSiege 51 (.iinc 1 1) 3 54 := ⟨by decide +kernel, rfl⟩
theorem dX10_beginSiege_54 : Dj cX10_beginSiege 54 (.goto (-18)) 3 57 (-18) 36 := ⟨by decide +kernel, rfl, by decide⟩
theorem dX10_beginSiege_57 : Dc cX10_beginSiege 57 (.return_) 1 58 := ⟨by decide +kernel, rfl⟩
theorem dX10_fault_0 : Dc cX10_fault 0 (.aload_n 0) 1 1 := ⟨by decide +kernel, rfl⟩
theorem dX10_fault_1 : Dc cX10_fault 1 (.getfield 78) 3 4 := ⟨by decide +kernel, rfl⟩
theorem dX10_fault_4 : Dc cX10_fault 4 (.ireturn) 1 5 := ⟨by decide +kernel, rfl⟩
theorem dX10_told_0 : Dc cX10_told 0 (.iload_n 1) 1 1 := ⟨by decide +kernel, rfl⟩
theorem dX10_told_1 : decode cX10_told 1 = .ok (.tableswitch 212 0 14 #[75, 86, 94, 102, 110, 118, 126, 134, 145, 153, 164, 172, 180, 188, 196], 75) := by decide +kernel
theorem dX10_told_76 : Dc cX10_told 76 (.aload_n 0) 1 77 := ⟨by decide +kernel, rfl⟩
theorem dX10_told_77 : Dc cX10_told 77 (.getfield 36) 3 80 := ⟨by decide +kernel, rfl⟩
theorem dX10_told_80 : Dc cX10_told 80 (.getfield 126) 3 83 := ⟨by decide +kernel, rfl⟩
theorem dX10_told_83 : Dc cX10_told 83 (.getfield 130) 3 86 := ⟨by decide +kernel, rfl⟩
theorem dX10_told_86 : Dc cX10_told 86 (.ireturn) 1 87 := ⟨by decide +kernel, rfl⟩
theorem dX10_told_87 : Dc cX10_told 87 (.aload_n 0) 1 88 := ⟨by decide +kernel, rfl⟩
theorem dX10_told_88 : Dc cX10_told 88 (.getfield 36) 3 91 := ⟨by decide +kernel, rfl⟩
theorem dX10_told_91 : Dc cX10_told 91 (.getfield 135) 3 94 := ⟨by decide +kernel, rfl⟩
theorem dX10_told_94 : Dc cX10_told 94 (.ireturn) 1 95 := ⟨by decide +kernel, rfl⟩
theorem dX10_told_95 : Dc cX10_told 95 (.aload_n 0) 1 96 := ⟨by decide +kernel, rfl⟩
theorem dX10_told_96 : Dc cX10_told 96 (.getfield 26) 3 99 := ⟨by decide +kernel, rfl⟩
theorem dX10_told_99 : Dc cX10_told 99 (.getfield 108) 3 102 := ⟨by decide +kernel, rfl⟩
theorem dX10_told_102 : Dc cX10_told 102 (.ireturn) 1 103 := ⟨by decide +kernel, rfl⟩
theorem dX10_told_103 : Dc cX10_told 103 (.aload_n 0) 1 104 := ⟨by decide +kernel, rfl⟩
theorem dX10_told_104 : Dc cX10_told 104 (.getfield 26) 3 107 := ⟨by decide +kernel, rfl⟩
theorem dX10_told_107 : Dc cX10_told 107 (.getfield 138) 3 110 := ⟨by decide +kernel, rfl⟩
theorem dX10_told_110 : Dc cX10_told 110 (.ireturn) 1 111 := ⟨by decide +kernel, rfl⟩
theorem dX10_told_111 : Dc cX10_told 111 (.aload_n 0) 1 112 := ⟨by decide +kernel, rfl⟩
theorem dX10_told_112 : Dc cX10_told 112 (.getfield 26) 3 115 := ⟨by decide +kernel, rfl⟩
theorem dX10_told_115 : Dc cX10_told 115 (.getfield 141) 3 118 := ⟨by decide +kernel, rfl⟩
theorem dX10_told_118 : Dc cX10_told 118 (.ireturn) 1 119 := ⟨by decide +kernel, rfl⟩
theorem dX10_told_119 : Dc cX10_told 119 (.aload_n 0) 1 120 := ⟨by decide +kernel, rfl⟩
theorem dX10_told_120 : Dc cX10_told 120 (.getfield 26) 3 123 := ⟨by decide +kernel, rfl⟩
theorem dX10_told_123 : Dc cX10_told 123 (.getfield 144) 3 126 := ⟨by decide +kernel, rfl⟩
theorem dX10_told_126 : Dc cX10_told 126 (.ireturn) 1 127 := ⟨by decide +kernel, rfl⟩
theorem dX10_told_127 : Dc cX10_told 127 (.aload_n 0) 1 128 := ⟨by decide +kernel, rfl⟩
theorem dX10_told_128 : Dc cX10_told 128 (.getfield 10) 3 131 := ⟨by decide +kernel, rfl⟩
theorem dX10_told_131 : Dc cX10_told 131 (.getfield 87) 3 134 := ⟨by decide +kernel, rfl⟩
theorem dX10_told_134 : Dc cX10_told 134 (.ireturn) 1 135 := ⟨by decide +kernel, rfl⟩
theorem dX10_told_135 : Dc cX10_told 135 (.aload_n 0) 1 136 := ⟨by decide +kernel, rfl⟩
theorem dX10_told_136 : Dc cX10_told 136 (.getfield 36) 3 139 := ⟨by decide +kernel, rfl⟩
theorem dX10_told_139 : Dc cX10_told 139 (.getfield 126) 3 142 := ⟨by decide +kernel, rfl⟩
theorem dX10_told_142 : Dc cX10_told 142 (.getfield 147) 3 145 := ⟨by decide +kernel, rfl⟩
theorem dX10_told_145 : Dc cX10_told 145 (.ireturn) 1 146 := ⟨by decide +kernel, rfl⟩
theorem dX10_told_146 : Dc cX10_told 146 (.aload_n 0) 1 147 := ⟨by decide +kernel, rfl⟩
theorem dX10_told_147 : Dc cX10_told 147 (.getfield 36) 3 150 := ⟨by decide +kernel, rfl⟩
theorem dX10_told_150 : Dc cX10_told 150 (.getfield 150) 3 153 := ⟨by decide +kernel, rfl⟩
theorem dX10_told_153 : Dc cX10_told 153 (.ireturn) 1 154 := ⟨by decide +kernel, rfl⟩
theorem dX10_told_154 : Dc cX10_told 154 (.aload_n 0) 1 155 := ⟨by decide +kernel, rfl⟩
theorem dX10_told_155 : Dc cX10_told 155 (.getfield 36) 3 158 := ⟨by decide +kernel, rfl⟩
theorem dX10_told_158 : Dc cX10_told 158 (.getfield 126) 3 161 := ⟨by decide +kernel, rfl⟩
theorem dX10_told_161 : Dc cX10_told 161 (.invokevirtual 153) 3 164 := ⟨by decide +kernel, rfl⟩
theorem dX10_told_164 : Dc cX10_told 164 (.ireturn) 1 165 := ⟨by decide +kernel, rfl⟩
theorem dX10_told_165 : Dc cX10_told 165 (.aload_n 0) 1 166 := ⟨by decide +kernel, rfl⟩
theorem dX10_told_166 : Dc cX10_told 166 (.getfield 36) 3 169 := ⟨by decide +kernel, rfl⟩
theorem dX10_told_169 : Dc cX10_told 169 (.getfield 157) 3 172 := ⟨by decide +kernel, rfl⟩
theorem dX10_told_172 : Dc cX10_told 172 (.ireturn) 1 173 := ⟨by decide +kernel, rfl⟩
theorem dX10_told_173 : Dc cX10_told 173 (.aload_n 0) 1 174 := ⟨by decide +kernel, rfl⟩
theorem dX10_told_174 : Dc cX10_told 174 (.getfield 63) 3 177 := ⟨by decide +kernel, rfl⟩
theorem dX10_told_177 : Dc cX10_told 177 (.getfield 118) 3 180 := ⟨by decide +kernel, rfl⟩
theorem dX10_told_180 : Dc cX10_told 180 (.ireturn) 1 181 := ⟨by decide +kernel, rfl⟩
theorem dX10_told_181 : Dc cX10_told 181 (.aload_n 0) 1 182 := ⟨by decide +kernel, rfl⟩
theorem dX10_told_182 : Dc cX10_told 182 (.getfield 70) 3 185 := ⟨by decide +kernel, rfl⟩
theorem dX10_told_185 : Dc cX10_told 185 (.getfield 121) 3 188 := ⟨by decide +kernel, rfl⟩
theorem dX10_told_188 : Dc cX10_told 188 (.ireturn) 1 189 := ⟨by decide +kernel, rfl⟩
theorem dX10_told_189 : Dc cX10_told 189 (.aload_n 0) 1 190 := ⟨by decide +kernel, rfl⟩
theorem dX10_told_190 : Dc cX10_told 190 (.getfield 43) 3 193 := ⟨by decide +kernel, rfl⟩
theorem dX10_told_193 : Dc cX10_told 193 (.getfield 160) 3 196 := ⟨by decide +kernel, rfl⟩
theorem dX10_told_196 : Dc cX10_told 196 (.ireturn) 1 197 := ⟨by decide +kernel, rfl⟩
theorem dX10_told_197 : Dc cX10_told 197 (.aload_n 0) 1 198 := ⟨by decide +kernel, rfl⟩
theorem dX10_told_198 : Dc cX10_told 198 (.getfield 26) 3 201 := ⟨by decide +kernel, rfl⟩
theorem dX10_told_201 : Dc cX10_told 201 (.getfield 161) 3 204 := ⟨by decide +kernel, rfl⟩
theorem dX10_told_204 : Dj cX10_told 204 (.ifCond .eq 7) 3 207 (7) 211 := ⟨by decide +kernel, rfl, by decide⟩
theorem dX10_told_207 : Dc cX10_told 207 (.iconst 1) 1 208 := ⟨by decide +kernel, rfl⟩
theorem dX10_told_208 : Dj cX10_told 208 (.goto 4) 3 211 (4) 212 := ⟨by decide +kernel, rfl, by decide⟩
theorem dX10_told_211 : Dc cX10_told 211 (.iconst 0) 1 212 := ⟨by decide +kernel, rfl⟩
theorem dX10_told_212 : Dc cX10_told 212 (.ireturn) 1 213 := ⟨by decide +kernel, rfl⟩
theorem dX10_told_213 : Dc cX10_told 213 (.ldc 86) 2 215 := ⟨by decide +kernel, rfl⟩
theorem dX10_told_215 : Dc cX10_told 215 (.ireturn) 1 216 := ⟨by decide +kernel, rfl⟩
theorem dX10_company_0 : Dc cX10_company 0 (.aload_n 0) 1 1 := ⟨by decide +kernel, rfl⟩
theorem dX10_company_1 : Dc cX10_company 1 (.iload_n 1) 1 2 := ⟨by decide +kernel, rfl⟩
theorem dX10_company_2 : Dc cX10_company 2 (.invokevirtual 164) 3 5 := ⟨by decide +kernel, rfl⟩
theorem dX10_company_5 : Dj cX10_company 5 (.ifCond .ne 6) 3 8 (6) 11 := ⟨by decide +kernel, rfl, by decide⟩
theorem dX10_company_8 : Dc cX10_company 8 (.ldc 168) 2 10 := ⟨by decide +kernel, rfl⟩
theorem dX10_company_10 : Dc cX10_company 10 (.ireturn) 1 11 := ⟨by decide +kernel, rfl⟩
theorem dX10_company_11 : Dc cX10_company 11 (.iload_n 2) 1 12 := ⟨by decide +kernel, rfl⟩
theorem dX10_company_12 : decode cX10_company 12 = .ok (.tableswitch 92 0 4 #[36, 49, 59, 69, 82], 36) := by decide +kernel
theorem dX10_company_48 : Dc cX10_company 48 (.aload_n 0) 1 49 := ⟨by decide +kernel, rfl⟩
theorem dX10_company_49 : Dc cX10_company 49 (.getfield 36) 3 52 := ⟨by decide +kernel, rfl⟩
theorem dX10_company_52 : Dc cX10_company 52 (.getfield 126) 3 55 := ⟨by decide +kernel, rfl⟩
theorem dX10_company_55 : Dc cX10_company 55 (.getfield 169) 3 58 := ⟨by decide +kernel, rfl⟩
theorem dX10_company_58 : Dc cX10_company 58 (.iload_n 1) 1 59 := ⟨by decide +kernel, rfl⟩
theorem dX10_company_59 : Dc cX10_company 59 (.iaload) 1 60 := ⟨by decide +kernel, rfl⟩
theorem dX10_company_60 : Dc cX10_company 60 (.ireturn) 1 61 := ⟨by decide +kernel, rfl⟩
theorem dX10_company_61 : Dc cX10_company 61 (.aload_n 0) 1 62 := ⟨by decide +kernel, rfl⟩
theorem dX10_company_62 : Dc cX10_company 62 (.getfield 26) 3 65 := ⟨by decide +kernel, rfl⟩
theorem dX10_company_65 : Dc cX10_company 65 (.getfield 173) 3 68 := ⟨by decide +kernel, rfl⟩
theorem dX10_company_68 : Dc cX10_company 68 (.iload_n 1) 1 69 := ⟨by decide +kernel, rfl⟩
theorem dX10_company_69 : Dc cX10_company 69 (.iaload) 1 70 := ⟨by decide +kernel, rfl⟩
theorem dX10_company_70 : Dc cX10_company 70 (.ireturn) 1 71 := ⟨by decide +kernel, rfl⟩
theorem dX10_company_71 : Dc cX10_company 71 (.aload_n 0) 1 72 := ⟨by decide +kernel, rfl⟩
theorem dX10_company_72 : Dc cX10_company 72 (.getfield 26) 3 75 := ⟨by decide +kernel, rfl⟩
theorem dX10_company_75 : Dc cX10_company 75 (.getfield 176) 3 78 := ⟨by decide +kernel, rfl⟩
theorem dX10_company_78 : Dc cX10_company 78 (.iload_n 1) 1 79 := ⟨by decide +kernel, rfl⟩
theorem dX10_company_79 : Dc cX10_company 79 (.iaload) 1 80 := ⟨by decide +kernel, rfl⟩
theorem dX10_company_80 : Dc cX10_company 80 (.ireturn) 1 81 := ⟨by decide +kernel, rfl⟩
theorem dX10_company_81 : Dc cX10_company 81 (.aload_n 0) 1 82 := ⟨by decide +kernel, rfl⟩
theorem dX10_company_82 : Dc cX10_company 82 (.getfield 36) 3 85 := ⟨by decide +kernel, rfl⟩
theorem dX10_company_85 : Dc cX10_company 85 (.getfield 126) 3 88 := ⟨by decide +kernel, rfl⟩
theorem dX10_company_88 : Dc cX10_company 88 (.getfield 179) 3 91 := ⟨by decide +kernel, rfl⟩
theorem dX10_company_91 : Dc cX10_company 91 (.iload_n 1) 1 92 := ⟨by decide +kernel, rfl⟩
theorem dX10_company_92 : Dc cX10_company 92 (.iaload) 1 93 := ⟨by decide +kernel, rfl⟩
theorem dX10_company_93 : Dc cX10_company 93 (.ireturn) 1 94 := ⟨by decide +kernel, rfl⟩
theorem dX10_company_94 : Dc cX10_company 94 (.aload_n 0) 1 95 := ⟨by decide +kernel, rfl⟩
theorem dX10_company_95 : Dc cX10_company 95 (.getfield 36) 3 98 := ⟨by decide +kernel, rfl⟩
theorem dX10_company_98 : Dc cX10_company 98 (.getfield 182) 3 101 := ⟨by decide +kernel, rfl⟩
theorem dX10_company_101 : Dc cX10_company 101 (.iload_n 1) 1 102 := ⟨by decide +kernel, rfl⟩
theorem dX10_company_102 : Dc cX10_company 102 (.iaload) 1 103 := ⟨by decide +kernel, rfl⟩
theorem dX10_company_103 : Dc cX10_company 103 (.ireturn) 1 104 := ⟨by decide +kernel, rfl⟩
theorem dX10_company_104 : Dc cX10_company 104 (.ldc 86) 2 106 := ⟨by decide +kernel, rfl⟩
theorem dX10_company_106 : Dc cX10_company 106 (.ireturn) 1 107 := ⟨by decide +kernel, rfl⟩
theorem dX10_money_0 : Dc cX10_money 0 (.aload_n 0) 1 1 := ⟨by decide +kernel, rfl⟩
theorem dX10_money_1 : Dc cX10_money 1 (.iload_n 1) 1 2 := ⟨by decide +kernel, rfl⟩
theorem dX10_money_2 : Dc cX10_money 2 (.invokevirtual 185) 3 5 := ⟨by decide +kernel, rfl⟩
theorem dX10_money_5 : Dj cX10_money 5 (.ifCond .ne 6) 3 8 (6) 11 := ⟨by decide +kernel, rfl, by decide⟩
theorem dX10_money_8 : Dc cX10_money 8 (.ldc 168) 2 10 := ⟨by decide +kernel, rfl⟩
theorem dX10_money_10 : Dc cX10_money 10 (.ireturn) 1 11 := ⟨by decide +kernel, rfl⟩
theorem dX10_money_11 : Dc cX10_money 11 (.iload_n 2) 1 12 := ⟨by decide +kernel, rfl⟩
theorem dX10_money_12 : decode cX10_money 12 = .ok (.tableswitch 58 0 2 #[28, 38, 48], 28) := by decide +kernel
theorem dX10_money_40 : Dc cX10_money 40 (.aload_n 0) 1 41 := ⟨by decide +kernel, rfl⟩
theorem dX10_money_41 : Dc cX10_money 41 (.getfield 36) 3 44 := ⟨by decide +kernel, rfl⟩
theorem dX10_money_44 : Dc cX10_money 44 (.getfield 188) 3 47 := ⟨by decide +kernel, rfl⟩
theorem dX10_money_47 : Dc cX10_money 47 (.iload_n 1) 1 48 := ⟨by decide +kernel, rfl⟩
theorem dX10_money_48 : Dc cX10_money 48 (.iaload) 1 49 := ⟨by decide +kernel, rfl⟩
theorem dX10_money_49 : Dc cX10_money 49 (.ireturn) 1 50 := ⟨by decide +kernel, rfl⟩
theorem dX10_money_50 : Dc cX10_money 50 (.aload_n 0) 1 51 := ⟨by decide +kernel, rfl⟩
theorem dX10_money_51 : Dc cX10_money 51 (.getfield 26) 3 54 := ⟨by decide +kernel, rfl⟩
theorem dX10_money_54 : Dc cX10_money 54 (.getfield 191) 3 57 := ⟨by decide +kernel, rfl⟩
theorem dX10_money_57 : Dc cX10_money 57 (.iload_n 1) 1 58 := ⟨by decide +kernel, rfl⟩
theorem dX10_money_58 : Dc cX10_money 58 (.iaload) 1 59 := ⟨by decide +kernel, rfl⟩
theorem dX10_money_59 : Dc cX10_money 59 (.ireturn) 1 60 := ⟨by decide +kernel, rfl⟩
theorem dX10_money_60 : Dc cX10_money 60 (.aload_n 0) 1 61 := ⟨by decide +kernel, rfl⟩
theorem dX10_money_61 : Dc cX10_money 61 (.getfield 26) 3 64 := ⟨by decide +kernel, rfl⟩
theorem dX10_money_64 : Dc cX10_money 64 (.getfield 194) 3 67 := ⟨by decide +kernel, rfl⟩
theorem dX10_money_67 : Dc cX10_money 67 (.iload_n 1) 1 68 := ⟨by decide +kernel, rfl⟩
theorem dX10_money_68 : Dc cX10_money 68 (.iaload) 1 69 := ⟨by decide +kernel, rfl⟩
theorem dX10_money_69 : Dc cX10_money 69 (.ireturn) 1 70 := ⟨by decide +kernel, rfl⟩
theorem dX10_money_70 : Dc cX10_money 70 (.ldc 86) 2 72 := ⟨by decide +kernel, rfl⟩
theorem dX10_money_72 : Dc cX10_money 72 (.ireturn) 1 73 := ⟨by decide +kernel, rfl⟩
theorem dX10_day_0 : Dc cX10_day 0 (.aload_n 0) 1 1 := ⟨by decide +kernel, rfl⟩
theorem dX10_day_1 : Dc cX10_day 1 (.iload_n 1) 1 2 := ⟨by decide +kernel, rfl⟩
theorem dX10_day_2 : Dc cX10_day 2 (.iload_n 2) 1 3 := ⟨by decide +kernel, rfl⟩
theorem dX10_day_3 : Dc cX10_day 3 (.invokevirtual 197) 3 6 := ⟨by decide +kernel, rfl⟩
theorem dX10_day_6 : Dc cX10_day 6 (.istore_n 3) 1 7 := ⟨by decide +kernel, rfl⟩
theorem dX10_day_7 : Dc cX10_day 7 (.iload_n 3) 1 8 := ⟨by decide +kernel, rfl⟩
theorem dX10_day_8 : Dj cX10_day 8 (.ifCond .eq 5) 3 11 (5) 13 := ⟨by decide +kernel, rfl, by decide⟩
theorem dX10_day_11 : Dc cX10_day 11 (.iload_n 3) 1 12 := ⟨by decide +kernel, rfl⟩
theorem dX10_day_12 : Dc cX10_day 12 (.ireturn) 1 13 := ⟨by decide +kernel, rfl⟩
theorem dX10_day_13 : Dc cX10_day 13 (.aload_n 0) 1 14 := ⟨by decide +kernel, rfl⟩
theorem dX10_day_14 : Dc cX10_day 14 (.getfield 43) 3 17 := ⟨by decide +kernel, rfl⟩
theorem dX10_day_17 : Dc cX10_day 17 (.aload_n 0) 1 18 := ⟨by decide +kernel, rfl⟩
theorem dX10_day_18 : Dc cX10_day 18 (.getfield 36) 3 21 := ⟨by decide +kernel, rfl⟩
theorem dX10_day_21 : Dc cX10_day 21 (.invokevirtual 201) 3 24 := ⟨by decide +kernel, rfl⟩
theorem dX10_day_24 : Dc cX10_day 24 (.iconst 0) 1 25 := ⟨by decide +kernel, rfl⟩
theorem dX10_day_25 : Dc cX10_day 25 (.istore 4) 2 27 := ⟨by decide +kernel, rfl⟩
theorem dX10_day_27 : Dc cX10_day 27 (.iload 4) 2 29 := ⟨by decide +kernel, rfl⟩
theorem dX10_day_29 : Dc cX10_day 29 (.iload_n 2) 1 30 := ⟨by decide +kernel, rfl⟩
theorem dX10_day_30 : Dj cX10_day 30 (.if_icmp .ge 34) 3 33 (34) 64 := ⟨by decide +kernel, rfl, by decide⟩
theorem dX10_day_33 : Dc cX10_day 33 (.aload_n 0) 1 34 := ⟨by decide +kernel, rfl⟩
theorem dX10_day_34 : Dc cX10_day 34 (.getfield 36) 3 37 := ⟨by decide +kernel, rfl⟩
theorem dX10_day_37 : Dc cX10_day 37 (.getfield 126) 3 40 := ⟨by decide +kernel, rfl⟩
theorem dX10_day_40 : Dc cX10_day 40 (.invokevirtual 153) 3 43 := ⟨by decide +kernel, rfl⟩
theorem dX10_day_43 : Dj cX10_day 43 (.ifCond .le 21) 3 46 (21) 64 := ⟨by decide +kernel, rfl, by decide⟩
theorem dX10_day_46 : Dc cX10_day 46 (.aload_n 0) 1 47 := ⟨by decide +kernel, rfl⟩
theorem dX10_day_47 : Dc cX10_day 47 (.getfield 36) 3 50 := ⟨by decide +kernel, rfl⟩
theorem dX10_day_50 : Dc cX10_day 50 (.aload_n 0) 1 51 := ⟨by decide +kernel, rfl⟩
theorem dX10_day_51 : Dc cX10_day 51 (.getfield 26) 3 54 := ⟨by decide +kernel, rfl⟩
theorem dX10_day_54 : Dc cX10_day 54 (.iload_n 1) 1 55 := ⟨by decide +kernel, rfl⟩
theorem dX10_day_55 : Dc cX10_day 55 (.invokevirtual 205) 3 58 := ⟨by decide +kernel, rfl⟩
theorem dX10_day_58 : Dc cX10_day 58 (.iinc 4 1) 3 61 := ⟨by decide +kernel, rfl⟩
theorem dX10_day_61 : Dj cX10_day 61 (.goto (-34)) 3 64 (-34) 27 := ⟨by decide +kernel, rfl, by decide⟩
theorem dX10_day_64 : Dc cX10_day 64 (.aload_n 0) 1 65 := ⟨by decide +kernel, rfl⟩
theorem dX10_day_65 : Dc cX10_day 65 (.getfield 36) 3 68 := ⟨by decide +kernel, rfl⟩
theorem dX10_day_68 : Dc cX10_day 68 (.getfield 126) 3 71 := ⟨by decide +kernel, rfl⟩
theorem dX10_day_71 : Dc cX10_day 71 (.invokevirtual 153) 3 74 := ⟨by decide +kernel, rfl⟩
theorem dX10_day_74 : Dc cX10_day 74 (.ireturn) 1 75 := ⟨by decide +kernel, rfl⟩
theorem dX10_gun_0 : Dc cX10_gun 0 (.aload_n 0) 1 1 := ⟨by decide +kernel, rfl⟩
theorem dX10_gun_1 : Dc cX10_gun 1 (.invokevirtual 209) 3 4 := ⟨by decide +kernel, rfl⟩
theorem dX10_gun_4 : Dj cX10_gun 4 (.ifCond .ne 6) 3 7 (6) 10 := ⟨by decide +kernel, rfl, by decide⟩
theorem dX10_gun_7 : Dc cX10_gun 7 (.ldc 213) 2 9 := ⟨by decide +kernel, rfl⟩
theorem dX10_gun_9 : Dc cX10_gun 9 (.ireturn) 1 10 := ⟨by decide +kernel, rfl⟩
theorem dX10_gun_10 : Dc cX10_gun 10 (.aload_n 0) 1 11 := ⟨by decide +kernel, rfl⟩
theorem dX10_gun_11 : Dc cX10_gun 11 (.getfield 43) 3 14 := ⟨by decide +kernel, rfl⟩
theorem dX10_gun_14 : Dc cX10_gun 14 (.aload_n 0) 1 15 := ⟨by decide +kernel, rfl⟩
theorem dX10_gun_15 : Dc cX10_gun 15 (.getfield 36) 3 18 := ⟨by decide +kernel, rfl⟩
theorem dX10_gun_18 : Dc cX10_gun 18 (.invokevirtual 201) 3 21 := ⟨by decide +kernel, rfl⟩
theorem dX10_gun_21 : Dc cX10_gun 21 (.aload_n 0) 1 22 := ⟨by decide +kernel, rfl⟩
theorem dX10_gun_22 : Dc cX10_gun 22 (.getfield 36) 3 25 := ⟨by decide +kernel, rfl⟩
theorem dX10_gun_25 : Dc cX10_gun 25 (.invokevirtual 214) 3 28 := ⟨by decide +kernel, rfl⟩
theorem dX10_gun_28 : Dc cX10_gun 28 (.aload_n 0) 1 29 := ⟨by decide +kernel, rfl⟩
theorem dX10_gun_29 : Dc cX10_gun 29 (.getfield 36) 3 32 := ⟨by decide +kernel, rfl⟩
theorem dX10_gun_32 : Dc cX10_gun 32 (.getfield 135) 3 35 := ⟨by decide +kernel, rfl⟩
theorem dX10_gun_35 : Dc cX10_gun 35 (.ireturn) 1 36 := ⟨by decide +kernel, rfl⟩
theorem dX10_sally_0 : Dc cX10_sally 0 (.aload_n 0) 1 1 := ⟨by decide +kernel, rfl⟩
theorem dX10_sally_1 : Dc cX10_sally 1 (.iload_n 1) 1 2 := ⟨by decide +kernel, rfl⟩
theorem dX10_sally_2 : Dc cX10_sally 2 (.invokevirtual 164) 3 5 := ⟨by decide +kernel, rfl⟩
theorem dX10_sally_5 : Dj cX10_sally 5 (.ifCond .ne 6) 3 8 (6) 11 := ⟨by decide +kernel, rfl, by decide⟩
theorem dX10_sally_8 : Dc cX10_sally 8 (.ldc 168) 2 10 := ⟨by decide +kernel, rfl⟩
theorem dX10_sally_10 : Dc cX10_sally 10 (.ireturn) 1 11 := ⟨by decide +kernel, rfl⟩
theorem dX10_sally_11 : Dc cX10_sally 11 (.iload_n 2) 1 12 := ⟨by decide +kernel, rfl⟩
theorem dX10_sally_12 : Dc cX10_sally 12 (.iconst 1) 1 13 := ⟨by decide +kernel, rfl⟩
theorem dX10_sally_13 : Dc cX10_sally 13 (.bipush 99) 2 15 := ⟨by decide +kernel, rfl⟩
theorem dX10_sally_15 : Dc cX10_sally 15 (.invokestatic 82) 3 18 := ⟨by decide +kernel, rfl⟩
theorem dX10_sally_18 : Dj cX10_sally 18 (.ifCond .ne 6) 3 21 (6) 24 := ⟨by decide +kernel, rfl, by decide⟩
theorem dX10_sally_21 : Dc cX10_sally 21 (.ldc 86) 2 23 := ⟨by decide +kernel, rfl⟩
theorem dX10_sally_23 : Dc cX10_sally 23 (.ireturn) 1 24 := ⟨by decide +kernel, rfl⟩
theorem dX10_sally_24 : Dc cX10_sally 24 (.aload_n 0) 1 25 := ⟨by decide +kernel, rfl⟩
theorem dX10_sally_25 : Dc cX10_sally 25 (.invokevirtual 209) 3 28 := ⟨by decide +kernel, rfl⟩
theorem dX10_sally_28 : Dj cX10_sally 28 (.ifCond .eq 19) 3 31 (19) 47 := ⟨by decide +kernel, rfl, by decide⟩
theorem dX10_sally_31 : Dc cX10_sally 31 (.iload_n 2) 1 32 := ⟨by decide +kernel, rfl⟩
theorem dX10_sally_32 : Dc cX10_sally 32 (.aload_n 0) 1 33 := ⟨by decide +kernel, rfl⟩
theorem dX10_sally_33 : Dc cX10_sally 33 (.getfield 36) 3 36 := ⟨by decide +kernel, rfl⟩
theorem dX10_sally_36 : Dc cX10_sally 36 (.getfield 126) 3 39 := ⟨by decide +kernel, rfl⟩
theorem dX10_sally_39 : Dc cX10_sally 39 (.getfield 169) 3 42 := ⟨by decide +kernel, rfl⟩
theorem dX10_sally_42 : Dc cX10_sally 42 (.iload_n 1) 1 43 := ⟨by decide +kernel, rfl⟩
theorem dX10_sally_43 : Dc cX10_sally 43 (.iaload) 1 44 := ⟨by decide +kernel, rfl⟩
theorem dX10_sally_44 : Dj cX10_sally 44 (.if_icmp .le 6) 3 47 (6) 50 := ⟨by decide +kernel, rfl, by decide⟩
theorem dX10_sally_47 : Dc cX10_sally 47 (.ldc 213) 2 49 := ⟨by decide +kernel, rfl⟩
theorem dX10_sally_49 : Dc cX10_sally 49 (.ireturn) 1 50 := ⟨by decide +kernel, rfl⟩
theorem dX10_sally_50 : Dc cX10_sally 50 (.aload_n 0) 1 51 := ⟨by decide +kernel, rfl⟩
theorem dX10_sally_51 : Dc cX10_sally 51 (.getfield 43) 3 54 := ⟨by decide +kernel, rfl⟩
theorem dX10_sally_54 : Dc cX10_sally 54 (.aload_n 0) 1 55 := ⟨by decide +kernel, rfl⟩
theorem dX10_sally_55 : Dc cX10_sally 55 (.getfield 36) 3 58 := ⟨by decide +kernel, rfl⟩
theorem dX10_sally_58 : Dc cX10_sally 58 (.invokevirtual 201) 3 61 := ⟨by decide +kernel, rfl⟩
theorem dX10_sally_61 : Dc cX10_sally 61 (.aload_n 0) 1 62 := ⟨by decide +kernel, rfl⟩
theorem dX10_sally_62 : Dc cX10_sally 62 (.getfield 36) 3 65 := ⟨by decide +kernel, rfl⟩
theorem dX10_sally_65 : Dc cX10_sally 65 (.getfield 126) 3 68 := ⟨by decide +kernel, rfl⟩
theorem dX10_sally_68 : Dc cX10_sally 68 (.getfield 169) 3 71 := ⟨by decide +kernel, rfl⟩
theorem dX10_sally_71 : Dc cX10_sally 71 (.iload_n 1) 1 72 := ⟨by decide +kernel, rfl⟩
theorem dX10_sally_72 : Dc cX10_sally 72 (.dup2) 1 73 := ⟨by decide +kernel, rfl⟩
theorem dX10_sally_73 : Dc cX10_sally 73 (.iaload) 1 74 := ⟨by decide +kernel, rfl⟩
theorem dX10_sally_74 : Dc cX10_sally 74 (.iload_n 2) 1 75 := ⟨by decide +kernel, rfl⟩
theorem dX10_sally_75 : Dc cX10_sally 75 (.isub) 1 76 := ⟨by decide +kernel, rfl⟩
theorem dX10_sally_76 : Dc cX10_sally 76 (.iastore) 1 77 := ⟨by decide +kernel, rfl⟩
theorem dX10_sally_77 : Dc cX10_sally 77 (.aload_n 0) 1 78 := ⟨by decide +kernel, rfl⟩
theorem dX10_sally_78 : Dc cX10_sally 78 (.getfield 36) 3 81 := ⟨by decide +kernel, rfl⟩
theorem dX10_sally_81 : Dc cX10_sally 81 (.iload_n 2) 1 82 := ⟨by decide +kernel, rfl⟩
theorem dX10_sally_82 : Dc cX10_sally 82 (.iconst 2) 1 83 := ⟨by decide +kernel, rfl⟩
theorem dX10_sally_83 : Dc cX10_sally 83 (.idiv) 1 84 := ⟨by decide +kernel, rfl⟩
theorem dX10_sally_84 : Dc cX10_sally 84 (.invokevirtual 217) 3 87 := ⟨by decide +kernel, rfl⟩
theorem dX10_sally_87 : Dc cX10_sally 87 (.aload_n 0) 1 88 := ⟨by decide +kernel, rfl⟩
theorem dX10_sally_88 : Dc cX10_sally 88 (.getfield 36) 3 91 := ⟨by decide +kernel, rfl⟩
theorem dX10_sally_91 : Dc cX10_sally 91 (.getfield 135) 3 94 := ⟨by decide +kernel, rfl⟩
theorem dX10_sally_94 : Dc cX10_sally 94 (.ireturn) 1 95 := ⟨by decide +kernel, rfl⟩
theorem dX10_relief_0 : Dc cX10_relief 0 (.aload_n 0) 1 1 := ⟨by decide +kernel, rfl⟩
theorem dX10_relief_1 : Dc cX10_relief 1 (.invokevirtual 209) 3 4 := ⟨by decide +kernel, rfl⟩
theorem dX10_relief_4 : Dj cX10_relief 4 (.ifCond .ne 6) 3 7 (6) 10 := ⟨by decide +kernel, rfl, by decide⟩
theorem dX10_relief_7 : Dc cX10_relief 7 (.ldc 213) 2 9 := ⟨by decide +kernel, rfl⟩
theorem dX10_relief_9 : Dc cX10_relief 9 (.ireturn) 1 10 := ⟨by decide +kernel, rfl⟩
theorem dX10_relief_10 : Dc cX10_relief 10 (.aload_n 0) 1 11 := ⟨by decide +kernel, rfl⟩
theorem dX10_relief_11 : Dc cX10_relief 11 (.getfield 43) 3 14 := ⟨by decide +kernel, rfl⟩
theorem dX10_relief_14 : Dc cX10_relief 14 (.aload_n 0) 1 15 := ⟨by decide +kernel, rfl⟩
theorem dX10_relief_15 : Dc cX10_relief 15 (.getfield 36) 3 18 := ⟨by decide +kernel, rfl⟩
theorem dX10_relief_18 : Dc cX10_relief 18 (.invokevirtual 201) 3 21 := ⟨by decide +kernel, rfl⟩
theorem dX10_relief_21 : Dc cX10_relief 21 (.aload_n 0) 1 22 := ⟨by decide +kernel, rfl⟩
theorem dX10_relief_22 : Dc cX10_relief 22 (.getfield 36) 3 25 := ⟨by decide +kernel, rfl⟩
theorem dX10_relief_25 : Dc cX10_relief 25 (.iload_n 1) 1 26 := ⟨by decide +kernel, rfl⟩
theorem dX10_relief_26 : Dj cX10_relief 26 (.ifCond .eq 7) 3 29 (7) 33 := ⟨by decide +kernel, rfl, by decide⟩
theorem dX10_relief_29 : Dc cX10_relief 29 (.iconst 1) 1 30 := ⟨by decide +kernel, rfl⟩
theorem dX10_relief_30 : Dj cX10_relief 30 (.goto 4) 3 33 (4) 34 := ⟨by decide +kernel, rfl, by decide⟩
theorem dX10_relief_33 : Dc cX10_relief 33 (.iconst 2) 1 34 := ⟨by decide +kernel, rfl⟩
theorem dX10_relief_34 : Dc cX10_relief 34 (.putfield 157) 3 37 := ⟨by decide +kernel, rfl⟩
theorem dX10_relief_37 : Dc cX10_relief 37 (.aload_n 0) 1 38 := ⟨by decide +kernel, rfl⟩
theorem dX10_relief_38 : Dc cX10_relief 38 (.getfield 36) 3 41 := ⟨by decide +kernel, rfl⟩
theorem dX10_relief_41 : Dc cX10_relief 41 (.getfield 126) 3 44 := ⟨by decide +kernel, rfl⟩
theorem dX10_relief_44 : Dc cX10_relief 44 (.getfield 147) 3 47 := ⟨by decide +kernel, rfl⟩
theorem dX10_relief_47 : Dc cX10_relief 47 (.ireturn) 1 48 := ⟨by decide +kernel, rfl⟩
theorem dX10_drift_0 : Dc cX10_drift 0 (.aload_n 0) 1 1 := ⟨by decide +kernel, rfl⟩
theorem dX10_drift_1 : Dc cX10_drift 1 (.iload_n 1) 1 2 := ⟨by decide +kernel, rfl⟩
theorem dX10_drift_2 : Dc cX10_drift 2 (.iload_n 2) 1 3 := ⟨by decide +kernel, rfl⟩
theorem dX10_drift_3 : Dc cX10_drift 3 (.invokevirtual 197) 3 6 := ⟨by decide +kernel, rfl⟩
theorem dX10_drift_6 : Dc cX10_drift 6 (.istore_n 3) 1 7 := ⟨by decide +kernel, rfl⟩
theorem dX10_drift_7 : Dc cX10_drift 7 (.iload_n 3) 1 8 := ⟨by decide +kernel, rfl⟩
theorem dX10_drift_8 : Dj cX10_drift 8 (.ifCond .eq 5) 3 11 (5) 13 := ⟨by decide +kernel, rfl, by decide⟩
theorem dX10_drift_11 : Dc cX10_drift 11 (.iload_n 3) 1 12 := ⟨by decide +kernel, rfl⟩
theorem dX10_drift_12 : Dc cX10_drift 12 (.ireturn) 1 13 := ⟨by decide +kernel, rfl⟩
theorem dX10_drift_13 : Dc cX10_drift 13 (.aload_n 0) 1 14 := ⟨by decide +kernel, rfl⟩
theorem dX10_drift_14 : Dc cX10_drift 14 (.getfield 43) 3 17 := ⟨by decide +kernel, rfl⟩
theorem dX10_drift_17 : Dc cX10_drift 17 (.aload_n 0) 1 18 := ⟨by decide +kernel, rfl⟩
theorem dX10_drift_18 : Dc cX10_drift 18 (.getfield 36) 3 21 := ⟨by decide +kernel, rfl⟩
theorem dX10_drift_21 : Dc cX10_drift 21 (.invokevirtual 201) 3 24 := ⟨by decide +kernel, rfl⟩
theorem dX10_drift_24 : Dc cX10_drift 24 (.iconst 0) 1 25 := ⟨by decide +kernel, rfl⟩
theorem dX10_drift_25 : Dc cX10_drift 25 (.istore 4) 2 27 := ⟨by decide +kernel, rfl⟩
theorem dX10_drift_27 : Dc cX10_drift 27 (.iload 4) 2 29 := ⟨by decide +kernel, rfl⟩
theorem dX10_drift_29 : Dc cX10_drift 29 (.iload_n 2) 1 30 := ⟨by decide +kernel, rfl⟩
theorem dX10_drift_30 : Dj cX10_drift 30 (.if_icmp .ge 24) 3 33 (24) 54 := ⟨by decide +kernel, rfl, by decide⟩
theorem dX10_drift_33 : Dc cX10_drift 33 (.aload_n 0) 1 34 := ⟨by decide +kernel, rfl⟩
theorem dX10_drift_34 : Dc cX10_drift 34 (.getfield 36) 3 37 := ⟨by decide +kernel, rfl⟩
theorem dX10_drift_37 : Dc cX10_drift 37 (.getfield 157) 3 40 := ⟨by decide +kernel, rfl⟩
theorem dX10_drift_40 : Dj cX10_drift 40 (.ifCond .ne 14) 3 43 (14) 54 := ⟨by decide +kernel, rfl, by decide⟩
theorem dX10_drift_43 : Dc cX10_drift 43 (.aload_n 0) 1 44 := ⟨by decide +kernel, rfl⟩
theorem dX10_drift_44 : Dc cX10_drift 44 (.iload_n 1) 1 45 := ⟨by decide +kernel, rfl⟩
theorem dX10_drift_45 : Dc cX10_drift 45 (.invokevirtual 220) 3 48 := ⟨by decide +kernel, rfl⟩
theorem dX10_drift_48 : Dc cX10_drift 48 (.iinc 4 1) 3 51 := ⟨by decide +kernel, rfl⟩
theorem dX10_drift_51 : Dj cX10_drift 51 (.goto (-24)) 3 54 (-24) 27 := ⟨by decide +kernel, rfl, by decide⟩
theorem dX10_drift_54 : Dc cX10_drift 54 (.aload_n 0) 1 55 := ⟨by decide +kernel, rfl⟩
theorem dX10_drift_55 : Dc cX10_drift 55 (.getfield 36) 3 58 := ⟨by decide +kernel, rfl⟩
theorem dX10_drift_58 : Dc cX10_drift 58 (.getfield 157) 3 61 := ⟨by decide +kernel, rfl⟩
theorem dX10_drift_61 : Dc cX10_drift 61 (.ireturn) 1 62 := ⟨by decide +kernel, rfl⟩
theorem dX10_passDayByDraws_0 : Dc cX10_passDayByDraws 0 (.aload_n 0) 1 1 := ⟨by decide +kernel, rfl⟩
theorem dX10_passDayByDraws_1 : Dc cX10_passDayByDraws 1 (.invokevirtual 223) 3 4 := ⟨by decide +kernel, rfl⟩
theorem dX10_passDayByDraws_4 : Dc cX10_passDayByDraws 4 (.bipush 100) 2 6 := ⟨by decide +kernel, rfl⟩
theorem dX10_passDayByDraws_6 : Dc cX10_passDayByDraws 6 (.irem) 1 7 := ⟨by decide +kernel, rfl⟩
theorem dX10_passDayByDraws_7 : Dc cX10_passDayByDraws 7 (.aload_n 0) 1 8 := ⟨by decide +kernel, rfl⟩
theorem dX10_passDayByDraws_8 : Dc cX10_passDayByDraws 8 (.getfield 36) 3 11 := ⟨by decide +kernel, rfl⟩
theorem dX10_passDayByDraws_11 : Dc cX10_passDayByDraws 11 (.getfield 135) 3 14 := ⟨by decide +kernel, rfl⟩
theorem dX10_passDayByDraws_14 : Dj cX10_passDayByDraws 14 (.if_icmp .ge 12) 3 17 (12) 26 := ⟨by decide +kernel, rfl, by decide⟩
theorem dX10_passDayByDraws_17 : Dc cX10_passDayByDraws 17 (.aload_n 0) 1 18 := ⟨by decide +kernel, rfl⟩
theorem dX10_passDayByDraws_18 : Dc cX10_passDayByDraws 18 (.getfield 36) 3 21 := ⟨by decide +kernel, rfl⟩
theorem dX10_passDayByDraws_21 : Dc cX10_passDayByDraws 21 (.iconst 1) 1 22 := ⟨by decide +kernel, rfl⟩
theorem dX10_passDayByDraws_22 : Dc cX10_passDayByDraws 22 (.putfield 157) 3 25 := ⟨by decide +kernel, rfl⟩
theorem dX10_passDayByDraws_25 : Dc cX10_passDayByDraws 25 (.return_) 1 26 := ⟨by decide +kernel, rfl⟩
theorem dX10_passDayByDraws_26 : Dc cX10_passDayByDraws 26 (.aload_n 0) 1 27 := ⟨by decide +kernel, rfl⟩
theorem dX10_passDayByDraws_27 : Dc cX10_passDayByDraws 27 (.invokevirtual 223) 3 30 := ⟨by decide +kernel, rfl⟩
theorem dX10_passDayByDraws_30 : Dc cX10_passDayByDraws 30 (.bipush 6) 2 32 := ⟨by decide +kernel, rfl⟩
theorem dX10_passDayByDraws_32 : Dc cX10_passDayByDraws 32 (.irem) 1 33 := ⟨by decide +kernel, rfl⟩
theorem dX10_passDayByDraws_33 : Dj cX10_passDayByDraws 33 (.ifCond .ne 10) 3 36 (10) 43 := ⟨by decide +kernel, rfl, by decide⟩
theorem dX10_passDayByDraws_36 : Dc cX10_passDayByDraws 36 (.aload_n 0) 1 37 := ⟨by decide +kernel, rfl⟩
theorem dX10_passDayByDraws_37 : Dc cX10_passDayByDraws 37 (.getfield 36) 3 40 := ⟨by decide +kernel, rfl⟩
theorem dX10_passDayByDraws_40 : Dc cX10_passDayByDraws 40 (.invokevirtual 214) 3 43 := ⟨by decide +kernel, rfl⟩
theorem dX10_passDayByDraws_43 : Dc cX10_passDayByDraws 43 (.aload_n 0) 1 44 := ⟨by decide +kernel, rfl⟩
theorem dX10_passDayByDraws_44 : Dc cX10_passDayByDraws 44 (.getfield 36) 3 47 := ⟨by decide +kernel, rfl⟩
theorem dX10_passDayByDraws_47 : Dc cX10_passDayByDraws 47 (.aload_n 0) 1 48 := ⟨by decide +kernel, rfl⟩
theorem dX10_passDayByDraws_48 : Dc cX10_passDayByDraws 48 (.getfield 26) 3 51 := ⟨by decide +kernel, rfl⟩
theorem dX10_passDayByDraws_51 : Dc cX10_passDayByDraws 51 (.iload_n 1) 1 52 := ⟨by decide +kernel, rfl⟩
theorem dX10_passDayByDraws_52 : Dc cX10_passDayByDraws 52 (.invokevirtual 205) 3 55 := ⟨by decide +kernel, rfl⟩
theorem dX10_passDayByDraws_55 : Dc cX10_passDayByDraws 55 (.aload_n 0) 1 56 := ⟨by decide +kernel, rfl⟩
theorem dX10_passDayByDraws_56 : Dc cX10_passDayByDraws 56 (.getfield 36) 3 59 := ⟨by decide +kernel, rfl⟩
theorem dX10_passDayByDraws_59 : Dc cX10_passDayByDraws 59 (.getfield 126) 3 62 := ⟨by decide +kernel, rfl⟩
theorem dX10_passDayByDraws_62 : Dc cX10_passDayByDraws 62 (.invokevirtual 153) 3 65 := ⟨by decide +kernel, rfl⟩
theorem dX10_passDayByDraws_65 : Dj cX10_passDayByDraws 65 (.ifCond .ne 11) 3 68 (11) 76 := ⟨by decide +kernel, rfl, by decide⟩
theorem dX10_passDayByDraws_68 : Dc cX10_passDayByDraws 68 (.aload_n 0) 1 69 := ⟨by decide +kernel, rfl⟩
theorem dX10_passDayByDraws_69 : Dc cX10_passDayByDraws 69 (.getfield 36) 3 72 := ⟨by decide +kernel, rfl⟩
theorem dX10_passDayByDraws_72 : Dc cX10_passDayByDraws 72 (.iconst 2) 1 73 := ⟨by decide +kernel, rfl⟩
theorem dX10_passDayByDraws_73 : Dc cX10_passDayByDraws 73 (.putfield 157) 3 76 := ⟨by decide +kernel, rfl⟩
theorem dX10_passDayByDraws_76 : Dc cX10_passDayByDraws 76 (.return_) 1 77 := ⟨by decide +kernel, rfl⟩
theorem dX10_nextDraw_0 : Dc cX10_nextDraw 0 (.aload_n 0) 1 1 := ⟨by decide +kernel, rfl⟩
theorem dX10_nextDraw_1 : Dc cX10_nextDraw 1 (.aload_n 0) 1 2 := ⟨by decide +kernel, rfl⟩
theorem dX10_nextDraw_2 : Dc cX10_nextDraw 2 (.getfield 74) 3 5 := ⟨by decide +kernel, rfl⟩
theorem dX10_nextDraw_5 : Dc cX10_nextDraw 5 (.ldc 226) 2 7 := ⟨by decide +kernel, rfl⟩
theorem dX10_nextDraw_7 : Dc cX10_nextDraw 7 (.imul) 1 8 := ⟨by decide +kernel, rfl⟩
theorem dX10_nextDraw_8 : Dc cX10_nextDraw 8 (.sipush 12345) 3 11 := ⟨by decide +kernel, rfl⟩
theorem dX10_nextDraw_11 : Dc cX10_nextDraw 11 (.iadd) 1 12 := ⟨by decide +kernel, rfl⟩
theorem dX10_nextDraw_12 : Dc cX10_nextDraw 12 (.ldc 227) 2 14 := ⟨by decide +kernel, rfl⟩
theorem dX10_nextDraw_14 : Dc cX10_nextDraw 14 (.iand) 1 15 := ⟨by decide +kernel, rfl⟩
theorem dX10_nextDraw_15 : Dc cX10_nextDraw 15 (.putfield 74) 3 18 := ⟨by decide +kernel, rfl⟩
theorem dX10_nextDraw_18 : Dc cX10_nextDraw 18 (.aload_n 0) 1 19 := ⟨by decide +kernel, rfl⟩
theorem dX10_nextDraw_19 : Dc cX10_nextDraw 19 (.getfield 74) 3 22 := ⟨by decide +kernel, rfl⟩
theorem dX10_nextDraw_22 : Dc cX10_nextDraw 22 (.ldc 228) 2 24 := ⟨by decide +kernel, rfl⟩
theorem dX10_nextDraw_24 : Dc cX10_nextDraw 24 (.idiv) 1 25 := ⟨by decide +kernel, rfl⟩
theorem dX10_nextDraw_25 : Dc cX10_nextDraw 25 (.ireturn) 1 26 := ⟨by decide +kernel, rfl⟩
theorem dX10_undo_0 : Dc cX10_undo 0 (.aload_n 0) 1 1 := ⟨by decide +kernel, rfl⟩
theorem dX10_undo_1 : Dc cX10_undo 1 (.getfield 43) 3 4 := ⟨by decide +kernel, rfl⟩
theorem dX10_undo_4 : Dc cX10_undo 4 (.getfield 160) 3 7 := ⟨by decide +kernel, rfl⟩
theorem dX10_undo_7 : Dj cX10_undo 7 (.ifCond .ne 6) 3 10 (6) 13 := ⟨by decide +kernel, rfl, by decide⟩
theorem dX10_undo_10 : Dc cX10_undo 10 (.ldc 213) 2 12 := ⟨by decide +kernel, rfl⟩
theorem dX10_undo_12 : Dc cX10_undo 12 (.ireturn) 1 13 := ⟨by decide +kernel, rfl⟩
theorem dX10_undo_13 : Dc cX10_undo 13 (.aload_n 0) 1 14 := ⟨by decide +kernel, rfl⟩
theorem dX10_undo_14 : Dc cX10_undo 14 (.getfield 43) 3 17 := ⟨by decide +kernel, rfl⟩
theorem dX10_undo_17 : Dc cX10_undo 17 (.aload_n 0) 1 18 := ⟨by decide +kernel, rfl⟩
theorem dX10_undo_18 : Dc cX10_undo 18 (.getfield 36) 3 21 := ⟨by decide +kernel, rfl⟩
theorem dX10_undo_21 : Dc cX10_undo 21 (.invokevirtual 229) 3 24 := ⟨by decide +kernel, rfl⟩
theorem dX10_undo_24 : Dc cX10_undo 24 (.aload_n 0) 1 25 := ⟨by decide +kernel, rfl⟩
theorem dX10_undo_25 : Dc cX10_undo 25 (.getfield 43) 3 28 := ⟨by decide +kernel, rfl⟩
theorem dX10_undo_28 : Dc cX10_undo 28 (.getfield 160) 3 31 := ⟨by decide +kernel, rfl⟩
theorem dX10_undo_31 : Dc cX10_undo 31 (.ireturn) 1 32 := ⟨by decide +kernel, rfl⟩
theorem dX10_refusalOfDays_0 : Dc cX10_refusalOfDays 0 (.iload_n 1) 1 1 := ⟨by decide +kernel, rfl⟩
theorem dX10_refusalOfDays_1 : Dc cX10_refusalOfDays 1 (.invokestatic 232) 3 4 := ⟨by decide +kernel, rfl⟩
theorem dX10_refusalOfDays_4 : Dj cX10_refusalOfDays 4 (.ifCond .eq 13) 3 7 (13) 17 := ⟨by decide +kernel, rfl, by decide⟩
theorem dX10_refusalOfDays_7 : Dc cX10_refusalOfDays 7 (.iload_n 2) 1 8 := ⟨by decide +kernel, rfl⟩
theorem dX10_refusalOfDays_8 : Dc cX10_refusalOfDays 8 (.iconst 1) 1 9 := ⟨by decide +kernel, rfl⟩
theorem dX10_refusalOfDays_9 : Dc cX10_refusalOfDays 9 (.bipush 30) 2 11 := ⟨by decide +kernel, rfl⟩
theorem dX10_refusalOfDays_11 : Dc cX10_refusalOfDays 11 (.invokestatic 82) 3 14 := ⟨by decide +kernel, rfl⟩
theorem dX10_refusalOfDays_14 : Dj cX10_refusalOfDays 14 (.ifCond .ne 6) 3 17 (6) 20 := ⟨by decide +kernel, rfl, by decide⟩
theorem dX10_refusalOfDays_17 : Dc cX10_refusalOfDays 17 (.ldc 86) 2 19 := ⟨by decide +kernel, rfl⟩
theorem dX10_refusalOfDays_19 : Dc cX10_refusalOfDays 19 (.ireturn) 1 20 := ⟨by decide +kernel, rfl⟩
theorem dX10_refusalOfDays_20 : Dc cX10_refusalOfDays 20 (.aload_n 0) 1 21 := ⟨by decide +kernel, rfl⟩
theorem dX10_refusalOfDays_21 : Dc cX10_refusalOfDays 21 (.invokevirtual 209) 3 24 := ⟨by decide +kernel, rfl⟩
theorem dX10_refusalOfDays_24 : Dj cX10_refusalOfDays 24 (.ifCond .ne 6) 3 27 (6) 30 := ⟨by decide +kernel, rfl, by decide⟩
theorem dX10_refusalOfDays_27 : Dc cX10_refusalOfDays 27 (.ldc 213) 2 29 := ⟨by decide +kernel, rfl⟩
theorem dX10_refusalOfDays_29 : Dc cX10_refusalOfDays 29 (.ireturn) 1 30 := ⟨by decide +kernel, rfl⟩
theorem dX10_refusalOfDays_30 : Dc cX10_refusalOfDays 30 (.aload_n 0) 1 31 := ⟨by decide +kernel, rfl⟩
theorem dX10_refusalOfDays_31 : Dc cX10_refusalOfDays 31 (.getfield 36) 3 34 := ⟨by decide +kernel, rfl⟩
theorem dX10_refusalOfDays_34 : Dc cX10_refusalOfDays 34 (.getfield 126) 3 37 := ⟨by decide +kernel, rfl⟩
theorem dX10_refusalOfDays_37 : Dc cX10_refusalOfDays 37 (.getfield 147) 3 40 := ⟨by decide +kernel, rfl⟩
theorem dX10_refusalOfDays_40 : Dc cX10_refusalOfDays 40 (.sipush 9000) 3 43 := ⟨by decide +kernel, rfl⟩
theorem dX10_refusalOfDays_43 : Dj cX10_refusalOfDays 43 (.if_icmp .le 8) 3 46 (8) 51 := ⟨by decide +kernel, rfl, by decide⟩
theorem dX10_refusalOfDays_46 : Dc cX10_refusalOfDays 46 (.ldc 90) 2 48 := ⟨by decide +kernel, rfl⟩
theorem dX10_refusalOfDays_48 : Dj cX10_refusalOfDays 48 (.goto 4) 3 51 (4) 52 := ⟨by decide +kernel, rfl, by decide⟩
theorem dX10_refusalOfDays_51 : Dc cX10_refusalOfDays 51 (.iconst 0) 1 52 := ⟨by decide +kernel, rfl⟩
theorem dX10_refusalOfDays_52 : Dc cX10_refusalOfDays 52 (.ireturn) 1 53 := ⟨by decide +kernel, rfl⟩
theorem dX10_costs_0 : Dc cX10_costs 0 (.aload_n 0) 1 1 := ⟨by decide +kernel, rfl⟩
theorem dX10_costs_1 : Dc cX10_costs 1 (.iload_n 1) 1 2 := ⟨by decide +kernel, rfl⟩
theorem dX10_costs_2 : Dc cX10_costs 2 (.invokevirtual 235) 3 5 := ⟨by decide +kernel, rfl⟩
theorem dX10_costs_5 : Dj cX10_costs 5 (.ifCond .eq 25) 3 8 (25) 30 := ⟨by decide +kernel, rfl, by decide⟩
theorem dX10_costs_8 : Dc cX10_costs 8 (.aload_n 0) 1 9 := ⟨by decide +kernel, rfl⟩
theorem dX10_costs_9 : Dc cX10_costs 9 (.getfield 26) 3 12 := ⟨by decide +kernel, rfl⟩
theorem dX10_costs_12 : Dc cX10_costs 12 (.getfield 238) 3 15 := ⟨by decide +kernel, rfl⟩
theorem dX10_costs_15 : Dc cX10_costs 15 (.iload_n 1) 1 16 := ⟨by decide +kernel, rfl⟩
theorem dX10_costs_16 : Dc cX10_costs 16 (.iaload) 1 17 := ⟨by decide +kernel, rfl⟩
theorem dX10_costs_17 : Dc cX10_costs 17 (.aload_n 0) 1 18 := ⟨by decide +kernel, rfl⟩
theorem dX10_costs_18 : Dc cX10_costs 18 (.getfield 36) 3 21 := ⟨by decide +kernel, rfl⟩
theorem dX10_costs_21 : Dc cX10_costs 21 (.getfield 150) 3 24 := ⟨by decide +kernel, rfl⟩
theorem dX10_costs_24 : Dc cX10_costs 24 (.invokestatic 241) 3 27 := ⟨by decide +kernel, rfl⟩
theorem dX10_costs_27 : Dj cX10_costs 27 (.goto 5) 3 30 (5) 32 := ⟨by decide +kernel, rfl, by decide⟩
theorem dX10_costs_30 : Dc cX10_costs 30 (.ldc 168) 2 32 := ⟨by decide +kernel, rfl⟩
theorem dX10_costs_32 : Dc cX10_costs 32 (.ireturn) 1 33 := ⟨by decide +kernel, rfl⟩
theorem dX10_promise_0 : Dc cX10_promise 0 (.aload_n 0) 1 1 := ⟨by decide +kernel, rfl⟩
theorem dX10_promise_1 : Dc cX10_promise 1 (.iload_n 1) 1 2 := ⟨by decide +kernel, rfl⟩
theorem dX10_promise_2 : Dc cX10_promise 2 (.invokevirtual 185) 3 5 := ⟨by decide +kernel, rfl⟩
theorem dX10_promise_5 : Dj cX10_promise 5 (.ifCond .ne 6) 3 8 (6) 11 := ⟨by decide +kernel, rfl, by decide⟩
theorem dX10_promise_8 : Dc cX10_promise 8 (.ldc 168) 2 10 := ⟨by decide +kernel, rfl⟩
theorem dX10_promise_10 : Dc cX10_promise 10 (.ireturn) 1 11 := ⟨by decide +kernel, rfl⟩
theorem dX10_promise_11 : Dc cX10_promise 11 (.iload_n 2) 1 12 := ⟨by decide +kernel, rfl⟩
theorem dX10_promise_12 : Dc cX10_promise 12 (.iconst 0) 1 13 := ⟨by decide +kernel, rfl⟩
theorem dX10_promise_13 : Dc cX10_promise 13 (.bipush 60) 2 15 := ⟨by decide +kernel, rfl⟩
theorem dX10_promise_15 : Dc cX10_promise 15 (.invokestatic 82) 3 18 := ⟨by decide +kernel, rfl⟩
theorem dX10_promise_18 : Dj cX10_promise 18 (.ifCond .ne 6) 3 21 (6) 24 := ⟨by decide +kernel, rfl, by decide⟩
theorem dX10_promise_21 : Dc cX10_promise 21 (.ldc 86) 2 23 := ⟨by decide +kernel, rfl⟩
theorem dX10_promise_23 : Dc cX10_promise 23 (.ireturn) 1 24 := ⟨by decide +kernel, rfl⟩
theorem dX10_promise_24 : Dc cX10_promise 24 (.aload_n 0) 1 25 := ⟨by decide +kernel, rfl⟩
theorem dX10_promise_25 : Dc cX10_promise 25 (.iload_n 1) 1 26 := ⟨by decide +kernel, rfl⟩
theorem dX10_promise_26 : Dc cX10_promise 26 (.iload_n 2) 1 27 := ⟨by decide +kernel, rfl⟩
theorem dX10_promise_27 : Dc cX10_promise 27 (.invokevirtual 244) 3 30 := ⟨by decide +kernel, rfl⟩
theorem dX10_promise_30 : Dc cX10_promise 30 (.ireturn) 1 31 := ⟨by decide +kernel, rfl⟩
theorem dX10_worthWithin_0 : Dc cX10_worthWithin 0 (.ldc 247) 2 2 := ⟨by decide +kernel, rfl⟩
theorem dX10_worthWithin_2 : Dc cX10_worthWithin 2 (.istore_n 3) 1 3 := ⟨by decide +kernel, rfl⟩
theorem dX10_worthWithin_3 : Dc cX10_worthWithin 3 (.iconst 0) 1 4 := ⟨by decide +kernel, rfl⟩
theorem dX10_worthWithin_4 : Dc cX10_worthWithin 4 (.istore 4) 2 6 := ⟨by decide +kernel, rfl⟩
theorem dX10_worthWithin_6 : Dc cX10_worthWithin 6 (.iload 4) 2 8 := ⟨by decide +kernel, rfl⟩
theorem dX10_worthWithin_8 : Dc cX10_worthWithin 8 (.iload_n 2) 1 9 := ⟨by decide +kernel, rfl⟩
theorem dX10_worthWithin_9 : Dj cX10_worthWithin 9 (.if_icmp .ge 25) 3 12 (25) 34 := ⟨by decide +kernel, rfl, by decide⟩
theorem dX10_worthWithin_12 : Dc cX10_worthWithin 12 (.iload_n 3) 1 13 := ⟨by decide +kernel, rfl⟩
theorem dX10_worthWithin_13 : Dc cX10_worthWithin 13 (.bipush 100) 2 15 := ⟨by decide +kernel, rfl⟩
theorem dX10_worthWithin_15 : Dc cX10_worthWithin 15 (.aload_n 0) 1 16 := ⟨by decide +kernel, rfl⟩
theorem dX10_worthWithin_16 : Dc cX10_worthWithin 16 (.getfield 36) 3 19 := ⟨by decide +kernel, rfl⟩
theorem dX10_worthWithin_19 : Dc cX10_worthWithin 19 (.getfield 135) 3 22 := ⟨by decide +kernel, rfl⟩
theorem dX10_worthWithin_22 : Dc cX10_worthWithin 22 (.isub) 1 23 := ⟨by decide +kernel, rfl⟩
theorem dX10_worthWithin_23 : Dc cX10_worthWithin 23 (.imul) 1 24 := ⟨by decide +kernel, rfl⟩
theorem dX10_worthWithin_24 : Dc cX10_worthWithin 24 (.bipush 100) 2 26 := ⟨by decide +kernel, rfl⟩
theorem dX10_worthWithin_26 : Dc cX10_worthWithin 26 (.idiv) 1 27 := ⟨by decide +kernel, rfl⟩
theorem dX10_worthWithin_27 : Dc cX10_worthWithin 27 (.istore_n 3) 1 28 := ⟨by decide +kernel, rfl⟩
theorem dX10_worthWithin_28 : Dc cX10_worthWithin 28 (.iinc 4 1) 3 31 := ⟨by decide +kernel, rfl⟩
theorem dX10_worthWithin_31 : Dj cX10_worthWithin 31 (.goto (-25)) 3 34 (-25) 6 := ⟨by decide +kernel, rfl, by decide⟩
theorem dX10_worthWithin_34 : Dc cX10_worthWithin 34 (.aload_n 0) 1 35 := ⟨by decide +kernel, rfl⟩
theorem dX10_worthWithin_35 : Dc cX10_worthWithin 35 (.getfield 26) 3 38 := ⟨by decide +kernel, rfl⟩
theorem dX10_worthWithin_38 : Dc cX10_worthWithin 38 (.getfield 191) 3 41 := ⟨by decide +kernel, rfl⟩
theorem dX10_worthWithin_41 : Dc cX10_worthWithin 41 (.iload_n 1) 1 42 := ⟨by decide +kernel, rfl⟩
theorem dX10_worthWithin_42 : Dc cX10_worthWithin 42 (.iaload) 1 43 := ⟨by decide +kernel, rfl⟩
theorem dX10_worthWithin_43 : Dc cX10_worthWithin 43 (.ldc 247) 2 45 := ⟨by decide +kernel, rfl⟩
theorem dX10_worthWithin_45 : Dc cX10_worthWithin 45 (.iload_n 3) 1 46 := ⟨by decide +kernel, rfl⟩
theorem dX10_worthWithin_46 : Dc cX10_worthWithin 46 (.isub) 1 47 := ⟨by decide +kernel, rfl⟩
theorem dX10_worthWithin_47 : Dc cX10_worthWithin 47 (.imul) 1 48 := ⟨by decide +kernel, rfl⟩
theorem dX10_worthWithin_48 : Dc cX10_worthWithin 48 (.sipush 1000) 3 51 := ⟨by decide +kernel, rfl⟩
theorem dX10_worthWithin_51 : Dc cX10_worthWithin 51 (.idiv) 1 52 := ⟨by decide +kernel, rfl⟩
theorem dX10_worthWithin_52 : Dc cX10_worthWithin 52 (.ireturn) 1 53 := ⟨by decide +kernel, rfl⟩
theorem dX10_rations_0 : Dc cX10_rations 0 (.iload_n 1) 1 1 := ⟨by decide +kernel, rfl⟩
theorem dX10_rations_1 : Dc cX10_rations 1 (.iconst 1) 1 2 := ⟨by decide +kernel, rfl⟩
theorem dX10_rations_2 : Dc cX10_rations 2 (.iconst 5) 1 3 := ⟨by decide +kernel, rfl⟩
theorem dX10_rations_3 : Dc cX10_rations 3 (.invokestatic 82) 3 6 := ⟨by decide +kernel, rfl⟩
theorem dX10_rations_6 : Dj cX10_rations 6 (.ifCond .ne 6) 3 9 (6) 12 := ⟨by decide +kernel, rfl, by decide⟩
theorem dX10_rations_9 : Dc cX10_rations 9 (.ldc 86) 2 11 := ⟨by decide +kernel, rfl⟩
theorem dX10_rations_11 : Dc cX10_rations 11 (.ireturn) 1 12 := ⟨by decide +kernel, rfl⟩
theorem dX10_rations_12 : Dc cX10_rations 12 (.aload_n 0) 1 13 := ⟨by decide +kernel, rfl⟩
theorem dX10_rations_13 : Dc cX10_rations 13 (.getfield 26) 3 16 := ⟨by decide +kernel, rfl⟩
theorem dX10_rations_16 : Dc cX10_rations 16 (.getfield 161) 3 19 := ⟨by decide +kernel, rfl⟩
theorem dX10_rations_19 : Dj cX10_rations 19 (.ifCond .ne 6) 3 22 (6) 25 := ⟨by decide +kernel, rfl, by decide⟩
theorem dX10_rations_22 : Dc cX10_rations 22 (.ldc 213) 2 24 := ⟨by decide +kernel, rfl⟩
theorem dX10_rations_24 : Dc cX10_rations 24 (.ireturn) 1 25 := ⟨by decide +kernel, rfl⟩
theorem dX10_rations_25 : Dc cX10_rations 25 (.iload_n 2) 1 26 := ⟨by decide +kernel, rfl⟩
theorem dX10_rations_26 : Dc cX10_rations 26 (.iconst (-1)) 1 27 := ⟨by decide +kernel, rfl⟩
theorem dX10_rations_27 : Dc cX10_rations 27 (.iload_n 1) 1 28 := ⟨by decide +kernel, rfl⟩
theorem dX10_rations_28 : Dc cX10_rations 28 (.iconst 1) 1 29 := ⟨by decide +kernel, rfl⟩
theorem dX10_rations_29 : Dc cX10_rations 29 (.isub) 1 30 := ⟨by decide +kernel, rfl⟩
theorem dX10_rations_30 : Dc cX10_rations 30 (.invokestatic 82) 3 33 := ⟨by decide +kernel, rfl⟩
theorem dX10_rations_33 : Dj cX10_rations 33 (.ifCond .ne 5) 3 36 (5) 38 := ⟨by decide +kernel, rfl, by decide⟩
theorem dX10_rations_36 : Dc cX10_rations 36 (.iconst (-1)) 1 37 := ⟨by decide +kernel, rfl⟩
theorem dX10_rations_37 : Dc cX10_rations 37 (.ireturn) 1 38 := ⟨by decide +kernel, rfl⟩
theorem dX10_rations_38 : Dc cX10_rations 38 (.aload_n 0) 1 39 := ⟨by decide +kernel, rfl⟩
theorem dX10_rations_39 : Dc cX10_rations 39 (.getfield 56) 3 42 := ⟨by decide +kernel, rfl⟩
theorem dX10_rations_42 : Dc cX10_rations 42 (.aload_n 0) 1 43 := ⟨by decide +kernel, rfl⟩
theorem dX10_rations_43 : Dc cX10_rations 43 (.getfield 26) 3 46 := ⟨by decide +kernel, rfl⟩
theorem dX10_rations_46 : Dc cX10_rations 46 (.aload_n 0) 1 47 := ⟨by decide +kernel, rfl⟩
theorem dX10_rations_47 : Dc cX10_rations 47 (.getfield 36) 3 50 := ⟨by decide +kernel, rfl⟩
theorem dX10_rations_50 : Dc cX10_rations 50 (.getfield 126) 3 53 := ⟨by decide +kernel, rfl⟩
theorem dX10_rations_53 : Dc cX10_rations 53 (.iload_n 1) 1 54 := ⟨by decide +kernel, rfl⟩
theorem dX10_rations_54 : Dc cX10_rations 54 (.invokevirtual 248) 3 57 := ⟨by decide +kernel, rfl⟩
theorem dX10_rations_57 : Dc cX10_rations 57 (.iload_n 2) 1 58 := ⟨by decide +kernel, rfl⟩
theorem dX10_rations_58 : Dc cX10_rations 58 (.iconst (-1)) 1 59 := ⟨by decide +kernel, rfl⟩
theorem dX10_rations_59 : Dj cX10_rations 59 (.if_icmp .ne 13) 3 62 (13) 72 := ⟨by decide +kernel, rfl, by decide⟩
theorem dX10_rations_62 : Dc cX10_rations 62 (.aload_n 0) 1 63 := ⟨by decide +kernel, rfl⟩
theorem dX10_rations_63 : Dc cX10_rations 63 (.getfield 56) 3 66 := ⟨by decide +kernel, rfl⟩
theorem dX10_rations_66 : Dc cX10_rations 66 (.getfield 252) 3 69 := ⟨by decide +kernel, rfl⟩
theorem dX10_rations_69 : Dj cX10_rations 69 (.goto 15) 3 72 (15) 84 := ⟨by decide +kernel, rfl, by decide⟩
theorem dX10_rations_72 : Dc cX10_rations 72 (.aload_n 0) 1 73 := ⟨by decide +kernel, rfl⟩
theorem dX10_rations_73 : Dc cX10_rations 73 (.getfield 56) 3 76 := ⟨by decide +kernel, rfl⟩
theorem dX10_rations_76 : Dc cX10_rations 76 (.getfield 255) 3 79 := ⟨by decide +kernel, rfl⟩
theorem dX10_rations_79 : Dc cX10_rations 79 (.iload_n 1) 1 80 := ⟨by decide +kernel, rfl⟩
theorem dX10_rations_80 : Dc cX10_rations 80 (.iload_n 2) 1 81 := ⟨by decide +kernel, rfl⟩
theorem dX10_rations_81 : Dc cX10_rations 81 (.invokestatic 258) 3 84 := ⟨by decide +kernel, rfl⟩
theorem dX10_rations_84 : Dc cX10_rations 84 (.ireturn) 1 85 := ⟨by decide +kernel, rfl⟩
theorem dX10_firstToDesert_0 : Dc cX10_firstToDesert 0 (.iload_n 1) 1 1 := ⟨by decide +kernel, rfl⟩
theorem dX10_firstToDesert_1 : Dc cX10_firstToDesert 1 (.invokestatic 232) 3 4 := ⟨by decide +kernel, rfl⟩
theorem dX10_firstToDesert_4 : Dj cX10_firstToDesert 4 (.ifCond .ne 6) 3 7 (6) 10 := ⟨by decide +kernel, rfl, by decide⟩
theorem dX10_firstToDesert_7 : Dc cX10_firstToDesert 7 (.ldc 86) 2 9 := ⟨by decide +kernel, rfl⟩
theorem dX10_firstToDesert_9 : Dc cX10_firstToDesert 9 (.ireturn) 1 10 := ⟨by decide +kernel, rfl⟩
theorem dX10_firstToDesert_10 : Dc cX10_firstToDesert 10 (.aload_n 0) 1 11 := ⟨by decide +kernel, rfl⟩
theorem dX10_firstToDesert_11 : Dc cX10_firstToDesert 11 (.getfield 26) 3 14 := ⟨by decide +kernel, rfl⟩
theorem dX10_firstToDesert_14 : Dc cX10_firstToDesert 14 (.getfield 161) 3 17 := ⟨by decide +kernel, rfl⟩
theorem dX10_firstToDesert_17 : Dj cX10_firstToDesert 17 (.ifCond .eq 25) 3 20 (25) 42 := ⟨by decide +kernel, rfl, by decide⟩
theorem dX10_firstToDesert_20 : Dc cX10_firstToDesert 20 (.aload_n 0) 1 21 := ⟨by decide +kernel, rfl⟩
theorem dX10_firstToDesert_21 : Dc cX10_firstToDesert 21 (.getfield 56) 3 24 := ⟨by decide +kernel, rfl⟩
theorem dX10_firstToDesert_24 : Dc cX10_firstToDesert 24 (.aload_n 0) 1 25 := ⟨by decide +kernel, rfl⟩
theorem dX10_firstToDesert_25 : Dc cX10_firstToDesert 25 (.getfield 26) 3 28 := ⟨by decide +kernel, rfl⟩
theorem dX10_firstToDesert_28 : Dc cX10_firstToDesert 28 (.aload_n 0) 1 29 := ⟨by decide +kernel, rfl⟩
theorem dX10_firstToDesert_29 : Dc cX10_firstToDesert 29 (.getfield 36) 3 32 := ⟨by decide +kernel, rfl⟩
theorem dX10_firstToDesert_32 : Dc cX10_firstToDesert 32 (.getfield 126) 3 35 := ⟨by decide +kernel, rfl⟩
theorem dX10_firstToDesert_35 : Dc cX10_firstToDesert 35 (.iload_n 1) 1 36 := ⟨by decide +kernel, rfl⟩
theorem dX10_firstToDesert_36 : Dc cX10_firstToDesert 36 (.invokevirtual 262) 3 39 := ⟨by decide +kernel, rfl⟩
theorem dX10_firstToDesert_39 : Dj cX10_firstToDesert 39 (.goto 5) 3 42 (5) 44 := ⟨by decide +kernel, rfl, by decide⟩
theorem dX10_firstToDesert_42 : Dc cX10_firstToDesert 42 (.ldc 213) 2 44 := ⟨by decide +kernel, rfl⟩
theorem dX10_firstToDesert_44 : Dc cX10_firstToDesert 44 (.ireturn) 1 45 := ⟨by decide +kernel, rfl⟩
theorem dX10_holds_0 : Dc cX10_holds 0 (.iload_n 1) 1 1 := ⟨by decide +kernel, rfl⟩
theorem dX10_holds_1 : Dc cX10_holds 1 (.invokestatic 232) 3 4 := ⟨by decide +kernel, rfl⟩
theorem dX10_holds_4 : Dj cX10_holds 4 (.ifCond .ne 6) 3 7 (6) 10 := ⟨by decide +kernel, rfl, by decide⟩
theorem dX10_holds_7 : Dc cX10_holds 7 (.ldc 86) 2 9 := ⟨by decide +kernel, rfl⟩
theorem dX10_holds_9 : Dc cX10_holds 9 (.ireturn) 1 10 := ⟨by decide +kernel, rfl⟩
theorem dX10_holds_10 : Dc cX10_holds 10 (.aload_n 0) 1 11 := ⟨by decide +kernel, rfl⟩
theorem dX10_holds_11 : Dc cX10_holds 11 (.getfield 26) 3 14 := ⟨by decide +kernel, rfl⟩
theorem dX10_holds_14 : Dc cX10_holds 14 (.getfield 161) 3 17 := ⟨by decide +kernel, rfl⟩
theorem dX10_holds_17 : Dj cX10_holds 17 (.ifCond .eq 25) 3 20 (25) 42 := ⟨by decide +kernel, rfl, by decide⟩
theorem dX10_holds_20 : Dc cX10_holds 20 (.aload_n 0) 1 21 := ⟨by decide +kernel, rfl⟩
theorem dX10_holds_21 : Dc cX10_holds 21 (.getfield 56) 3 24 := ⟨by decide +kernel, rfl⟩
theorem dX10_holds_24 : Dc cX10_holds 24 (.aload_n 0) 1 25 := ⟨by decide +kernel, rfl⟩
theorem dX10_holds_25 : Dc cX10_holds 25 (.getfield 26) 3 28 := ⟨by decide +kernel, rfl⟩
theorem dX10_holds_28 : Dc cX10_holds 28 (.aload_n 0) 1 29 := ⟨by decide +kernel, rfl⟩
theorem dX10_holds_29 : Dc cX10_holds 29 (.getfield 36) 3 32 := ⟨by decide +kernel, rfl⟩
theorem dX10_holds_32 : Dc cX10_holds 32 (.getfield 126) 3 35 := ⟨by decide +kernel, rfl⟩
theorem dX10_holds_35 : Dc cX10_holds 35 (.iload_n 1) 1 36 := ⟨by decide +kernel, rfl⟩
theorem dX10_holds_36 : Dc cX10_holds 36 (.invokevirtual 266) 3 39 := ⟨by decide +kernel, rfl⟩
theorem dX10_holds_39 : Dj cX10_holds 39 (.goto 5) 3 42 (5) 44 := ⟨by decide +kernel, rfl, by decide⟩
theorem dX10_holds_42 : Dc cX10_holds 42 (.ldc 213) 2 44 := ⟨by decide +kernel, rfl⟩
theorem dX10_holds_44 : Dc cX10_holds 44 (.ireturn) 1 45 := ⟨by decide +kernel, rfl⟩
theorem dX10_owed_0 : Dc cX10_owed 0 (.aload_n 0) 1 1 := ⟨by decide +kernel, rfl⟩
theorem dX10_owed_1 : Dc cX10_owed 1 (.iload_n 1) 1 2 := ⟨by decide +kernel, rfl⟩
theorem dX10_owed_2 : Dc cX10_owed 2 (.invokevirtual 164) 3 5 := ⟨by decide +kernel, rfl⟩
theorem dX10_owed_5 : Dj cX10_owed 5 (.ifCond .ne 6) 3 8 (6) 11 := ⟨by decide +kernel, rfl, by decide⟩
theorem dX10_owed_8 : Dc cX10_owed 8 (.ldc 168) 2 10 := ⟨by decide +kernel, rfl⟩
theorem dX10_owed_10 : Dc cX10_owed 10 (.ireturn) 1 11 := ⟨by decide +kernel, rfl⟩
theorem dX10_owed_11 : Dc cX10_owed 11 (.iload_n 2) 1 12 := ⟨by decide +kernel, rfl⟩
theorem dX10_owed_12 : Dc cX10_owed 12 (.invokestatic 269) 3 15 := ⟨by decide +kernel, rfl⟩
theorem dX10_owed_15 : Dj cX10_owed 15 (.ifCond .eq 19) 3 18 (19) 34 := ⟨by decide +kernel, rfl, by decide⟩
theorem dX10_owed_18 : Dc cX10_owed 18 (.aload_n 0) 1 19 := ⟨by decide +kernel, rfl⟩
theorem dX10_owed_19 : Dc cX10_owed 19 (.getfield 36) 3 22 := ⟨by decide +kernel, rfl⟩
theorem dX10_owed_22 : Dc cX10_owed 22 (.aload_n 0) 1 23 := ⟨by decide +kernel, rfl⟩
theorem dX10_owed_23 : Dc cX10_owed 23 (.getfield 26) 3 26 := ⟨by decide +kernel, rfl⟩
theorem dX10_owed_26 : Dc cX10_owed 26 (.iload_n 1) 1 27 := ⟨by decide +kernel, rfl⟩
theorem dX10_owed_27 : Dc cX10_owed 27 (.iload_n 2) 1 28 := ⟨by decide +kernel, rfl⟩
theorem dX10_owed_28 : Dc cX10_owed 28 (.invokevirtual 272) 3 31 := ⟨by decide +kernel, rfl⟩
theorem dX10_owed_31 : Dj cX10_owed 31 (.goto 5) 3 34 (5) 36 := ⟨by decide +kernel, rfl, by decide⟩
theorem dX10_owed_34 : Dc cX10_owed 34 (.ldc 86) 2 36 := ⟨by decide +kernel, rfl⟩
theorem dX10_owed_36 : Dc cX10_owed 36 (.ireturn) 1 37 := ⟨by decide +kernel, rfl⟩
theorem dX10_least_0 : Dc cX10_least 0 (.iload_n 1) 1 1 := ⟨by decide +kernel, rfl⟩
theorem dX10_least_1 : Dc cX10_least 1 (.iconst 0) 1 2 := ⟨by decide +kernel, rfl⟩
theorem dX10_least_2 : Dc cX10_least 2 (.iconst 5) 1 3 := ⟨by decide +kernel, rfl⟩
theorem dX10_least_3 : Dc cX10_least 3 (.invokestatic 82) 3 6 := ⟨by decide +kernel, rfl⟩
theorem dX10_least_6 : Dj cX10_least 6 (.ifCond .eq 10) 3 9 (10) 16 := ⟨by decide +kernel, rfl, by decide⟩
theorem dX10_least_9 : Dc cX10_least 9 (.iload_n 2) 1 10 := ⟨by decide +kernel, rfl⟩
theorem dX10_least_10 : Dc cX10_least 10 (.invokestatic 269) 3 13 := ⟨by decide +kernel, rfl⟩
theorem dX10_least_13 : Dj cX10_least 13 (.ifCond .ne 6) 3 16 (6) 19 := ⟨by decide +kernel, rfl, by decide⟩
theorem dX10_least_16 : Dc cX10_least 16 (.ldc 86) 2 18 := ⟨by decide +kernel, rfl⟩
theorem dX10_least_18 : Dc cX10_least 18 (.ireturn) 1 19 := ⟨by decide +kernel, rfl⟩
theorem dX10_least_19 : Dc cX10_least 19 (.aload_n 0) 1 20 := ⟨by decide +kernel, rfl⟩
theorem dX10_least_20 : Dc cX10_least 20 (.getfield 56) 3 23 := ⟨by decide +kernel, rfl⟩
theorem dX10_least_23 : Dc cX10_least 23 (.aload_n 0) 1 24 := ⟨by decide +kernel, rfl⟩
theorem dX10_least_24 : Dc cX10_least 24 (.getfield 26) 3 27 := ⟨by decide +kernel, rfl⟩
theorem dX10_least_27 : Dc cX10_least 27 (.aload_n 0) 1 28 := ⟨by decide +kernel, rfl⟩
theorem dX10_least_28 : Dc cX10_least 28 (.getfield 36) 3 31 := ⟨by decide +kernel, rfl⟩
theorem dX10_least_31 : Dc cX10_least 31 (.iload_n 1) 1 32 := ⟨by decide +kernel, rfl⟩
theorem dX10_least_32 : Dc cX10_least 32 (.iload_n 2) 1 33 := ⟨by decide +kernel, rfl⟩
theorem dX10_least_33 : Dc cX10_least 33 (.invokevirtual 276) 3 36 := ⟨by decide +kernel, rfl⟩
theorem dX10_least_36 : Dc cX10_least 36 (.ireturn) 1 37 := ⟨by decide +kernel, rfl⟩
theorem dX10_bought_0 : Dc cX10_bought 0 (.aload_n 0) 1 1 := ⟨by decide +kernel, rfl⟩
theorem dX10_bought_1 : Dc cX10_bought 1 (.iload_n 1) 1 2 := ⟨by decide +kernel, rfl⟩
theorem dX10_bought_2 : Dc cX10_bought 2 (.invokevirtual 185) 3 5 := ⟨by decide +kernel, rfl⟩
theorem dX10_bought_5 : Dj cX10_bought 5 (.ifCond .eq 16) 3 8 (16) 21 := ⟨by decide +kernel, rfl, by decide⟩
theorem dX10_bought_8 : Dc cX10_bought 8 (.iload_n 2) 1 9 := ⟨by decide +kernel, rfl⟩
theorem dX10_bought_9 : Dc cX10_bought 9 (.iconst (-1)) 1 10 := ⟨by decide +kernel, rfl⟩
theorem dX10_bought_10 : Dj cX10_bought 10 (.if_icmp .eq 14) 3 13 (14) 24 := ⟨by decide +kernel, rfl, by decide⟩
theorem dX10_bought_13 : Dc cX10_bought 13 (.aload_n 0) 1 14 := ⟨by decide +kernel, rfl⟩
theorem dX10_bought_14 : Dc cX10_bought 14 (.iload_n 2) 1 15 := ⟨by decide +kernel, rfl⟩
theorem dX10_bought_15 : Dc cX10_bought 15 (.invokevirtual 235) 3 18 := ⟨by decide +kernel, rfl⟩
theorem dX10_bought_18 : Dj cX10_bought 18 (.ifCond .ne 6) 3 21 (6) 24 := ⟨by decide +kernel, rfl, by decide⟩
theorem dX10_bought_21 : Dc cX10_bought 21 (.ldc 168) 2 23 := ⟨by decide +kernel, rfl⟩
theorem dX10_bought_23 : Dc cX10_bought 23 (.ireturn) 1 24 := ⟨by decide +kernel, rfl⟩
theorem dX10_bought_24 : Dc cX10_bought 24 (.iload_n 2) 1 25 := ⟨by decide +kernel, rfl⟩
theorem dX10_bought_25 : Dc cX10_bought 25 (.iconst (-1)) 1 26 := ⟨by decide +kernel, rfl⟩
theorem dX10_bought_26 : Dj cX10_bought 26 (.if_icmp .eq 25) 3 29 (25) 51 := ⟨by decide +kernel, rfl, by decide⟩
theorem dX10_bought_29 : Dc cX10_bought 29 (.aload_n 0) 1 30 := ⟨by decide +kernel, rfl⟩
theorem dX10_bought_30 : Dc cX10_bought 30 (.getfield 26) 3 33 := ⟨by decide +kernel, rfl⟩
theorem dX10_bought_33 : Dc cX10_bought 33 (.getfield 238) 3 36 := ⟨by decide +kernel, rfl⟩
theorem dX10_bought_36 : Dc cX10_bought 36 (.iload_n 2) 1 37 := ⟨by decide +kernel, rfl⟩
theorem dX10_bought_37 : Dc cX10_bought 37 (.iaload) 1 38 := ⟨by decide +kernel, rfl⟩
theorem dX10_bought_38 : Dc cX10_bought 38 (.aload_n 0) 1 39 := ⟨by decide +kernel, rfl⟩
theorem dX10_bought_39 : Dc cX10_bought 39 (.getfield 26) 3 42 := ⟨by decide +kernel, rfl⟩
theorem dX10_bought_42 : Dc cX10_bought 42 (.getfield 191) 3 45 := ⟨by decide +kernel, rfl⟩
theorem dX10_bought_45 : Dc cX10_bought 45 (.iload_n 1) 1 46 := ⟨by decide +kernel, rfl⟩
theorem dX10_bought_46 : Dc cX10_bought 46 (.iaload) 1 47 := ⟨by decide +kernel, rfl⟩
theorem dX10_bought_47 : Dc cX10_bought 47 (.invokestatic 280) 3 50 := ⟨by decide +kernel, rfl⟩
theorem dX10_bought_50 : Dc cX10_bought 50 (.ireturn) 1 51 := ⟨by decide +kernel, rfl⟩
theorem dX10_bought_51 : Dc cX10_bought 51 (.iconst 0) 1 52 := ⟨by decide +kernel, rfl⟩
theorem dX10_bought_52 : Dc cX10_bought 52 (.istore_n 3) 1 53 := ⟨by decide +kernel, rfl⟩
theorem dX10_bought_53 : Dc cX10_bought 53 (.iconst 0) 1 54 := ⟨by decide +kernel, rfl⟩
theorem dX10_bought_54 : Dc cX10_bought 54 (.istore 4) 2 56 := ⟨by decide +kernel, rfl⟩
theorem dX10_bought_56 : Dc cX10_bought 56 (.iload 4) 2 58 := ⟨by decide +kernel, rfl⟩
theorem dX10_bought_58 : Dc cX10_bought 58 (.aload_n 0) 1 59 := ⟨by decide +kernel, rfl⟩
theorem dX10_bought_59 : Dc cX10_bought 59 (.getfield 26) 3 62 := ⟨by decide +kernel, rfl⟩
theorem dX10_bought_62 : Dc cX10_bought 62 (.getfield 141) 3 65 := ⟨by decide +kernel, rfl⟩
theorem dX10_bought_65 : Dj cX10_bought 65 (.if_icmp .ge 42) 3 68 (42) 107 := ⟨by decide +kernel, rfl, by decide⟩
theorem dX10_bought_68 : Dc cX10_bought 68 (.aload_n 0) 1 69 := ⟨by decide +kernel, rfl⟩
theorem dX10_bought_69 : Dc cX10_bought 69 (.getfield 26) 3 72 := ⟨by decide +kernel, rfl⟩
theorem dX10_bought_72 : Dc cX10_bought 72 (.getfield 238) 3 75 := ⟨by decide +kernel, rfl⟩
theorem dX10_bought_75 : Dc cX10_bought 75 (.iload 4) 2 77 := ⟨by decide +kernel, rfl⟩
theorem dX10_bought_77 : Dc cX10_bought 77 (.iaload) 1 78 := ⟨by decide +kernel, rfl⟩
theorem dX10_bought_78 : Dc cX10_bought 78 (.aload_n 0) 1 79 := ⟨by decide +kernel, rfl⟩
theorem dX10_bought_79 : Dc cX10_bought 79 (.getfield 26) 3 82 := ⟨by decide +kernel, rfl⟩
theorem dX10_bought_82 : Dc cX10_bought 82 (.getfield 191) 3 85 := ⟨by decide +kernel, rfl⟩
theorem dX10_bought_85 : Dc cX10_bought 85 (.iload_n 1) 1 86 := ⟨by decide +kernel, rfl⟩
theorem dX10_bought_86 : Dc cX10_bought 86 (.iaload) 1 87 := ⟨by decide +kernel, rfl⟩
theorem dX10_bought_87 : Dc cX10_bought 87 (.invokestatic 280) 3 90 := ⟨by decide +kernel, rfl⟩
theorem dX10_bought_90 : Dc cX10_bought 90 (.iconst (-1)) 1 91 := ⟨by decide +kernel, rfl⟩
theorem dX10_bought_91 : Dj cX10_bought 91 (.if_icmp .eq 10) 3 94 (10) 101 := ⟨by decide +kernel, rfl, by decide⟩
theorem dX10_bought_94 : Dc cX10_bought 94 (.iload_n 3) 1 95 := ⟨by decide +kernel, rfl⟩
theorem dX10_bought_95 : Dc cX10_bought 95 (.iconst 1) 1 96 := ⟨by decide +kernel, rfl⟩
theorem dX10_bought_96 : Dc cX10_bought 96 (.iload 4) 2 98 := ⟨by decide +kernel, rfl⟩
theorem dX10_bought_98 : Dc cX10_bought 98 (.ishl) 1 99 := ⟨by decide +kernel, rfl⟩
theorem dX10_bought_99 : Dc cX10_bought 99 (.ior) 1 100 := ⟨by decide +kernel, rfl⟩
theorem dX10_bought_100 : Dc cX10_bought 100 (.istore_n 3) 1 101 := ⟨by decide +kernel, rfl⟩
theorem dX10_bought_101 : Dc cX10_bought 101 (.iinc 4 1) 3 104 := ⟨by decide +kernel, rfl⟩
theorem dX10_bought_104 : Dj cX10_bought 104 (.goto (-48)) 3 107 (-48) 56 := ⟨by decide +kernel, rfl, by decide⟩
theorem dX10_bought_107 : Dc cX10_bought 107 (.iload_n 3) 1 108 := ⟨by decide +kernel, rfl⟩
theorem dX10_bought_108 : Dc cX10_bought 108 (.ireturn) 1 109 := ⟨by decide +kernel, rfl⟩
theorem dX10_leastHungerAt_0 : Dc cX10_leastHungerAt 0 (.iconst 0) 1 1 := ⟨by decide +kernel, rfl⟩
theorem dX10_leastHungerAt_1 : Dc cX10_leastHungerAt 1 (.istore_n 2) 1 2 := ⟨by decide +kernel, rfl⟩
theorem dX10_leastHungerAt_2 : Dc cX10_leastHungerAt 2 (.iload_n 2) 1 3 := ⟨by decide +kernel, rfl⟩
theorem dX10_leastHungerAt_3 : Dc cX10_leastHungerAt 3 (.bipush 99) 2 5 := ⟨by decide +kernel, rfl⟩
theorem dX10_leastHungerAt_5 : Dj cX10_leastHungerAt 5 (.if_icmp .gt 20) 3 8 (20) 25 := ⟨by decide +kernel, rfl, by decide⟩
theorem dX10_leastHungerAt_8 : Dc cX10_leastHungerAt 8 (.iload_n 0) 1 9 := ⟨by decide +kernel, rfl⟩
theorem dX10_leastHungerAt_9 : Dc cX10_leastHungerAt 9 (.iload_n 2) 1 10 := ⟨by decide +kernel, rfl⟩
theorem dX10_leastHungerAt_10 : Dc cX10_leastHungerAt 10 (.invokestatic 241) 3 13 := ⟨by decide +kernel, rfl⟩
theorem dX10_leastHungerAt_13 : Dc cX10_leastHungerAt 13 (.iload_n 1) 1 14 := ⟨by decide +kernel, rfl⟩
theorem dX10_leastHungerAt_14 : Dj cX10_leastHungerAt 14 (.if_icmp .ne 5) 3 17 (5) 19 := ⟨by decide +kernel, rfl, by decide⟩
theorem dX10_leastHungerAt_17 : Dc cX10_leastHungerAt 17 (.iload_n 2) 1 18 := ⟨by decide +kernel, rfl⟩
theorem dX10_leastHungerAt_18 : Dc cX10_leastHungerAt 18 (.ireturn) 1 19 := ⟨by decide +kernel, rfl⟩
theorem dX10_leastHungerAt_19 : Dc cX10_leastHungerAt 19 (.iinc 2 1) 3 22 := ⟨by decide +kernel, rfl⟩
theorem dX10_leastHungerAt_22 : Dj cX10_leastHungerAt 22 (.goto (-20)) 3 25 (-20) 2 := ⟨by decide +kernel, rfl, by decide⟩
theorem dX10_leastHungerAt_25 : Dc cX10_leastHungerAt 25 (.iconst (-1)) 1 26 := ⟨by decide +kernel, rfl⟩
theorem dX10_leastHungerAt_26 : Dc cX10_leastHungerAt 26 (.ireturn) 1 27 := ⟨by decide +kernel, rfl⟩
theorem dX10_priceAt_0 : Dc cX10_priceAt 0 (.iload_n 0) 1 1 := ⟨by decide +kernel, rfl⟩
theorem dX10_priceAt_1 : Dc cX10_priceAt 1 (.bipush 10) 2 3 := ⟨by decide +kernel, rfl⟩
theorem dX10_priceAt_3 : Dc cX10_priceAt 3 (.iconst 3) 1 4 := ⟨by decide +kernel, rfl⟩
theorem dX10_priceAt_4 : Dc cX10_priceAt 4 (.iload_n 1) 1 5 := ⟨by decide +kernel, rfl⟩
theorem dX10_priceAt_5 : Dc cX10_priceAt 5 (.imul) 1 6 := ⟨by decide +kernel, rfl⟩
theorem dX10_priceAt_6 : Dc cX10_priceAt 6 (.iadd) 1 7 := ⟨by decide +kernel, rfl⟩
theorem dX10_priceAt_7 : Dc cX10_priceAt 7 (.imul) 1 8 := ⟨by decide +kernel, rfl⟩
theorem dX10_priceAt_8 : Dc cX10_priceAt 8 (.bipush 10) 2 10 := ⟨by decide +kernel, rfl⟩
theorem dX10_priceAt_10 : Dc cX10_priceAt 10 (.idiv) 1 11 := ⟨by decide +kernel, rfl⟩
theorem dX10_priceAt_11 : Dc cX10_priceAt 11 (.ireturn) 1 12 := ⟨by decide +kernel, rfl⟩
theorem dX10_offer_0 : Dc cX10_offer 0 (.iload_n 1) 1 1 := ⟨by decide +kernel, rfl⟩
theorem dX10_offer_1 : Dc cX10_offer 1 (.iconst 1) 1 2 := ⟨by decide +kernel, rfl⟩
theorem dX10_offer_2 : Dc cX10_offer 2 (.sipush 999) 3 5 := ⟨by decide +kernel, rfl⟩
theorem dX10_offer_5 : Dc cX10_offer 5 (.invokestatic 82) 3 8 := ⟨by decide +kernel, rfl⟩
theorem dX10_offer_8 : Dj cX10_offer 8 (.ifCond .eq 14) 3 11 (14) 22 := ⟨by decide +kernel, rfl, by decide⟩
theorem dX10_offer_11 : Dc cX10_offer 11 (.iload_n 2) 1 12 := ⟨by decide +kernel, rfl⟩
theorem dX10_offer_12 : Dc cX10_offer 12 (.iconst 0) 1 13 := ⟨by decide +kernel, rfl⟩
theorem dX10_offer_13 : Dc cX10_offer 13 (.ldc_w 283) 3 16 := ⟨by decide +kernel, rfl⟩
theorem dX10_offer_16 : Dc cX10_offer 16 (.invokestatic 82) 3 19 := ⟨by decide +kernel, rfl⟩
theorem dX10_offer_19 : Dj cX10_offer 19 (.ifCond .ne 6) 3 22 (6) 25 := ⟨by decide +kernel, rfl, by decide⟩
theorem dX10_offer_22 : Dc cX10_offer 22 (.ldc 86) 2 24 := ⟨by decide +kernel, rfl⟩
theorem dX10_offer_24 : Dc cX10_offer 24 (.ireturn) 1 25 := ⟨by decide +kernel, rfl⟩
theorem dX10_offer_25 : Dc cX10_offer 25 (.aload_n 0) 1 26 := ⟨by decide +kernel, rfl⟩
theorem dX10_offer_26 : Dc cX10_offer 26 (.getfield 26) 3 29 := ⟨by decide +kernel, rfl⟩
theorem dX10_offer_29 : Dc cX10_offer 29 (.getfield 138) 3 32 := ⟨by decide +kernel, rfl⟩
theorem dX10_offer_32 : Dj cX10_offer 32 (.ifCond .ne 6) 3 35 (6) 38 := ⟨by decide +kernel, rfl, by decide⟩
theorem dX10_offer_35 : Dc cX10_offer 35 (.ldc 213) 2 37 := ⟨by decide +kernel, rfl⟩
theorem dX10_offer_37 : Dc cX10_offer 37 (.ireturn) 1 38 := ⟨by decide +kernel, rfl⟩
theorem dX10_offer_38 : Dc cX10_offer 38 (.iload_n 2) 1 39 := ⟨by decide +kernel, rfl⟩
theorem dX10_offer_39 : Dc cX10_offer 39 (.iload_n 1) 1 40 := ⟨by decide +kernel, rfl⟩
theorem dX10_offer_40 : Dc cX10_offer 40 (.aload_n 0) 1 41 := ⟨by decide +kernel, rfl⟩
theorem dX10_offer_41 : Dc cX10_offer 41 (.iconst 0) 1 42 := ⟨by decide +kernel, rfl⟩
theorem dX10_offer_42 : Dc cX10_offer 42 (.bipush 9) 2 44 := ⟨by decide +kernel, rfl⟩
theorem dX10_offer_44 : Dc cX10_offer 44 (.invokevirtual 244) 3 47 := ⟨by decide +kernel, rfl⟩
theorem dX10_offer_47 : Dc cX10_offer 47 (.imul) 1 48 := ⟨by decide +kernel, rfl⟩
theorem dX10_offer_48 : Dj cX10_offer 48 (.if_icmp .le 7) 3 51 (7) 55 := ⟨by decide +kernel, rfl, by decide⟩
theorem dX10_offer_51 : Dc cX10_offer 51 (.iconst 1) 1 52 := ⟨by decide +kernel, rfl⟩
theorem dX10_offer_52 : Dj cX10_offer 52 (.goto 4) 3 55 (4) 56 := ⟨by decide +kernel, rfl, by decide⟩
theorem dX10_offer_55 : Dc cX10_offer 55 (.iconst 0) 1 56 := ⟨by decide +kernel, rfl⟩
theorem dX10_offer_56 : Dc cX10_offer 56 (.ireturn) 1 57 := ⟨by decide +kernel, rfl⟩
theorem dX10_show_0 : Dc cX10_show 0 (.aload_n 0) 1 1 := ⟨by decide +kernel, rfl⟩
theorem dX10_show_1 : Dc cX10_show 1 (.iload_n 1) 1 2 := ⟨by decide +kernel, rfl⟩
theorem dX10_show_2 : Dc cX10_show 2 (.invokevirtual 185) 3 5 := ⟨by decide +kernel, rfl⟩
theorem dX10_show_5 : Dj cX10_show 5 (.ifCond .ne 6) 3 8 (6) 11 := ⟨by decide +kernel, rfl, by decide⟩
theorem dX10_show_8 : Dc cX10_show 8 (.ldc 168) 2 10 := ⟨by decide +kernel, rfl⟩
theorem dX10_show_10 : Dc cX10_show 10 (.ireturn) 1 11 := ⟨by decide +kernel, rfl⟩
theorem dX10_show_11 : Dc cX10_show 11 (.iload_n 2) 1 12 := ⟨by decide +kernel, rfl⟩
theorem dX10_show_12 : Dc cX10_show 12 (.iconst 0) 1 13 := ⟨by decide +kernel, rfl⟩
theorem dX10_show_13 : Dc cX10_show 13 (.bipush 99) 2 15 := ⟨by decide +kernel, rfl⟩
theorem dX10_show_15 : Dc cX10_show 15 (.invokestatic 82) 3 18 := ⟨by decide +kernel, rfl⟩
theorem dX10_show_18 : Dj cX10_show 18 (.ifCond .eq 24) 3 21 (24) 42 := ⟨by decide +kernel, rfl, by decide⟩
theorem dX10_show_21 : Dc cX10_show 21 (.iload_n 3) 1 22 := ⟨by decide +kernel, rfl⟩
theorem dX10_show_22 : Dc cX10_show 22 (.iconst 0) 1 23 := ⟨by decide +kernel, rfl⟩
theorem dX10_show_23 : Dc cX10_show 23 (.bipush 99) 2 25 := ⟨by decide +kernel, rfl⟩
theorem dX10_show_25 : Dc cX10_show 25 (.invokestatic 82) 3 28 := ⟨by decide +kernel, rfl⟩
theorem dX10_show_28 : Dj cX10_show 28 (.ifCond .eq 14) 3 31 (14) 42 := ⟨by decide +kernel, rfl, by decide⟩
theorem dX10_show_31 : Dc cX10_show 31 (.iload 4) 2 33 := ⟨by decide +kernel, rfl⟩
theorem dX10_show_33 : Dc cX10_show 33 (.iconst 0) 1 34 := ⟨by decide +kernel, rfl⟩
theorem dX10_show_34 : Dc cX10_show 34 (.bipush 99) 2 36 := ⟨by decide +kernel, rfl⟩
theorem dX10_show_36 : Dc cX10_show 36 (.invokestatic 82) 3 39 := ⟨by decide +kernel, rfl⟩
theorem dX10_show_39 : Dj cX10_show 39 (.ifCond .ne 6) 3 42 (6) 45 := ⟨by decide +kernel, rfl, by decide⟩
theorem dX10_show_42 : Dc cX10_show 42 (.ldc 86) 2 44 := ⟨by decide +kernel, rfl⟩
theorem dX10_show_44 : Dc cX10_show 44 (.ireturn) 1 45 := ⟨by decide +kernel, rfl⟩
theorem dX10_show_45 : Dc cX10_show 45 (.aload_n 0) 1 46 := ⟨by decide +kernel, rfl⟩
theorem dX10_show_46 : Dc cX10_show 46 (.getfield 63) 3 49 := ⟨by decide +kernel, rfl⟩
theorem dX10_show_49 : Dc cX10_show 49 (.getfield 118) 3 52 := ⟨by decide +kernel, rfl⟩
theorem dX10_show_52 : Dc cX10_show 52 (.bipush 8) 2 54 := ⟨by decide +kernel, rfl⟩
theorem dX10_show_54 : Dj cX10_show 54 (.if_icmp .lt 6) 3 57 (6) 60 := ⟨by decide +kernel, rfl, by decide⟩
theorem dX10_show_57 : Dc cX10_show 57 (.ldc 90) 2 59 := ⟨by decide +kernel, rfl⟩
theorem dX10_show_59 : Dc cX10_show 59 (.ireturn) 1 60 := ⟨by decide +kernel, rfl⟩
theorem dX10_show_60 : Dc cX10_show 60 (.aload_n 0) 1 61 := ⟨by decide +kernel, rfl⟩
theorem dX10_show_61 : Dc cX10_show 61 (.getfield 63) 3 64 := ⟨by decide +kernel, rfl⟩
theorem dX10_show_64 : Dc cX10_show 64 (.iload_n 1) 1 65 := ⟨by decide +kernel, rfl⟩
theorem dX10_show_65 : Dc cX10_show 65 (.iload_n 2) 1 66 := ⟨by decide +kernel, rfl⟩
theorem dX10_show_66 : Dc cX10_show 66 (.iload_n 3) 1 67 := ⟨by decide +kernel, rfl⟩
theorem dX10_show_67 : Dc cX10_show 67 (.iload 4) 2 69 := ⟨by decide +kernel, rfl⟩
theorem dX10_show_69 : Dc cX10_show 69 (.invokevirtual 284) 3 72 := ⟨by decide +kernel, rfl⟩
theorem dX10_show_72 : Dc cX10_show 72 (.aload_n 0) 1 73 := ⟨by decide +kernel, rfl⟩
theorem dX10_show_73 : Dc cX10_show 73 (.getfield 63) 3 76 := ⟨by decide +kernel, rfl⟩
theorem dX10_show_76 : Dc cX10_show 76 (.getfield 118) 3 79 := ⟨by decide +kernel, rfl⟩
theorem dX10_show_79 : Dc cX10_show 79 (.ireturn) 1 80 := ⟨by decide +kernel, rfl⟩
theorem dX10_forged_0 : Dc cX10_forged 0 (.aload_n 0) 1 1 := ⟨by decide +kernel, rfl⟩
theorem dX10_forged_1 : Dc cX10_forged 1 (.getfield 63) 3 4 := ⟨by decide +kernel, rfl⟩
theorem dX10_forged_4 : Dc cX10_forged 4 (.aload_n 0) 1 5 := ⟨by decide +kernel, rfl⟩
theorem dX10_forged_5 : Dc cX10_forged 5 (.getfield 26) 3 8 := ⟨by decide +kernel, rfl⟩
theorem dX10_forged_8 : Dc cX10_forged 8 (.invokevirtual 288) 3 11 := ⟨by decide +kernel, rfl⟩
theorem dX10_forged_11 : Dc cX10_forged 11 (.ireturn) 1 12 := ⟨by decide +kernel, rfl⟩
theorem dX10_weighFirst_0 : Dc cX10_weighFirst 0 (.aload_n 0) 1 1 := ⟨by decide +kernel, rfl⟩
theorem dX10_weighFirst_1 : Dc cX10_weighFirst 1 (.getfield 63) 3 4 := ⟨by decide +kernel, rfl⟩
theorem dX10_weighFirst_4 : Dc cX10_weighFirst 4 (.aload_n 0) 1 5 := ⟨by decide +kernel, rfl⟩
theorem dX10_weighFirst_5 : Dc cX10_weighFirst 5 (.getfield 26) 3 8 := ⟨by decide +kernel, rfl⟩
theorem dX10_weighFirst_8 : Dc cX10_weighFirst 8 (.invokevirtual 292) 3 11 := ⟨by decide +kernel, rfl⟩
theorem dX10_weighFirst_11 : Dc cX10_weighFirst 11 (.ireturn) 1 12 := ⟨by decide +kernel, rfl⟩
theorem dX10_write_0 : Dc cX10_write 0 (.aload_n 0) 1 1 := ⟨by decide +kernel, rfl⟩
theorem dX10_write_1 : Dc cX10_write 1 (.iload_n 1) 1 2 := ⟨by decide +kernel, rfl⟩
theorem dX10_write_2 : Dc cX10_write 2 (.invokevirtual 164) 3 5 := ⟨by decide +kernel, rfl⟩
theorem dX10_write_5 : Dj cX10_write 5 (.ifCond .ne 6) 3 8 (6) 11 := ⟨by decide +kernel, rfl, by decide⟩
theorem dX10_write_8 : Dc cX10_write 8 (.ldc 168) 2 10 := ⟨by decide +kernel, rfl⟩
theorem dX10_write_10 : Dc cX10_write 10 (.ireturn) 1 11 := ⟨by decide +kernel, rfl⟩
theorem dX10_write_11 : Dc cX10_write 11 (.iload_n 2) 1 12 := ⟨by decide +kernel, rfl⟩
theorem dX10_write_12 : Dc cX10_write 12 (.iconst 0) 1 13 := ⟨by decide +kernel, rfl⟩
theorem dX10_write_13 : Dc cX10_write 13 (.bipush 99) 2 15 := ⟨by decide +kernel, rfl⟩
theorem dX10_write_15 : Dc cX10_write 15 (.invokestatic 82) 3 18 := ⟨by decide +kernel, rfl⟩
theorem dX10_write_18 : Dj cX10_write 18 (.ifCond .ne 6) 3 21 (6) 24 := ⟨by decide +kernel, rfl, by decide⟩
theorem dX10_write_21 : Dc cX10_write 21 (.ldc 86) 2 23 := ⟨by decide +kernel, rfl⟩
theorem dX10_write_23 : Dc cX10_write 23 (.ireturn) 1 24 := ⟨by decide +kernel, rfl⟩
theorem dX10_write_24 : Dc cX10_write 24 (.aload_n 0) 1 25 := ⟨by decide +kernel, rfl⟩
theorem dX10_write_25 : Dc cX10_write 25 (.getfield 70) 3 28 := ⟨by decide +kernel, rfl⟩
theorem dX10_write_28 : Dc cX10_write 28 (.getfield 121) 3 31 := ⟨by decide +kernel, rfl⟩
theorem dX10_write_31 : Dc cX10_write 31 (.bipush 15) 2 33 := ⟨by decide +kernel, rfl⟩
theorem dX10_write_33 : Dj cX10_write 33 (.if_icmp .lt 6) 3 36 (6) 39 := ⟨by decide +kernel, rfl, by decide⟩
theorem dX10_write_36 : Dc cX10_write 36 (.ldc 90) 2 38 := ⟨by decide +kernel, rfl⟩
theorem dX10_write_38 : Dc cX10_write 38 (.ireturn) 1 39 := ⟨by decide +kernel, rfl⟩
theorem dX10_write_39 : Dc cX10_write 39 (.aload_n 0) 1 40 := ⟨by decide +kernel, rfl⟩
theorem dX10_write_40 : Dc cX10_write 40 (.getfield 70) 3 43 := ⟨by decide +kernel, rfl⟩
theorem dX10_write_43 : Dc cX10_write 43 (.iload_n 1) 1 44 := ⟨by decide +kernel, rfl⟩
theorem dX10_write_44 : Dc cX10_write 44 (.iload_n 2) 1 45 := ⟨by decide +kernel, rfl⟩
theorem dX10_write_45 : Dc cX10_write 45 (.invokevirtual 295) 3 48 := ⟨by decide +kernel, rfl⟩
theorem dX10_write_48 : Dc cX10_write 48 (.aload_n 0) 1 49 := ⟨by decide +kernel, rfl⟩
theorem dX10_write_49 : Dc cX10_write 49 (.getfield 70) 3 52 := ⟨by decide +kernel, rfl⟩
theorem dX10_write_52 : Dc cX10_write 52 (.getfield 121) 3 55 := ⟨by decide +kernel, rfl⟩
theorem dX10_write_55 : Dc cX10_write 55 (.ireturn) 1 56 := ⟨by decide +kernel, rfl⟩
theorem dX10_tear_0 : Dc cX10_tear 0 (.aload_n 0) 1 1 := ⟨by decide +kernel, rfl⟩
theorem dX10_tear_1 : Dc cX10_tear 1 (.getfield 63) 3 4 := ⟨by decide +kernel, rfl⟩
theorem dX10_tear_4 : Dc cX10_tear 4 (.getfield 118) 3 7 := ⟨by decide +kernel, rfl⟩
theorem dX10_tear_7 : Dc cX10_tear 7 (.aload_n 0) 1 8 := ⟨by decide +kernel, rfl⟩
theorem dX10_tear_8 : Dc cX10_tear 8 (.getfield 70) 3 11 := ⟨by decide +kernel, rfl⟩
theorem dX10_tear_11 : Dc cX10_tear 11 (.getfield 121) 3 14 := ⟨by decide +kernel, rfl⟩
theorem dX10_tear_14 : Dc cX10_tear 14 (.iadd) 1 15 := ⟨by decide +kernel, rfl⟩
theorem dX10_tear_15 : Dc cX10_tear 15 (.istore_n 1) 1 16 := ⟨by decide +kernel, rfl⟩
theorem dX10_tear_16 : Dc cX10_tear 16 (.aload_n 0) 1 17 := ⟨by decide +kernel, rfl⟩
theorem dX10_tear_17 : Dc cX10_tear 17 (.getfield 63) 3 20 := ⟨by decide +kernel, rfl⟩
theorem dX10_tear_20 : Dc cX10_tear 20 (.iconst 0) 1 21 := ⟨by decide +kernel, rfl⟩
theorem dX10_tear_21 : Dc cX10_tear 21 (.putfield 118) 3 24 := ⟨by decide +kernel, rfl⟩
theorem dX10_tear_24 : Dc cX10_tear 24 (.aload_n 0) 1 25 := ⟨by decide +kernel, rfl⟩
theorem dX10_tear_25 : Dc cX10_tear 25 (.getfield 70) 3 28 := ⟨by decide +kernel, rfl⟩
theorem dX10_tear_28 : Dc cX10_tear 28 (.iconst 0) 1 29 := ⟨by decide +kernel, rfl⟩
theorem dX10_tear_29 : Dc cX10_tear 29 (.putfield 121) 3 32 := ⟨by decide +kernel, rfl⟩
theorem dX10_tear_32 : Dc cX10_tear 32 (.iload_n 1) 1 33 := ⟨by decide +kernel, rfl⟩
theorem dX10_tear_33 : Dc cX10_tear 33 (.ireturn) 1 34 := ⟨by decide +kernel, rfl⟩
theorem dX10_judge_0 : Dc cX10_judge 0 (.aload_n 0) 1 1 := ⟨by decide +kernel, rfl⟩
theorem dX10_judge_1 : Dc cX10_judge 1 (.getfield 70) 3 4 := ⟨by decide +kernel, rfl⟩
theorem dX10_judge_4 : Dc cX10_judge 4 (.aload_n 0) 1 5 := ⟨by decide +kernel, rfl⟩
theorem dX10_judge_5 : Dc cX10_judge 5 (.getfield 36) 3 8 := ⟨by decide +kernel, rfl⟩
theorem dX10_judge_8 : Dc cX10_judge 8 (.getfield 126) 3 11 := ⟨by decide +kernel, rfl⟩
theorem dX10_judge_11 : Dc cX10_judge 11 (.invokevirtual 298) 3 14 := ⟨by decide +kernel, rfl⟩
theorem dX10_judge_14 : Dc cX10_judge 14 (.ireturn) 1 15 := ⟨by decide +kernel, rfl⟩
theorem dX10_seed_0 : Dc cX10_seed 0 (.iload_n 1) 1 1 := ⟨by decide +kernel, rfl⟩
theorem dX10_seed_1 : Dj cX10_seed 1 (.ifCond .ge 6) 3 4 (6) 7 := ⟨by decide +kernel, rfl, by decide⟩
theorem dX10_seed_4 : Dc cX10_seed 4 (.ldc 86) 2 6 := ⟨by decide +kernel, rfl⟩
theorem dX10_seed_6 : Dc cX10_seed 6 (.ireturn) 1 7 := ⟨by decide +kernel, rfl⟩
theorem dX10_seed_7 : Dc cX10_seed 7 (.aload_n 0) 1 8 := ⟨by decide +kernel, rfl⟩
theorem dX10_seed_8 : Dc cX10_seed 8 (.getfield 74) 3 11 := ⟨by decide +kernel, rfl⟩
theorem dX10_seed_11 : Dc cX10_seed 11 (.istore_n 2) 1 12 := ⟨by decide +kernel, rfl⟩
theorem dX10_seed_12 : Dc cX10_seed 12 (.aload_n 0) 1 13 := ⟨by decide +kernel, rfl⟩
theorem dX10_seed_13 : Dc cX10_seed 13 (.iload_n 1) 1 14 := ⟨by decide +kernel, rfl⟩
theorem dX10_seed_14 : Dc cX10_seed 14 (.putfield 74) 3 17 := ⟨by decide +kernel, rfl⟩
theorem dX10_seed_17 : Dc cX10_seed 17 (.iload_n 2) 1 18 := ⟨by decide +kernel, rfl⟩
theorem dX10_seed_18 : Dc cX10_seed 18 (.ireturn) 1 19 := ⟨by decide +kernel, rfl⟩
theorem dX10_keep_0 : Dc cX10_keep 0 (.iload_n 1) 1 1 := ⟨by decide +kernel, rfl⟩
theorem dX10_keep_1 : Dc cX10_keep 1 (.iconst 0) 1 2 := ⟨by decide +kernel, rfl⟩
theorem dX10_keep_2 : Dc cX10_keep 2 (.iconst 1) 1 3 := ⟨by decide +kernel, rfl⟩
theorem dX10_keep_3 : Dc cX10_keep 3 (.invokestatic 82) 3 6 := ⟨by decide +kernel, rfl⟩
theorem dX10_keep_6 : Dj cX10_keep 6 (.ifCond .ne 6) 3 9 (6) 12 := ⟨by decide +kernel, rfl, by decide⟩
theorem dX10_keep_9 : Dc cX10_keep 9 (.ldc 168) 2 11 := ⟨by decide +kernel, rfl⟩
theorem dX10_keep_11 : Dc cX10_keep 11 (.ireturn) 1 12 := ⟨by decide +kernel, rfl⟩
theorem dX10_keep_12 : Dc cX10_keep 12 (.aload_n 0) 1 13 := ⟨by decide +kernel, rfl⟩
theorem dX10_keep_13 : Dc cX10_keep 13 (.getfield 49) 3 16 := ⟨by decide +kernel, rfl⟩
theorem dX10_keep_16 : Dc cX10_keep 16 (.iload_n 1) 1 17 := ⟨by decide +kernel, rfl⟩
theorem dX10_keep_17 : Dc cX10_keep 17 (.aaload) 1 18 := ⟨by decide +kernel, rfl⟩
theorem dX10_keep_18 : Dc cX10_keep 18 (.getfield 302) 3 21 := ⟨by decide +kernel, rfl⟩
theorem dX10_keep_21 : Dc cX10_keep 21 (.aload_n 0) 1 22 := ⟨by decide +kernel, rfl⟩
theorem dX10_keep_22 : Dc cX10_keep 22 (.getfield 36) 3 25 := ⟨by decide +kernel, rfl⟩
theorem dX10_keep_25 : Dc cX10_keep 25 (.invokevirtual 305) 3 28 := ⟨by decide +kernel, rfl⟩
theorem dX10_keep_28 : Dc cX10_keep 28 (.aload_n 0) 1 29 := ⟨by decide +kernel, rfl⟩
theorem dX10_keep_29 : Dc cX10_keep 29 (.getfield 49) 3 32 := ⟨by decide +kernel, rfl⟩
theorem dX10_keep_32 : Dc cX10_keep 32 (.iload_n 1) 1 33 := ⟨by decide +kernel, rfl⟩
theorem dX10_keep_33 : Dc cX10_keep 33 (.aaload) 1 34 := ⟨by decide +kernel, rfl⟩
theorem dX10_keep_34 : Dc cX10_keep 34 (.aload_n 0) 1 35 := ⟨by decide +kernel, rfl⟩
theorem dX10_keep_35 : Dc cX10_keep 35 (.getfield 74) 3 38 := ⟨by decide +kernel, rfl⟩
theorem dX10_keep_38 : Dc cX10_keep 38 (.putfield 308) 3 41 := ⟨by decide +kernel, rfl⟩
theorem dX10_keep_41 : Dc cX10_keep 41 (.aload_n 0) 1 42 := ⟨by decide +kernel, rfl⟩
theorem dX10_keep_42 : Dc cX10_keep 42 (.getfield 49) 3 45 := ⟨by decide +kernel, rfl⟩
theorem dX10_keep_45 : Dc cX10_keep 45 (.iload_n 1) 1 46 := ⟨by decide +kernel, rfl⟩
theorem dX10_keep_46 : Dc cX10_keep 46 (.aaload) 1 47 := ⟨by decide +kernel, rfl⟩
theorem dX10_keep_47 : Dc cX10_keep 47 (.iconst 1) 1 48 := ⟨by decide +kernel, rfl⟩
theorem dX10_keep_48 : Dc cX10_keep 48 (.putfield 122) 3 51 := ⟨by decide +kernel, rfl⟩
theorem dX10_keep_51 : Dc cX10_keep 51 (.aload_n 0) 1 52 := ⟨by decide +kernel, rfl⟩
theorem dX10_keep_52 : Dc cX10_keep 52 (.getfield 43) 3 55 := ⟨by decide +kernel, rfl⟩
theorem dX10_keep_55 : Dc cX10_keep 55 (.invokevirtual 115) 3 58 := ⟨by decide +kernel, rfl⟩
theorem dX10_keep_58 : Dc cX10_keep 58 (.iconst 1) 1 59 := ⟨by decide +kernel, rfl⟩
theorem dX10_keep_59 : Dc cX10_keep 59 (.ireturn) 1 60 := ⟨by decide +kernel, rfl⟩
theorem dX10_goBack_0 : Dc cX10_goBack 0 (.iload_n 1) 1 1 := ⟨by decide +kernel, rfl⟩
theorem dX10_goBack_1 : Dc cX10_goBack 1 (.iconst 0) 1 2 := ⟨by decide +kernel, rfl⟩
theorem dX10_goBack_2 : Dc cX10_goBack 2 (.iconst 1) 1 3 := ⟨by decide +kernel, rfl⟩
theorem dX10_goBack_3 : Dc cX10_goBack 3 (.invokestatic 82) 3 6 := ⟨by decide +kernel, rfl⟩
theorem dX10_goBack_6 : Dj cX10_goBack 6 (.ifCond .ne 6) 3 9 (6) 12 := ⟨by decide +kernel, rfl, by decide⟩
theorem dX10_goBack_9 : Dc cX10_goBack 9 (.ldc 168) 2 11 := ⟨by decide +kernel, rfl⟩
theorem dX10_goBack_11 : Dc cX10_goBack 11 (.ireturn) 1 12 := ⟨by decide +kernel, rfl⟩
theorem dX10_goBack_12 : Dc cX10_goBack 12 (.aload_n 0) 1 13 := ⟨by decide +kernel, rfl⟩
theorem dX10_goBack_13 : Dc cX10_goBack 13 (.getfield 49) 3 16 := ⟨by decide +kernel, rfl⟩
theorem dX10_goBack_16 : Dc cX10_goBack 16 (.iload_n 1) 1 17 := ⟨by decide +kernel, rfl⟩
theorem dX10_goBack_17 : Dc cX10_goBack 17 (.aaload) 1 18 := ⟨by decide +kernel, rfl⟩
theorem dX10_goBack_18 : Dc cX10_goBack 18 (.getfield 122) 3 21 := ⟨by decide +kernel, rfl⟩
theorem dX10_goBack_21 : Dj cX10_goBack 21 (.ifCond .ne 6) 3 24 (6) 27 := ⟨by decide +kernel, rfl, by decide⟩
theorem dX10_goBack_24 : Dc cX10_goBack 24 (.ldc 213) 2 26 := ⟨by decide +kernel, rfl⟩
theorem dX10_goBack_26 : Dc cX10_goBack 26 (.ireturn) 1 27 := ⟨by decide +kernel, rfl⟩
theorem dX10_goBack_27 : Dc cX10_goBack 27 (.aload_n 0) 1 28 := ⟨by decide +kernel, rfl⟩
theorem dX10_goBack_28 : Dc cX10_goBack 28 (.getfield 36) 3 31 := ⟨by decide +kernel, rfl⟩
theorem dX10_goBack_31 : Dc cX10_goBack 31 (.aload_n 0) 1 32 := ⟨by decide +kernel, rfl⟩
theorem dX10_goBack_32 : Dc cX10_goBack 32 (.getfield 49) 3 35 := ⟨by decide +kernel, rfl⟩
theorem dX10_goBack_35 : Dc cX10_goBack 35 (.iload_n 1) 1 36 := ⟨by decide +kernel, rfl⟩
theorem dX10_goBack_36 : Dc cX10_goBack 36 (.aaload) 1 37 := ⟨by decide +kernel, rfl⟩
theorem dX10_goBack_37 : Dc cX10_goBack 37 (.getfield 302) 3 40 := ⟨by decide +kernel, rfl⟩
theorem dX10_goBack_40 : Dc cX10_goBack 40 (.invokevirtual 305) 3 43 := ⟨by decide +kernel, rfl⟩
theorem dX10_goBack_43 : Dc cX10_goBack 43 (.aload_n 0) 1 44 := ⟨by decide +kernel, rfl⟩
theorem dX10_goBack_44 : Dc cX10_goBack 44 (.aload_n 0) 1 45 := ⟨by decide +kernel, rfl⟩
theorem dX10_goBack_45 : Dc cX10_goBack 45 (.getfield 49) 3 48 := ⟨by decide +kernel, rfl⟩
theorem dX10_goBack_48 : Dc cX10_goBack 48 (.iload_n 1) 1 49 := ⟨by decide +kernel, rfl⟩
theorem dX10_goBack_49 : Dc cX10_goBack 49 (.aaload) 1 50 := ⟨by decide +kernel, rfl⟩
theorem dX10_goBack_50 : Dc cX10_goBack 50 (.getfield 308) 3 53 := ⟨by decide +kernel, rfl⟩
theorem dX10_goBack_53 : Dc cX10_goBack 53 (.putfield 74) 3 56 := ⟨by decide +kernel, rfl⟩
theorem dX10_goBack_56 : Dc cX10_goBack 56 (.aload_n 0) 1 57 := ⟨by decide +kernel, rfl⟩
theorem dX10_goBack_57 : Dc cX10_goBack 57 (.getfield 43) 3 60 := ⟨by decide +kernel, rfl⟩
theorem dX10_goBack_60 : Dc cX10_goBack 60 (.invokevirtual 115) 3 63 := ⟨by decide +kernel, rfl⟩
theorem dX10_goBack_63 : Dc cX10_goBack 63 (.iconst 1) 1 64 := ⟨by decide +kernel, rfl⟩
theorem dX10_goBack_64 : Dc cX10_goBack 64 (.ireturn) 1 65 := ⟨by decide +kernel, rfl⟩
theorem dX10_isCompany_0 : Dc cX10_isCompany 0 (.iload_n 1) 1 1 := ⟨by decide +kernel, rfl⟩
theorem dX10_isCompany_1 : Dc cX10_isCompany 1 (.iconst 0) 1 2 := ⟨by decide +kernel, rfl⟩
theorem dX10_isCompany_2 : Dc cX10_isCompany 2 (.aload_n 0) 1 3 := ⟨by decide +kernel, rfl⟩
theorem dX10_isCompany_3 : Dc cX10_isCompany 3 (.getfield 26) 3 6 := ⟨by decide +kernel, rfl⟩
theorem dX10_isCompany_6 : Dc cX10_isCompany 6 (.getfield 108) 3 9 := ⟨by decide +kernel, rfl⟩
theorem dX10_isCompany_9 : Dc cX10_isCompany 9 (.iconst 1) 1 10 := ⟨by decide +kernel, rfl⟩
theorem dX10_isCompany_10 : Dc cX10_isCompany 10 (.isub) 1 11 := ⟨by decide +kernel, rfl⟩
theorem dX10_isCompany_11 : Dc cX10_isCompany 11 (.invokestatic 82) 3 14 := ⟨by decide +kernel, rfl⟩
theorem dX10_isCompany_14 : Dc cX10_isCompany 14 (.ireturn) 1 15 := ⟨by decide +kernel, rfl⟩
theorem dX10_isMoney_0 : Dc cX10_isMoney 0 (.iload_n 1) 1 1 := ⟨by decide +kernel, rfl⟩
theorem dX10_isMoney_1 : Dc cX10_isMoney 1 (.iconst 0) 1 2 := ⟨by decide +kernel, rfl⟩
theorem dX10_isMoney_2 : Dc cX10_isMoney 2 (.aload_n 0) 1 3 := ⟨by decide +kernel, rfl⟩
theorem dX10_isMoney_3 : Dc cX10_isMoney 3 (.getfield 26) 3 6 := ⟨by decide +kernel, rfl⟩
theorem dX10_isMoney_6 : Dc cX10_isMoney 6 (.getfield 138) 3 9 := ⟨by decide +kernel, rfl⟩
theorem dX10_isMoney_9 : Dc cX10_isMoney 9 (.iconst 1) 1 10 := ⟨by decide +kernel, rfl⟩
theorem dX10_isMoney_10 : Dc cX10_isMoney 10 (.isub) 1 11 := ⟨by decide +kernel, rfl⟩
theorem dX10_isMoney_11 : Dc cX10_isMoney 11 (.invokestatic 82) 3 14 := ⟨by decide +kernel, rfl⟩
theorem dX10_isMoney_14 : Dc cX10_isMoney 14 (.ireturn) 1 15 := ⟨by decide +kernel, rfl⟩
theorem dX10_isGood_0 : Dc cX10_isGood 0 (.iload_n 1) 1 1 := ⟨by decide +kernel, rfl⟩
theorem dX10_isGood_1 : Dc cX10_isGood 1 (.iconst 0) 1 2 := ⟨by decide +kernel, rfl⟩
theorem dX10_isGood_2 : Dc cX10_isGood 2 (.aload_n 0) 1 3 := ⟨by decide +kernel, rfl⟩
theorem dX10_isGood_3 : Dc cX10_isGood 3 (.getfield 26) 3 6 := ⟨by decide +kernel, rfl⟩
theorem dX10_isGood_6 : Dc cX10_isGood 6 (.getfield 141) 3 9 := ⟨by decide +kernel, rfl⟩
theorem dX10_isGood_9 : Dc cX10_isGood 9 (.iconst 1) 1 10 := ⟨by decide +kernel, rfl⟩
theorem dX10_isGood_10 : Dc cX10_isGood 10 (.isub) 1 11 := ⟨by decide +kernel, rfl⟩
theorem dX10_isGood_11 : Dc cX10_isGood 11 (.invokestatic 82) 3 14 := ⟨by decide +kernel, rfl⟩
theorem dX10_isGood_14 : Dc cX10_isGood 14 (.ireturn) 1 15 := ⟨by decide +kernel, rfl⟩
theorem dX10_isBesieged_0 : Dc cX10_isBesieged 0 (.aload_n 0) 1 1 := ⟨by decide +kernel, rfl⟩
theorem dX10_isBesieged_1 : Dc cX10_isBesieged 1 (.getfield 26) 3 4 := ⟨by decide +kernel, rfl⟩
theorem dX10_isBesieged_4 : Dc cX10_isBesieged 4 (.getfield 161) 3 7 := ⟨by decide +kernel, rfl⟩
theorem dX10_isBesieged_7 : Dj cX10_isBesieged 7 (.ifCond .eq 17) 3 10 (17) 24 := ⟨by decide +kernel, rfl, by decide⟩
theorem dX10_isBesieged_10 : Dc cX10_isBesieged 10 (.aload_n 0) 1 11 := ⟨by decide +kernel, rfl⟩
theorem dX10_isBesieged_11 : Dc cX10_isBesieged 11 (.getfield 36) 3 14 := ⟨by decide +kernel, rfl⟩
theorem dX10_isBesieged_14 : Dc cX10_isBesieged 14 (.getfield 157) 3 17 := ⟨by decide +kernel, rfl⟩
theorem dX10_isBesieged_17 : Dj cX10_isBesieged 17 (.ifCond .ne 7) 3 20 (7) 24 := ⟨by decide +kernel, rfl, by decide⟩
theorem dX10_isBesieged_20 : Dc cX10_isBesieged 20 (.iconst 1) 1 21 := ⟨by decide +kernel, rfl⟩
theorem dX10_isBesieged_21 : Dj cX10_isBesieged 21 (.goto 4) 3 24 (4) 25 := ⟨by decide +kernel, rfl, by decide⟩
theorem dX10_isBesieged_24 : Dc cX10_isBesieged 24 (.iconst 0) 1 25 := ⟨by decide +kernel, rfl⟩
theorem dX10_isBesieged_25 : Dc cX10_isBesieged 25 (.ireturn) 1 26 := ⟨by decide +kernel, rfl⟩
theorem dX10_isRation_0 : Dc cX10_isRation 0 (.iload_n 0) 1 1 := ⟨by decide +kernel, rfl⟩
theorem dX10_isRation_1 : Dc cX10_isRation 1 (.iconst 0) 1 2 := ⟨by decide +kernel, rfl⟩
theorem dX10_isRation_2 : Dc cX10_isRation 2 (.iconst 3) 1 3 := ⟨by decide +kernel, rfl⟩
theorem dX10_isRation_3 : Dc cX10_isRation 3 (.invokestatic 82) 3 6 := ⟨by decide +kernel, rfl⟩
theorem dX10_isRation_6 : Dc cX10_isRation 6 (.ireturn) 1 7 := ⟨by decide +kernel, rfl⟩
theorem dX10_isReading_0 : Dc cX10_isReading 0 (.iload_n 0) 1 1 := ⟨by decide +kernel, rfl⟩
theorem dX10_isReading_1 : Dc cX10_isReading 1 (.iconst 0) 1 2 := ⟨by decide +kernel, rfl⟩
theorem dX10_isReading_2 : Dc cX10_isReading 2 (.iconst 2) 1 3 := ⟨by decide +kernel, rfl⟩
theorem dX10_isReading_3 : Dc cX10_isReading 3 (.invokestatic 82) 3 6 := ⟨by decide +kernel, rfl⟩
theorem dX10_isReading_6 : Dc cX10_isReading 6 (.ireturn) 1 7 := ⟨by decide +kernel, rfl⟩
theorem dX10_isWithin_0 : Dc cX10_isWithin 0 (.iload_n 1) 1 1 := ⟨by decide +kernel, rfl⟩
theorem dX10_isWithin_1 : Dc cX10_isWithin 1 (.iload_n 0) 1 2 := ⟨by decide +kernel, rfl⟩
theorem dX10_isWithin_2 : Dj cX10_isWithin 2 (.if_icmp .gt 12) 3 5 (12) 14 := ⟨by decide +kernel, rfl, by decide⟩
theorem dX10_isWithin_5 : Dc cX10_isWithin 5 (.iload_n 0) 1 6 := ⟨by decide +kernel, rfl⟩
theorem dX10_isWithin_6 : Dc cX10_isWithin 6 (.iload_n 2) 1 7 := ⟨by decide +kernel, rfl⟩
theorem dX10_isWithin_7 : Dj cX10_isWithin 7 (.if_icmp .gt 7) 3 10 (7) 14 := ⟨by decide +kernel, rfl, by decide⟩
theorem dX10_isWithin_10 : Dc cX10_isWithin 10 (.iconst 1) 1 11 := ⟨by decide +kernel, rfl⟩
theorem dX10_isWithin_11 : Dj cX10_isWithin 11 (.goto 4) 3 14 (4) 15 := ⟨by decide +kernel, rfl, by decide⟩
theorem dX10_isWithin_14 : Dc cX10_isWithin 14 (.iconst 0) 1 15 := ⟨by decide +kernel, rfl⟩
theorem dX10_isWithin_15 : Dc cX10_isWithin 15 (.ireturn) 1 16 := ⟨by decide +kernel, rfl⟩
end
section
theorem dX11_init_0 : Dc cX11_init 0 (.aload_n 0) 1 1 := ⟨by decide +kernel, rfl⟩
theorem dX11_init_1 : Dc cX11_init 1 (.invokespecial 1) 3 4 := ⟨by decide +kernel, rfl⟩
theorem dX11_init_4 : Dc cX11_init 4 (.aload_n 0) 1 5 := ⟨by decide +kernel, rfl⟩
theorem dX11_init_5 : Dc cX11_init 5 (.sipush 1080) 3 8 := ⟨by decide +kernel, rfl⟩
theorem dX11_init_8 : Dc cX11_init 8 (.newarray .int) 2 10 := ⟨by decide +kernel, rfl⟩
theorem dX11_init_10 : Dc cX11_init 10 (.putfield 7) 3 13 := ⟨by decide +kernel, rfl⟩
theorem dX11_init_13 : Dc cX11_init 13 (.aload_n 0) 1 14 := ⟨by decide +kernel, rfl⟩
theorem dX11_init_14 : Dc cX11_init 14 (.iconst 2) 1 15 := ⟨by decide +kernel, rfl⟩
theorem dX11_init_15 : Dc cX11_init 15 (.newarray .boolean) 2 17 := ⟨by decide +kernel, rfl⟩
theorem dX11_init_17 : Dc cX11_init 17 (.putfield 13) 3 20 := ⟨by decide +kernel, rfl⟩
theorem dX11_init_20 : Dc cX11_init 20 (.aload_n 0) 1 21 := ⟨by decide +kernel, rfl⟩
theorem dX11_init_21 : Dc cX11_init 21 (.iconst 5) 1 22 := ⟨by decide +kernel, rfl⟩
theorem dX11_init_22 : Dc cX11_init 22 (.newarray .int) 2 24 := ⟨by decide +kernel, rfl⟩
theorem dX11_init_24 : Dc cX11_init 24 (.putfield 17) 3 27 := ⟨by decide +kernel, rfl⟩
theorem dX11_init_27 : Dc cX11_init 27 (.aload_n 0) 1 28 := ⟨by decide +kernel, rfl⟩
theorem dX11_init_28 : Dc cX11_init 28 (.iconst 5) 1 29 := ⟨by decide +kernel, rfl⟩
theorem dX11_init_29 : Dc cX11_init 29 (.newarray .int) 2 31 := ⟨by decide +kernel, rfl⟩
theorem dX11_init_31 : Dc cX11_init 31 (.putfield 20) 3 34 := ⟨by decide +kernel, rfl⟩
theorem dX11_init_34 : Dc cX11_init 34 (.aload_n 0) 1 35 := ⟨by decide +kernel, rfl⟩
theorem dX11_init_35 : Dc cX11_init 35 (.iconst 4) 1 36 := ⟨by decide +kernel, rfl⟩
theorem dX11_init_36 : Dc cX11_init 36 (.newarray .int) 2 38 := ⟨by decide +kernel, rfl⟩
theorem dX11_init_38 : Dc cX11_init 38 (.putfield 23) 3 41 := ⟨by decide +kernel, rfl⟩
theorem dX11_init_41 : Dc cX11_init 41 (.aload_n 0) 1 42 := ⟨by decide +kernel, rfl⟩
theorem dX11_init_42 : Dc cX11_init 42 (.iconst 4) 1 43 := ⟨by decide +kernel, rfl⟩
theorem dX11_init_43 : Dc cX11_init 43 (.newarray .int) 2 45 := ⟨by decide +kernel, rfl⟩
theorem dX11_init_45 : Dc cX11_init 45 (.putfield 26) 3 48 := ⟨by decide +kernel, rfl⟩
theorem dX11_init_48 : Dc cX11_init 48 (.aload_n 0) 1 49 := ⟨by decide +kernel, rfl⟩
theorem dX11_init_49 : Dc cX11_init 49 (.bipush 6) 2 51 := ⟨by decide +kernel, rfl⟩
theorem dX11_init_51 : Dc cX11_init 51 (.newarray .int) 2 53 := ⟨by decide +kernel, rfl⟩
theorem dX11_init_53 : Dc cX11_init 53 (.putfield 29) 3 56 := ⟨by decide +kernel, rfl⟩
theorem dX11_init_56 : Dc cX11_init 56 (.aload_n 0) 1 57 := ⟨by decide +kernel, rfl⟩
theorem dX11_init_57 : Dc cX11_init 57 (.iconst 4) 1 58 := ⟨by decide +kernel, rfl⟩
theorem dX11_init_58 : Dc cX11_init 58 (.newarray .int) 2 60 := ⟨by decide +kernel, rfl⟩
theorem dX11_init_60 : Dc cX11_init 60 (.putfield 32) 3 63 := ⟨by decide +kernel, rfl⟩
theorem dX11_init_63 : Dc cX11_init 63 (.aload_n 0) 1 64 := ⟨by decide +kernel, rfl⟩
theorem dX11_init_64 : Dc cX11_init 64 (.iconst 4) 1 65 := ⟨by decide +kernel, rfl⟩
theorem dX11_init_65 : Dc cX11_init 65 (.newarray .int) 2 67 := ⟨by decide +kernel, rfl⟩
theorem dX11_init_67 : Dc cX11_init 67 (.putfield 35) 3 70 := ⟨by decide +kernel, rfl⟩
theorem dX11_init_70 : Dc cX11_init 70 (.aload_n 0) 1 71 := ⟨by decide +kernel, rfl⟩
theorem dX11_init_71 : Dc cX11_init 71 (.sipush 240) 3 74 := ⟨by decide +kernel, rfl⟩
theorem dX11_init_74 : Dc cX11_init 74 (.newarray .int) 2 76 := ⟨by decide +kernel, rfl⟩
theorem dX11_init_76 : Dc cX11_init 76 (.putfield 38) 3 79 := ⟨by decide +kernel, rfl⟩
theorem dX11_init_79 : Dc cX11_init 79 (.aload_n 0) 1 80 := ⟨by decide +kernel, rfl⟩
theorem dX11_init_80 : Dc cX11_init 80 (.iconst (-1)) 1 81 := ⟨by decide +kernel, rfl⟩
theorem dX11_init_81 : Dc cX11_init 81 (.putfield 41) 3 84 := ⟨by decide +kernel, rfl⟩
theorem dX11_init_84 : Dc cX11_init 84 (.aload_n 0) 1 85 := ⟨by decide +kernel, rfl⟩
theorem dX11_init_85 : Dc cX11_init 85 (.iconst 2) 1 86 := ⟨by decide +kernel, rfl⟩
theorem dX11_init_86 : Dc cX11_init 86 (.newarray .int) 2 88 := ⟨by decide +kernel, rfl⟩
theorem dX11_init_88 : Dc cX11_init 88 (.putfield 45) 3 91 := ⟨by decide +kernel, rfl⟩
theorem dX11_init_91 : Dc cX11_init 91 (.aload_n 0) 1 92 := ⟨by decide +kernel, rfl⟩
theorem dX11_init_92 : Dc cX11_init 92 (.bipush 15) 2 94 := ⟨by decide +kernel, rfl⟩
theorem dX11_init_94 : Dc cX11_init 94 (.newarray .int) 2 96 := ⟨by decide +kernel, rfl⟩
theorem dX11_init_96 : Dc cX11_init 96 (.putfield 48) 3 99 := ⟨by decide +kernel, rfl⟩
theorem dX11_init_99 : Dc cX11_init 99 (.aload_n 0) 1 100 := ⟨by decide +kernel, rfl⟩
theorem dX11_init_100 : Dc cX11_init 100 (.bipush 12) 2 102 := ⟨by decide +kernel, rfl⟩
theorem dX11_init_102 : Dc cX11_init 102 (.newarray .int) 2 104 := ⟨by decide +kernel, rfl⟩
theorem dX11_init_104 : Dc cX11_init 104 (.putfield 51) 3 107 := ⟨by decide +kernel, rfl⟩
theorem dX11_init_107 : Dc cX11_init 107 (.aload_n 0) 1 108 := ⟨by decide +kernel, rfl⟩
theorem dX11_init_108 : Dc cX11_init 108 (.bipush 6) 2 110 := ⟨by decide +kernel, rfl⟩
theorem dX11_init_110 : Dc cX11_init 110 (.newarray .int) 2 112 := ⟨by decide +kernel, rfl⟩
theorem dX11_init_112 : Dc cX11_init 112 (.putfield 54) 3 115 := ⟨by decide +kernel, rfl⟩
theorem dX11_init_115 : Dc cX11_init 115 (.aload_n 0) 1 116 := ⟨by decide +kernel, rfl⟩
theorem dX11_init_116 : Dc cX11_init 116 (.bipush 8) 2 118 := ⟨by decide +kernel, rfl⟩
theorem dX11_init_118 : Dc cX11_init 118 (.newarray .int) 2 120 := ⟨by decide +kernel, rfl⟩
theorem dX11_init_120 : Dc cX11_init 120 (.putfield 57) 3 123 := ⟨by decide +kernel, rfl⟩
theorem dX11_init_123 : Dc cX11_init 123 (.aload_n 0) 1 124 := ⟨by decide +kernel, rfl⟩
theorem dX11_init_124 : Dc cX11_init 124 (.bipush 8) 2 126 := ⟨by decide +kernel, rfl⟩
theorem dX11_init_126 : Dc cX11_init 126 (.newarray .int) 2 128 := ⟨by decide +kernel, rfl⟩
theorem dX11_init_128 : Dc cX11_init 128 (.putfield 60) 3 131 := ⟨by decide +kernel, rfl⟩
theorem dX11_init_131 : Dc cX11_init 131 (.aload_n 0) 1 132 := ⟨by decide +kernel, rfl⟩
theorem dX11_init_132 : Dc cX11_init 132 (.bipush 8) 2 134 := ⟨by decide +kernel, rfl⟩
theorem dX11_init_134 : Dc cX11_init 134 (.newarray .int) 2 136 := ⟨by decide +kernel, rfl⟩
theorem dX11_init_136 : Dc cX11_init 136 (.putfield 63) 3 139 := ⟨by decide +kernel, rfl⟩
theorem dX11_init_139 : Dc cX11_init 139 (.aload_n 0) 1 140 := ⟨by decide +kernel, rfl⟩
theorem dX11_init_140 : Dc cX11_init 140 (.bipush 8) 2 142 := ⟨by decide +kernel, rfl⟩
theorem dX11_init_142 : Dc cX11_init 142 (.newarray .int) 2 144 := ⟨by decide +kernel, rfl⟩
theorem dX11_init_144 : Dc cX11_init 144 (.putfield 66) 3 147 := ⟨by decide +kernel, rfl⟩
theorem dX11_init_147 : Dc cX11_init 147 (.aload_n 0) 1 148 := ⟨by decide +kernel, rfl⟩
theorem dX11_init_148 : Dc cX11_init 148 (.bipush 8) 2 150 := ⟨by decide +kernel, rfl⟩
theorem dX11_init_150 : Dc cX11_init 150 (.newarray .int) 2 152 := ⟨by decide +kernel, rfl⟩
theorem dX11_init_152 : Dc cX11_init 152 (.putfield 69) 3 155 := ⟨by decide +kernel, rfl⟩
theorem dX11_init_155 : Dc cX11_init 155 (.aload_n 0) 1 156 := ⟨by decide +kernel, rfl⟩
theorem dX11_init_156 : Dc cX11_init 156 (.bipush 15) 2 158 := ⟨by decide +kernel, rfl⟩
theorem dX11_init_158 : Dc cX11_init 158 (.newarray .int) 2 160 := ⟨by decide +kernel, rfl⟩
theorem dX11_init_160 : Dc cX11_init 160 (.putfield 72) 3 163 := ⟨by decide +kernel, rfl⟩
theorem dX11_init_163 : Dc cX11_init 163 (.aload_n 0) 1 164 := ⟨by decide +kernel, rfl⟩
theorem dX11_init_164 : Dc cX11_init 164 (.bipush 15) 2 166 := ⟨by decide +kernel, rfl⟩
theorem dX11_init_166 : Dc cX11_init 166 (.newarray .int) 2 168 := ⟨by decide +kernel, rfl⟩
theorem dX11_init_168 : Dc cX11_init 168 (.putfield 75) 3 171 := ⟨by decide +kernel, rfl⟩
theorem dX11_init_171 : Dc cX11_init 171 (.aload_n 0) 1 172 := ⟨by decide +kernel, rfl⟩
theorem dX11_init_172 : Dc cX11_init 172 (.iconst 0) 1 173 := ⟨by decide +kernel, rfl⟩
theorem dX11_init_173 : Dc cX11_init 173 (.putfield 78) 3 176 := ⟨by decide +kernel, rfl⟩
theorem dX11_init_176 : Dc cX11_init 176 (.return_) 1 177 := ⟨by decide +kernel, rfl⟩
theorem dX11_in_0 : Dc cX11_in 0 (.lload_n 0) 1 1 := ⟨by decide +kernel, rfl⟩
theorem dX11_in_1 : Dc cX11_in 1 (.lload_n 2) 1 2 := ⟨by decide +kernel, rfl⟩
theorem dX11_in_2 : Dc cX11_in 2 (.lcmp) 1 3 := ⟨by decide +kernel, rfl⟩
theorem dX11_in_3 : Dj cX11_in 3 (.ifCond .lt 14) 3 6 (14) 17 := ⟨by decide +kernel, rfl, by decide⟩
theorem dX11_in_6 : Dc cX11_in 6 (.lload_n 0) 1 7 := ⟨by decide +kernel, rfl⟩
theorem dX11_in_7 : Dc cX11_in 7 (.lload 4) 2 9 := ⟨by decide +kernel, rfl⟩
theorem dX11_in_9 : Dc cX11_in 9 (.lcmp) 1 10 := ⟨by decide +kernel, rfl⟩
theorem dX11_in_10 : Dj cX11_in 10 (.ifCond .gt 7) 3 13 (7) 17 := ⟨by decide +kernel, rfl, by decide⟩
theorem dX11_in_13 : Dc cX11_in 13 (.iconst 1) 1 14 := ⟨by decide +kernel, rfl⟩
theorem dX11_in_14 : Dj cX11_in 14 (.goto 4) 3 17 (4) 18 := ⟨by decide +kernel, rfl, by decide⟩
theorem dX11_in_17 : Dc cX11_in 17 (.iconst 0) 1 18 := ⟨by decide +kernel, rfl⟩
theorem dX11_in_18 : Dc cX11_in 18 (.ireturn) 1 19 := ⟨by decide +kernel, rfl⟩
theorem dX11_copy_0 : Dc cX11_copy 0 (.iconst 0) 1 1 := ⟨by decide +kernel, rfl⟩
theorem dX11_copy_1 : Dc cX11_copy 1 (.istore_n 3) 1 2 := ⟨by decide +kernel, rfl⟩
theorem dX11_copy_2 : Dc cX11_copy 2 (.iload_n 3) 1 3 := ⟨by decide +kernel, rfl⟩
theorem dX11_copy_3 : Dc cX11_copy 3 (.bipush 45) 2 5 := ⟨by decide +kernel, rfl⟩
theorem dX11_copy_5 : Dj cX11_copy 5 (.if_icmp .ge 25) 3 8 (25) 30 := ⟨by decide +kernel, rfl, by decide⟩
theorem dX11_copy_8 : Dc cX11_copy 8 (.aload_n 0) 1 9 := ⟨by decide +kernel, rfl⟩
theorem dX11_copy_9 : Dc cX11_copy 9 (.getfield 7) 3 12 := ⟨by decide +kernel, rfl⟩
theorem dX11_copy_12 : Dc cX11_copy 12 (.iload_n 2) 1 13 := ⟨by decide +kernel, rfl⟩
theorem dX11_copy_13 : Dc cX11_copy 13 (.iload_n 3) 1 14 := ⟨by decide +kernel, rfl⟩
theorem dX11_copy_14 : Dc cX11_copy 14 (.iadd) 1 15 := ⟨by decide +kernel, rfl⟩
theorem dX11_copy_15 : Dc cX11_copy 15 (.aload_n 0) 1 16 := ⟨by decide +kernel, rfl⟩
theorem dX11_copy_16 : Dc cX11_copy 16 (.getfield 7) 3 19 := ⟨by decide +kernel, rfl⟩
theorem dX11_copy_19 : Dc cX11_copy 19 (.iload_n 1) 1 20 := ⟨by decide +kernel, rfl⟩
theorem dX11_copy_20 : Dc cX11_copy 20 (.iload_n 3) 1 21 := ⟨by decide +kernel, rfl⟩
theorem dX11_copy_21 : Dc cX11_copy 21 (.iadd) 1 22 := ⟨by decide +kernel, rfl⟩
theorem dX11_copy_22 : Dc cX11_copy 22 (.iaload) 1 23 := ⟨by decide +kernel, rfl⟩
theorem dX11_copy_23 : Dc cX11_copy 23 (.iastore) 1 24 := ⟨by decide +kernel, rfl⟩
theorem dX11_copy_24 : Dc cX11_copy 24 (.iinc 3 1) 3 27 := ⟨by decide +kernel, rfl⟩
theorem dX11_copy_27 : Dj cX11_copy 27 (.goto (-25)) 3 30 (-25) 2 := ⟨by decide +kernel, rfl, by decide⟩
theorem dX11_copy_30 : Dc cX11_copy 30 (.return_) 1 31 := ⟨by decide +kernel, rfl⟩
theorem dX11_isCompany_0 : Dc cX11_isCompany 0 (.iload_n 1) 1 1 := ⟨by decide +kernel, rfl⟩
theorem dX11_isCompany_1 : Dc cX11_isCompany 1 (.i2l) 1 2 := ⟨by decide +kernel, rfl⟩
theorem dX11_isCompany_2 : Dc cX11_isCompany 2 (.lconst 0) 1 3 := ⟨by decide +kernel, rfl⟩
theorem dX11_isCompany_3 : Dc cX11_isCompany 3 (.aload_n 0) 1 4 := ⟨by decide +kernel, rfl⟩
theorem dX11_isCompany_4 : Dc cX11_isCompany 4 (.getfield 82) 3 7 := ⟨by decide +kernel, rfl⟩
theorem dX11_isCompany_7 : Dc cX11_isCompany 7 (.iconst 1) 1 8 := ⟨by decide +kernel, rfl⟩
theorem dX11_isCompany_8 : Dc cX11_isCompany 8 (.isub) 1 9 := ⟨by decide +kernel, rfl⟩
theorem dX11_isCompany_9 : Dc cX11_isCompany 9 (.i2l) 1 10 := ⟨by decide +kernel, rfl⟩
theorem dX11_isCompany_10 : Dc cX11_isCompany 10 (.invokestatic 85) 3 13 := ⟨by decide +kernel, rfl⟩
theorem dX11_isCompany_13 : Dc cX11_isCompany 13 (.ireturn) 1 14 := ⟨by decide +kernel, rfl⟩
theorem dX11_isMoney_0 : Dc cX11_isMoney 0 (.iload_n 1) 1 1 := ⟨by decide +kernel, rfl⟩
theorem dX11_isMoney_1 : Dc cX11_isMoney 1 (.i2l) 1 2 := ⟨by decide +kernel, rfl⟩
theorem dX11_isMoney_2 : Dc cX11_isMoney 2 (.lconst 0) 1 3 := ⟨by decide +kernel, rfl⟩
theorem dX11_isMoney_3 : Dc cX11_isMoney 3 (.aload_n 0) 1 4 := ⟨by decide +kernel, rfl⟩
theorem dX11_isMoney_4 : Dc cX11_isMoney 4 (.getfield 89) 3 7 := ⟨by decide +kernel, rfl⟩
theorem dX11_isMoney_7 : Dc cX11_isMoney 7 (.iconst 1) 1 8 := ⟨by decide +kernel, rfl⟩
theorem dX11_isMoney_8 : Dc cX11_isMoney 8 (.isub) 1 9 := ⟨by decide +kernel, rfl⟩
theorem dX11_isMoney_9 : Dc cX11_isMoney 9 (.i2l) 1 10 := ⟨by decide +kernel, rfl⟩
theorem dX11_isMoney_10 : Dc cX11_isMoney 10 (.invokestatic 85) 3 13 := ⟨by decide +kernel, rfl⟩
theorem dX11_isMoney_13 : Dc cX11_isMoney 13 (.ireturn) 1 14 := ⟨by decide +kernel, rfl⟩
theorem dX11_isGood_0 : Dc cX11_isGood 0 (.iload_n 1) 1 1 := ⟨by decide +kernel, rfl⟩
theorem dX11_isGood_1 : Dc cX11_isGood 1 (.i2l) 1 2 := ⟨by decide +kernel, rfl⟩
theorem dX11_isGood_2 : Dc cX11_isGood 2 (.lconst 0) 1 3 := ⟨by decide +kernel, rfl⟩
theorem dX11_isGood_3 : Dc cX11_isGood 3 (.aload_n 0) 1 4 := ⟨by decide +kernel, rfl⟩
theorem dX11_isGood_4 : Dc cX11_isGood 4 (.getfield 92) 3 7 := ⟨by decide +kernel, rfl⟩
theorem dX11_isGood_7 : Dc cX11_isGood 7 (.iconst 1) 1 8 := ⟨by decide +kernel, rfl⟩
theorem dX11_isGood_8 : Dc cX11_isGood 8 (.isub) 1 9 := ⟨by decide +kernel, rfl⟩
theorem dX11_isGood_9 : Dc cX11_isGood 9 (.i2l) 1 10 := ⟨by decide +kernel, rfl⟩
theorem dX11_isGood_10 : Dc cX11_isGood 10 (.invokestatic 85) 3 13 := ⟨by decide +kernel, rfl⟩
theorem dX11_isGood_13 : Dc cX11_isGood 13 (.ireturn) 1 14 := ⟨by decide +kernel, rfl⟩
theorem dX11_isRation_0 : Dc cX11_isRation 0 (.iload_n 0) 1 1 := ⟨by decide +kernel, rfl⟩
theorem dX11_isRation_1 : Dc cX11_isRation 1 (.i2l) 1 2 := ⟨by decide +kernel, rfl⟩
theorem dX11_isRation_2 : Dc cX11_isRation 2 (.lconst 0) 1 3 := ⟨by decide +kernel, rfl⟩
theorem dX11_isRation_3 : Dc cX11_isRation 3 (.ldc2_w 95) 3 6 := ⟨by decide +kernel, rfl⟩
theorem dX11_isRation_6 : Dc cX11_isRation 6 (.invokestatic 85) 3 9 := ⟨by decide +kernel, rfl⟩
theorem dX11_isRation_9 : Dc cX11_isRation 9 (.ireturn) 1 10 := ⟨by decide +kernel, rfl⟩
theorem dX11_feed_0 : Dc cX11_feed 0 (.iload_n 1) 1 1 := ⟨by decide +kernel, rfl⟩
theorem dX11_feed_1 : Dc cX11_feed 1 (.i2l) 1 2 := ⟨by decide +kernel, rfl⟩
theorem dX11_feed_2 : Dc cX11_feed 2 (.lconst 0) 1 3 := ⟨by decide +kernel, rfl⟩
theorem dX11_feed_3 : Dc cX11_feed 3 (.ldc2_w 97) 3 6 := ⟨by decide +kernel, rfl⟩
theorem dX11_feed_6 : Dc cX11_feed 6 (.invokestatic 85) 3 9 := ⟨by decide +kernel, rfl⟩
theorem dX11_feed_9 : Dj cX11_feed 9 (.ifCond .ne 6) 3 12 (6) 15 := ⟨by decide +kernel, rfl, by decide⟩
theorem dX11_feed_12 : Dc cX11_feed 12 (.ldc 99) 2 14 := ⟨by decide +kernel, rfl⟩
theorem dX11_feed_14 : Dc cX11_feed 14 (.ireturn) 1 15 := ⟨by decide +kernel, rfl⟩
theorem dX11_feed_15 : Dc cX11_feed 15 (.aload_n 0) 1 16 := ⟨by decide +kernel, rfl⟩
theorem dX11_feed_16 : Dc cX11_feed 16 (.getfield 100) 3 19 := ⟨by decide +kernel, rfl⟩
theorem dX11_feed_19 : Dc cX11_feed 19 (.sipush 240) 3 22 := ⟨by decide +kernel, rfl⟩
theorem dX11_feed_22 : Dj cX11_feed 22 (.if_icmp .ne 6) 3 25 (6) 28 := ⟨by decide +kernel, rfl, by decide⟩
theorem dX11_feed_25 : Dc cX11_feed 25 (.ldc 103) 2 27 := ⟨by decide +kernel, rfl⟩
theorem dX11_feed_27 : Dc cX11_feed 27 (.ireturn) 1 28 := ⟨by decide +kernel, rfl⟩
theorem dX11_feed_28 : Dc cX11_feed 28 (.aload_n 0) 1 29 := ⟨by decide +kernel, rfl⟩
theorem dX11_feed_29 : Dc cX11_feed 29 (.getfield 38) 3 32 := ⟨by decide +kernel, rfl⟩
theorem dX11_feed_32 : Dc cX11_feed 32 (.aload_n 0) 1 33 := ⟨by decide +kernel, rfl⟩
theorem dX11_feed_33 : Dc cX11_feed 33 (.getfield 100) 3 36 := ⟨by decide +kernel, rfl⟩
theorem dX11_feed_36 : Dc cX11_feed 36 (.iload_n 1) 1 37 := ⟨by decide +kernel, rfl⟩
theorem dX11_feed_37 : Dc cX11_feed 37 (.iastore) 1 38 := ⟨by decide +kernel, rfl⟩
theorem dX11_feed_38 : Dc cX11_feed 38 (.aload_n 0) 1 39 := ⟨by decide +kernel, rfl⟩
theorem dX11_feed_39 : Dc cX11_feed 39 (.dup) 1 40 := ⟨by decide +kernel, rfl⟩
theorem dX11_feed_40 : Dc cX11_feed 40 (.getfield 100) 3 43 := ⟨by decide +kernel, rfl⟩
theorem dX11_feed_43 : Dc cX11_feed 43 (.iconst 1) 1 44 := ⟨by decide +kernel, rfl⟩
theorem dX11_feed_44 : Dc cX11_feed 44 (.iadd) 1 45 := ⟨by decide +kernel, rfl⟩
theorem dX11_feed_45 : Dc cX11_feed 45 (.putfield 100) 3 48 := ⟨by decide +kernel, rfl⟩
theorem dX11_feed_48 : Dc cX11_feed 48 (.aload_n 0) 1 49 := ⟨by decide +kernel, rfl⟩
theorem dX11_feed_49 : Dc cX11_feed 49 (.getfield 100) 3 52 := ⟨by decide +kernel, rfl⟩
theorem dX11_feed_52 : Dc cX11_feed 52 (.ireturn) 1 53 := ⟨by decide +kernel, rfl⟩
theorem dX11_letterAt_0 : Dc cX11_letterAt 0 (.iload_n 1) 1 1 := ⟨by decide +kernel, rfl⟩
theorem dX11_letterAt_1 : Dc cX11_letterAt 1 (.aload_n 0) 1 2 := ⟨by decide +kernel, rfl⟩
theorem dX11_letterAt_2 : Dc cX11_letterAt 2 (.getfield 100) 3 5 := ⟨by decide +kernel, rfl⟩
theorem dX11_letterAt_5 : Dj cX11_letterAt 5 (.if_icmp .ge 12) 3 8 (12) 17 := ⟨by decide +kernel, rfl, by decide⟩
theorem dX11_letterAt_8 : Dc cX11_letterAt 8 (.aload_n 0) 1 9 := ⟨by decide +kernel, rfl⟩
theorem dX11_letterAt_9 : Dc cX11_letterAt 9 (.getfield 38) 3 12 := ⟨by decide +kernel, rfl⟩
theorem dX11_letterAt_12 : Dc cX11_letterAt 12 (.iload_n 1) 1 13 := ⟨by decide +kernel, rfl⟩
theorem dX11_letterAt_13 : Dc cX11_letterAt 13 (.iaload) 1 14 := ⟨by decide +kernel, rfl⟩
theorem dX11_letterAt_14 : Dj cX11_letterAt 14 (.goto 4) 3 17 (4) 18 := ⟨by decide +kernel, rfl, by decide⟩
theorem dX11_letterAt_17 : Dc cX11_letterAt 17 (.iconst (-1)) 1 18 := ⟨by decide +kernel, rfl⟩
theorem dX11_letterAt_18 : Dc cX11_letterAt 18 (.ireturn) 1 19 := ⟨by decide +kernel, rfl⟩
theorem dX11_here_0 : Dc cX11_here 0 (.aload_n 0) 1 1 := ⟨by decide +kernel, rfl⟩
theorem dX11_here_1 : Dc cX11_here 1 (.aload_n 0) 1 2 := ⟨by decide +kernel, rfl⟩
theorem dX11_here_2 : Dc cX11_here 2 (.getfield 104) 3 5 := ⟨by decide +kernel, rfl⟩
theorem dX11_here_5 : Dc cX11_here 5 (.invokevirtual 107) 3 8 := ⟨by decide +kernel, rfl⟩
theorem dX11_here_8 : Dc cX11_here 8 (.bipush 32) 2 10 := ⟨by decide +kernel, rfl⟩
theorem dX11_here_10 : Dj cX11_here 10 (.if_icmp .ne 16) 3 13 (16) 26 := ⟨by decide +kernel, rfl, by decide⟩
theorem dX11_here_13 : Dc cX11_here 13 (.aload_n 0) 1 14 := ⟨by decide +kernel, rfl⟩
theorem dX11_here_14 : Dc cX11_here 14 (.dup) 1 15 := ⟨by decide +kernel, rfl⟩
theorem dX11_here_15 : Dc cX11_here 15 (.getfield 104) 3 18 := ⟨by decide +kernel, rfl⟩
theorem dX11_here_18 : Dc cX11_here 18 (.iconst 1) 1 19 := ⟨by decide +kernel, rfl⟩
theorem dX11_here_19 : Dc cX11_here 19 (.iadd) 1 20 := ⟨by decide +kernel, rfl⟩
theorem dX11_here_20 : Dc cX11_here 20 (.putfield 104) 3 23 := ⟨by decide +kernel, rfl⟩
theorem dX11_here_23 : Dj cX11_here 23 (.goto (-23)) 3 26 (-23) 0 := ⟨by decide +kernel, rfl, by decide⟩
theorem dX11_here_26 : Dc cX11_here 26 (.aload_n 0) 1 27 := ⟨by decide +kernel, rfl⟩
theorem dX11_here_27 : Dc cX11_here 27 (.aload_n 0) 1 28 := ⟨by decide +kernel, rfl⟩
theorem dX11_here_28 : Dc cX11_here 28 (.getfield 104) 3 31 := ⟨by decide +kernel, rfl⟩
theorem dX11_here_31 : Dc cX11_here 31 (.putfield 111) 3 34 := ⟨by decide +kernel, rfl⟩
theorem dX11_here_34 : Dc cX11_here 34 (.aload_n 0) 1 35 := ⟨by decide +kernel, rfl⟩
theorem dX11_here_35 : Dc cX11_here 35 (.aload_n 0) 1 36 := ⟨by decide +kernel, rfl⟩
theorem dX11_here_36 : Dc cX11_here 36 (.getfield 104) 3 39 := ⟨by decide +kernel, rfl⟩
theorem dX11_here_39 : Dc cX11_here 39 (.invokevirtual 107) 3 42 := ⟨by decide +kernel, rfl⟩
theorem dX11_here_42 : Dc cX11_here 42 (.ireturn) 1 43 := ⟨by decide +kernel, rfl⟩
theorem dX11_fails_0 : Dc cX11_fails 0 (.aload_n 0) 1 1 := ⟨by decide +kernel, rfl⟩
theorem dX11_fails_1 : Dc cX11_fails 1 (.iload_n 1) 1 2 := ⟨by decide +kernel, rfl⟩
theorem dX11_fails_2 : Dc cX11_fails 2 (.putfield 114) 3 5 := ⟨by decide +kernel, rfl⟩
theorem dX11_fails_5 : Dc cX11_fails 5 (.aload_n 0) 1 6 := ⟨by decide +kernel, rfl⟩
theorem dX11_fails_6 : Dc cX11_fails 6 (.iload_n 2) 1 7 := ⟨by decide +kernel, rfl⟩
theorem dX11_fails_7 : Dc cX11_fails 7 (.putfield 41) 3 10 := ⟨by decide +kernel, rfl⟩
theorem dX11_fails_10 : Dc cX11_fails 10 (.iconst 0) 1 11 := ⟨by decide +kernel, rfl⟩
theorem dX11_fails_11 : Dc cX11_fails 11 (.ireturn) 1 12 := ⟨by decide +kernel, rfl⟩
theorem dX11_takes_0 : Dc cX11_takes 0 (.aload_n 0) 1 1 := ⟨by decide +kernel, rfl⟩
theorem dX11_takes_1 : Dc cX11_takes 1 (.invokevirtual 117) 3 4 := ⟨by decide +kernel, rfl⟩
theorem dX11_takes_4 : Dc cX11_takes 4 (.iload_n 1) 1 5 := ⟨by decide +kernel, rfl⟩
theorem dX11_takes_5 : Dj cX11_takes 5 (.if_icmp .eq 13) 3 8 (13) 18 := ⟨by decide +kernel, rfl, by decide⟩
theorem dX11_takes_8 : Dc cX11_takes 8 (.aload_n 0) 1 9 := ⟨by decide +kernel, rfl⟩
theorem dX11_takes_9 : Dc cX11_takes 9 (.iconst 1) 1 10 := ⟨by decide +kernel, rfl⟩
theorem dX11_takes_10 : Dc cX11_takes 10 (.aload_n 0) 1 11 := ⟨by decide +kernel, rfl⟩
theorem dX11_takes_11 : Dc cX11_takes 11 (.getfield 111) 3 14 := ⟨by decide +kernel, rfl⟩
theorem dX11_takes_14 : Dc cX11_takes 14 (.invokevirtual 121) 3 17 := ⟨by decide +kernel, rfl⟩
theorem dX11_takes_17 : Dc cX11_takes 17 (.ireturn) 1 18 := ⟨by decide +kernel, rfl⟩
theorem dX11_takes_18 : Dc cX11_takes 18 (.aload_n 0) 1 19 := ⟨by decide +kernel, rfl⟩
theorem dX11_takes_19 : Dc cX11_takes 19 (.dup) 1 20 := ⟨by decide +kernel, rfl⟩
theorem dX11_takes_20 : Dc cX11_takes 20 (.getfield 104) 3 23 := ⟨by decide +kernel, rfl⟩
theorem dX11_takes_23 : Dc cX11_takes 23 (.iconst 1) 1 24 := ⟨by decide +kernel, rfl⟩
theorem dX11_takes_24 : Dc cX11_takes 24 (.iadd) 1 25 := ⟨by decide +kernel, rfl⟩
theorem dX11_takes_25 : Dc cX11_takes 25 (.putfield 104) 3 28 := ⟨by decide +kernel, rfl⟩
theorem dX11_takes_28 : Dc cX11_takes 28 (.iconst 1) 1 29 := ⟨by decide +kernel, rfl⟩
theorem dX11_takes_29 : Dc cX11_takes 29 (.ireturn) 1 30 := ⟨by decide +kernel, rfl⟩
theorem dX11_takesNumber_0 : Dc cX11_takesNumber 0 (.aload_n 0) 1 1 := ⟨by decide +kernel, rfl⟩
theorem dX11_takesNumber_1 : Dc cX11_takesNumber 1 (.invokevirtual 117) 3 4 := ⟨by decide +kernel, rfl⟩
theorem dX11_takesNumber_4 : Dc cX11_takesNumber 4 (.i2l) 1 5 := ⟨by decide +kernel, rfl⟩
theorem dX11_takesNumber_5 : Dc cX11_takesNumber 5 (.ldc2_w 125) 3 8 := ⟨by decide +kernel, rfl⟩
theorem dX11_takesNumber_8 : Dc cX11_takesNumber 8 (.ldc2_w 127) 3 11 := ⟨by decide +kernel, rfl⟩
theorem dX11_takesNumber_11 : Dc cX11_takesNumber 11 (.invokestatic 85) 3 14 := ⟨by decide +kernel, rfl⟩
theorem dX11_takesNumber_14 : Dj cX11_takesNumber 14 (.ifCond .ne 13) 3 17 (13) 27 := ⟨by decide +kernel, rfl, by decide⟩
theorem dX11_takesNumber_17 : Dc cX11_takesNumber 17 (.aload_n 0) 1 18 := ⟨by decide +kernel, rfl⟩
theorem dX11_takesNumber_18 : Dc cX11_takesNumber 18 (.iconst 1) 1 19 := ⟨by decide +kernel, rfl⟩
theorem dX11_takesNumber_19 : Dc cX11_takesNumber 19 (.aload_n 0) 1 20 := ⟨by decide +kernel, rfl⟩
theorem dX11_takesNumber_20 : Dc cX11_takesNumber 20 (.getfield 111) 3 23 := ⟨by decide +kernel, rfl⟩
theorem dX11_takesNumber_23 : Dc cX11_takesNumber 23 (.invokevirtual 121) 3 26 := ⟨by decide +kernel, rfl⟩
theorem dX11_takesNumber_26 : Dc cX11_takesNumber 26 (.ireturn) 1 27 := ⟨by decide +kernel, rfl⟩
theorem dX11_takesNumber_27 : Dc cX11_takesNumber 27 (.aload_n 0) 1 28 := ⟨by decide +kernel, rfl⟩
theorem dX11_takesNumber_28 : Dc cX11_takesNumber 28 (.iconst 0) 1 29 := ⟨by decide +kernel, rfl⟩
theorem dX11_takesNumber_29 : Dc cX11_takesNumber 29 (.putfield 129) 3 32 := ⟨by decide +kernel, rfl⟩
theorem dX11_takesNumber_32 : Dc cX11_takesNumber 32 (.aload_n 0) 1 33 := ⟨by decide +kernel, rfl⟩
theorem dX11_takesNumber_33 : Dc cX11_takesNumber 33 (.aload_n 0) 1 34 := ⟨by decide +kernel, rfl⟩
theorem dX11_takesNumber_34 : Dc cX11_takesNumber 34 (.getfield 104) 3 37 := ⟨by decide +kernel, rfl⟩
theorem dX11_takesNumber_37 : Dc cX11_takesNumber 37 (.invokevirtual 107) 3 40 := ⟨by decide +kernel, rfl⟩
theorem dX11_takesNumber_40 : Dc cX11_takesNumber 40 (.i2l) 1 41 := ⟨by decide +kernel, rfl⟩
theorem dX11_takesNumber_41 : Dc cX11_takesNumber 41 (.ldc2_w 125) 3 44 := ⟨by decide +kernel, rfl⟩
theorem dX11_takesNumber_44 : Dc cX11_takesNumber 44 (.ldc2_w 127) 3 47 := ⟨by decide +kernel, rfl⟩
theorem dX11_takesNumber_47 : Dc cX11_takesNumber 47 (.invokestatic 85) 3 50 := ⟨by decide +kernel, rfl⟩
theorem dX11_takesNumber_50 : Dj cX11_takesNumber 50 (.ifCond .eq 59) 3 53 (59) 109 := ⟨by decide +kernel, rfl, by decide⟩
theorem dX11_takesNumber_53 : Dc cX11_takesNumber 53 (.aload_n 0) 1 54 := ⟨by decide +kernel, rfl⟩
theorem dX11_takesNumber_54 : Dc cX11_takesNumber 54 (.aload_n 0) 1 55 := ⟨by decide +kernel, rfl⟩
theorem dX11_takesNumber_55 : Dc cX11_takesNumber 55 (.getfield 104) 3 58 := ⟨by decide +kernel, rfl⟩
theorem dX11_takesNumber_58 : Dc cX11_takesNumber 58 (.aload_n 0) 1 59 := ⟨by decide +kernel, rfl⟩
theorem dX11_takesNumber_59 : Dc cX11_takesNumber 59 (.getfield 111) 3 62 := ⟨by decide +kernel, rfl⟩
theorem dX11_takesNumber_62 : Dc cX11_takesNumber 62 (.isub) 1 63 := ⟨by decide +kernel, rfl⟩
theorem dX11_takesNumber_63 : Dc cX11_takesNumber 63 (.iconst 3) 1 64 := ⟨by decide +kernel, rfl⟩
theorem dX11_takesNumber_64 : Dj cX11_takesNumber 64 (.if_icmp .ge 25) 3 67 (25) 89 := ⟨by decide +kernel, rfl, by decide⟩
theorem dX11_takesNumber_67 : Dc cX11_takesNumber 67 (.bipush 10) 2 69 := ⟨by decide +kernel, rfl⟩
theorem dX11_takesNumber_69 : Dc cX11_takesNumber 69 (.aload_n 0) 1 70 := ⟨by decide +kernel, rfl⟩
theorem dX11_takesNumber_70 : Dc cX11_takesNumber 70 (.getfield 129) 3 73 := ⟨by decide +kernel, rfl⟩
theorem dX11_takesNumber_73 : Dc cX11_takesNumber 73 (.imul) 1 74 := ⟨by decide +kernel, rfl⟩
theorem dX11_takesNumber_74 : Dc cX11_takesNumber 74 (.aload_n 0) 1 75 := ⟨by decide +kernel, rfl⟩
theorem dX11_takesNumber_75 : Dc cX11_takesNumber 75 (.aload_n 0) 1 76 := ⟨by decide +kernel, rfl⟩
theorem dX11_takesNumber_76 : Dc cX11_takesNumber 76 (.getfield 104) 3 79 := ⟨by decide +kernel, rfl⟩
theorem dX11_takesNumber_79 : Dc cX11_takesNumber 79 (.invokevirtual 107) 3 82 := ⟨by decide +kernel, rfl⟩
theorem dX11_takesNumber_82 : Dc cX11_takesNumber 82 (.iadd) 1 83 := ⟨by decide +kernel, rfl⟩
theorem dX11_takesNumber_83 : Dc cX11_takesNumber 83 (.bipush 48) 2 85 := ⟨by decide +kernel, rfl⟩
theorem dX11_takesNumber_85 : Dc cX11_takesNumber 85 (.isub) 1 86 := ⟨by decide +kernel, rfl⟩
theorem dX11_takesNumber_86 : Dj cX11_takesNumber 86 (.goto 7) 3 89 (7) 93 := ⟨by decide +kernel, rfl, by decide⟩
theorem dX11_takesNumber_89 : Dc cX11_takesNumber 89 (.aload_n 0) 1 90 := ⟨by decide +kernel, rfl⟩
theorem dX11_takesNumber_90 : Dc cX11_takesNumber 90 (.getfield 129) 3 93 := ⟨by decide +kernel, rfl⟩
theorem dX11_takesNumber_93 : Dc cX11_takesNumber 93 (.putfield 129) 3 96 := ⟨by decide +kernel, rfl⟩
theorem dX11_takesNumber_96 : Dc cX11_takesNumber 96 (.aload_n 0) 1 97 := ⟨by decide +kernel, rfl⟩
theorem dX11_takesNumber_97 : Dc cX11_takesNumber 97 (.dup) 1 98 := ⟨by decide +kernel, rfl⟩
theorem dX11_takesNumber_98 : Dc cX11_takesNumber 98 (.getfield 104) 3 101 := ⟨by decide +kernel, rfl⟩
theorem dX11_takesNumber_101 : Dc cX11_takesNumber 101 (.iconst 1) 1 102 := ⟨by decide +kernel, rfl⟩
theorem dX11_takesNumber_102 : Dc cX11_takesNumber 102 (.iadd) 1 103 := ⟨by decide +kernel, rfl⟩
theorem dX11_takesNumber_103 : Dc cX11_takesNumber 103 (.putfield 104) 3 106 := ⟨by decide +kernel, rfl⟩
theorem dX11_takesNumber_106 : Dj cX11_takesNumber 106 (.goto (-74)) 3 109 (-74) 32 := ⟨by decide +kernel, rfl, by decide⟩
theorem dX11_takesNumber_109 : Dc cX11_takesNumber 109 (.aload_n 0) 1 110 := ⟨by decide +kernel, rfl⟩
theorem dX11_takesNumber_110 : Dc cX11_takesNumber 110 (.getfield 104) 3 113 := ⟨by decide +kernel, rfl⟩
theorem dX11_takesNumber_113 : Dc cX11_takesNumber 113 (.aload_n 0) 1 114 := ⟨by decide +kernel, rfl⟩
theorem dX11_takesNumber_114 : Dc cX11_takesNumber 114 (.getfield 111) 3 117 := ⟨by decide +kernel, rfl⟩
theorem dX11_takesNumber_117 : Dc cX11_takesNumber 117 (.isub) 1 118 := ⟨by decide +kernel, rfl⟩
theorem dX11_takesNumber_118 : Dc cX11_takesNumber 118 (.iconst 4) 1 119 := ⟨by decide +kernel, rfl⟩
theorem dX11_takesNumber_119 : Dj cX11_takesNumber 119 (.if_icmp .ge 18) 3 122 (18) 137 := ⟨by decide +kernel, rfl, by decide⟩
theorem dX11_takesNumber_122 : Dc cX11_takesNumber 122 (.aload_n 0) 1 123 := ⟨by decide +kernel, rfl⟩
theorem dX11_takesNumber_123 : Dc cX11_takesNumber 123 (.getfield 129) 3 126 := ⟨by decide +kernel, rfl⟩
theorem dX11_takesNumber_126 : Dc cX11_takesNumber 126 (.i2l) 1 127 := ⟨by decide +kernel, rfl⟩
theorem dX11_takesNumber_127 : Dc cX11_takesNumber 127 (.iload_n 1) 1 128 := ⟨by decide +kernel, rfl⟩
theorem dX11_takesNumber_128 : Dc cX11_takesNumber 128 (.i2l) 1 129 := ⟨by decide +kernel, rfl⟩
theorem dX11_takesNumber_129 : Dc cX11_takesNumber 129 (.iload_n 2) 1 130 := ⟨by decide +kernel, rfl⟩
theorem dX11_takesNumber_130 : Dc cX11_takesNumber 130 (.i2l) 1 131 := ⟨by decide +kernel, rfl⟩
theorem dX11_takesNumber_131 : Dc cX11_takesNumber 131 (.invokestatic 85) 3 134 := ⟨by decide +kernel, rfl⟩
theorem dX11_takesNumber_134 : Dj cX11_takesNumber 134 (.ifCond .ne 15) 3 137 (15) 149 := ⟨by decide +kernel, rfl, by decide⟩
theorem dX11_takesNumber_137 : Dc cX11_takesNumber 137 (.aload_n 0) 1 138 := ⟨by decide +kernel, rfl⟩
theorem dX11_takesNumber_138 : Dc cX11_takesNumber 138 (.iconst 2) 1 139 := ⟨by decide +kernel, rfl⟩
theorem dX11_takesNumber_139 : Dc cX11_takesNumber 139 (.aload_n 0) 1 140 := ⟨by decide +kernel, rfl⟩
theorem dX11_takesNumber_140 : Dc cX11_takesNumber 140 (.getfield 111) 3 143 := ⟨by decide +kernel, rfl⟩
theorem dX11_takesNumber_143 : Dc cX11_takesNumber 143 (.invokevirtual 121) 3 146 := ⟨by decide +kernel, rfl⟩
theorem dX11_takesNumber_146 : Dj cX11_takesNumber 146 (.ifCond .eq 7) 3 149 (7) 153 := ⟨by decide +kernel, rfl, by decide⟩
theorem dX11_takesNumber_149 : Dc cX11_takesNumber 149 (.iconst 1) 1 150 := ⟨by decide +kernel, rfl⟩
theorem dX11_takesNumber_150 : Dj cX11_takesNumber 150 (.goto 4) 3 153 (4) 154 := ⟨by decide +kernel, rfl, by decide⟩
theorem dX11_takesNumber_153 : Dc cX11_takesNumber 153 (.iconst 0) 1 154 := ⟨by decide +kernel, rfl⟩
theorem dX11_takesNumber_154 : Dc cX11_takesNumber 154 (.ireturn) 1 155 := ⟨by decide +kernel, rfl⟩
theorem dX11_takesTown_0 : Dc cX11_takesTown 0 (.aload_n 0) 1 1 := ⟨by decide +kernel, rfl⟩
theorem dX11_takesTown_1 : Dc cX11_takesTown 1 (.iconst 1) 1 2 := ⟨by decide +kernel, rfl⟩
theorem dX11_takesTown_2 : Dc cX11_takesTown 2 (.putfield 132) 3 5 := ⟨by decide +kernel, rfl⟩
theorem dX11_takesTown_5 : Dc cX11_takesTown 5 (.aload_n 0) 1 6 := ⟨by decide +kernel, rfl⟩
theorem dX11_takesTown_6 : Dc cX11_takesTown 6 (.iconst 0) 1 7 := ⟨by decide +kernel, rfl⟩
theorem dX11_takesTown_7 : Dc cX11_takesTown 7 (.sipush 999) 3 10 := ⟨by decide +kernel, rfl⟩
theorem dX11_takesTown_10 : Dc cX11_takesTown 10 (.invokevirtual 135) 3 13 := ⟨by decide +kernel, rfl⟩
theorem dX11_takesTown_13 : Dj cX11_takesTown 13 (.ifCond .ne 5) 3 16 (5) 18 := ⟨by decide +kernel, rfl, by decide⟩
theorem dX11_takesTown_16 : Dc cX11_takesTown 16 (.iconst 0) 1 17 := ⟨by decide +kernel, rfl⟩
theorem dX11_takesTown_17 : Dc cX11_takesTown 17 (.ireturn) 1 18 := ⟨by decide +kernel, rfl⟩
theorem dX11_takesTown_18 : Dc cX11_takesTown 18 (.aload_n 0) 1 19 := ⟨by decide +kernel, rfl⟩
theorem dX11_takesTown_19 : Dc cX11_takesTown 19 (.getfield 45) 3 22 := ⟨by decide +kernel, rfl⟩
theorem dX11_takesTown_22 : Dc cX11_takesTown 22 (.iconst 0) 1 23 := ⟨by decide +kernel, rfl⟩
theorem dX11_takesTown_23 : Dc cX11_takesTown 23 (.aload_n 0) 1 24 := ⟨by decide +kernel, rfl⟩
theorem dX11_takesTown_24 : Dc cX11_takesTown 24 (.getfield 129) 3 27 := ⟨by decide +kernel, rfl⟩
theorem dX11_takesTown_27 : Dc cX11_takesTown 27 (.iastore) 1 28 := ⟨by decide +kernel, rfl⟩
theorem dX11_takesTown_28 : Dc cX11_takesTown 28 (.aload_n 0) 1 29 := ⟨by decide +kernel, rfl⟩
theorem dX11_takesTown_29 : Dc cX11_takesTown 29 (.iconst 0) 1 30 := ⟨by decide +kernel, rfl⟩
theorem dX11_takesTown_30 : Dc cX11_takesTown 30 (.bipush 99) 2 32 := ⟨by decide +kernel, rfl⟩
theorem dX11_takesTown_32 : Dc cX11_takesTown 32 (.invokevirtual 135) 3 35 := ⟨by decide +kernel, rfl⟩
theorem dX11_takesTown_35 : Dj cX11_takesTown 35 (.ifCond .ne 5) 3 38 (5) 40 := ⟨by decide +kernel, rfl, by decide⟩
theorem dX11_takesTown_38 : Dc cX11_takesTown 38 (.iconst 0) 1 39 := ⟨by decide +kernel, rfl⟩
theorem dX11_takesTown_39 : Dc cX11_takesTown 39 (.ireturn) 1 40 := ⟨by decide +kernel, rfl⟩
theorem dX11_takesTown_40 : Dc cX11_takesTown 40 (.aload_n 0) 1 41 := ⟨by decide +kernel, rfl⟩
theorem dX11_takesTown_41 : Dc cX11_takesTown 41 (.getfield 45) 3 44 := ⟨by decide +kernel, rfl⟩
theorem dX11_takesTown_44 : Dc cX11_takesTown 44 (.iconst 1) 1 45 := ⟨by decide +kernel, rfl⟩
theorem dX11_takesTown_45 : Dc cX11_takesTown 45 (.aload_n 0) 1 46 := ⟨by decide +kernel, rfl⟩
theorem dX11_takesTown_46 : Dc cX11_takesTown 46 (.getfield 129) 3 49 := ⟨by decide +kernel, rfl⟩
theorem dX11_takesTown_49 : Dc cX11_takesTown 49 (.iastore) 1 50 := ⟨by decide +kernel, rfl⟩
theorem dX11_takesTown_50 : Dc cX11_takesTown 50 (.iconst 1) 1 51 := ⟨by decide +kernel, rfl⟩
theorem dX11_takesTown_51 : Dc cX11_takesTown 51 (.ireturn) 1 52 := ⟨by decide +kernel, rfl⟩
theorem dX11_takesCompany_0 : Dc cX11_takesCompany 0 (.iconst 0) 1 1 := ⟨by decide +kernel, rfl⟩
theorem dX11_takesCompany_1 : Dc cX11_takesCompany 1 (.istore_n 1) 1 2 := ⟨by decide +kernel, rfl⟩
theorem dX11_takesCompany_2 : Dc cX11_takesCompany 2 (.iload_n 1) 1 3 := ⟨by decide +kernel, rfl⟩
theorem dX11_takesCompany_3 : Dc cX11_takesCompany 3 (.iconst 3) 1 4 := ⟨by decide +kernel, rfl⟩
theorem dX11_takesCompany_4 : Dj cX11_takesCompany 4 (.if_icmp .ge 47) 3 7 (47) 51 := ⟨by decide +kernel, rfl, by decide⟩
theorem dX11_takesCompany_7 : Dc cX11_takesCompany 7 (.aload_n 0) 1 8 := ⟨by decide +kernel, rfl⟩
theorem dX11_takesCompany_8 : Dc cX11_takesCompany 8 (.iconst 0) 1 9 := ⟨by decide +kernel, rfl⟩
theorem dX11_takesCompany_9 : Dc cX11_takesCompany 9 (.iload_n 1) 1 10 := ⟨by decide +kernel, rfl⟩
theorem dX11_takesCompany_10 : Dj cX11_takesCompany 10 (.ifCond .ne 8) 3 13 (8) 18 := ⟨by decide +kernel, rfl, by decide⟩
theorem dX11_takesCompany_13 : Dc cX11_takesCompany 13 (.bipush 99) 2 15 := ⟨by decide +kernel, rfl⟩
theorem dX11_takesCompany_15 : Dj cX11_takesCompany 15 (.goto 5) 3 18 (5) 20 := ⟨by decide +kernel, rfl, by decide⟩
theorem dX11_takesCompany_18 : Dc cX11_takesCompany 18 (.bipush 9) 2 20 := ⟨by decide +kernel, rfl⟩
theorem dX11_takesCompany_20 : Dc cX11_takesCompany 20 (.invokevirtual 135) 3 23 := ⟨by decide +kernel, rfl⟩
theorem dX11_takesCompany_23 : Dj cX11_takesCompany 23 (.ifCond .ne 5) 3 26 (5) 28 := ⟨by decide +kernel, rfl, by decide⟩
theorem dX11_takesCompany_26 : Dc cX11_takesCompany 26 (.iconst 0) 1 27 := ⟨by decide +kernel, rfl⟩
theorem dX11_takesCompany_27 : Dc cX11_takesCompany 27 (.ireturn) 1 28 := ⟨by decide +kernel, rfl⟩
theorem dX11_takesCompany_28 : Dc cX11_takesCompany 28 (.aload_n 0) 1 29 := ⟨by decide +kernel, rfl⟩
theorem dX11_takesCompany_29 : Dc cX11_takesCompany 29 (.getfield 48) 3 32 := ⟨by decide +kernel, rfl⟩
theorem dX11_takesCompany_32 : Dc cX11_takesCompany 32 (.iconst 3) 1 33 := ⟨by decide +kernel, rfl⟩
theorem dX11_takesCompany_33 : Dc cX11_takesCompany 33 (.aload_n 0) 1 34 := ⟨by decide +kernel, rfl⟩
theorem dX11_takesCompany_34 : Dc cX11_takesCompany 34 (.getfield 138) 3 37 := ⟨by decide +kernel, rfl⟩
theorem dX11_takesCompany_37 : Dc cX11_takesCompany 37 (.imul) 1 38 := ⟨by decide +kernel, rfl⟩
theorem dX11_takesCompany_38 : Dc cX11_takesCompany 38 (.iload_n 1) 1 39 := ⟨by decide +kernel, rfl⟩
theorem dX11_takesCompany_39 : Dc cX11_takesCompany 39 (.iadd) 1 40 := ⟨by decide +kernel, rfl⟩
theorem dX11_takesCompany_40 : Dc cX11_takesCompany 40 (.aload_n 0) 1 41 := ⟨by decide +kernel, rfl⟩
theorem dX11_takesCompany_41 : Dc cX11_takesCompany 41 (.getfield 129) 3 44 := ⟨by decide +kernel, rfl⟩
theorem dX11_takesCompany_44 : Dc cX11_takesCompany 44 (.iastore) 1 45 := ⟨by decide +kernel, rfl⟩
theorem dX11_takesCompany_45 : Dc cX11_takesCompany 45 (.iinc 1 1) 3 48 := ⟨by decide +kernel, rfl⟩
theorem dX11_takesCompany_48 : Dj cX11_takesCompany 48 (.goto (-46)) 3 51 (-46) 2 := ⟨by decide +kernel, rfl, by decide⟩
theorem dX11_takesCompany_51 : Dc cX11_takesCompany 51 (.aload_n 0) 1 52 := ⟨by decide +kernel, rfl⟩
theorem dX11_takesCompany_52 : Dc cX11_takesCompany 52 (.dup) 1 53 := ⟨by decide +kernel, rfl⟩
theorem dX11_takesCompany_53 : Dc cX11_takesCompany 53 (.getfield 138) 3 56 := ⟨by decide +kernel, rfl⟩
theorem dX11_takesCompany_56 : Dc cX11_takesCompany 56 (.iconst 1) 1 57 := ⟨by decide +kernel, rfl⟩
theorem dX11_takesCompany_57 : Dc cX11_takesCompany 57 (.iadd) 1 58 := ⟨by decide +kernel, rfl⟩
theorem dX11_takesCompany_58 : Dc cX11_takesCompany 58 (.putfield 138) 3 61 := ⟨by decide +kernel, rfl⟩
theorem dX11_takesCompany_61 : Dc cX11_takesCompany 61 (.iconst 1) 1 62 := ⟨by decide +kernel, rfl⟩
theorem dX11_takesCompany_62 : Dc cX11_takesCompany 62 (.ireturn) 1 63 := ⟨by decide +kernel, rfl⟩
theorem dX11_takesKind_0 : Dc cX11_takesKind 0 (.iconst 0) 1 1 := ⟨by decide +kernel, rfl⟩
theorem dX11_takesKind_1 : Dc cX11_takesKind 1 (.istore_n 1) 1 2 := ⟨by decide +kernel, rfl⟩
theorem dX11_takesKind_2 : Dc cX11_takesKind 2 (.iload_n 1) 1 3 := ⟨by decide +kernel, rfl⟩
theorem dX11_takesKind_3 : Dc cX11_takesKind 3 (.iconst 3) 1 4 := ⟨by decide +kernel, rfl⟩
theorem dX11_takesKind_4 : Dj cX11_takesKind 4 (.if_icmp .ge 57) 3 7 (57) 61 := ⟨by decide +kernel, rfl, by decide⟩
theorem dX11_takesKind_7 : Dc cX11_takesKind 7 (.aload_n 0) 1 8 := ⟨by decide +kernel, rfl⟩
theorem dX11_takesKind_8 : Dc cX11_takesKind 8 (.iload_n 1) 1 9 := ⟨by decide +kernel, rfl⟩
theorem dX11_takesKind_9 : Dc cX11_takesKind 9 (.iconst 1) 1 10 := ⟨by decide +kernel, rfl⟩
theorem dX11_takesKind_10 : Dj cX11_takesKind 10 (.if_icmp .ne 7) 3 13 (7) 17 := ⟨by decide +kernel, rfl, by decide⟩
theorem dX11_takesKind_13 : Dc cX11_takesKind 13 (.iconst 1) 1 14 := ⟨by decide +kernel, rfl⟩
theorem dX11_takesKind_14 : Dj cX11_takesKind 14 (.goto 4) 3 17 (4) 18 := ⟨by decide +kernel, rfl, by decide⟩
theorem dX11_takesKind_17 : Dc cX11_takesKind 17 (.iconst 0) 1 18 := ⟨by decide +kernel, rfl⟩
theorem dX11_takesKind_18 : Dc cX11_takesKind 18 (.iload_n 1) 1 19 := ⟨by decide +kernel, rfl⟩
theorem dX11_takesKind_19 : Dj cX11_takesKind 19 (.ifCond .ne 9) 3 22 (9) 28 := ⟨by decide +kernel, rfl, by decide⟩
theorem dX11_takesKind_22 : Dc cX11_takesKind 22 (.sipush 999) 3 25 := ⟨by decide +kernel, rfl⟩
theorem dX11_takesKind_25 : Dj cX11_takesKind 25 (.goto 5) 3 28 (5) 30 := ⟨by decide +kernel, rfl, by decide⟩
theorem dX11_takesKind_28 : Dc cX11_takesKind 28 (.bipush 99) 2 30 := ⟨by decide +kernel, rfl⟩
theorem dX11_takesKind_30 : Dc cX11_takesKind 30 (.invokevirtual 135) 3 33 := ⟨by decide +kernel, rfl⟩
theorem dX11_takesKind_33 : Dj cX11_takesKind 33 (.ifCond .ne 5) 3 36 (5) 38 := ⟨by decide +kernel, rfl, by decide⟩
theorem dX11_takesKind_36 : Dc cX11_takesKind 36 (.iconst 0) 1 37 := ⟨by decide +kernel, rfl⟩
theorem dX11_takesKind_37 : Dc cX11_takesKind 37 (.ireturn) 1 38 := ⟨by decide +kernel, rfl⟩
theorem dX11_takesKind_38 : Dc cX11_takesKind 38 (.aload_n 0) 1 39 := ⟨by decide +kernel, rfl⟩
theorem dX11_takesKind_39 : Dc cX11_takesKind 39 (.getfield 51) 3 42 := ⟨by decide +kernel, rfl⟩
theorem dX11_takesKind_42 : Dc cX11_takesKind 42 (.iconst 3) 1 43 := ⟨by decide +kernel, rfl⟩
theorem dX11_takesKind_43 : Dc cX11_takesKind 43 (.aload_n 0) 1 44 := ⟨by decide +kernel, rfl⟩
theorem dX11_takesKind_44 : Dc cX11_takesKind 44 (.getfield 141) 3 47 := ⟨by decide +kernel, rfl⟩
theorem dX11_takesKind_47 : Dc cX11_takesKind 47 (.imul) 1 48 := ⟨by decide +kernel, rfl⟩
theorem dX11_takesKind_48 : Dc cX11_takesKind 48 (.iload_n 1) 1 49 := ⟨by decide +kernel, rfl⟩
theorem dX11_takesKind_49 : Dc cX11_takesKind 49 (.iadd) 1 50 := ⟨by decide +kernel, rfl⟩
theorem dX11_takesKind_50 : Dc cX11_takesKind 50 (.aload_n 0) 1 51 := ⟨by decide +kernel, rfl⟩
theorem dX11_takesKind_51 : Dc cX11_takesKind 51 (.getfield 129) 3 54 := ⟨by decide +kernel, rfl⟩
theorem dX11_takesKind_54 : Dc cX11_takesKind 54 (.iastore) 1 55 := ⟨by decide +kernel, rfl⟩
theorem dX11_takesKind_55 : Dc cX11_takesKind 55 (.iinc 1 1) 3 58 := ⟨by decide +kernel, rfl⟩
theorem dX11_takesKind_58 : Dj cX11_takesKind 58 (.goto (-56)) 3 61 (-56) 2 := ⟨by decide +kernel, rfl, by decide⟩
theorem dX11_takesKind_61 : Dc cX11_takesKind 61 (.aload_n 0) 1 62 := ⟨by decide +kernel, rfl⟩
theorem dX11_takesKind_62 : Dc cX11_takesKind 62 (.dup) 1 63 := ⟨by decide +kernel, rfl⟩
theorem dX11_takesKind_63 : Dc cX11_takesKind 63 (.getfield 141) 3 66 := ⟨by decide +kernel, rfl⟩
theorem dX11_takesKind_66 : Dc cX11_takesKind 66 (.iconst 1) 1 67 := ⟨by decide +kernel, rfl⟩
theorem dX11_takesKind_67 : Dc cX11_takesKind 67 (.iadd) 1 68 := ⟨by decide +kernel, rfl⟩
theorem dX11_takesKind_68 : Dc cX11_takesKind 68 (.putfield 141) 3 71 := ⟨by decide +kernel, rfl⟩
theorem dX11_takesKind_71 : Dc cX11_takesKind 71 (.iconst 1) 1 72 := ⟨by decide +kernel, rfl⟩
theorem dX11_takesKind_72 : Dc cX11_takesKind 72 (.ireturn) 1 73 := ⟨by decide +kernel, rfl⟩
theorem dX11_takesGood_0 : Dc cX11_takesGood 0 (.aload_n 0) 1 1 := ⟨by decide +kernel, rfl⟩
theorem dX11_takesGood_1 : Dc cX11_takesGood 1 (.iconst 1) 1 2 := ⟨by decide +kernel, rfl⟩
theorem dX11_takesGood_2 : Dc cX11_takesGood 2 (.bipush 99) 2 4 := ⟨by decide +kernel, rfl⟩
theorem dX11_takesGood_4 : Dc cX11_takesGood 4 (.invokevirtual 135) 3 7 := ⟨by decide +kernel, rfl⟩
theorem dX11_takesGood_7 : Dj cX11_takesGood 7 (.ifCond .ne 5) 3 10 (5) 12 := ⟨by decide +kernel, rfl, by decide⟩
theorem dX11_takesGood_10 : Dc cX11_takesGood 10 (.iconst 0) 1 11 := ⟨by decide +kernel, rfl⟩
theorem dX11_takesGood_11 : Dc cX11_takesGood 11 (.ireturn) 1 12 := ⟨by decide +kernel, rfl⟩
theorem dX11_takesGood_12 : Dc cX11_takesGood 12 (.aload_n 0) 1 13 := ⟨by decide +kernel, rfl⟩
theorem dX11_takesGood_13 : Dc cX11_takesGood 13 (.getfield 54) 3 16 := ⟨by decide +kernel, rfl⟩
theorem dX11_takesGood_16 : Dc cX11_takesGood 16 (.aload_n 0) 1 17 := ⟨by decide +kernel, rfl⟩
theorem dX11_takesGood_17 : Dc cX11_takesGood 17 (.getfield 144) 3 20 := ⟨by decide +kernel, rfl⟩
theorem dX11_takesGood_20 : Dc cX11_takesGood 20 (.aload_n 0) 1 21 := ⟨by decide +kernel, rfl⟩
theorem dX11_takesGood_21 : Dc cX11_takesGood 21 (.getfield 129) 3 24 := ⟨by decide +kernel, rfl⟩
theorem dX11_takesGood_24 : Dc cX11_takesGood 24 (.iastore) 1 25 := ⟨by decide +kernel, rfl⟩
theorem dX11_takesGood_25 : Dc cX11_takesGood 25 (.aload_n 0) 1 26 := ⟨by decide +kernel, rfl⟩
theorem dX11_takesGood_26 : Dc cX11_takesGood 26 (.dup) 1 27 := ⟨by decide +kernel, rfl⟩
theorem dX11_takesGood_27 : Dc cX11_takesGood 27 (.getfield 144) 3 30 := ⟨by decide +kernel, rfl⟩
theorem dX11_takesGood_30 : Dc cX11_takesGood 30 (.iconst 1) 1 31 := ⟨by decide +kernel, rfl⟩
theorem dX11_takesGood_31 : Dc cX11_takesGood 31 (.iadd) 1 32 := ⟨by decide +kernel, rfl⟩
theorem dX11_takesGood_32 : Dc cX11_takesGood 32 (.putfield 144) 3 35 := ⟨by decide +kernel, rfl⟩
theorem dX11_takesGood_35 : Dc cX11_takesGood 35 (.iconst 1) 1 36 := ⟨by decide +kernel, rfl⟩
theorem dX11_takesGood_36 : Dc cX11_takesGood 36 (.ireturn) 1 37 := ⟨by decide +kernel, rfl⟩
theorem dX11_takesHorse_0 : Dc cX11_takesHorse 0 (.iconst 0) 1 1 := ⟨by decide +kernel, rfl⟩
theorem dX11_takesHorse_1 : Dc cX11_takesHorse 1 (.istore_n 1) 1 2 := ⟨by decide +kernel, rfl⟩
theorem dX11_takesHorse_2 : Dc cX11_takesHorse 2 (.iload_n 1) 1 3 := ⟨by decide +kernel, rfl⟩
theorem dX11_takesHorse_3 : Dc cX11_takesHorse 3 (.iconst 2) 1 4 := ⟨by decide +kernel, rfl⟩
theorem dX11_takesHorse_4 : Dj cX11_takesHorse 4 (.if_icmp .ge 38) 3 7 (38) 42 := ⟨by decide +kernel, rfl, by decide⟩
theorem dX11_takesHorse_7 : Dc cX11_takesHorse 7 (.aload_n 0) 1 8 := ⟨by decide +kernel, rfl⟩
theorem dX11_takesHorse_8 : Dc cX11_takesHorse 8 (.iload_n 1) 1 9 := ⟨by decide +kernel, rfl⟩
theorem dX11_takesHorse_9 : Dc cX11_takesHorse 9 (.bipush 99) 2 11 := ⟨by decide +kernel, rfl⟩
theorem dX11_takesHorse_11 : Dc cX11_takesHorse 11 (.invokevirtual 135) 3 14 := ⟨by decide +kernel, rfl⟩
theorem dX11_takesHorse_14 : Dj cX11_takesHorse 14 (.ifCond .ne 5) 3 17 (5) 19 := ⟨by decide +kernel, rfl, by decide⟩
theorem dX11_takesHorse_17 : Dc cX11_takesHorse 17 (.iconst 0) 1 18 := ⟨by decide +kernel, rfl⟩
theorem dX11_takesHorse_18 : Dc cX11_takesHorse 18 (.ireturn) 1 19 := ⟨by decide +kernel, rfl⟩
theorem dX11_takesHorse_19 : Dc cX11_takesHorse 19 (.aload_n 0) 1 20 := ⟨by decide +kernel, rfl⟩
theorem dX11_takesHorse_20 : Dc cX11_takesHorse 20 (.getfield 57) 3 23 := ⟨by decide +kernel, rfl⟩
theorem dX11_takesHorse_23 : Dc cX11_takesHorse 23 (.iconst 2) 1 24 := ⟨by decide +kernel, rfl⟩
theorem dX11_takesHorse_24 : Dc cX11_takesHorse 24 (.aload_n 0) 1 25 := ⟨by decide +kernel, rfl⟩
theorem dX11_takesHorse_25 : Dc cX11_takesHorse 25 (.getfield 147) 3 28 := ⟨by decide +kernel, rfl⟩
theorem dX11_takesHorse_28 : Dc cX11_takesHorse 28 (.imul) 1 29 := ⟨by decide +kernel, rfl⟩
theorem dX11_takesHorse_29 : Dc cX11_takesHorse 29 (.iload_n 1) 1 30 := ⟨by decide +kernel, rfl⟩
theorem dX11_takesHorse_30 : Dc cX11_takesHorse 30 (.iadd) 1 31 := ⟨by decide +kernel, rfl⟩
theorem dX11_takesHorse_31 : Dc cX11_takesHorse 31 (.aload_n 0) 1 32 := ⟨by decide +kernel, rfl⟩
theorem dX11_takesHorse_32 : Dc cX11_takesHorse 32 (.getfield 129) 3 35 := ⟨by decide +kernel, rfl⟩
theorem dX11_takesHorse_35 : Dc cX11_takesHorse 35 (.iastore) 1 36 := ⟨by decide +kernel, rfl⟩
theorem dX11_takesHorse_36 : Dc cX11_takesHorse 36 (.iinc 1 1) 3 39 := ⟨by decide +kernel, rfl⟩
theorem dX11_takesHorse_39 : Dj cX11_takesHorse 39 (.goto (-37)) 3 42 (-37) 2 := ⟨by decide +kernel, rfl, by decide⟩
theorem dX11_takesHorse_42 : Dc cX11_takesHorse 42 (.aload_n 0) 1 43 := ⟨by decide +kernel, rfl⟩
theorem dX11_takesHorse_43 : Dc cX11_takesHorse 43 (.dup) 1 44 := ⟨by decide +kernel, rfl⟩
theorem dX11_takesHorse_44 : Dc cX11_takesHorse 44 (.getfield 147) 3 47 := ⟨by decide +kernel, rfl⟩
theorem dX11_takesHorse_47 : Dc cX11_takesHorse 47 (.iconst 1) 1 48 := ⟨by decide +kernel, rfl⟩
theorem dX11_takesHorse_48 : Dc cX11_takesHorse 48 (.iadd) 1 49 := ⟨by decide +kernel, rfl⟩
theorem dX11_takesHorse_49 : Dc cX11_takesHorse 49 (.putfield 147) 3 52 := ⟨by decide +kernel, rfl⟩
theorem dX11_takesHorse_52 : Dc cX11_takesHorse 52 (.iconst 1) 1 53 := ⟨by decide +kernel, rfl⟩
theorem dX11_takesHorse_53 : Dc cX11_takesHorse 53 (.ireturn) 1 54 := ⟨by decide +kernel, rfl⟩
theorem dX11_takesWords_0 : Dc cX11_takesWords 0 (.iload_n 1) 1 1 := ⟨by decide +kernel, rfl⟩
theorem dX11_takesWords_1 : decode cX11_takesWords 1 = .ok (.lookupswitch 63 #[(99, 48), (103, 58), (109, 53), (116, 43)], 43) := by decide +kernel
theorem dX11_takesWords_44 : Dc cX11_takesWords 44 (.aload_n 0) 1 45 := ⟨by decide +kernel, rfl⟩
theorem dX11_takesWords_45 : Dc cX11_takesWords 45 (.invokevirtual 150) 3 48 := ⟨by decide +kernel, rfl⟩
theorem dX11_takesWords_48 : Dc cX11_takesWords 48 (.ireturn) 1 49 := ⟨by decide +kernel, rfl⟩
theorem dX11_takesWords_49 : Dc cX11_takesWords 49 (.aload_n 0) 1 50 := ⟨by decide +kernel, rfl⟩
theorem dX11_takesWords_50 : Dc cX11_takesWords 50 (.invokevirtual 154) 3 53 := ⟨by decide +kernel, rfl⟩
theorem dX11_takesWords_53 : Dc cX11_takesWords 53 (.ireturn) 1 54 := ⟨by decide +kernel, rfl⟩
theorem dX11_takesWords_54 : Dc cX11_takesWords 54 (.aload_n 0) 1 55 := ⟨by decide +kernel, rfl⟩
theorem dX11_takesWords_55 : Dc cX11_takesWords 55 (.invokevirtual 157) 3 58 := ⟨by decide +kernel, rfl⟩
theorem dX11_takesWords_58 : Dc cX11_takesWords 58 (.ireturn) 1 59 := ⟨by decide +kernel, rfl⟩
theorem dX11_takesWords_59 : Dc cX11_takesWords 59 (.aload_n 0) 1 60 := ⟨by decide +kernel, rfl⟩
theorem dX11_takesWords_60 : Dc cX11_takesWords 60 (.invokevirtual 160) 3 63 := ⟨by decide +kernel, rfl⟩
theorem dX11_takesWords_63 : Dc cX11_takesWords 63 (.ireturn) 1 64 := ⟨by decide +kernel, rfl⟩
theorem dX11_takesWords_64 : Dc cX11_takesWords 64 (.aload_n 0) 1 65 := ⟨by decide +kernel, rfl⟩
theorem dX11_takesWords_65 : Dc cX11_takesWords 65 (.invokevirtual 163) 3 68 := ⟨by decide +kernel, rfl⟩
theorem dX11_takesWords_68 : Dc cX11_takesWords 68 (.ireturn) 1 69 := ⟨by decide +kernel, rfl⟩
theorem dX11_takesClause_0 : Dc cX11_takesClause 0 (.aload_n 0) 1 1 := ⟨by decide +kernel, rfl⟩
theorem dX11_takesClause_1 : Dc cX11_takesClause 1 (.invokevirtual 117) 3 4 := ⟨by decide +kernel, rfl⟩
theorem dX11_takesClause_4 : Dc cX11_takesClause 4 (.istore_n 1) 1 5 := ⟨by decide +kernel, rfl⟩
theorem dX11_takesClause_5 : Dc cX11_takesClause 5 (.iload_n 1) 1 6 := ⟨by decide +kernel, rfl⟩
theorem dX11_takesClause_6 : Dc cX11_takesClause 6 (.bipush 116) 2 8 := ⟨by decide +kernel, rfl⟩
theorem dX11_takesClause_8 : Dj cX11_takesClause 8 (.if_icmp .eq 34) 3 11 (34) 42 := ⟨by decide +kernel, rfl, by decide⟩
theorem dX11_takesClause_11 : Dc cX11_takesClause 11 (.aload_n 0) 1 12 := ⟨by decide +kernel, rfl⟩
theorem dX11_takesClause_12 : Dc cX11_takesClause 12 (.getfield 132) 3 15 := ⟨by decide +kernel, rfl⟩
theorem dX11_takesClause_15 : Dj cX11_takesClause 15 (.ifCond .eq 31) 3 18 (31) 46 := ⟨by decide +kernel, rfl, by decide⟩
theorem dX11_takesClause_18 : Dc cX11_takesClause 18 (.iload_n 1) 1 19 := ⟨by decide +kernel, rfl⟩
theorem dX11_takesClause_19 : Dc cX11_takesClause 19 (.bipush 99) 2 21 := ⟨by decide +kernel, rfl⟩
theorem dX11_takesClause_21 : Dj cX11_takesClause 21 (.if_icmp .eq 21) 3 24 (21) 42 := ⟨by decide +kernel, rfl, by decide⟩
theorem dX11_takesClause_24 : Dc cX11_takesClause 24 (.iload_n 1) 1 25 := ⟨by decide +kernel, rfl⟩
theorem dX11_takesClause_25 : Dc cX11_takesClause 25 (.bipush 109) 2 27 := ⟨by decide +kernel, rfl⟩
theorem dX11_takesClause_27 : Dj cX11_takesClause 27 (.if_icmp .eq 15) 3 30 (15) 42 := ⟨by decide +kernel, rfl, by decide⟩
theorem dX11_takesClause_30 : Dc cX11_takesClause 30 (.iload_n 1) 1 31 := ⟨by decide +kernel, rfl⟩
theorem dX11_takesClause_31 : Dc cX11_takesClause 31 (.bipush 103) 2 33 := ⟨by decide +kernel, rfl⟩
theorem dX11_takesClause_33 : Dj cX11_takesClause 33 (.if_icmp .eq 9) 3 36 (9) 42 := ⟨by decide +kernel, rfl, by decide⟩
theorem dX11_takesClause_36 : Dc cX11_takesClause 36 (.iload_n 1) 1 37 := ⟨by decide +kernel, rfl⟩
theorem dX11_takesClause_37 : Dc cX11_takesClause 37 (.bipush 104) 2 39 := ⟨by decide +kernel, rfl⟩
theorem dX11_takesClause_39 : Dj cX11_takesClause 39 (.if_icmp .ne 7) 3 42 (7) 46 := ⟨by decide +kernel, rfl, by decide⟩
theorem dX11_takesClause_42 : Dc cX11_takesClause 42 (.iconst 1) 1 43 := ⟨by decide +kernel, rfl⟩
theorem dX11_takesClause_43 : Dj cX11_takesClause 43 (.goto 4) 3 46 (4) 47 := ⟨by decide +kernel, rfl, by decide⟩
theorem dX11_takesClause_46 : Dc cX11_takesClause 46 (.iconst 0) 1 47 := ⟨by decide +kernel, rfl⟩
theorem dX11_takesClause_47 : Dc cX11_takesClause 47 (.istore_n 2) 1 48 := ⟨by decide +kernel, rfl⟩
theorem dX11_takesClause_48 : Dc cX11_takesClause 48 (.iload_n 2) 1 49 := ⟨by decide +kernel, rfl⟩
theorem dX11_takesClause_49 : Dj cX11_takesClause 49 (.ifCond .ne 13) 3 52 (13) 62 := ⟨by decide +kernel, rfl, by decide⟩
theorem dX11_takesClause_52 : Dc cX11_takesClause 52 (.aload_n 0) 1 53 := ⟨by decide +kernel, rfl⟩
theorem dX11_takesClause_53 : Dc cX11_takesClause 53 (.iconst 1) 1 54 := ⟨by decide +kernel, rfl⟩
theorem dX11_takesClause_54 : Dc cX11_takesClause 54 (.aload_n 0) 1 55 := ⟨by decide +kernel, rfl⟩
theorem dX11_takesClause_55 : Dc cX11_takesClause 55 (.getfield 111) 3 58 := ⟨by decide +kernel, rfl⟩
theorem dX11_takesClause_58 : Dc cX11_takesClause 58 (.invokevirtual 121) 3 61 := ⟨by decide +kernel, rfl⟩
theorem dX11_takesClause_61 : Dc cX11_takesClause 61 (.ireturn) 1 62 := ⟨by decide +kernel, rfl⟩
theorem dX11_takesClause_62 : Dc cX11_takesClause 62 (.iload_n 1) 1 63 := ⟨by decide +kernel, rfl⟩
theorem dX11_takesClause_63 : Dc cX11_takesClause 63 (.bipush 116) 2 65 := ⟨by decide +kernel, rfl⟩
theorem dX11_takesClause_65 : Dj cX11_takesClause 65 (.if_icmp .ne 10) 3 68 (10) 75 := ⟨by decide +kernel, rfl, by decide⟩
theorem dX11_takesClause_68 : Dc cX11_takesClause 68 (.aload_n 0) 1 69 := ⟨by decide +kernel, rfl⟩
theorem dX11_takesClause_69 : Dc cX11_takesClause 69 (.getfield 132) 3 72 := ⟨by decide +kernel, rfl⟩
theorem dX11_takesClause_72 : Dj cX11_takesClause 72 (.goto 83) 3 75 (83) 155 := ⟨by decide +kernel, rfl, by decide⟩
theorem dX11_takesClause_75 : Dc cX11_takesClause 75 (.iload_n 1) 1 76 := ⟨by decide +kernel, rfl⟩
theorem dX11_takesClause_76 : Dc cX11_takesClause 76 (.bipush 99) 2 78 := ⟨by decide +kernel, rfl⟩
theorem dX11_takesClause_78 : Dj cX11_takesClause 78 (.if_icmp .ne 19) 3 81 (19) 97 := ⟨by decide +kernel, rfl, by decide⟩
theorem dX11_takesClause_81 : Dc cX11_takesClause 81 (.aload_n 0) 1 82 := ⟨by decide +kernel, rfl⟩
theorem dX11_takesClause_82 : Dc cX11_takesClause 82 (.getfield 138) 3 85 := ⟨by decide +kernel, rfl⟩
theorem dX11_takesClause_85 : Dc cX11_takesClause 85 (.iconst 5) 1 86 := ⟨by decide +kernel, rfl⟩
theorem dX11_takesClause_86 : Dj cX11_takesClause 86 (.if_icmp .ne 7) 3 89 (7) 93 := ⟨by decide +kernel, rfl, by decide⟩
theorem dX11_takesClause_89 : Dc cX11_takesClause 89 (.iconst 1) 1 90 := ⟨by decide +kernel, rfl⟩
theorem dX11_takesClause_90 : Dj cX11_takesClause 90 (.goto 65) 3 93 (65) 155 := ⟨by decide +kernel, rfl, by decide⟩
theorem dX11_takesClause_93 : Dc cX11_takesClause 93 (.iconst 0) 1 94 := ⟨by decide +kernel, rfl⟩
theorem dX11_takesClause_94 : Dj cX11_takesClause 94 (.goto 61) 3 97 (61) 155 := ⟨by decide +kernel, rfl, by decide⟩
theorem dX11_takesClause_97 : Dc cX11_takesClause 97 (.iload_n 1) 1 98 := ⟨by decide +kernel, rfl⟩
theorem dX11_takesClause_98 : Dc cX11_takesClause 98 (.bipush 109) 2 100 := ⟨by decide +kernel, rfl⟩
theorem dX11_takesClause_100 : Dj cX11_takesClause 100 (.if_icmp .ne 19) 3 103 (19) 119 := ⟨by decide +kernel, rfl, by decide⟩
theorem dX11_takesClause_103 : Dc cX11_takesClause 103 (.aload_n 0) 1 104 := ⟨by decide +kernel, rfl⟩
theorem dX11_takesClause_104 : Dc cX11_takesClause 104 (.getfield 141) 3 107 := ⟨by decide +kernel, rfl⟩
theorem dX11_takesClause_107 : Dc cX11_takesClause 107 (.iconst 4) 1 108 := ⟨by decide +kernel, rfl⟩
theorem dX11_takesClause_108 : Dj cX11_takesClause 108 (.if_icmp .ne 7) 3 111 (7) 115 := ⟨by decide +kernel, rfl, by decide⟩
theorem dX11_takesClause_111 : Dc cX11_takesClause 111 (.iconst 1) 1 112 := ⟨by decide +kernel, rfl⟩
theorem dX11_takesClause_112 : Dj cX11_takesClause 112 (.goto 43) 3 115 (43) 155 := ⟨by decide +kernel, rfl, by decide⟩
theorem dX11_takesClause_115 : Dc cX11_takesClause 115 (.iconst 0) 1 116 := ⟨by decide +kernel, rfl⟩
theorem dX11_takesClause_116 : Dj cX11_takesClause 116 (.goto 39) 3 119 (39) 155 := ⟨by decide +kernel, rfl, by decide⟩
theorem dX11_takesClause_119 : Dc cX11_takesClause 119 (.iload_n 1) 1 120 := ⟨by decide +kernel, rfl⟩
theorem dX11_takesClause_120 : Dc cX11_takesClause 120 (.bipush 103) 2 122 := ⟨by decide +kernel, rfl⟩
theorem dX11_takesClause_122 : Dj cX11_takesClause 122 (.if_icmp .ne 20) 3 125 (20) 142 := ⟨by decide +kernel, rfl, by decide⟩
theorem dX11_takesClause_125 : Dc cX11_takesClause 125 (.aload_n 0) 1 126 := ⟨by decide +kernel, rfl⟩
theorem dX11_takesClause_126 : Dc cX11_takesClause 126 (.getfield 144) 3 129 := ⟨by decide +kernel, rfl⟩
theorem dX11_takesClause_129 : Dc cX11_takesClause 129 (.bipush 6) 2 131 := ⟨by decide +kernel, rfl⟩
theorem dX11_takesClause_131 : Dj cX11_takesClause 131 (.if_icmp .ne 7) 3 134 (7) 138 := ⟨by decide +kernel, rfl, by decide⟩
theorem dX11_takesClause_134 : Dc cX11_takesClause 134 (.iconst 1) 1 135 := ⟨by decide +kernel, rfl⟩
theorem dX11_takesClause_135 : Dj cX11_takesClause 135 (.goto 20) 3 138 (20) 155 := ⟨by decide +kernel, rfl, by decide⟩
theorem dX11_takesClause_138 : Dc cX11_takesClause 138 (.iconst 0) 1 139 := ⟨by decide +kernel, rfl⟩
theorem dX11_takesClause_139 : Dj cX11_takesClause 139 (.goto 16) 3 142 (16) 155 := ⟨by decide +kernel, rfl, by decide⟩
theorem dX11_takesClause_142 : Dc cX11_takesClause 142 (.aload_n 0) 1 143 := ⟨by decide +kernel, rfl⟩
theorem dX11_takesClause_143 : Dc cX11_takesClause 143 (.getfield 147) 3 146 := ⟨by decide +kernel, rfl⟩
theorem dX11_takesClause_146 : Dc cX11_takesClause 146 (.iconst 4) 1 147 := ⟨by decide +kernel, rfl⟩
theorem dX11_takesClause_147 : Dj cX11_takesClause 147 (.if_icmp .ne 7) 3 150 (7) 154 := ⟨by decide +kernel, rfl, by decide⟩
theorem dX11_takesClause_150 : Dc cX11_takesClause 150 (.iconst 1) 1 151 := ⟨by decide +kernel, rfl⟩
theorem dX11_takesClause_151 : Dj cX11_takesClause 151 (.goto 4) 3 154 (4) 155 := ⟨by decide +kernel, rfl, by decide⟩
theorem dX11_takesClause_154 : Dc cX11_takesClause 154 (.iconst 0) 1 155 := ⟨by decide +kernel, rfl⟩
theorem dX11_takesClause_155 : Dc cX11_takesClause 155 (.istore_n 3) 1 156 := ⟨by decide +kernel, rfl⟩
theorem dX11_takesClause_156 : Dc cX11_takesClause 156 (.iload_n 3) 1 157 := ⟨by decide +kernel, rfl⟩
theorem dX11_takesClause_157 : Dj cX11_takesClause 157 (.ifCond .eq 13) 3 160 (13) 170 := ⟨by decide +kernel, rfl, by decide⟩
theorem dX11_takesClause_160 : Dc cX11_takesClause 160 (.aload_n 0) 1 161 := ⟨by decide +kernel, rfl⟩
theorem dX11_takesClause_161 : Dc cX11_takesClause 161 (.iconst 3) 1 162 := ⟨by decide +kernel, rfl⟩
theorem dX11_takesClause_162 : Dc cX11_takesClause 162 (.aload_n 0) 1 163 := ⟨by decide +kernel, rfl⟩
theorem dX11_takesClause_163 : Dc cX11_takesClause 163 (.getfield 111) 3 166 := ⟨by decide +kernel, rfl⟩
theorem dX11_takesClause_166 : Dc cX11_takesClause 166 (.invokevirtual 121) 3 169 := ⟨by decide +kernel, rfl⟩
theorem dX11_takesClause_169 : Dc cX11_takesClause 169 (.ireturn) 1 170 := ⟨by decide +kernel, rfl⟩
theorem dX11_takesClause_170 : Dc cX11_takesClause 170 (.aload_n 0) 1 171 := ⟨by decide +kernel, rfl⟩
theorem dX11_takesClause_171 : Dc cX11_takesClause 171 (.dup) 1 172 := ⟨by decide +kernel, rfl⟩
theorem dX11_takesClause_172 : Dc cX11_takesClause 172 (.getfield 104) 3 175 := ⟨by decide +kernel, rfl⟩
theorem dX11_takesClause_175 : Dc cX11_takesClause 175 (.iconst 1) 1 176 := ⟨by decide +kernel, rfl⟩
theorem dX11_takesClause_176 : Dc cX11_takesClause 176 (.iadd) 1 177 := ⟨by decide +kernel, rfl⟩
theorem dX11_takesClause_177 : Dc cX11_takesClause 177 (.putfield 104) 3 180 := ⟨by decide +kernel, rfl⟩
theorem dX11_takesClause_180 : Dc cX11_takesClause 180 (.aload_n 0) 1 181 := ⟨by decide +kernel, rfl⟩
theorem dX11_takesClause_181 : Dc cX11_takesClause 181 (.iload_n 1) 1 182 := ⟨by decide +kernel, rfl⟩
theorem dX11_takesClause_182 : Dc cX11_takesClause 182 (.invokevirtual 166) 3 185 := ⟨by decide +kernel, rfl⟩
theorem dX11_takesClause_185 : Dj cX11_takesClause 185 (.ifCond .eq 16) 3 188 (16) 201 := ⟨by decide +kernel, rfl, by decide⟩
theorem dX11_takesClause_188 : Dc cX11_takesClause 188 (.aload_n 0) 1 189 := ⟨by decide +kernel, rfl⟩
theorem dX11_takesClause_189 : Dc cX11_takesClause 189 (.bipush 59) 2 191 := ⟨by decide +kernel, rfl⟩
theorem dX11_takesClause_191 : Dc cX11_takesClause 191 (.invokevirtual 170) 3 194 := ⟨by decide +kernel, rfl⟩
theorem dX11_takesClause_194 : Dj cX11_takesClause 194 (.ifCond .eq 7) 3 197 (7) 201 := ⟨by decide +kernel, rfl, by decide⟩
theorem dX11_takesClause_197 : Dc cX11_takesClause 197 (.iconst 1) 1 198 := ⟨by decide +kernel, rfl⟩
theorem dX11_takesClause_198 : Dj cX11_takesClause 198 (.goto 4) 3 201 (4) 202 := ⟨by decide +kernel, rfl, by decide⟩
theorem dX11_takesClause_201 : Dc cX11_takesClause 201 (.iconst 0) 1 202 := ⟨by decide +kernel, rfl⟩
theorem dX11_takesClause_202 : Dc cX11_takesClause 202 (.ireturn) 1 203 := ⟨by decide +kernel, rfl⟩
theorem dX11_town_0 : Dc cX11_town 0 (.aload_n 0) 1 1 := ⟨by decide +kernel, rfl⟩
theorem dX11_town_1 : Dc cX11_town 1 (.iconst 0) 1 2 := ⟨by decide +kernel, rfl⟩
theorem dX11_town_2 : Dc cX11_town 2 (.putfield 104) 3 5 := ⟨by decide +kernel, rfl⟩
theorem dX11_town_5 : Dc cX11_town 5 (.aload_n 0) 1 6 := ⟨by decide +kernel, rfl⟩
theorem dX11_town_6 : Dc cX11_town 6 (.iconst 0) 1 7 := ⟨by decide +kernel, rfl⟩
theorem dX11_town_7 : Dc cX11_town 7 (.putfield 114) 3 10 := ⟨by decide +kernel, rfl⟩
theorem dX11_town_10 : Dc cX11_town 10 (.aload_n 0) 1 11 := ⟨by decide +kernel, rfl⟩
theorem dX11_town_11 : Dc cX11_town 11 (.iconst (-1)) 1 12 := ⟨by decide +kernel, rfl⟩
theorem dX11_town_12 : Dc cX11_town 12 (.putfield 41) 3 15 := ⟨by decide +kernel, rfl⟩
theorem dX11_town_15 : Dc cX11_town 15 (.aload_n 0) 1 16 := ⟨by decide +kernel, rfl⟩
theorem dX11_town_16 : Dc cX11_town 16 (.iconst 0) 1 17 := ⟨by decide +kernel, rfl⟩
theorem dX11_town_17 : Dc cX11_town 17 (.putfield 132) 3 20 := ⟨by decide +kernel, rfl⟩
theorem dX11_town_20 : Dc cX11_town 20 (.aload_n 0) 1 21 := ⟨by decide +kernel, rfl⟩
theorem dX11_town_21 : Dc cX11_town 21 (.getfield 45) 3 24 := ⟨by decide +kernel, rfl⟩
theorem dX11_town_24 : Dc cX11_town 24 (.iconst 0) 1 25 := ⟨by decide +kernel, rfl⟩
theorem dX11_town_25 : Dc cX11_town 25 (.iconst 0) 1 26 := ⟨by decide +kernel, rfl⟩
theorem dX11_town_26 : Dc cX11_town 26 (.iastore) 1 27 := ⟨by decide +kernel, rfl⟩
theorem dX11_town_27 : Dc cX11_town 27 (.aload_n 0) 1 28 := ⟨by decide +kernel, rfl⟩
theorem dX11_town_28 : Dc cX11_town 28 (.getfield 45) 3 31 := ⟨by decide +kernel, rfl⟩
theorem dX11_town_31 : Dc cX11_town 31 (.iconst 1) 1 32 := ⟨by decide +kernel, rfl⟩
theorem dX11_town_32 : Dc cX11_town 32 (.iconst 0) 1 33 := ⟨by decide +kernel, rfl⟩
theorem dX11_town_33 : Dc cX11_town 33 (.iastore) 1 34 := ⟨by decide +kernel, rfl⟩
theorem dX11_town_34 : Dc cX11_town 34 (.aload_n 0) 1 35 := ⟨by decide +kernel, rfl⟩
theorem dX11_town_35 : Dc cX11_town 35 (.iconst 0) 1 36 := ⟨by decide +kernel, rfl⟩
theorem dX11_town_36 : Dc cX11_town 36 (.putfield 138) 3 39 := ⟨by decide +kernel, rfl⟩
theorem dX11_town_39 : Dc cX11_town 39 (.aload_n 0) 1 40 := ⟨by decide +kernel, rfl⟩
theorem dX11_town_40 : Dc cX11_town 40 (.iconst 0) 1 41 := ⟨by decide +kernel, rfl⟩
theorem dX11_town_41 : Dc cX11_town 41 (.putfield 141) 3 44 := ⟨by decide +kernel, rfl⟩
theorem dX11_town_44 : Dc cX11_town 44 (.aload_n 0) 1 45 := ⟨by decide +kernel, rfl⟩
theorem dX11_town_45 : Dc cX11_town 45 (.iconst 0) 1 46 := ⟨by decide +kernel, rfl⟩
theorem dX11_town_46 : Dc cX11_town 46 (.putfield 144) 3 49 := ⟨by decide +kernel, rfl⟩
theorem dX11_town_49 : Dc cX11_town 49 (.aload_n 0) 1 50 := ⟨by decide +kernel, rfl⟩
theorem dX11_town_50 : Dc cX11_town 50 (.iconst 0) 1 51 := ⟨by decide +kernel, rfl⟩
theorem dX11_town_51 : Dc cX11_town 51 (.putfield 147) 3 54 := ⟨by decide +kernel, rfl⟩
theorem dX11_town_54 : Dc cX11_town 54 (.iconst 1) 1 55 := ⟨by decide +kernel, rfl⟩
theorem dX11_town_55 : Dc cX11_town 55 (.istore_n 1) 1 56 := ⟨by decide +kernel, rfl⟩
theorem dX11_town_56 : Dc cX11_town 56 (.iload_n 1) 1 57 := ⟨by decide +kernel, rfl⟩
theorem dX11_town_57 : Dj cX11_town 57 (.ifCond .eq 19) 3 60 (19) 76 := ⟨by decide +kernel, rfl, by decide⟩
theorem dX11_town_60 : Dc cX11_town 60 (.aload_n 0) 1 61 := ⟨by decide +kernel, rfl⟩
theorem dX11_town_61 : Dc cX11_town 61 (.invokevirtual 117) 3 64 := ⟨by decide +kernel, rfl⟩
theorem dX11_town_64 : Dc cX11_town 64 (.iconst (-1)) 1 65 := ⟨by decide +kernel, rfl⟩
theorem dX11_town_65 : Dj cX11_town 65 (.if_icmp .eq 11) 3 68 (11) 76 := ⟨by decide +kernel, rfl, by decide⟩
theorem dX11_town_68 : Dc cX11_town 68 (.aload_n 0) 1 69 := ⟨by decide +kernel, rfl⟩
theorem dX11_town_69 : Dc cX11_town 69 (.invokevirtual 173) 3 72 := ⟨by decide +kernel, rfl⟩
theorem dX11_town_72 : Dc cX11_town 72 (.istore_n 1) 1 73 := ⟨by decide +kernel, rfl⟩
theorem dX11_town_73 : Dj cX11_town 73 (.goto (-17)) 3 76 (-17) 56 := ⟨by decide +kernel, rfl, by decide⟩
theorem dX11_town_76 : Dc cX11_town 76 (.aload_n 0) 1 77 := ⟨by decide +kernel, rfl⟩
theorem dX11_town_77 : Dc cX11_town 77 (.iconst 0) 1 78 := ⟨by decide +kernel, rfl⟩
theorem dX11_town_78 : Dc cX11_town 78 (.putfield 100) 3 81 := ⟨by decide +kernel, rfl⟩
theorem dX11_town_81 : Dc cX11_town 81 (.iload_n 1) 1 82 := ⟨by decide +kernel, rfl⟩
theorem dX11_town_82 : Dj cX11_town 82 (.ifCond .ne 11) 3 85 (11) 93 := ⟨by decide +kernel, rfl, by decide⟩
theorem dX11_town_85 : Dc cX11_town 85 (.bipush (-10)) 2 87 := ⟨by decide +kernel, rfl⟩
theorem dX11_town_87 : Dc cX11_town 87 (.aload_n 0) 1 88 := ⟨by decide +kernel, rfl⟩
theorem dX11_town_88 : Dc cX11_town 88 (.getfield 114) 3 91 := ⟨by decide +kernel, rfl⟩
theorem dX11_town_91 : Dc cX11_town 91 (.isub) 1 92 := ⟨by decide +kernel, rfl⟩
theorem dX11_town_92 : Dc cX11_town 92 (.ireturn) 1 93 := ⟨by decide +kernel, rfl⟩
theorem dX11_town_93 : Dc cX11_town 93 (.aload_n 0) 1 94 := ⟨by decide +kernel, rfl⟩
theorem dX11_town_94 : Dc cX11_town 94 (.getfield 7) 3 97 := ⟨by decide +kernel, rfl⟩
theorem dX11_town_97 : Dc cX11_town 97 (.bipush 44) 2 99 := ⟨by decide +kernel, rfl⟩
theorem dX11_town_99 : Dc cX11_town 99 (.iaload) 1 100 := ⟨by decide +kernel, rfl⟩
theorem dX11_town_100 : Dc cX11_town 100 (.istore_n 2) 1 101 := ⟨by decide +kernel, rfl⟩
theorem dX11_town_101 : Dc cX11_town 101 (.iconst 0) 1 102 := ⟨by decide +kernel, rfl⟩
theorem dX11_town_102 : Dc cX11_town 102 (.istore_n 3) 1 103 := ⟨by decide +kernel, rfl⟩
theorem dX11_town_103 : Dc cX11_town 103 (.iload_n 3) 1 104 := ⟨by decide +kernel, rfl⟩
theorem dX11_town_104 : Dc cX11_town 104 (.bipush 45) 2 106 := ⟨by decide +kernel, rfl⟩
theorem dX11_town_106 : Dj cX11_town 106 (.if_icmp .ge 16) 3 109 (16) 122 := ⟨by decide +kernel, rfl, by decide⟩
theorem dX11_town_109 : Dc cX11_town 109 (.aload_n 0) 1 110 := ⟨by decide +kernel, rfl⟩
theorem dX11_town_110 : Dc cX11_town 110 (.getfield 7) 3 113 := ⟨by decide +kernel, rfl⟩
theorem dX11_town_113 : Dc cX11_town 113 (.iload_n 3) 1 114 := ⟨by decide +kernel, rfl⟩
theorem dX11_town_114 : Dc cX11_town 114 (.iconst 0) 1 115 := ⟨by decide +kernel, rfl⟩
theorem dX11_town_115 : Dc cX11_town 115 (.iastore) 1 116 := ⟨by decide +kernel, rfl⟩
theorem dX11_town_116 : Dc cX11_town 116 (.iinc 3 1) 3 119 := ⟨by decide +kernel, rfl⟩
theorem dX11_town_119 : Dj cX11_town 119 (.goto (-16)) 3 122 (-16) 103 := ⟨by decide +kernel, rfl, by decide⟩
theorem dX11_town_122 : Dc cX11_town 122 (.aload_n 0) 1 123 := ⟨by decide +kernel, rfl⟩
theorem dX11_town_123 : Dc cX11_town 123 (.getfield 7) 3 126 := ⟨by decide +kernel, rfl⟩
theorem dX11_town_126 : Dc cX11_town 126 (.bipush 44) 2 128 := ⟨by decide +kernel, rfl⟩
theorem dX11_town_128 : Dc cX11_town 128 (.iload_n 2) 1 129 := ⟨by decide +kernel, rfl⟩
theorem dX11_town_129 : Dc cX11_town 129 (.iastore) 1 130 := ⟨by decide +kernel, rfl⟩
theorem dX11_town_130 : Dc cX11_town 130 (.aload_n 0) 1 131 := ⟨by decide +kernel, rfl⟩
theorem dX11_town_131 : Dc cX11_town 131 (.aload_n 0) 1 132 := ⟨by decide +kernel, rfl⟩
theorem dX11_town_132 : Dc cX11_town 132 (.getfield 132) 3 135 := ⟨by decide +kernel, rfl⟩
theorem dX11_town_135 : Dc cX11_town 135 (.putfield 78) 3 138 := ⟨by decide +kernel, rfl⟩
theorem dX11_town_138 : Dc cX11_town 138 (.aload_n 0) 1 139 := ⟨by decide +kernel, rfl⟩
theorem dX11_town_139 : Dc cX11_town 139 (.aload_n 0) 1 140 := ⟨by decide +kernel, rfl⟩
theorem dX11_town_140 : Dc cX11_town 140 (.getfield 138) 3 143 := ⟨by decide +kernel, rfl⟩
theorem dX11_town_143 : Dc cX11_town 143 (.putfield 82) 3 146 := ⟨by decide +kernel, rfl⟩
theorem dX11_town_146 : Dc cX11_town 146 (.aload_n 0) 1 147 := ⟨by decide +kernel, rfl⟩
theorem dX11_town_147 : Dc cX11_town 147 (.aload_n 0) 1 148 := ⟨by decide +kernel, rfl⟩
theorem dX11_town_148 : Dc cX11_town 148 (.getfield 141) 3 151 := ⟨by decide +kernel, rfl⟩
theorem dX11_town_151 : Dc cX11_town 151 (.putfield 89) 3 154 := ⟨by decide +kernel, rfl⟩
theorem dX11_town_154 : Dc cX11_town 154 (.aload_n 0) 1 155 := ⟨by decide +kernel, rfl⟩
theorem dX11_town_155 : Dc cX11_town 155 (.aload_n 0) 1 156 := ⟨by decide +kernel, rfl⟩
theorem dX11_town_156 : Dc cX11_town 156 (.getfield 144) 3 159 := ⟨by decide +kernel, rfl⟩
theorem dX11_town_159 : Dc cX11_town 159 (.putfield 92) 3 162 := ⟨by decide +kernel, rfl⟩
theorem dX11_town_162 : Dc cX11_town 162 (.aload_n 0) 1 163 := ⟨by decide +kernel, rfl⟩
theorem dX11_town_163 : Dc cX11_town 163 (.aload_n 0) 1 164 := ⟨by decide +kernel, rfl⟩
theorem dX11_town_164 : Dc cX11_town 164 (.getfield 147) 3 167 := ⟨by decide +kernel, rfl⟩
theorem dX11_town_167 : Dc cX11_town 167 (.putfield 176) 3 170 := ⟨by decide +kernel, rfl⟩
theorem dX11_town_170 : Dc cX11_town 170 (.aload_n 0) 1 171 := ⟨by decide +kernel, rfl⟩
theorem dX11_town_171 : Dc cX11_town 171 (.getfield 7) 3 174 := ⟨by decide +kernel, rfl⟩
theorem dX11_town_174 : Dc cX11_town 174 (.iconst 0) 1 175 := ⟨by decide +kernel, rfl⟩
theorem dX11_town_175 : Dc cX11_town 175 (.aload_n 0) 1 176 := ⟨by decide +kernel, rfl⟩
theorem dX11_town_176 : Dc cX11_town 176 (.getfield 45) 3 179 := ⟨by decide +kernel, rfl⟩
theorem dX11_town_179 : Dc cX11_town 179 (.iconst 0) 1 180 := ⟨by decide +kernel, rfl⟩
theorem dX11_town_180 : Dc cX11_town 180 (.iaload) 1 181 := ⟨by decide +kernel, rfl⟩
theorem dX11_town_181 : Dc cX11_town 181 (.iastore) 1 182 := ⟨by decide +kernel, rfl⟩
theorem dX11_town_182 : Dc cX11_town 182 (.aload_n 0) 1 183 := ⟨by decide +kernel, rfl⟩
theorem dX11_town_183 : Dc cX11_town 183 (.getfield 7) 3 186 := ⟨by decide +kernel, rfl⟩
theorem dX11_town_186 : Dc cX11_town 186 (.iconst 1) 1 187 := ⟨by decide +kernel, rfl⟩
theorem dX11_town_187 : Dc cX11_town 187 (.aload_n 0) 1 188 := ⟨by decide +kernel, rfl⟩
theorem dX11_town_188 : Dc cX11_town 188 (.getfield 45) 3 191 := ⟨by decide +kernel, rfl⟩
theorem dX11_town_191 : Dc cX11_town 191 (.iconst 1) 1 192 := ⟨by decide +kernel, rfl⟩
theorem dX11_town_192 : Dc cX11_town 192 (.iaload) 1 193 := ⟨by decide +kernel, rfl⟩
theorem dX11_town_193 : Dc cX11_town 193 (.iastore) 1 194 := ⟨by decide +kernel, rfl⟩
theorem dX11_town_194 : Dc cX11_town 194 (.iconst 0) 1 195 := ⟨by decide +kernel, rfl⟩
theorem dX11_town_195 : Dc cX11_town 195 (.istore_n 3) 1 196 := ⟨by decide +kernel, rfl⟩
theorem dX11_town_196 : Dc cX11_town 196 (.iload_n 3) 1 197 := ⟨by decide +kernel, rfl⟩
theorem dX11_town_197 : Dc cX11_town 197 (.aload_n 0) 1 198 := ⟨by decide +kernel, rfl⟩
theorem dX11_town_198 : Dc cX11_town 198 (.getfield 82) 3 201 := ⟨by decide +kernel, rfl⟩
theorem dX11_town_201 : Dj cX11_town 201 (.if_icmp .ge 57) 3 204 (57) 258 := ⟨by decide +kernel, rfl, by decide⟩
theorem dX11_town_204 : Dc cX11_town 204 (.aload_n 0) 1 205 := ⟨by decide +kernel, rfl⟩
theorem dX11_town_205 : Dc cX11_town 205 (.getfield 7) 3 208 := ⟨by decide +kernel, rfl⟩
theorem dX11_town_208 : Dc cX11_town 208 (.iconst 5) 1 209 := ⟨by decide +kernel, rfl⟩
theorem dX11_town_209 : Dc cX11_town 209 (.iload_n 3) 1 210 := ⟨by decide +kernel, rfl⟩
theorem dX11_town_210 : Dc cX11_town 210 (.iadd) 1 211 := ⟨by decide +kernel, rfl⟩
theorem dX11_town_211 : Dc cX11_town 211 (.aload_n 0) 1 212 := ⟨by decide +kernel, rfl⟩
theorem dX11_town_212 : Dc cX11_town 212 (.getfield 48) 3 215 := ⟨by decide +kernel, rfl⟩
theorem dX11_town_215 : Dc cX11_town 215 (.iconst 3) 1 216 := ⟨by decide +kernel, rfl⟩
theorem dX11_town_216 : Dc cX11_town 216 (.iload_n 3) 1 217 := ⟨by decide +kernel, rfl⟩
theorem dX11_town_217 : Dc cX11_town 217 (.imul) 1 218 := ⟨by decide +kernel, rfl⟩
theorem dX11_town_218 : Dc cX11_town 218 (.iaload) 1 219 := ⟨by decide +kernel, rfl⟩
theorem dX11_town_219 : Dc cX11_town 219 (.iastore) 1 220 := ⟨by decide +kernel, rfl⟩
theorem dX11_town_220 : Dc cX11_town 220 (.aload_n 0) 1 221 := ⟨by decide +kernel, rfl⟩
theorem dX11_town_221 : Dc cX11_town 221 (.getfield 17) 3 224 := ⟨by decide +kernel, rfl⟩
theorem dX11_town_224 : Dc cX11_town 224 (.iload_n 3) 1 225 := ⟨by decide +kernel, rfl⟩
theorem dX11_town_225 : Dc cX11_town 225 (.aload_n 0) 1 226 := ⟨by decide +kernel, rfl⟩
theorem dX11_town_226 : Dc cX11_town 226 (.getfield 48) 3 229 := ⟨by decide +kernel, rfl⟩
theorem dX11_town_229 : Dc cX11_town 229 (.iconst 3) 1 230 := ⟨by decide +kernel, rfl⟩
theorem dX11_town_230 : Dc cX11_town 230 (.iload_n 3) 1 231 := ⟨by decide +kernel, rfl⟩
theorem dX11_town_231 : Dc cX11_town 231 (.imul) 1 232 := ⟨by decide +kernel, rfl⟩
theorem dX11_town_232 : Dc cX11_town 232 (.iconst 1) 1 233 := ⟨by decide +kernel, rfl⟩
theorem dX11_town_233 : Dc cX11_town 233 (.iadd) 1 234 := ⟨by decide +kernel, rfl⟩
theorem dX11_town_234 : Dc cX11_town 234 (.iaload) 1 235 := ⟨by decide +kernel, rfl⟩
theorem dX11_town_235 : Dc cX11_town 235 (.iastore) 1 236 := ⟨by decide +kernel, rfl⟩
theorem dX11_town_236 : Dc cX11_town 236 (.aload_n 0) 1 237 := ⟨by decide +kernel, rfl⟩
theorem dX11_town_237 : Dc cX11_town 237 (.getfield 20) 3 240 := ⟨by decide +kernel, rfl⟩
theorem dX11_town_240 : Dc cX11_town 240 (.iload_n 3) 1 241 := ⟨by decide +kernel, rfl⟩
theorem dX11_town_241 : Dc cX11_town 241 (.aload_n 0) 1 242 := ⟨by decide +kernel, rfl⟩
theorem dX11_town_242 : Dc cX11_town 242 (.getfield 48) 3 245 := ⟨by decide +kernel, rfl⟩
theorem dX11_town_245 : Dc cX11_town 245 (.iconst 3) 1 246 := ⟨by decide +kernel, rfl⟩
theorem dX11_town_246 : Dc cX11_town 246 (.iload_n 3) 1 247 := ⟨by decide +kernel, rfl⟩
theorem dX11_town_247 : Dc cX11_town 247 (.imul) 1 248 := ⟨by decide +kernel, rfl⟩
theorem dX11_town_248 : Dc cX11_town 248 (.iconst 2) 1 249 := ⟨by decide +kernel, rfl⟩
theorem dX11_town_249 : Dc cX11_town 249 (.iadd) 1 250 := ⟨by decide +kernel, rfl⟩
theorem dX11_town_250 : Dc cX11_town 250 (.iaload) 1 251 := ⟨by decide +kernel, rfl⟩
theorem dX11_town_251 : Dc cX11_town 251 (.iastore) 1 252 := ⟨by decide +kernel, rfl⟩
theorem dX11_town_252 : Dc cX11_town 252 (.iinc 3 1) 3 255 := ⟨by decide +kernel, rfl⟩
theorem dX11_town_255 : Dj cX11_town 255 (.goto (-59)) 3 258 (-59) 196 := ⟨by decide +kernel, rfl, by decide⟩
theorem dX11_town_258 : Dc cX11_town 258 (.iconst 0) 1 259 := ⟨by decide +kernel, rfl⟩
theorem dX11_town_259 : Dc cX11_town 259 (.istore_n 3) 1 260 := ⟨by decide +kernel, rfl⟩
theorem dX11_town_260 : Dc cX11_town 260 (.iload_n 3) 1 261 := ⟨by decide +kernel, rfl⟩
theorem dX11_town_261 : Dc cX11_town 261 (.aload_n 0) 1 262 := ⟨by decide +kernel, rfl⟩
theorem dX11_town_262 : Dc cX11_town 262 (.getfield 89) 3 265 := ⟨by decide +kernel, rfl⟩
theorem dX11_town_265 : Dj cX11_town 265 (.if_icmp .ge 58) 3 268 (58) 323 := ⟨by decide +kernel, rfl, by decide⟩
theorem dX11_town_268 : Dc cX11_town 268 (.aload_n 0) 1 269 := ⟨by decide +kernel, rfl⟩
theorem dX11_town_269 : Dc cX11_town 269 (.getfield 7) 3 272 := ⟨by decide +kernel, rfl⟩
theorem dX11_town_272 : Dc cX11_town 272 (.bipush 20) 2 274 := ⟨by decide +kernel, rfl⟩
theorem dX11_town_274 : Dc cX11_town 274 (.iload_n 3) 1 275 := ⟨by decide +kernel, rfl⟩
theorem dX11_town_275 : Dc cX11_town 275 (.iadd) 1 276 := ⟨by decide +kernel, rfl⟩
theorem dX11_town_276 : Dc cX11_town 276 (.aload_n 0) 1 277 := ⟨by decide +kernel, rfl⟩
theorem dX11_town_277 : Dc cX11_town 277 (.getfield 51) 3 280 := ⟨by decide +kernel, rfl⟩
theorem dX11_town_280 : Dc cX11_town 280 (.iconst 3) 1 281 := ⟨by decide +kernel, rfl⟩
theorem dX11_town_281 : Dc cX11_town 281 (.iload_n 3) 1 282 := ⟨by decide +kernel, rfl⟩
theorem dX11_town_282 : Dc cX11_town 282 (.imul) 1 283 := ⟨by decide +kernel, rfl⟩
theorem dX11_town_283 : Dc cX11_town 283 (.iaload) 1 284 := ⟨by decide +kernel, rfl⟩
theorem dX11_town_284 : Dc cX11_town 284 (.iastore) 1 285 := ⟨by decide +kernel, rfl⟩
theorem dX11_town_285 : Dc cX11_town 285 (.aload_n 0) 1 286 := ⟨by decide +kernel, rfl⟩
theorem dX11_town_286 : Dc cX11_town 286 (.getfield 23) 3 289 := ⟨by decide +kernel, rfl⟩
theorem dX11_town_289 : Dc cX11_town 289 (.iload_n 3) 1 290 := ⟨by decide +kernel, rfl⟩
theorem dX11_town_290 : Dc cX11_town 290 (.aload_n 0) 1 291 := ⟨by decide +kernel, rfl⟩
theorem dX11_town_291 : Dc cX11_town 291 (.getfield 51) 3 294 := ⟨by decide +kernel, rfl⟩
theorem dX11_town_294 : Dc cX11_town 294 (.iconst 3) 1 295 := ⟨by decide +kernel, rfl⟩
theorem dX11_town_295 : Dc cX11_town 295 (.iload_n 3) 1 296 := ⟨by decide +kernel, rfl⟩
theorem dX11_town_296 : Dc cX11_town 296 (.imul) 1 297 := ⟨by decide +kernel, rfl⟩
theorem dX11_town_297 : Dc cX11_town 297 (.iconst 1) 1 298 := ⟨by decide +kernel, rfl⟩
theorem dX11_town_298 : Dc cX11_town 298 (.iadd) 1 299 := ⟨by decide +kernel, rfl⟩
theorem dX11_town_299 : Dc cX11_town 299 (.iaload) 1 300 := ⟨by decide +kernel, rfl⟩
theorem dX11_town_300 : Dc cX11_town 300 (.iastore) 1 301 := ⟨by decide +kernel, rfl⟩
theorem dX11_town_301 : Dc cX11_town 301 (.aload_n 0) 1 302 := ⟨by decide +kernel, rfl⟩
theorem dX11_town_302 : Dc cX11_town 302 (.getfield 26) 3 305 := ⟨by decide +kernel, rfl⟩
theorem dX11_town_305 : Dc cX11_town 305 (.iload_n 3) 1 306 := ⟨by decide +kernel, rfl⟩
theorem dX11_town_306 : Dc cX11_town 306 (.aload_n 0) 1 307 := ⟨by decide +kernel, rfl⟩
theorem dX11_town_307 : Dc cX11_town 307 (.getfield 51) 3 310 := ⟨by decide +kernel, rfl⟩
theorem dX11_town_310 : Dc cX11_town 310 (.iconst 3) 1 311 := ⟨by decide +kernel, rfl⟩
theorem dX11_town_311 : Dc cX11_town 311 (.iload_n 3) 1 312 := ⟨by decide +kernel, rfl⟩
theorem dX11_town_312 : Dc cX11_town 312 (.imul) 1 313 := ⟨by decide +kernel, rfl⟩
theorem dX11_town_313 : Dc cX11_town 313 (.iconst 2) 1 314 := ⟨by decide +kernel, rfl⟩
theorem dX11_town_314 : Dc cX11_town 314 (.iadd) 1 315 := ⟨by decide +kernel, rfl⟩
theorem dX11_town_315 : Dc cX11_town 315 (.iaload) 1 316 := ⟨by decide +kernel, rfl⟩
theorem dX11_town_316 : Dc cX11_town 316 (.iastore) 1 317 := ⟨by decide +kernel, rfl⟩
theorem dX11_town_317 : Dc cX11_town 317 (.iinc 3 1) 3 320 := ⟨by decide +kernel, rfl⟩
theorem dX11_town_320 : Dj cX11_town 320 (.goto (-60)) 3 323 (-60) 260 := ⟨by decide +kernel, rfl, by decide⟩
theorem dX11_town_323 : Dc cX11_town 323 (.iconst 0) 1 324 := ⟨by decide +kernel, rfl⟩
theorem dX11_town_324 : Dc cX11_town 324 (.istore_n 3) 1 325 := ⟨by decide +kernel, rfl⟩
theorem dX11_town_325 : Dc cX11_town 325 (.iload_n 3) 1 326 := ⟨by decide +kernel, rfl⟩
theorem dX11_town_326 : Dc cX11_town 326 (.aload_n 0) 1 327 := ⟨by decide +kernel, rfl⟩
theorem dX11_town_327 : Dc cX11_town 327 (.getfield 92) 3 330 := ⟨by decide +kernel, rfl⟩
theorem dX11_town_330 : Dj cX11_town 330 (.if_icmp .ge 21) 3 333 (21) 351 := ⟨by decide +kernel, rfl, by decide⟩
theorem dX11_town_333 : Dc cX11_town 333 (.aload_n 0) 1 334 := ⟨by decide +kernel, rfl⟩
theorem dX11_town_334 : Dc cX11_town 334 (.getfield 29) 3 337 := ⟨by decide +kernel, rfl⟩
theorem dX11_town_337 : Dc cX11_town 337 (.iload_n 3) 1 338 := ⟨by decide +kernel, rfl⟩
theorem dX11_town_338 : Dc cX11_town 338 (.aload_n 0) 1 339 := ⟨by decide +kernel, rfl⟩
theorem dX11_town_339 : Dc cX11_town 339 (.getfield 54) 3 342 := ⟨by decide +kernel, rfl⟩
theorem dX11_town_342 : Dc cX11_town 342 (.iload_n 3) 1 343 := ⟨by decide +kernel, rfl⟩
theorem dX11_town_343 : Dc cX11_town 343 (.iaload) 1 344 := ⟨by decide +kernel, rfl⟩
theorem dX11_town_344 : Dc cX11_town 344 (.iastore) 1 345 := ⟨by decide +kernel, rfl⟩
theorem dX11_town_345 : Dc cX11_town 345 (.iinc 3 1) 3 348 := ⟨by decide +kernel, rfl⟩
theorem dX11_town_348 : Dj cX11_town 348 (.goto (-23)) 3 351 (-23) 325 := ⟨by decide +kernel, rfl, by decide⟩
theorem dX11_town_351 : Dc cX11_town 351 (.iconst 0) 1 352 := ⟨by decide +kernel, rfl⟩
theorem dX11_town_352 : Dc cX11_town 352 (.istore_n 3) 1 353 := ⟨by decide +kernel, rfl⟩
theorem dX11_town_353 : Dc cX11_town 353 (.iload_n 3) 1 354 := ⟨by decide +kernel, rfl⟩
theorem dX11_town_354 : Dc cX11_town 354 (.aload_n 0) 1 355 := ⟨by decide +kernel, rfl⟩
theorem dX11_town_355 : Dc cX11_town 355 (.getfield 176) 3 358 := ⟨by decide +kernel, rfl⟩
theorem dX11_town_358 : Dj cX11_town 358 (.if_icmp .ge 39) 3 361 (39) 397 := ⟨by decide +kernel, rfl, by decide⟩
theorem dX11_town_361 : Dc cX11_town 361 (.aload_n 0) 1 362 := ⟨by decide +kernel, rfl⟩
theorem dX11_town_362 : Dc cX11_town 362 (.getfield 32) 3 365 := ⟨by decide +kernel, rfl⟩
theorem dX11_town_365 : Dc cX11_town 365 (.iload_n 3) 1 366 := ⟨by decide +kernel, rfl⟩
theorem dX11_town_366 : Dc cX11_town 366 (.aload_n 0) 1 367 := ⟨by decide +kernel, rfl⟩
theorem dX11_town_367 : Dc cX11_town 367 (.getfield 57) 3 370 := ⟨by decide +kernel, rfl⟩
theorem dX11_town_370 : Dc cX11_town 370 (.iconst 2) 1 371 := ⟨by decide +kernel, rfl⟩
theorem dX11_town_371 : Dc cX11_town 371 (.iload_n 3) 1 372 := ⟨by decide +kernel, rfl⟩
theorem dX11_town_372 : Dc cX11_town 372 (.imul) 1 373 := ⟨by decide +kernel, rfl⟩
theorem dX11_town_373 : Dc cX11_town 373 (.iaload) 1 374 := ⟨by decide +kernel, rfl⟩
theorem dX11_town_374 : Dc cX11_town 374 (.iastore) 1 375 := ⟨by decide +kernel, rfl⟩
theorem dX11_town_375 : Dc cX11_town 375 (.aload_n 0) 1 376 := ⟨by decide +kernel, rfl⟩
theorem dX11_town_376 : Dc cX11_town 376 (.getfield 35) 3 379 := ⟨by decide +kernel, rfl⟩
theorem dX11_town_379 : Dc cX11_town 379 (.iload_n 3) 1 380 := ⟨by decide +kernel, rfl⟩
theorem dX11_town_380 : Dc cX11_town 380 (.aload_n 0) 1 381 := ⟨by decide +kernel, rfl⟩
theorem dX11_town_381 : Dc cX11_town 381 (.getfield 57) 3 384 := ⟨by decide +kernel, rfl⟩
theorem dX11_town_384 : Dc cX11_town 384 (.iconst 2) 1 385 := ⟨by decide +kernel, rfl⟩
theorem dX11_town_385 : Dc cX11_town 385 (.iload_n 3) 1 386 := ⟨by decide +kernel, rfl⟩
theorem dX11_town_386 : Dc cX11_town 386 (.imul) 1 387 := ⟨by decide +kernel, rfl⟩
theorem dX11_town_387 : Dc cX11_town 387 (.iconst 1) 1 388 := ⟨by decide +kernel, rfl⟩
theorem dX11_town_388 : Dc cX11_town 388 (.iadd) 1 389 := ⟨by decide +kernel, rfl⟩
theorem dX11_town_389 : Dc cX11_town 389 (.iaload) 1 390 := ⟨by decide +kernel, rfl⟩
theorem dX11_town_390 : Dc cX11_town 390 (.iastore) 1 391 := ⟨by decide +kernel, rfl⟩
theorem dX11_town_391 : Dc cX11_town 391 (.iinc 3 1) 3 394 := ⟨by decide +kernel, rfl⟩
theorem dX11_town_394 : Dj cX11_town 394 (.goto (-41)) 3 397 (-41) 353 := ⟨by decide +kernel, rfl, by decide⟩
theorem dX11_town_397 : Dc cX11_town 397 (.aload_n 0) 1 398 := ⟨by decide +kernel, rfl⟩
theorem dX11_town_398 : Dc cX11_town 398 (.iconst 0) 1 399 := ⟨by decide +kernel, rfl⟩
theorem dX11_town_399 : Dc cX11_town 399 (.putfield 179) 3 402 := ⟨by decide +kernel, rfl⟩
theorem dX11_town_402 : Dc cX11_town 402 (.aload_n 0) 1 403 := ⟨by decide +kernel, rfl⟩
theorem dX11_town_403 : Dc cX11_town 403 (.iconst 0) 1 404 := ⟨by decide +kernel, rfl⟩
theorem dX11_town_404 : Dc cX11_town 404 (.putfield 182) 3 407 := ⟨by decide +kernel, rfl⟩
theorem dX11_town_407 : Dc cX11_town 407 (.aload_n 0) 1 408 := ⟨by decide +kernel, rfl⟩
theorem dX11_town_408 : Dc cX11_town 408 (.iconst 0) 1 409 := ⟨by decide +kernel, rfl⟩
theorem dX11_town_409 : Dc cX11_town 409 (.putfield 185) 3 412 := ⟨by decide +kernel, rfl⟩
theorem dX11_town_412 : Dc cX11_town 412 (.aload_n 0) 1 413 := ⟨by decide +kernel, rfl⟩
theorem dX11_town_413 : Dc cX11_town 413 (.getfield 13) 3 416 := ⟨by decide +kernel, rfl⟩
theorem dX11_town_416 : Dc cX11_town 416 (.iconst 0) 1 417 := ⟨by decide +kernel, rfl⟩
theorem dX11_town_417 : Dc cX11_town 417 (.iconst 0) 1 418 := ⟨by decide +kernel, rfl⟩
theorem dX11_town_418 : Dc cX11_town 418 (.bastore) 1 419 := ⟨by decide +kernel, rfl⟩
theorem dX11_town_419 : Dc cX11_town 419 (.aload_n 0) 1 420 := ⟨by decide +kernel, rfl⟩
theorem dX11_town_420 : Dc cX11_town 420 (.getfield 13) 3 423 := ⟨by decide +kernel, rfl⟩
theorem dX11_town_423 : Dc cX11_town 423 (.iconst 1) 1 424 := ⟨by decide +kernel, rfl⟩
theorem dX11_town_424 : Dc cX11_town 424 (.iconst 0) 1 425 := ⟨by decide +kernel, rfl⟩
theorem dX11_town_425 : Dc cX11_town 425 (.bastore) 1 426 := ⟨by decide +kernel, rfl⟩
theorem dX11_town_426 : Dc cX11_town 426 (.aload_n 0) 1 427 := ⟨by decide +kernel, rfl⟩
theorem dX11_town_427 : Dc cX11_town 427 (.getfield 82) 3 430 := ⟨by decide +kernel, rfl⟩
theorem dX11_town_430 : Dc cX11_town 430 (.ireturn) 1 431 := ⟨by decide +kernel, rfl⟩
theorem dX11_fault_0 : Dc cX11_fault 0 (.aload_n 0) 1 1 := ⟨by decide +kernel, rfl⟩
theorem dX11_fault_1 : Dc cX11_fault 1 (.getfield 41) 3 4 := ⟨by decide +kernel, rfl⟩
theorem dX11_fault_4 : Dc cX11_fault 4 (.ireturn) 1 5 := ⟨by decide +kernel, rfl⟩
theorem dX11_menIn_0 : Dc cX11_menIn 0 (.iconst 0) 1 1 := ⟨by decide +kernel, rfl⟩
theorem dX11_menIn_1 : Dc cX11_menIn 1 (.istore_n 2) 1 2 := ⟨by decide +kernel, rfl⟩
theorem dX11_menIn_2 : Dc cX11_menIn 2 (.iconst 0) 1 3 := ⟨by decide +kernel, rfl⟩
theorem dX11_menIn_3 : Dc cX11_menIn 3 (.istore_n 3) 1 4 := ⟨by decide +kernel, rfl⟩
theorem dX11_menIn_4 : Dc cX11_menIn 4 (.iload_n 3) 1 5 := ⟨by decide +kernel, rfl⟩
theorem dX11_menIn_5 : Dc cX11_menIn 5 (.aload_n 0) 1 6 := ⟨by decide +kernel, rfl⟩
theorem dX11_menIn_6 : Dc cX11_menIn 6 (.getfield 82) 3 9 := ⟨by decide +kernel, rfl⟩
theorem dX11_menIn_9 : Dj cX11_menIn 9 (.if_icmp .ge 22) 3 12 (22) 31 := ⟨by decide +kernel, rfl, by decide⟩
theorem dX11_menIn_12 : Dc cX11_menIn 12 (.iload_n 2) 1 13 := ⟨by decide +kernel, rfl⟩
theorem dX11_menIn_13 : Dc cX11_menIn 13 (.aload_n 0) 1 14 := ⟨by decide +kernel, rfl⟩
theorem dX11_menIn_14 : Dc cX11_menIn 14 (.getfield 7) 3 17 := ⟨by decide +kernel, rfl⟩
theorem dX11_menIn_17 : Dc cX11_menIn 17 (.iload_n 1) 1 18 := ⟨by decide +kernel, rfl⟩
theorem dX11_menIn_18 : Dc cX11_menIn 18 (.iconst 5) 1 19 := ⟨by decide +kernel, rfl⟩
theorem dX11_menIn_19 : Dc cX11_menIn 19 (.iadd) 1 20 := ⟨by decide +kernel, rfl⟩
theorem dX11_menIn_20 : Dc cX11_menIn 20 (.iload_n 3) 1 21 := ⟨by decide +kernel, rfl⟩
theorem dX11_menIn_21 : Dc cX11_menIn 21 (.iadd) 1 22 := ⟨by decide +kernel, rfl⟩
theorem dX11_menIn_22 : Dc cX11_menIn 22 (.iaload) 1 23 := ⟨by decide +kernel, rfl⟩
theorem dX11_menIn_23 : Dc cX11_menIn 23 (.iadd) 1 24 := ⟨by decide +kernel, rfl⟩
theorem dX11_menIn_24 : Dc cX11_menIn 24 (.istore_n 2) 1 25 := ⟨by decide +kernel, rfl⟩
theorem dX11_menIn_25 : Dc cX11_menIn 25 (.iinc 3 1) 3 28 := ⟨by decide +kernel, rfl⟩
theorem dX11_menIn_28 : Dj cX11_menIn 28 (.goto (-24)) 3 31 (-24) 4 := ⟨by decide +kernel, rfl, by decide⟩
theorem dX11_menIn_31 : Dc cX11_menIn 31 (.iload_n 2) 1 32 := ⟨by decide +kernel, rfl⟩
theorem dX11_menIn_32 : Dc cX11_menIn 32 (.ireturn) 1 33 := ⟨by decide +kernel, rfl⟩
theorem dX11_told_0 : Dc cX11_told 0 (.iload_n 1) 1 1 := ⟨by decide +kernel, rfl⟩
theorem dX11_told_1 : decode cX11_told 1 = .ok (.tableswitch 169 0 14 #[75, 82, 89, 94, 99, 104, 109, 114, 121, 128, 134, 141, 146, 151, 156], 75) := by decide +kernel
theorem dX11_told_76 : Dc cX11_told 76 (.aload_n 0) 1 77 := ⟨by decide +kernel, rfl⟩
theorem dX11_told_77 : Dc cX11_told 77 (.getfield 7) 3 80 := ⟨by decide +kernel, rfl⟩
theorem dX11_told_80 : Dc cX11_told 80 (.iconst 0) 1 81 := ⟨by decide +kernel, rfl⟩
theorem dX11_told_81 : Dc cX11_told 81 (.iaload) 1 82 := ⟨by decide +kernel, rfl⟩
theorem dX11_told_82 : Dc cX11_told 82 (.ireturn) 1 83 := ⟨by decide +kernel, rfl⟩
theorem dX11_told_83 : Dc cX11_told 83 (.aload_n 0) 1 84 := ⟨by decide +kernel, rfl⟩
theorem dX11_told_84 : Dc cX11_told 84 (.getfield 7) 3 87 := ⟨by decide +kernel, rfl⟩
theorem dX11_told_87 : Dc cX11_told 87 (.iconst 1) 1 88 := ⟨by decide +kernel, rfl⟩
theorem dX11_told_88 : Dc cX11_told 88 (.iaload) 1 89 := ⟨by decide +kernel, rfl⟩
theorem dX11_told_89 : Dc cX11_told 89 (.ireturn) 1 90 := ⟨by decide +kernel, rfl⟩
theorem dX11_told_90 : Dc cX11_told 90 (.aload_n 0) 1 91 := ⟨by decide +kernel, rfl⟩
theorem dX11_told_91 : Dc cX11_told 91 (.getfield 82) 3 94 := ⟨by decide +kernel, rfl⟩
theorem dX11_told_94 : Dc cX11_told 94 (.ireturn) 1 95 := ⟨by decide +kernel, rfl⟩
theorem dX11_told_95 : Dc cX11_told 95 (.aload_n 0) 1 96 := ⟨by decide +kernel, rfl⟩
theorem dX11_told_96 : Dc cX11_told 96 (.getfield 89) 3 99 := ⟨by decide +kernel, rfl⟩
theorem dX11_told_99 : Dc cX11_told 99 (.ireturn) 1 100 := ⟨by decide +kernel, rfl⟩
theorem dX11_told_100 : Dc cX11_told 100 (.aload_n 0) 1 101 := ⟨by decide +kernel, rfl⟩
theorem dX11_told_101 : Dc cX11_told 101 (.getfield 92) 3 104 := ⟨by decide +kernel, rfl⟩
theorem dX11_told_104 : Dc cX11_told 104 (.ireturn) 1 105 := ⟨by decide +kernel, rfl⟩
theorem dX11_told_105 : Dc cX11_told 105 (.aload_n 0) 1 106 := ⟨by decide +kernel, rfl⟩
theorem dX11_told_106 : Dc cX11_told 106 (.getfield 176) 3 109 := ⟨by decide +kernel, rfl⟩
theorem dX11_told_109 : Dc cX11_told 109 (.ireturn) 1 110 := ⟨by decide +kernel, rfl⟩
theorem dX11_told_110 : Dc cX11_told 110 (.aload_n 0) 1 111 := ⟨by decide +kernel, rfl⟩
theorem dX11_told_111 : Dc cX11_told 111 (.getfield 100) 3 114 := ⟨by decide +kernel, rfl⟩
theorem dX11_told_114 : Dc cX11_told 114 (.ireturn) 1 115 := ⟨by decide +kernel, rfl⟩
theorem dX11_told_115 : Dc cX11_told 115 (.aload_n 0) 1 116 := ⟨by decide +kernel, rfl⟩
theorem dX11_told_116 : Dc cX11_told 116 (.getfield 7) 3 119 := ⟨by decide +kernel, rfl⟩
theorem dX11_told_119 : Dc cX11_told 119 (.iconst 2) 1 120 := ⟨by decide +kernel, rfl⟩
theorem dX11_told_120 : Dc cX11_told 120 (.iaload) 1 121 := ⟨by decide +kernel, rfl⟩
theorem dX11_told_121 : Dc cX11_told 121 (.ireturn) 1 122 := ⟨by decide +kernel, rfl⟩
theorem dX11_told_122 : Dc cX11_told 122 (.aload_n 0) 1 123 := ⟨by decide +kernel, rfl⟩
theorem dX11_told_123 : Dc cX11_told 123 (.getfield 7) 3 126 := ⟨by decide +kernel, rfl⟩
theorem dX11_told_126 : Dc cX11_told 126 (.iconst 3) 1 127 := ⟨by decide +kernel, rfl⟩
theorem dX11_told_127 : Dc cX11_told 127 (.iaload) 1 128 := ⟨by decide +kernel, rfl⟩
theorem dX11_told_128 : Dc cX11_told 128 (.ireturn) 1 129 := ⟨by decide +kernel, rfl⟩
theorem dX11_told_129 : Dc cX11_told 129 (.aload_n 0) 1 130 := ⟨by decide +kernel, rfl⟩
theorem dX11_told_130 : Dc cX11_told 130 (.iconst 0) 1 131 := ⟨by decide +kernel, rfl⟩
theorem dX11_told_131 : Dc cX11_told 131 (.invokevirtual 188) 3 134 := ⟨by decide +kernel, rfl⟩
theorem dX11_told_134 : Dc cX11_told 134 (.ireturn) 1 135 := ⟨by decide +kernel, rfl⟩
theorem dX11_told_135 : Dc cX11_told 135 (.aload_n 0) 1 136 := ⟨by decide +kernel, rfl⟩
theorem dX11_told_136 : Dc cX11_told 136 (.getfield 7) 3 139 := ⟨by decide +kernel, rfl⟩
theorem dX11_told_139 : Dc cX11_told 139 (.iconst 4) 1 140 := ⟨by decide +kernel, rfl⟩
theorem dX11_told_140 : Dc cX11_told 140 (.iaload) 1 141 := ⟨by decide +kernel, rfl⟩
theorem dX11_told_141 : Dc cX11_told 141 (.ireturn) 1 142 := ⟨by decide +kernel, rfl⟩
theorem dX11_told_142 : Dc cX11_told 142 (.aload_n 0) 1 143 := ⟨by decide +kernel, rfl⟩
theorem dX11_told_143 : Dc cX11_told 143 (.getfield 179) 3 146 := ⟨by decide +kernel, rfl⟩
theorem dX11_told_146 : Dc cX11_told 146 (.ireturn) 1 147 := ⟨by decide +kernel, rfl⟩
theorem dX11_told_147 : Dc cX11_told 147 (.aload_n 0) 1 148 := ⟨by decide +kernel, rfl⟩
theorem dX11_told_148 : Dc cX11_told 148 (.getfield 182) 3 151 := ⟨by decide +kernel, rfl⟩
theorem dX11_told_151 : Dc cX11_told 151 (.ireturn) 1 152 := ⟨by decide +kernel, rfl⟩
theorem dX11_told_152 : Dc cX11_told 152 (.aload_n 0) 1 153 := ⟨by decide +kernel, rfl⟩
theorem dX11_told_153 : Dc cX11_told 153 (.getfield 185) 3 156 := ⟨by decide +kernel, rfl⟩
theorem dX11_told_156 : Dc cX11_told 156 (.ireturn) 1 157 := ⟨by decide +kernel, rfl⟩
theorem dX11_told_157 : Dc cX11_told 157 (.aload_n 0) 1 158 := ⟨by decide +kernel, rfl⟩
theorem dX11_told_158 : Dc cX11_told 158 (.getfield 78) 3 161 := ⟨by decide +kernel, rfl⟩
theorem dX11_told_161 : Dj cX11_told 161 (.ifCond .eq 7) 3 164 (7) 168 := ⟨by decide +kernel, rfl, by decide⟩
theorem dX11_told_164 : Dc cX11_told 164 (.iconst 1) 1 165 := ⟨by decide +kernel, rfl⟩
theorem dX11_told_165 : Dj cX11_told 165 (.goto 4) 3 168 (4) 169 := ⟨by decide +kernel, rfl, by decide⟩
theorem dX11_told_168 : Dc cX11_told 168 (.iconst 0) 1 169 := ⟨by decide +kernel, rfl⟩
theorem dX11_told_169 : Dc cX11_told 169 (.ireturn) 1 170 := ⟨by decide +kernel, rfl⟩
theorem dX11_told_170 : Dc cX11_told 170 (.ldc 99) 2 172 := ⟨by decide +kernel, rfl⟩
theorem dX11_told_172 : Dc cX11_told 172 (.ireturn) 1 173 := ⟨by decide +kernel, rfl⟩
theorem dX11_company_0 : Dc cX11_company 0 (.aload_n 0) 1 1 := ⟨by decide +kernel, rfl⟩
theorem dX11_company_1 : Dc cX11_company 1 (.iload_n 1) 1 2 := ⟨by decide +kernel, rfl⟩
theorem dX11_company_2 : Dc cX11_company 2 (.invokevirtual 191) 3 5 := ⟨by decide +kernel, rfl⟩
theorem dX11_company_5 : Dj cX11_company 5 (.ifCond .ne 6) 3 8 (6) 11 := ⟨by decide +kernel, rfl, by decide⟩
theorem dX11_company_8 : Dc cX11_company 8 (.ldc 194) 2 10 := ⟨by decide +kernel, rfl⟩
theorem dX11_company_10 : Dc cX11_company 10 (.ireturn) 1 11 := ⟨by decide +kernel, rfl⟩
theorem dX11_company_11 : Dc cX11_company 11 (.iload_n 2) 1 12 := ⟨by decide +kernel, rfl⟩
theorem dX11_company_12 : decode cX11_company 12 = .ok (.tableswitch 79 0 4 #[36, 45, 52, 59, 69], 36) := by decide +kernel
theorem dX11_company_48 : Dc cX11_company 48 (.aload_n 0) 1 49 := ⟨by decide +kernel, rfl⟩
theorem dX11_company_49 : Dc cX11_company 49 (.getfield 7) 3 52 := ⟨by decide +kernel, rfl⟩
theorem dX11_company_52 : Dc cX11_company 52 (.iconst 5) 1 53 := ⟨by decide +kernel, rfl⟩
theorem dX11_company_53 : Dc cX11_company 53 (.iload_n 1) 1 54 := ⟨by decide +kernel, rfl⟩
theorem dX11_company_54 : Dc cX11_company 54 (.iadd) 1 55 := ⟨by decide +kernel, rfl⟩
theorem dX11_company_55 : Dc cX11_company 55 (.iaload) 1 56 := ⟨by decide +kernel, rfl⟩
theorem dX11_company_56 : Dc cX11_company 56 (.ireturn) 1 57 := ⟨by decide +kernel, rfl⟩
theorem dX11_company_57 : Dc cX11_company 57 (.aload_n 0) 1 58 := ⟨by decide +kernel, rfl⟩
theorem dX11_company_58 : Dc cX11_company 58 (.getfield 17) 3 61 := ⟨by decide +kernel, rfl⟩
theorem dX11_company_61 : Dc cX11_company 61 (.iload_n 1) 1 62 := ⟨by decide +kernel, rfl⟩
theorem dX11_company_62 : Dc cX11_company 62 (.iaload) 1 63 := ⟨by decide +kernel, rfl⟩
theorem dX11_company_63 : Dc cX11_company 63 (.ireturn) 1 64 := ⟨by decide +kernel, rfl⟩
theorem dX11_company_64 : Dc cX11_company 64 (.aload_n 0) 1 65 := ⟨by decide +kernel, rfl⟩
theorem dX11_company_65 : Dc cX11_company 65 (.getfield 20) 3 68 := ⟨by decide +kernel, rfl⟩
theorem dX11_company_68 : Dc cX11_company 68 (.iload_n 1) 1 69 := ⟨by decide +kernel, rfl⟩
theorem dX11_company_69 : Dc cX11_company 69 (.iaload) 1 70 := ⟨by decide +kernel, rfl⟩
theorem dX11_company_70 : Dc cX11_company 70 (.ireturn) 1 71 := ⟨by decide +kernel, rfl⟩
theorem dX11_company_71 : Dc cX11_company 71 (.aload_n 0) 1 72 := ⟨by decide +kernel, rfl⟩
theorem dX11_company_72 : Dc cX11_company 72 (.getfield 7) 3 75 := ⟨by decide +kernel, rfl⟩
theorem dX11_company_75 : Dc cX11_company 75 (.bipush 10) 2 77 := ⟨by decide +kernel, rfl⟩
theorem dX11_company_77 : Dc cX11_company 77 (.iload_n 1) 1 78 := ⟨by decide +kernel, rfl⟩
theorem dX11_company_78 : Dc cX11_company 78 (.iadd) 1 79 := ⟨by decide +kernel, rfl⟩
theorem dX11_company_79 : Dc cX11_company 79 (.iaload) 1 80 := ⟨by decide +kernel, rfl⟩
theorem dX11_company_80 : Dc cX11_company 80 (.ireturn) 1 81 := ⟨by decide +kernel, rfl⟩
theorem dX11_company_81 : Dc cX11_company 81 (.aload_n 0) 1 82 := ⟨by decide +kernel, rfl⟩
theorem dX11_company_82 : Dc cX11_company 82 (.getfield 7) 3 85 := ⟨by decide +kernel, rfl⟩
theorem dX11_company_85 : Dc cX11_company 85 (.bipush 15) 2 87 := ⟨by decide +kernel, rfl⟩
theorem dX11_company_87 : Dc cX11_company 87 (.iload_n 1) 1 88 := ⟨by decide +kernel, rfl⟩
theorem dX11_company_88 : Dc cX11_company 88 (.iadd) 1 89 := ⟨by decide +kernel, rfl⟩
theorem dX11_company_89 : Dc cX11_company 89 (.iaload) 1 90 := ⟨by decide +kernel, rfl⟩
theorem dX11_company_90 : Dc cX11_company 90 (.ireturn) 1 91 := ⟨by decide +kernel, rfl⟩
theorem dX11_company_91 : Dc cX11_company 91 (.ldc 99) 2 93 := ⟨by decide +kernel, rfl⟩
theorem dX11_company_93 : Dc cX11_company 93 (.ireturn) 1 94 := ⟨by decide +kernel, rfl⟩
theorem dX11_money_0 : Dc cX11_money 0 (.aload_n 0) 1 1 := ⟨by decide +kernel, rfl⟩
theorem dX11_money_1 : Dc cX11_money 1 (.iload_n 1) 1 2 := ⟨by decide +kernel, rfl⟩
theorem dX11_money_2 : Dc cX11_money 2 (.invokevirtual 195) 3 5 := ⟨by decide +kernel, rfl⟩
theorem dX11_money_5 : Dj cX11_money 5 (.ifCond .ne 6) 3 8 (6) 11 := ⟨by decide +kernel, rfl, by decide⟩
theorem dX11_money_8 : Dc cX11_money 8 (.ldc 194) 2 10 := ⟨by decide +kernel, rfl⟩
theorem dX11_money_10 : Dc cX11_money 10 (.ireturn) 1 11 := ⟨by decide +kernel, rfl⟩
theorem dX11_money_11 : Dc cX11_money 11 (.iload_n 2) 1 12 := ⟨by decide +kernel, rfl⟩
theorem dX11_money_12 : Dj cX11_money 12 (.ifCond .ne 15) 3 15 (15) 27 := ⟨by decide +kernel, rfl, by decide⟩
theorem dX11_money_15 : Dc cX11_money 15 (.aload_n 0) 1 16 := ⟨by decide +kernel, rfl⟩
theorem dX11_money_16 : Dc cX11_money 16 (.getfield 7) 3 19 := ⟨by decide +kernel, rfl⟩
theorem dX11_money_19 : Dc cX11_money 19 (.bipush 20) 2 21 := ⟨by decide +kernel, rfl⟩
theorem dX11_money_21 : Dc cX11_money 21 (.iload_n 1) 1 22 := ⟨by decide +kernel, rfl⟩
theorem dX11_money_22 : Dc cX11_money 22 (.iadd) 1 23 := ⟨by decide +kernel, rfl⟩
theorem dX11_money_23 : Dc cX11_money 23 (.iaload) 1 24 := ⟨by decide +kernel, rfl⟩
theorem dX11_money_24 : Dj cX11_money 24 (.goto 33) 3 27 (33) 57 := ⟨by decide +kernel, rfl, by decide⟩
theorem dX11_money_27 : Dc cX11_money 27 (.iload_n 2) 1 28 := ⟨by decide +kernel, rfl⟩
theorem dX11_money_28 : Dc cX11_money 28 (.iconst 1) 1 29 := ⟨by decide +kernel, rfl⟩
theorem dX11_money_29 : Dj cX11_money 29 (.if_icmp .ne 12) 3 32 (12) 41 := ⟨by decide +kernel, rfl, by decide⟩
theorem dX11_money_32 : Dc cX11_money 32 (.aload_n 0) 1 33 := ⟨by decide +kernel, rfl⟩
theorem dX11_money_33 : Dc cX11_money 33 (.getfield 23) 3 36 := ⟨by decide +kernel, rfl⟩
theorem dX11_money_36 : Dc cX11_money 36 (.iload_n 1) 1 37 := ⟨by decide +kernel, rfl⟩
theorem dX11_money_37 : Dc cX11_money 37 (.iaload) 1 38 := ⟨by decide +kernel, rfl⟩
theorem dX11_money_38 : Dj cX11_money 38 (.goto 19) 3 41 (19) 57 := ⟨by decide +kernel, rfl, by decide⟩
theorem dX11_money_41 : Dc cX11_money 41 (.iload_n 2) 1 42 := ⟨by decide +kernel, rfl⟩
theorem dX11_money_42 : Dc cX11_money 42 (.iconst 2) 1 43 := ⟨by decide +kernel, rfl⟩
theorem dX11_money_43 : Dj cX11_money 43 (.if_icmp .ne 12) 3 46 (12) 55 := ⟨by decide +kernel, rfl, by decide⟩
theorem dX11_money_46 : Dc cX11_money 46 (.aload_n 0) 1 47 := ⟨by decide +kernel, rfl⟩
theorem dX11_money_47 : Dc cX11_money 47 (.getfield 26) 3 50 := ⟨by decide +kernel, rfl⟩
theorem dX11_money_50 : Dc cX11_money 50 (.iload_n 1) 1 51 := ⟨by decide +kernel, rfl⟩
theorem dX11_money_51 : Dc cX11_money 51 (.iaload) 1 52 := ⟨by decide +kernel, rfl⟩
theorem dX11_money_52 : Dj cX11_money 52 (.goto 5) 3 55 (5) 57 := ⟨by decide +kernel, rfl, by decide⟩
theorem dX11_money_55 : Dc cX11_money 55 (.ldc 99) 2 57 := ⟨by decide +kernel, rfl⟩
theorem dX11_money_57 : Dc cX11_money 57 (.ireturn) 1 58 := ⟨by decide +kernel, rfl⟩
theorem dX11_eats_0 : Dc cX11_eats 0 (.aload_n 0) 1 1 := ⟨by decide +kernel, rfl⟩
theorem dX11_eats_1 : Dc cX11_eats 1 (.getfield 7) 3 4 := ⟨by decide +kernel, rfl⟩
theorem dX11_eats_4 : Dc cX11_eats 4 (.iload_n 1) 1 5 := ⟨by decide +kernel, rfl⟩
theorem dX11_eats_5 : Dc cX11_eats 5 (.iconst 5) 1 6 := ⟨by decide +kernel, rfl⟩
theorem dX11_eats_6 : Dc cX11_eats 6 (.iadd) 1 7 := ⟨by decide +kernel, rfl⟩
theorem dX11_eats_7 : Dc cX11_eats 7 (.iload_n 2) 1 8 := ⟨by decide +kernel, rfl⟩
theorem dX11_eats_8 : Dc cX11_eats 8 (.iadd) 1 9 := ⟨by decide +kernel, rfl⟩
theorem dX11_eats_9 : Dc cX11_eats 9 (.iaload) 1 10 := ⟨by decide +kernel, rfl⟩
theorem dX11_eats_10 : Dc cX11_eats 10 (.istore 4) 2 12 := ⟨by decide +kernel, rfl⟩
theorem dX11_eats_12 : Dc cX11_eats 12 (.aload_n 0) 1 13 := ⟨by decide +kernel, rfl⟩
theorem dX11_eats_13 : Dc cX11_eats 13 (.getfield 7) 3 16 := ⟨by decide +kernel, rfl⟩
theorem dX11_eats_16 : Dc cX11_eats 16 (.iload_n 1) 1 17 := ⟨by decide +kernel, rfl⟩
theorem dX11_eats_17 : Dc cX11_eats 17 (.iconst 0) 1 18 := ⟨by decide +kernel, rfl⟩
theorem dX11_eats_18 : Dc cX11_eats 18 (.iadd) 1 19 := ⟨by decide +kernel, rfl⟩
theorem dX11_eats_19 : Dc cX11_eats 19 (.iaload) 1 20 := ⟨by decide +kernel, rfl⟩
theorem dX11_eats_20 : Dc cX11_eats 20 (.iload_n 3) 1 21 := ⟨by decide +kernel, rfl⟩
theorem dX11_eats_21 : Dc cX11_eats 21 (.iload 4) 2 23 := ⟨by decide +kernel, rfl⟩
theorem dX11_eats_23 : Dc cX11_eats 23 (.imul) 1 24 := ⟨by decide +kernel, rfl⟩
theorem dX11_eats_24 : Dj cX11_eats 24 (.if_icmp .lt 7) 3 27 (7) 31 := ⟨by decide +kernel, rfl, by decide⟩
theorem dX11_eats_27 : Dc cX11_eats 27 (.iconst 1) 1 28 := ⟨by decide +kernel, rfl⟩
theorem dX11_eats_28 : Dj cX11_eats 28 (.goto 4) 3 31 (4) 32 := ⟨by decide +kernel, rfl, by decide⟩
theorem dX11_eats_31 : Dc cX11_eats 31 (.iconst 0) 1 32 := ⟨by decide +kernel, rfl⟩
theorem dX11_eats_32 : Dc cX11_eats 32 (.istore 5) 2 34 := ⟨by decide +kernel, rfl⟩
theorem dX11_eats_34 : Dc cX11_eats 34 (.aload_n 0) 1 35 := ⟨by decide +kernel, rfl⟩
theorem dX11_eats_35 : Dc cX11_eats 35 (.getfield 7) 3 38 := ⟨by decide +kernel, rfl⟩
theorem dX11_eats_38 : Dc cX11_eats 38 (.iload_n 1) 1 39 := ⟨by decide +kernel, rfl⟩
theorem dX11_eats_39 : Dc cX11_eats 39 (.iconst 0) 1 40 := ⟨by decide +kernel, rfl⟩
theorem dX11_eats_40 : Dc cX11_eats 40 (.iadd) 1 41 := ⟨by decide +kernel, rfl⟩
theorem dX11_eats_41 : Dc cX11_eats 41 (.dup2) 1 42 := ⟨by decide +kernel, rfl⟩
theorem dX11_eats_42 : Dc cX11_eats 42 (.iaload) 1 43 := ⟨by decide +kernel, rfl⟩
theorem dX11_eats_43 : Dc cX11_eats 43 (.iload 5) 2 45 := ⟨by decide +kernel, rfl⟩
theorem dX11_eats_45 : Dj cX11_eats 45 (.ifCond .eq 10) 3 48 (10) 55 := ⟨by decide +kernel, rfl, by decide⟩
theorem dX11_eats_48 : Dc cX11_eats 48 (.iload_n 3) 1 49 := ⟨by decide +kernel, rfl⟩
theorem dX11_eats_49 : Dc cX11_eats 49 (.iload 4) 2 51 := ⟨by decide +kernel, rfl⟩
theorem dX11_eats_51 : Dc cX11_eats 51 (.imul) 1 52 := ⟨by decide +kernel, rfl⟩
theorem dX11_eats_52 : Dj cX11_eats 52 (.goto 4) 3 55 (4) 56 := ⟨by decide +kernel, rfl, by decide⟩
theorem dX11_eats_55 : Dc cX11_eats 55 (.iconst 0) 1 56 := ⟨by decide +kernel, rfl⟩
theorem dX11_eats_56 : Dc cX11_eats 56 (.isub) 1 57 := ⟨by decide +kernel, rfl⟩
theorem dX11_eats_57 : Dc cX11_eats 57 (.iastore) 1 58 := ⟨by decide +kernel, rfl⟩
theorem dX11_eats_58 : Dc cX11_eats 58 (.iload 5) 2 60 := ⟨by decide +kernel, rfl⟩
theorem dX11_eats_60 : Dj cX11_eats 60 (.ifCond .eq 8) 3 63 (8) 68 := ⟨by decide +kernel, rfl, by decide⟩
theorem dX11_eats_63 : Dc cX11_eats 63 (.iload_n 3) 1 64 := ⟨by decide +kernel, rfl⟩
theorem dX11_eats_64 : Dc cX11_eats 64 (.iconst 2) 1 65 := ⟨by decide +kernel, rfl⟩
theorem dX11_eats_65 : Dj cX11_eats 65 (.if_icmp .ge 7) 3 68 (7) 72 := ⟨by decide +kernel, rfl, by decide⟩
theorem dX11_eats_68 : Dc cX11_eats 68 (.iconst 1) 1 69 := ⟨by decide +kernel, rfl⟩
theorem dX11_eats_69 : Dj cX11_eats 69 (.goto 4) 3 72 (4) 73 := ⟨by decide +kernel, rfl, by decide⟩
theorem dX11_eats_72 : Dc cX11_eats 72 (.iconst 0) 1 73 := ⟨by decide +kernel, rfl⟩
theorem dX11_eats_73 : Dc cX11_eats 73 (.istore 6) 2 75 := ⟨by decide +kernel, rfl⟩
theorem dX11_eats_75 : Dc cX11_eats 75 (.aload_n 0) 1 76 := ⟨by decide +kernel, rfl⟩
theorem dX11_eats_76 : Dc cX11_eats 76 (.getfield 7) 3 79 := ⟨by decide +kernel, rfl⟩
theorem dX11_eats_79 : Dc cX11_eats 79 (.iload_n 1) 1 80 := ⟨by decide +kernel, rfl⟩
theorem dX11_eats_80 : Dc cX11_eats 80 (.bipush 10) 2 82 := ⟨by decide +kernel, rfl⟩
theorem dX11_eats_82 : Dc cX11_eats 82 (.iadd) 1 83 := ⟨by decide +kernel, rfl⟩
theorem dX11_eats_83 : Dc cX11_eats 83 (.iload_n 2) 1 84 := ⟨by decide +kernel, rfl⟩
theorem dX11_eats_84 : Dc cX11_eats 84 (.iadd) 1 85 := ⟨by decide +kernel, rfl⟩
theorem dX11_eats_85 : Dc cX11_eats 85 (.iload 6) 2 87 := ⟨by decide +kernel, rfl⟩
theorem dX11_eats_87 : Dj cX11_eats 87 (.ifCond .eq 19) 3 90 (19) 106 := ⟨by decide +kernel, rfl, by decide⟩
theorem dX11_eats_90 : Dc cX11_eats 90 (.aload_n 0) 1 91 := ⟨by decide +kernel, rfl⟩
theorem dX11_eats_91 : Dc cX11_eats 91 (.getfield 7) 3 94 := ⟨by decide +kernel, rfl⟩
theorem dX11_eats_94 : Dc cX11_eats 94 (.iload_n 1) 1 95 := ⟨by decide +kernel, rfl⟩
theorem dX11_eats_95 : Dc cX11_eats 95 (.bipush 10) 2 97 := ⟨by decide +kernel, rfl⟩
theorem dX11_eats_97 : Dc cX11_eats 97 (.iadd) 1 98 := ⟨by decide +kernel, rfl⟩
theorem dX11_eats_98 : Dc cX11_eats 98 (.iload_n 2) 1 99 := ⟨by decide +kernel, rfl⟩
theorem dX11_eats_99 : Dc cX11_eats 99 (.iadd) 1 100 := ⟨by decide +kernel, rfl⟩
theorem dX11_eats_100 : Dc cX11_eats 100 (.iaload) 1 101 := ⟨by decide +kernel, rfl⟩
theorem dX11_eats_101 : Dc cX11_eats 101 (.iconst 1) 1 102 := ⟨by decide +kernel, rfl⟩
theorem dX11_eats_102 : Dc cX11_eats 102 (.iadd) 1 103 := ⟨by decide +kernel, rfl⟩
theorem dX11_eats_103 : Dj cX11_eats 103 (.goto 4) 3 106 (4) 107 := ⟨by decide +kernel, rfl, by decide⟩
theorem dX11_eats_106 : Dc cX11_eats 106 (.iconst 0) 1 107 := ⟨by decide +kernel, rfl⟩
theorem dX11_eats_107 : Dc cX11_eats 107 (.iastore) 1 108 := ⟨by decide +kernel, rfl⟩
theorem dX11_eats_108 : Dc cX11_eats 108 (.aload_n 0) 1 109 := ⟨by decide +kernel, rfl⟩
theorem dX11_eats_109 : Dc cX11_eats 109 (.getfield 7) 3 112 := ⟨by decide +kernel, rfl⟩
theorem dX11_eats_112 : Dc cX11_eats 112 (.iload_n 1) 1 113 := ⟨by decide +kernel, rfl⟩
theorem dX11_eats_113 : Dc cX11_eats 113 (.bipush 10) 2 115 := ⟨by decide +kernel, rfl⟩
theorem dX11_eats_115 : Dc cX11_eats 115 (.iadd) 1 116 := ⟨by decide +kernel, rfl⟩
theorem dX11_eats_116 : Dc cX11_eats 116 (.iload_n 2) 1 117 := ⟨by decide +kernel, rfl⟩
theorem dX11_eats_117 : Dc cX11_eats 117 (.iadd) 1 118 := ⟨by decide +kernel, rfl⟩
theorem dX11_eats_118 : Dc cX11_eats 118 (.iaload) 1 119 := ⟨by decide +kernel, rfl⟩
theorem dX11_eats_119 : Dc cX11_eats 119 (.aload_n 0) 1 120 := ⟨by decide +kernel, rfl⟩
theorem dX11_eats_120 : Dc cX11_eats 120 (.getfield 20) 3 123 := ⟨by decide +kernel, rfl⟩
theorem dX11_eats_123 : Dc cX11_eats 123 (.iload_n 2) 1 124 := ⟨by decide +kernel, rfl⟩
theorem dX11_eats_124 : Dc cX11_eats 124 (.iaload) 1 125 := ⟨by decide +kernel, rfl⟩
theorem dX11_eats_125 : Dj cX11_eats 125 (.if_icmp .le 63) 3 128 (63) 188 := ⟨by decide +kernel, rfl, by decide⟩
theorem dX11_eats_128 : Dc cX11_eats 128 (.iload 4) 2 130 := ⟨by decide +kernel, rfl⟩
theorem dX11_eats_130 : Dj cX11_eats 130 (.ifCond .le 58) 3 133 (58) 188 := ⟨by decide +kernel, rfl, by decide⟩
theorem dX11_eats_133 : Dc cX11_eats 133 (.iload 4) 2 135 := ⟨by decide +kernel, rfl⟩
theorem dX11_eats_135 : Dc cX11_eats 135 (.iconst 5) 1 136 := ⟨by decide +kernel, rfl⟩
theorem dX11_eats_136 : Dc cX11_eats 136 (.idiv) 1 137 := ⟨by decide +kernel, rfl⟩
theorem dX11_eats_137 : Dc cX11_eats 137 (.iconst 1) 1 138 := ⟨by decide +kernel, rfl⟩
theorem dX11_eats_138 : Dc cX11_eats 138 (.iadd) 1 139 := ⟨by decide +kernel, rfl⟩
theorem dX11_eats_139 : Dc cX11_eats 139 (.istore 7) 2 141 := ⟨by decide +kernel, rfl⟩
theorem dX11_eats_141 : Dc cX11_eats 141 (.aload_n 0) 1 142 := ⟨by decide +kernel, rfl⟩
theorem dX11_eats_142 : Dc cX11_eats 142 (.getfield 7) 3 145 := ⟨by decide +kernel, rfl⟩
theorem dX11_eats_145 : Dc cX11_eats 145 (.iload_n 1) 1 146 := ⟨by decide +kernel, rfl⟩
theorem dX11_eats_146 : Dc cX11_eats 146 (.iconst 5) 1 147 := ⟨by decide +kernel, rfl⟩
theorem dX11_eats_147 : Dc cX11_eats 147 (.iadd) 1 148 := ⟨by decide +kernel, rfl⟩
theorem dX11_eats_148 : Dc cX11_eats 148 (.iload_n 2) 1 149 := ⟨by decide +kernel, rfl⟩
theorem dX11_eats_149 : Dc cX11_eats 149 (.iadd) 1 150 := ⟨by decide +kernel, rfl⟩
theorem dX11_eats_150 : Dc cX11_eats 150 (.dup2) 1 151 := ⟨by decide +kernel, rfl⟩
theorem dX11_eats_151 : Dc cX11_eats 151 (.iaload) 1 152 := ⟨by decide +kernel, rfl⟩
theorem dX11_eats_152 : Dc cX11_eats 152 (.iload 7) 2 154 := ⟨by decide +kernel, rfl⟩
theorem dX11_eats_154 : Dc cX11_eats 154 (.iload 4) 2 156 := ⟨by decide +kernel, rfl⟩
theorem dX11_eats_156 : Dj cX11_eats 156 (.if_icmp .ge 8) 3 159 (8) 164 := ⟨by decide +kernel, rfl, by decide⟩
theorem dX11_eats_159 : Dc cX11_eats 159 (.iload 7) 2 161 := ⟨by decide +kernel, rfl⟩
theorem dX11_eats_161 : Dj cX11_eats 161 (.goto 5) 3 164 (5) 166 := ⟨by decide +kernel, rfl, by decide⟩
theorem dX11_eats_164 : Dc cX11_eats 164 (.iload 4) 2 166 := ⟨by decide +kernel, rfl⟩
theorem dX11_eats_166 : Dc cX11_eats 166 (.isub) 1 167 := ⟨by decide +kernel, rfl⟩
theorem dX11_eats_167 : Dc cX11_eats 167 (.iastore) 1 168 := ⟨by decide +kernel, rfl⟩
theorem dX11_eats_168 : Dc cX11_eats 168 (.aload_n 0) 1 169 := ⟨by decide +kernel, rfl⟩
theorem dX11_eats_169 : Dc cX11_eats 169 (.aload_n 0) 1 170 := ⟨by decide +kernel, rfl⟩
theorem dX11_eats_170 : Dc cX11_eats 170 (.getfield 198) 3 173 := ⟨by decide +kernel, rfl⟩
theorem dX11_eats_173 : Dc cX11_eats 173 (.iconst (-1)) 1 174 := ⟨by decide +kernel, rfl⟩
theorem dX11_eats_174 : Dj cX11_eats 174 (.if_icmp .ne 7) 3 177 (7) 181 := ⟨by decide +kernel, rfl, by decide⟩
theorem dX11_eats_177 : Dc cX11_eats 177 (.iload_n 2) 1 178 := ⟨by decide +kernel, rfl⟩
theorem dX11_eats_178 : Dj cX11_eats 178 (.goto 7) 3 181 (7) 185 := ⟨by decide +kernel, rfl, by decide⟩
theorem dX11_eats_181 : Dc cX11_eats 181 (.aload_n 0) 1 182 := ⟨by decide +kernel, rfl⟩
theorem dX11_eats_182 : Dc cX11_eats 182 (.getfield 198) 3 185 := ⟨by decide +kernel, rfl⟩
theorem dX11_eats_185 : Dc cX11_eats 185 (.putfield 198) 3 188 := ⟨by decide +kernel, rfl⟩
theorem dX11_eats_188 : Dc cX11_eats 188 (.iload 6) 2 190 := ⟨by decide +kernel, rfl⟩
theorem dX11_eats_190 : Dj cX11_eats 190 (.ifCond .eq 12) 3 193 (12) 202 := ⟨by decide +kernel, rfl, by decide⟩
theorem dX11_eats_193 : Dc cX11_eats 193 (.iload 4) 2 195 := ⟨by decide +kernel, rfl⟩
theorem dX11_eats_195 : Dj cX11_eats 195 (.ifCond .le 7) 3 198 (7) 202 := ⟨by decide +kernel, rfl, by decide⟩
theorem dX11_eats_198 : Dc cX11_eats 198 (.iconst 1) 1 199 := ⟨by decide +kernel, rfl⟩
theorem dX11_eats_199 : Dj cX11_eats 199 (.goto 4) 3 202 (4) 203 := ⟨by decide +kernel, rfl, by decide⟩
theorem dX11_eats_202 : Dc cX11_eats 202 (.iconst 0) 1 203 := ⟨by decide +kernel, rfl⟩
theorem dX11_eats_203 : Dc cX11_eats 203 (.ireturn) 1 204 := ⟨by decide +kernel, rfl⟩
theorem dX11_isPaid_0 : Dc cX11_isPaid 0 (.aload_n 0) 1 1 := ⟨by decide +kernel, rfl⟩
theorem dX11_isPaid_1 : Dc cX11_isPaid 1 (.getfield 7) 3 4 := ⟨by decide +kernel, rfl⟩
theorem dX11_isPaid_4 : Dc cX11_isPaid 4 (.iload_n 1) 1 5 := ⟨by decide +kernel, rfl⟩
theorem dX11_isPaid_5 : Dc cX11_isPaid 5 (.iconst 5) 1 6 := ⟨by decide +kernel, rfl⟩
theorem dX11_isPaid_6 : Dc cX11_isPaid 6 (.iadd) 1 7 := ⟨by decide +kernel, rfl⟩
theorem dX11_isPaid_7 : Dc cX11_isPaid 7 (.iload_n 2) 1 8 := ⟨by decide +kernel, rfl⟩
theorem dX11_isPaid_8 : Dc cX11_isPaid 8 (.iadd) 1 9 := ⟨by decide +kernel, rfl⟩
theorem dX11_isPaid_9 : Dc cX11_isPaid 9 (.iaload) 1 10 := ⟨by decide +kernel, rfl⟩
theorem dX11_isPaid_10 : Dc cX11_isPaid 10 (.aload_n 0) 1 11 := ⟨by decide +kernel, rfl⟩
theorem dX11_isPaid_11 : Dc cX11_isPaid 11 (.getfield 17) 3 14 := ⟨by decide +kernel, rfl⟩
theorem dX11_isPaid_14 : Dc cX11_isPaid 14 (.iload_n 2) 1 15 := ⟨by decide +kernel, rfl⟩
theorem dX11_isPaid_15 : Dc cX11_isPaid 15 (.iaload) 1 16 := ⟨by decide +kernel, rfl⟩
theorem dX11_isPaid_16 : Dc cX11_isPaid 16 (.imul) 1 17 := ⟨by decide +kernel, rfl⟩
theorem dX11_isPaid_17 : Dc cX11_isPaid 17 (.istore_n 3) 1 18 := ⟨by decide +kernel, rfl⟩
theorem dX11_isPaid_18 : Dc cX11_isPaid 18 (.iconst 0) 1 19 := ⟨by decide +kernel, rfl⟩
theorem dX11_isPaid_19 : Dc cX11_isPaid 19 (.istore 4) 2 21 := ⟨by decide +kernel, rfl⟩
theorem dX11_isPaid_21 : Dc cX11_isPaid 21 (.iload 4) 2 23 := ⟨by decide +kernel, rfl⟩
theorem dX11_isPaid_23 : Dc cX11_isPaid 23 (.aload_n 0) 1 24 := ⟨by decide +kernel, rfl⟩
theorem dX11_isPaid_24 : Dc cX11_isPaid 24 (.getfield 89) 3 27 := ⟨by decide +kernel, rfl⟩
theorem dX11_isPaid_27 : Dj cX11_isPaid 27 (.if_icmp .ge 62) 3 30 (62) 89 := ⟨by decide +kernel, rfl, by decide⟩
theorem dX11_isPaid_30 : Dc cX11_isPaid 30 (.aload_n 0) 1 31 := ⟨by decide +kernel, rfl⟩
theorem dX11_isPaid_31 : Dc cX11_isPaid 31 (.getfield 7) 3 34 := ⟨by decide +kernel, rfl⟩
theorem dX11_isPaid_34 : Dc cX11_isPaid 34 (.iload_n 1) 1 35 := ⟨by decide +kernel, rfl⟩
theorem dX11_isPaid_35 : Dc cX11_isPaid 35 (.bipush 20) 2 37 := ⟨by decide +kernel, rfl⟩
theorem dX11_isPaid_37 : Dc cX11_isPaid 37 (.iadd) 1 38 := ⟨by decide +kernel, rfl⟩
theorem dX11_isPaid_38 : Dc cX11_isPaid 38 (.iload 4) 2 40 := ⟨by decide +kernel, rfl⟩
theorem dX11_isPaid_40 : Dc cX11_isPaid 40 (.iadd) 1 41 := ⟨by decide +kernel, rfl⟩
theorem dX11_isPaid_41 : Dc cX11_isPaid 41 (.iaload) 1 42 := ⟨by decide +kernel, rfl⟩
theorem dX11_isPaid_42 : Dc cX11_isPaid 42 (.iload_n 3) 1 43 := ⟨by decide +kernel, rfl⟩
theorem dX11_isPaid_43 : Dj cX11_isPaid 43 (.if_icmp .lt 40) 3 46 (40) 83 := ⟨by decide +kernel, rfl, by decide⟩
theorem dX11_isPaid_46 : Dc cX11_isPaid 46 (.aload_n 0) 1 47 := ⟨by decide +kernel, rfl⟩
theorem dX11_isPaid_47 : Dc cX11_isPaid 47 (.getfield 7) 3 50 := ⟨by decide +kernel, rfl⟩
theorem dX11_isPaid_50 : Dc cX11_isPaid 50 (.iload_n 1) 1 51 := ⟨by decide +kernel, rfl⟩
theorem dX11_isPaid_51 : Dc cX11_isPaid 51 (.bipush 20) 2 53 := ⟨by decide +kernel, rfl⟩
theorem dX11_isPaid_53 : Dc cX11_isPaid 53 (.iadd) 1 54 := ⟨by decide +kernel, rfl⟩
theorem dX11_isPaid_54 : Dc cX11_isPaid 54 (.iload 4) 2 56 := ⟨by decide +kernel, rfl⟩
theorem dX11_isPaid_56 : Dc cX11_isPaid 56 (.iadd) 1 57 := ⟨by decide +kernel, rfl⟩
theorem dX11_isPaid_57 : Dc cX11_isPaid 57 (.dup2) 1 58 := ⟨by decide +kernel, rfl⟩
theorem dX11_isPaid_58 : Dc cX11_isPaid 58 (.iaload) 1 59 := ⟨by decide +kernel, rfl⟩
theorem dX11_isPaid_59 : Dc cX11_isPaid 59 (.iload_n 3) 1 60 := ⟨by decide +kernel, rfl⟩
theorem dX11_isPaid_60 : Dc cX11_isPaid 60 (.isub) 1 61 := ⟨by decide +kernel, rfl⟩
theorem dX11_isPaid_61 : Dc cX11_isPaid 61 (.iastore) 1 62 := ⟨by decide +kernel, rfl⟩
theorem dX11_isPaid_62 : Dc cX11_isPaid 62 (.aload_n 0) 1 63 := ⟨by decide +kernel, rfl⟩
theorem dX11_isPaid_63 : Dc cX11_isPaid 63 (.getfield 7) 3 66 := ⟨by decide +kernel, rfl⟩
theorem dX11_isPaid_66 : Dc cX11_isPaid 66 (.iload_n 1) 1 67 := ⟨by decide +kernel, rfl⟩
theorem dX11_isPaid_67 : Dc cX11_isPaid 67 (.bipush 24) 2 69 := ⟨by decide +kernel, rfl⟩
theorem dX11_isPaid_69 : Dc cX11_isPaid 69 (.iadd) 1 70 := ⟨by decide +kernel, rfl⟩
theorem dX11_isPaid_70 : Dc cX11_isPaid 70 (.iconst 4) 1 71 := ⟨by decide +kernel, rfl⟩
theorem dX11_isPaid_71 : Dc cX11_isPaid 71 (.iload_n 2) 1 72 := ⟨by decide +kernel, rfl⟩
theorem dX11_isPaid_72 : Dc cX11_isPaid 72 (.imul) 1 73 := ⟨by decide +kernel, rfl⟩
theorem dX11_isPaid_73 : Dc cX11_isPaid 73 (.iadd) 1 74 := ⟨by decide +kernel, rfl⟩
theorem dX11_isPaid_74 : Dc cX11_isPaid 74 (.iload 4) 2 76 := ⟨by decide +kernel, rfl⟩
theorem dX11_isPaid_76 : Dc cX11_isPaid 76 (.iadd) 1 77 := ⟨by decide +kernel, rfl⟩
theorem dX11_isPaid_77 : Dc cX11_isPaid 77 (.dup2) 1 78 := ⟨by decide +kernel, rfl⟩
theorem dX11_isPaid_78 : Dc cX11_isPaid 78 (.iaload) 1 79 := ⟨by decide +kernel, rfl⟩
theorem dX11_isPaid_79 : Dc cX11_isPaid 79 (.iload_n 3) 1 80 := ⟨by decide +kernel, rfl⟩
theorem dX11_isPaid_80 : Dc cX11_isPaid 80 (.iadd) 1 81 := ⟨by decide +kernel, rfl⟩
theorem dX11_isPaid_81 : Dc cX11_isPaid 81 (.iastore) 1 82 := ⟨by decide +kernel, rfl⟩
theorem dX11_isPaid_82 : Dc cX11_isPaid 82 (.return_) 1 83 := ⟨by decide +kernel, rfl⟩
theorem dX11_isPaid_83 : Dc cX11_isPaid 83 (.iinc 4 1) 3 86 := ⟨by decide +kernel, rfl⟩
theorem dX11_isPaid_86 : Dj cX11_isPaid 86 (.goto (-65)) 3 89 (-65) 21 := ⟨by decide +kernel, rfl, by decide⟩
theorem dX11_isPaid_89 : Dc cX11_isPaid 89 (.aload_n 0) 1 90 := ⟨by decide +kernel, rfl⟩
theorem dX11_isPaid_90 : Dc cX11_isPaid 90 (.getfield 7) 3 93 := ⟨by decide +kernel, rfl⟩
theorem dX11_isPaid_93 : Dc cX11_isPaid 93 (.iload_n 1) 1 94 := ⟨by decide +kernel, rfl⟩
theorem dX11_isPaid_94 : Dc cX11_isPaid 94 (.bipush 15) 2 96 := ⟨by decide +kernel, rfl⟩
theorem dX11_isPaid_96 : Dc cX11_isPaid 96 (.iadd) 1 97 := ⟨by decide +kernel, rfl⟩
theorem dX11_isPaid_97 : Dc cX11_isPaid 97 (.iload_n 2) 1 98 := ⟨by decide +kernel, rfl⟩
theorem dX11_isPaid_98 : Dc cX11_isPaid 98 (.iadd) 1 99 := ⟨by decide +kernel, rfl⟩
theorem dX11_isPaid_99 : Dc cX11_isPaid 99 (.dup2) 1 100 := ⟨by decide +kernel, rfl⟩
theorem dX11_isPaid_100 : Dc cX11_isPaid 100 (.iaload) 1 101 := ⟨by decide +kernel, rfl⟩
theorem dX11_isPaid_101 : Dc cX11_isPaid 101 (.iload_n 3) 1 102 := ⟨by decide +kernel, rfl⟩
theorem dX11_isPaid_102 : Dc cX11_isPaid 102 (.iadd) 1 103 := ⟨by decide +kernel, rfl⟩
theorem dX11_isPaid_103 : Dc cX11_isPaid 103 (.iastore) 1 104 := ⟨by decide +kernel, rfl⟩
theorem dX11_isPaid_104 : Dc cX11_isPaid 104 (.return_) 1 105 := ⟨by decide +kernel, rfl⟩
theorem dX11_passes_0 : Dc cX11_passes 0 (.iconst 0) 1 1 := ⟨by decide +kernel, rfl⟩
theorem dX11_passes_1 : Dc cX11_passes 1 (.istore_n 3) 1 2 := ⟨by decide +kernel, rfl⟩
theorem dX11_passes_2 : Dc cX11_passes 2 (.iload_n 3) 1 3 := ⟨by decide +kernel, rfl⟩
theorem dX11_passes_3 : Dc cX11_passes 3 (.aload_n 0) 1 4 := ⟨by decide +kernel, rfl⟩
theorem dX11_passes_4 : Dc cX11_passes 4 (.getfield 176) 3 7 := ⟨by decide +kernel, rfl⟩
theorem dX11_passes_7 : Dj cX11_passes 7 (.if_icmp .ge 47) 3 10 (47) 54 := ⟨by decide +kernel, rfl, by decide⟩
theorem dX11_passes_10 : Dc cX11_passes 10 (.aload_n 0) 1 11 := ⟨by decide +kernel, rfl⟩
theorem dX11_passes_11 : Dc cX11_passes 11 (.getfield 7) 3 14 := ⟨by decide +kernel, rfl⟩
theorem dX11_passes_14 : Dc cX11_passes 14 (.iload_n 1) 1 15 := ⟨by decide +kernel, rfl⟩
theorem dX11_passes_15 : Dc cX11_passes 15 (.iconst 0) 1 16 := ⟨by decide +kernel, rfl⟩
theorem dX11_passes_16 : Dc cX11_passes 16 (.iadd) 1 17 := ⟨by decide +kernel, rfl⟩
theorem dX11_passes_17 : Dc cX11_passes 17 (.dup2) 1 18 := ⟨by decide +kernel, rfl⟩
theorem dX11_passes_18 : Dc cX11_passes 18 (.iaload) 1 19 := ⟨by decide +kernel, rfl⟩
theorem dX11_passes_19 : Dc cX11_passes 19 (.aload_n 0) 1 20 := ⟨by decide +kernel, rfl⟩
theorem dX11_passes_20 : Dc cX11_passes 20 (.getfield 32) 3 23 := ⟨by decide +kernel, rfl⟩
theorem dX11_passes_23 : Dc cX11_passes 23 (.iload_n 3) 1 24 := ⟨by decide +kernel, rfl⟩
theorem dX11_passes_24 : Dc cX11_passes 24 (.iaload) 1 25 := ⟨by decide +kernel, rfl⟩
theorem dX11_passes_25 : Dc cX11_passes 25 (.aload_n 0) 1 26 := ⟨by decide +kernel, rfl⟩
theorem dX11_passes_26 : Dc cX11_passes 26 (.getfield 7) 3 29 := ⟨by decide +kernel, rfl⟩
theorem dX11_passes_29 : Dc cX11_passes 29 (.iload_n 1) 1 30 := ⟨by decide +kernel, rfl⟩
theorem dX11_passes_30 : Dc cX11_passes 30 (.iconst 2) 1 31 := ⟨by decide +kernel, rfl⟩
theorem dX11_passes_31 : Dc cX11_passes 31 (.iadd) 1 32 := ⟨by decide +kernel, rfl⟩
theorem dX11_passes_32 : Dc cX11_passes 32 (.iaload) 1 33 := ⟨by decide +kernel, rfl⟩
theorem dX11_passes_33 : Dj cX11_passes 33 (.if_icmp .ne 12) 3 36 (12) 45 := ⟨by decide +kernel, rfl, by decide⟩
theorem dX11_passes_36 : Dc cX11_passes 36 (.aload_n 0) 1 37 := ⟨by decide +kernel, rfl⟩
theorem dX11_passes_37 : Dc cX11_passes 37 (.getfield 35) 3 40 := ⟨by decide +kernel, rfl⟩
theorem dX11_passes_40 : Dc cX11_passes 40 (.iload_n 3) 1 41 := ⟨by decide +kernel, rfl⟩
theorem dX11_passes_41 : Dc cX11_passes 41 (.iaload) 1 42 := ⟨by decide +kernel, rfl⟩
theorem dX11_passes_42 : Dj cX11_passes 42 (.goto 4) 3 45 (4) 46 := ⟨by decide +kernel, rfl, by decide⟩
theorem dX11_passes_45 : Dc cX11_passes 45 (.iconst 0) 1 46 := ⟨by decide +kernel, rfl⟩
theorem dX11_passes_46 : Dc cX11_passes 46 (.iadd) 1 47 := ⟨by decide +kernel, rfl⟩
theorem dX11_passes_47 : Dc cX11_passes 47 (.iastore) 1 48 := ⟨by decide +kernel, rfl⟩
theorem dX11_passes_48 : Dc cX11_passes 48 (.iinc 3 1) 3 51 := ⟨by decide +kernel, rfl⟩
theorem dX11_passes_51 : Dj cX11_passes 51 (.goto (-49)) 3 54 (-49) 2 := ⟨by decide +kernel, rfl, by decide⟩
theorem dX11_passes_54 : Dc cX11_passes 54 (.aload_n 0) 1 55 := ⟨by decide +kernel, rfl⟩
theorem dX11_passes_55 : Dc cX11_passes 55 (.iconst (-1)) 1 56 := ⟨by decide +kernel, rfl⟩
theorem dX11_passes_56 : Dc cX11_passes 56 (.putfield 198) 3 59 := ⟨by decide +kernel, rfl⟩
theorem dX11_passes_59 : Dc cX11_passes 59 (.iconst 0) 1 60 := ⟨by decide +kernel, rfl⟩
theorem dX11_passes_60 : Dc cX11_passes 60 (.istore_n 3) 1 61 := ⟨by decide +kernel, rfl⟩
theorem dX11_passes_61 : Dc cX11_passes 61 (.iconst 0) 1 62 := ⟨by decide +kernel, rfl⟩
theorem dX11_passes_62 : Dc cX11_passes 62 (.istore 4) 2 64 := ⟨by decide +kernel, rfl⟩
theorem dX11_passes_64 : Dc cX11_passes 64 (.iload 4) 2 66 := ⟨by decide +kernel, rfl⟩
theorem dX11_passes_66 : Dc cX11_passes 66 (.aload_n 0) 1 67 := ⟨by decide +kernel, rfl⟩
theorem dX11_passes_67 : Dc cX11_passes 67 (.getfield 82) 3 70 := ⟨by decide +kernel, rfl⟩
theorem dX11_passes_70 : Dj cX11_passes 70 (.if_icmp .ge 30) 3 73 (30) 100 := ⟨by decide +kernel, rfl, by decide⟩
theorem dX11_passes_73 : Dc cX11_passes 73 (.aload_n 0) 1 74 := ⟨by decide +kernel, rfl⟩
theorem dX11_passes_74 : Dc cX11_passes 74 (.iload_n 1) 1 75 := ⟨by decide +kernel, rfl⟩
theorem dX11_passes_75 : Dc cX11_passes 75 (.iload 4) 2 77 := ⟨by decide +kernel, rfl⟩
theorem dX11_passes_77 : Dc cX11_passes 77 (.iload_n 2) 1 78 := ⟨by decide +kernel, rfl⟩
theorem dX11_passes_78 : Dc cX11_passes 78 (.invokevirtual 201) 3 81 := ⟨by decide +kernel, rfl⟩
theorem dX11_passes_81 : Dj cX11_passes 81 (.ifCond .ne 7) 3 84 (7) 88 := ⟨by decide +kernel, rfl, by decide⟩
theorem dX11_passes_84 : Dc cX11_passes 84 (.iload_n 3) 1 85 := ⟨by decide +kernel, rfl⟩
theorem dX11_passes_85 : Dj cX11_passes 85 (.ifCond .eq 7) 3 88 (7) 92 := ⟨by decide +kernel, rfl, by decide⟩
theorem dX11_passes_88 : Dc cX11_passes 88 (.iconst 1) 1 89 := ⟨by decide +kernel, rfl⟩
theorem dX11_passes_89 : Dj cX11_passes 89 (.goto 4) 3 92 (4) 93 := ⟨by decide +kernel, rfl, by decide⟩
theorem dX11_passes_92 : Dc cX11_passes 92 (.iconst 0) 1 93 := ⟨by decide +kernel, rfl⟩
theorem dX11_passes_93 : Dc cX11_passes 93 (.istore_n 3) 1 94 := ⟨by decide +kernel, rfl⟩
theorem dX11_passes_94 : Dc cX11_passes 94 (.iinc 4 1) 3 97 := ⟨by decide +kernel, rfl⟩
theorem dX11_passes_97 : Dj cX11_passes 97 (.goto (-33)) 3 100 (-33) 64 := ⟨by decide +kernel, rfl, by decide⟩
theorem dX11_passes_100 : Dc cX11_passes 100 (.iconst 0) 1 101 := ⟨by decide +kernel, rfl⟩
theorem dX11_passes_101 : Dc cX11_passes 101 (.istore 4) 2 103 := ⟨by decide +kernel, rfl⟩
theorem dX11_passes_103 : Dc cX11_passes 103 (.iload 4) 2 105 := ⟨by decide +kernel, rfl⟩
theorem dX11_passes_105 : Dc cX11_passes 105 (.aload_n 0) 1 106 := ⟨by decide +kernel, rfl⟩
theorem dX11_passes_106 : Dc cX11_passes 106 (.getfield 82) 3 109 := ⟨by decide +kernel, rfl⟩
theorem dX11_passes_109 : Dj cX11_passes 109 (.if_icmp .ge 16) 3 112 (16) 125 := ⟨by decide +kernel, rfl, by decide⟩
theorem dX11_passes_112 : Dc cX11_passes 112 (.aload_n 0) 1 113 := ⟨by decide +kernel, rfl⟩
theorem dX11_passes_113 : Dc cX11_passes 113 (.iload_n 1) 1 114 := ⟨by decide +kernel, rfl⟩
theorem dX11_passes_114 : Dc cX11_passes 114 (.iload 4) 2 116 := ⟨by decide +kernel, rfl⟩
theorem dX11_passes_116 : Dc cX11_passes 116 (.invokevirtual 205) 3 119 := ⟨by decide +kernel, rfl⟩
theorem dX11_passes_119 : Dc cX11_passes 119 (.iinc 4 1) 3 122 := ⟨by decide +kernel, rfl⟩
theorem dX11_passes_122 : Dj cX11_passes 122 (.goto (-19)) 3 125 (-19) 103 := ⟨by decide +kernel, rfl, by decide⟩
theorem dX11_passes_125 : Dc cX11_passes 125 (.aload_n 0) 1 126 := ⟨by decide +kernel, rfl⟩
theorem dX11_passes_126 : Dc cX11_passes 126 (.getfield 7) 3 129 := ⟨by decide +kernel, rfl⟩
theorem dX11_passes_129 : Dc cX11_passes 129 (.iload_n 1) 1 130 := ⟨by decide +kernel, rfl⟩
theorem dX11_passes_130 : Dc cX11_passes 130 (.iconst 3) 1 131 := ⟨by decide +kernel, rfl⟩
theorem dX11_passes_131 : Dc cX11_passes 131 (.iadd) 1 132 := ⟨by decide +kernel, rfl⟩
theorem dX11_passes_132 : Dc cX11_passes 132 (.dup2) 1 133 := ⟨by decide +kernel, rfl⟩
theorem dX11_passes_133 : Dc cX11_passes 133 (.iaload) 1 134 := ⟨by decide +kernel, rfl⟩
theorem dX11_passes_134 : Dc cX11_passes 134 (.iload_n 3) 1 135 := ⟨by decide +kernel, rfl⟩
theorem dX11_passes_135 : Dj cX11_passes 135 (.ifCond .eq 7) 3 138 (7) 142 := ⟨by decide +kernel, rfl, by decide⟩
theorem dX11_passes_138 : Dc cX11_passes 138 (.iconst 1) 1 139 := ⟨by decide +kernel, rfl⟩
theorem dX11_passes_139 : Dj cX11_passes 139 (.goto 19) 3 142 (19) 158 := ⟨by decide +kernel, rfl, by decide⟩
theorem dX11_passes_142 : Dc cX11_passes 142 (.aload_n 0) 1 143 := ⟨by decide +kernel, rfl⟩
theorem dX11_passes_143 : Dc cX11_passes 143 (.getfield 7) 3 146 := ⟨by decide +kernel, rfl⟩
theorem dX11_passes_146 : Dc cX11_passes 146 (.iload_n 1) 1 147 := ⟨by decide +kernel, rfl⟩
theorem dX11_passes_147 : Dc cX11_passes 147 (.iconst 3) 1 148 := ⟨by decide +kernel, rfl⟩
theorem dX11_passes_148 : Dc cX11_passes 148 (.iadd) 1 149 := ⟨by decide +kernel, rfl⟩
theorem dX11_passes_149 : Dc cX11_passes 149 (.iaload) 1 150 := ⟨by decide +kernel, rfl⟩
theorem dX11_passes_150 : Dj cX11_passes 150 (.ifCond .le 7) 3 153 (7) 157 := ⟨by decide +kernel, rfl, by decide⟩
theorem dX11_passes_153 : Dc cX11_passes 153 (.iconst (-1)) 1 154 := ⟨by decide +kernel, rfl⟩
theorem dX11_passes_154 : Dj cX11_passes 154 (.goto 4) 3 157 (4) 158 := ⟨by decide +kernel, rfl, by decide⟩
theorem dX11_passes_157 : Dc cX11_passes 157 (.iconst 0) 1 158 := ⟨by decide +kernel, rfl⟩
theorem dX11_passes_158 : Dc cX11_passes 158 (.iadd) 1 159 := ⟨by decide +kernel, rfl⟩
theorem dX11_passes_159 : Dc cX11_passes 159 (.iastore) 1 160 := ⟨by decide +kernel, rfl⟩
theorem dX11_passes_160 : Dc cX11_passes 160 (.aload_n 0) 1 161 := ⟨by decide +kernel, rfl⟩
theorem dX11_passes_161 : Dc cX11_passes 161 (.getfield 7) 3 164 := ⟨by decide +kernel, rfl⟩
theorem dX11_passes_164 : Dc cX11_passes 164 (.iload_n 1) 1 165 := ⟨by decide +kernel, rfl⟩
theorem dX11_passes_165 : Dc cX11_passes 165 (.iconst 2) 1 166 := ⟨by decide +kernel, rfl⟩
theorem dX11_passes_166 : Dc cX11_passes 166 (.iadd) 1 167 := ⟨by decide +kernel, rfl⟩
theorem dX11_passes_167 : Dc cX11_passes 167 (.dup2) 1 168 := ⟨by decide +kernel, rfl⟩
theorem dX11_passes_168 : Dc cX11_passes 168 (.iaload) 1 169 := ⟨by decide +kernel, rfl⟩
theorem dX11_passes_169 : Dc cX11_passes 169 (.iconst 1) 1 170 := ⟨by decide +kernel, rfl⟩
theorem dX11_passes_170 : Dc cX11_passes 170 (.iadd) 1 171 := ⟨by decide +kernel, rfl⟩
theorem dX11_passes_171 : Dc cX11_passes 171 (.iastore) 1 172 := ⟨by decide +kernel, rfl⟩
theorem dX11_passes_172 : Dc cX11_passes 172 (.return_) 1 173 := ⟨by decide +kernel, rfl⟩
end
section
theorem dX11_minds_0 : Dc cX11_minds 0 (.aload_n 0) 1 1 := ⟨by decide +kernel, rfl⟩
theorem dX11_minds_1 : Dc cX11_minds 1 (.getfield 185) 3 4 := ⟨by decide +kernel, rfl⟩
theorem dX11_minds_4 : Dc cX11_minds 4 (.bipush 20) 2 6 := ⟨by decide +kernel, rfl⟩
theorem dX11_minds_6 : Dj cX11_minds 6 (.if_icmp .ne 51) 3 9 (51) 57 := ⟨by decide +kernel, rfl, by decide⟩
theorem dX11_minds_9 : Dc cX11_minds 9 (.iconst 0) 1 10 := ⟨by decide +kernel, rfl⟩
theorem dX11_minds_10 : Dc cX11_minds 10 (.istore_n 1) 1 11 := ⟨by decide +kernel, rfl⟩
theorem dX11_minds_11 : Dc cX11_minds 11 (.iload_n 1) 1 12 := ⟨by decide +kernel, rfl⟩
theorem dX11_minds_12 : Dc cX11_minds 12 (.sipush 855) 3 15 := ⟨by decide +kernel, rfl⟩
theorem dX11_minds_15 : Dj cX11_minds 15 (.if_icmp .ge 32) 3 18 (32) 47 := ⟨by decide +kernel, rfl, by decide⟩
theorem dX11_minds_18 : Dc cX11_minds 18 (.aload_n 0) 1 19 := ⟨by decide +kernel, rfl⟩
theorem dX11_minds_19 : Dc cX11_minds 19 (.getfield 7) 3 22 := ⟨by decide +kernel, rfl⟩
theorem dX11_minds_22 : Dc cX11_minds 22 (.sipush 180) 3 25 := ⟨by decide +kernel, rfl⟩
theorem dX11_minds_25 : Dc cX11_minds 25 (.iload_n 1) 1 26 := ⟨by decide +kernel, rfl⟩
theorem dX11_minds_26 : Dc cX11_minds 26 (.iadd) 1 27 := ⟨by decide +kernel, rfl⟩
theorem dX11_minds_27 : Dc cX11_minds 27 (.aload_n 0) 1 28 := ⟨by decide +kernel, rfl⟩
theorem dX11_minds_28 : Dc cX11_minds 28 (.getfield 7) 3 31 := ⟨by decide +kernel, rfl⟩
theorem dX11_minds_31 : Dc cX11_minds 31 (.sipush 180) 3 34 := ⟨by decide +kernel, rfl⟩
theorem dX11_minds_34 : Dc cX11_minds 34 (.iload_n 1) 1 35 := ⟨by decide +kernel, rfl⟩
theorem dX11_minds_35 : Dc cX11_minds 35 (.iadd) 1 36 := ⟨by decide +kernel, rfl⟩
theorem dX11_minds_36 : Dc cX11_minds 36 (.bipush 45) 2 38 := ⟨by decide +kernel, rfl⟩
theorem dX11_minds_38 : Dc cX11_minds 38 (.iadd) 1 39 := ⟨by decide +kernel, rfl⟩
theorem dX11_minds_39 : Dc cX11_minds 39 (.iaload) 1 40 := ⟨by decide +kernel, rfl⟩
theorem dX11_minds_40 : Dc cX11_minds 40 (.iastore) 1 41 := ⟨by decide +kernel, rfl⟩
theorem dX11_minds_41 : Dc cX11_minds 41 (.iinc 1 1) 3 44 := ⟨by decide +kernel, rfl⟩
theorem dX11_minds_44 : Dj cX11_minds 44 (.goto (-33)) 3 47 (-33) 11 := ⟨by decide +kernel, rfl, by decide⟩
theorem dX11_minds_47 : Dc cX11_minds 47 (.aload_n 0) 1 48 := ⟨by decide +kernel, rfl⟩
theorem dX11_minds_48 : Dc cX11_minds 48 (.dup) 1 49 := ⟨by decide +kernel, rfl⟩
theorem dX11_minds_49 : Dc cX11_minds 49 (.getfield 185) 3 52 := ⟨by decide +kernel, rfl⟩
theorem dX11_minds_52 : Dc cX11_minds 52 (.iconst 1) 1 53 := ⟨by decide +kernel, rfl⟩
theorem dX11_minds_53 : Dc cX11_minds 53 (.isub) 1 54 := ⟨by decide +kernel, rfl⟩
theorem dX11_minds_54 : Dc cX11_minds 54 (.putfield 185) 3 57 := ⟨by decide +kernel, rfl⟩
theorem dX11_minds_57 : Dc cX11_minds 57 (.aload_n 0) 1 58 := ⟨by decide +kernel, rfl⟩
theorem dX11_minds_58 : Dc cX11_minds 58 (.iconst 0) 1 59 := ⟨by decide +kernel, rfl⟩
theorem dX11_minds_59 : Dc cX11_minds 59 (.sipush 180) 3 62 := ⟨by decide +kernel, rfl⟩
theorem dX11_minds_62 : Dc cX11_minds 62 (.bipush 45) 2 64 := ⟨by decide +kernel, rfl⟩
theorem dX11_minds_64 : Dc cX11_minds 64 (.aload_n 0) 1 65 := ⟨by decide +kernel, rfl⟩
theorem dX11_minds_65 : Dc cX11_minds 65 (.getfield 185) 3 68 := ⟨by decide +kernel, rfl⟩
theorem dX11_minds_68 : Dc cX11_minds 68 (.imul) 1 69 := ⟨by decide +kernel, rfl⟩
theorem dX11_minds_69 : Dc cX11_minds 69 (.iadd) 1 70 := ⟨by decide +kernel, rfl⟩
theorem dX11_minds_70 : Dc cX11_minds 70 (.invokevirtual 209) 3 73 := ⟨by decide +kernel, rfl⟩
theorem dX11_minds_73 : Dc cX11_minds 73 (.aload_n 0) 1 74 := ⟨by decide +kernel, rfl⟩
theorem dX11_minds_74 : Dc cX11_minds 74 (.dup) 1 75 := ⟨by decide +kernel, rfl⟩
theorem dX11_minds_75 : Dc cX11_minds 75 (.getfield 185) 3 78 := ⟨by decide +kernel, rfl⟩
theorem dX11_minds_78 : Dc cX11_minds 78 (.iconst 1) 1 79 := ⟨by decide +kernel, rfl⟩
theorem dX11_minds_79 : Dc cX11_minds 79 (.iadd) 1 80 := ⟨by decide +kernel, rfl⟩
theorem dX11_minds_80 : Dc cX11_minds 80 (.putfield 185) 3 83 := ⟨by decide +kernel, rfl⟩
theorem dX11_minds_83 : Dc cX11_minds 83 (.return_) 1 84 := ⟨by decide +kernel, rfl⟩
theorem dX11_undo_0 : Dc cX11_undo 0 (.aload_n 0) 1 1 := ⟨by decide +kernel, rfl⟩
theorem dX11_undo_1 : Dc cX11_undo 1 (.getfield 185) 3 4 := ⟨by decide +kernel, rfl⟩
theorem dX11_undo_4 : Dj cX11_undo 4 (.ifCond .ne 6) 3 7 (6) 10 := ⟨by decide +kernel, rfl, by decide⟩
theorem dX11_undo_7 : Dc cX11_undo 7 (.ldc 212) 2 9 := ⟨by decide +kernel, rfl⟩
theorem dX11_undo_9 : Dc cX11_undo 9 (.ireturn) 1 10 := ⟨by decide +kernel, rfl⟩
theorem dX11_undo_10 : Dc cX11_undo 10 (.aload_n 0) 1 11 := ⟨by decide +kernel, rfl⟩
theorem dX11_undo_11 : Dc cX11_undo 11 (.getfield 7) 3 14 := ⟨by decide +kernel, rfl⟩
theorem dX11_undo_14 : Dc cX11_undo 14 (.bipush 44) 2 16 := ⟨by decide +kernel, rfl⟩
theorem dX11_undo_16 : Dc cX11_undo 16 (.iaload) 1 17 := ⟨by decide +kernel, rfl⟩
theorem dX11_undo_17 : Dc cX11_undo 17 (.istore_n 1) 1 18 := ⟨by decide +kernel, rfl⟩
theorem dX11_undo_18 : Dc cX11_undo 18 (.aload_n 0) 1 19 := ⟨by decide +kernel, rfl⟩
theorem dX11_undo_19 : Dc cX11_undo 19 (.dup) 1 20 := ⟨by decide +kernel, rfl⟩
theorem dX11_undo_20 : Dc cX11_undo 20 (.getfield 185) 3 23 := ⟨by decide +kernel, rfl⟩
theorem dX11_undo_23 : Dc cX11_undo 23 (.iconst 1) 1 24 := ⟨by decide +kernel, rfl⟩
theorem dX11_undo_24 : Dc cX11_undo 24 (.isub) 1 25 := ⟨by decide +kernel, rfl⟩
theorem dX11_undo_25 : Dc cX11_undo 25 (.putfield 185) 3 28 := ⟨by decide +kernel, rfl⟩
theorem dX11_undo_28 : Dc cX11_undo 28 (.aload_n 0) 1 29 := ⟨by decide +kernel, rfl⟩
theorem dX11_undo_29 : Dc cX11_undo 29 (.sipush 180) 3 32 := ⟨by decide +kernel, rfl⟩
theorem dX11_undo_32 : Dc cX11_undo 32 (.bipush 45) 2 34 := ⟨by decide +kernel, rfl⟩
theorem dX11_undo_34 : Dc cX11_undo 34 (.aload_n 0) 1 35 := ⟨by decide +kernel, rfl⟩
theorem dX11_undo_35 : Dc cX11_undo 35 (.getfield 185) 3 38 := ⟨by decide +kernel, rfl⟩
theorem dX11_undo_38 : Dc cX11_undo 38 (.imul) 1 39 := ⟨by decide +kernel, rfl⟩
theorem dX11_undo_39 : Dc cX11_undo 39 (.iadd) 1 40 := ⟨by decide +kernel, rfl⟩
theorem dX11_undo_40 : Dc cX11_undo 40 (.iconst 0) 1 41 := ⟨by decide +kernel, rfl⟩
theorem dX11_undo_41 : Dc cX11_undo 41 (.invokevirtual 209) 3 44 := ⟨by decide +kernel, rfl⟩
theorem dX11_undo_44 : Dc cX11_undo 44 (.aload_n 0) 1 45 := ⟨by decide +kernel, rfl⟩
theorem dX11_undo_45 : Dc cX11_undo 45 (.getfield 7) 3 48 := ⟨by decide +kernel, rfl⟩
theorem dX11_undo_48 : Dc cX11_undo 48 (.bipush 44) 2 50 := ⟨by decide +kernel, rfl⟩
theorem dX11_undo_50 : Dc cX11_undo 50 (.iload_n 1) 1 51 := ⟨by decide +kernel, rfl⟩
theorem dX11_undo_51 : Dc cX11_undo 51 (.iastore) 1 52 := ⟨by decide +kernel, rfl⟩
theorem dX11_undo_52 : Dc cX11_undo 52 (.aload_n 0) 1 53 := ⟨by decide +kernel, rfl⟩
theorem dX11_undo_53 : Dc cX11_undo 53 (.getfield 185) 3 56 := ⟨by decide +kernel, rfl⟩
theorem dX11_undo_56 : Dc cX11_undo 56 (.ireturn) 1 57 := ⟨by decide +kernel, rfl⟩
theorem dX11_isOver_0 : Dc cX11_isOver 0 (.aload_n 0) 1 1 := ⟨by decide +kernel, rfl⟩
theorem dX11_isOver_1 : Dc cX11_isOver 1 (.getfield 78) 3 4 := ⟨by decide +kernel, rfl⟩
theorem dX11_isOver_4 : Dj cX11_isOver 4 (.ifCond .eq 12) 3 7 (12) 16 := ⟨by decide +kernel, rfl, by decide⟩
theorem dX11_isOver_7 : Dc cX11_isOver 7 (.aload_n 0) 1 8 := ⟨by decide +kernel, rfl⟩
theorem dX11_isOver_8 : Dc cX11_isOver 8 (.getfield 7) 3 11 := ⟨by decide +kernel, rfl⟩
theorem dX11_isOver_11 : Dc cX11_isOver 11 (.iconst 4) 1 12 := ⟨by decide +kernel, rfl⟩
theorem dX11_isOver_12 : Dc cX11_isOver 12 (.iaload) 1 13 := ⟨by decide +kernel, rfl⟩
theorem dX11_isOver_13 : Dj cX11_isOver 13 (.ifCond .eq 7) 3 16 (7) 20 := ⟨by decide +kernel, rfl, by decide⟩
theorem dX11_isOver_16 : Dc cX11_isOver 16 (.iconst 1) 1 17 := ⟨by decide +kernel, rfl⟩
theorem dX11_isOver_17 : Dj cX11_isOver 17 (.goto 4) 3 20 (4) 21 := ⟨by decide +kernel, rfl, by decide⟩
theorem dX11_isOver_20 : Dc cX11_isOver 20 (.iconst 0) 1 21 := ⟨by decide +kernel, rfl⟩
theorem dX11_isOver_21 : Dc cX11_isOver 21 (.ireturn) 1 22 := ⟨by decide +kernel, rfl⟩
theorem dX11_day_0 : Dc cX11_day 0 (.iload_n 1) 1 1 := ⟨by decide +kernel, rfl⟩
theorem dX11_day_1 : Dc cX11_day 1 (.invokestatic 213) 3 4 := ⟨by decide +kernel, rfl⟩
theorem dX11_day_4 : Dj cX11_day 4 (.ifCond .eq 15) 3 7 (15) 19 := ⟨by decide +kernel, rfl, by decide⟩
theorem dX11_day_7 : Dc cX11_day 7 (.iload_n 2) 1 8 := ⟨by decide +kernel, rfl⟩
theorem dX11_day_8 : Dc cX11_day 8 (.i2l) 1 9 := ⟨by decide +kernel, rfl⟩
theorem dX11_day_9 : Dc cX11_day 9 (.lconst 1) 1 10 := ⟨by decide +kernel, rfl⟩
theorem dX11_day_10 : Dc cX11_day 10 (.ldc2_w 216) 3 13 := ⟨by decide +kernel, rfl⟩
theorem dX11_day_13 : Dc cX11_day 13 (.invokestatic 85) 3 16 := ⟨by decide +kernel, rfl⟩
theorem dX11_day_16 : Dj cX11_day 16 (.ifCond .ne 6) 3 19 (6) 22 := ⟨by decide +kernel, rfl, by decide⟩
theorem dX11_day_19 : Dc cX11_day 19 (.ldc 99) 2 21 := ⟨by decide +kernel, rfl⟩
theorem dX11_day_21 : Dc cX11_day 21 (.ireturn) 1 22 := ⟨by decide +kernel, rfl⟩
theorem dX11_day_22 : Dc cX11_day 22 (.aload_n 0) 1 23 := ⟨by decide +kernel, rfl⟩
theorem dX11_day_23 : Dc cX11_day 23 (.invokevirtual 218) 3 26 := ⟨by decide +kernel, rfl⟩
theorem dX11_day_26 : Dj cX11_day 26 (.ifCond .eq 6) 3 29 (6) 32 := ⟨by decide +kernel, rfl, by decide⟩
theorem dX11_day_29 : Dc cX11_day 29 (.ldc 212) 2 31 := ⟨by decide +kernel, rfl⟩
theorem dX11_day_31 : Dc cX11_day 31 (.ireturn) 1 32 := ⟨by decide +kernel, rfl⟩
theorem dX11_day_32 : Dc cX11_day 32 (.aload_n 0) 1 33 := ⟨by decide +kernel, rfl⟩
theorem dX11_day_33 : Dc cX11_day 33 (.getfield 7) 3 36 := ⟨by decide +kernel, rfl⟩
theorem dX11_day_36 : Dc cX11_day 36 (.iconst 2) 1 37 := ⟨by decide +kernel, rfl⟩
theorem dX11_day_37 : Dc cX11_day 37 (.iaload) 1 38 := ⟨by decide +kernel, rfl⟩
theorem dX11_day_38 : Dc cX11_day 38 (.sipush 9000) 3 41 := ⟨by decide +kernel, rfl⟩
theorem dX11_day_41 : Dj cX11_day 41 (.if_icmp .le 6) 3 44 (6) 47 := ⟨by decide +kernel, rfl, by decide⟩
theorem dX11_day_44 : Dc cX11_day 44 (.ldc 103) 2 46 := ⟨by decide +kernel, rfl⟩
theorem dX11_day_46 : Dc cX11_day 46 (.ireturn) 1 47 := ⟨by decide +kernel, rfl⟩
theorem dX11_day_47 : Dc cX11_day 47 (.aload_n 0) 1 48 := ⟨by decide +kernel, rfl⟩
theorem dX11_day_48 : Dc cX11_day 48 (.invokevirtual 221) 3 51 := ⟨by decide +kernel, rfl⟩
theorem dX11_day_51 : Dc cX11_day 51 (.iconst 0) 1 52 := ⟨by decide +kernel, rfl⟩
theorem dX11_day_52 : Dc cX11_day 52 (.istore_n 3) 1 53 := ⟨by decide +kernel, rfl⟩
theorem dX11_day_53 : Dc cX11_day 53 (.iload_n 3) 1 54 := ⟨by decide +kernel, rfl⟩
theorem dX11_day_54 : Dc cX11_day 54 (.iload_n 2) 1 55 := ⟨by decide +kernel, rfl⟩
theorem dX11_day_55 : Dj cX11_day 55 (.if_icmp .ge 23) 3 58 (23) 78 := ⟨by decide +kernel, rfl, by decide⟩
theorem dX11_day_58 : Dc cX11_day 58 (.aload_n 0) 1 59 := ⟨by decide +kernel, rfl⟩
theorem dX11_day_59 : Dc cX11_day 59 (.iconst 0) 1 60 := ⟨by decide +kernel, rfl⟩
theorem dX11_day_60 : Dc cX11_day 60 (.invokevirtual 188) 3 63 := ⟨by decide +kernel, rfl⟩
theorem dX11_day_63 : Dj cX11_day 63 (.ifCond .le 15) 3 66 (15) 78 := ⟨by decide +kernel, rfl, by decide⟩
theorem dX11_day_66 : Dc cX11_day 66 (.aload_n 0) 1 67 := ⟨by decide +kernel, rfl⟩
theorem dX11_day_67 : Dc cX11_day 67 (.iconst 0) 1 68 := ⟨by decide +kernel, rfl⟩
theorem dX11_day_68 : Dc cX11_day 68 (.iload_n 1) 1 69 := ⟨by decide +kernel, rfl⟩
theorem dX11_day_69 : Dc cX11_day 69 (.invokevirtual 224) 3 72 := ⟨by decide +kernel, rfl⟩
theorem dX11_day_72 : Dc cX11_day 72 (.iinc 3 1) 3 75 := ⟨by decide +kernel, rfl⟩
theorem dX11_day_75 : Dj cX11_day 75 (.goto (-22)) 3 78 (-22) 53 := ⟨by decide +kernel, rfl, by decide⟩
theorem dX11_day_78 : Dc cX11_day 78 (.aload_n 0) 1 79 := ⟨by decide +kernel, rfl⟩
theorem dX11_day_79 : Dc cX11_day 79 (.iconst 0) 1 80 := ⟨by decide +kernel, rfl⟩
theorem dX11_day_80 : Dc cX11_day 80 (.invokevirtual 188) 3 83 := ⟨by decide +kernel, rfl⟩
theorem dX11_day_83 : Dc cX11_day 83 (.ireturn) 1 84 := ⟨by decide +kernel, rfl⟩
theorem dX11_hears_0 : Dc cX11_hears 0 (.aload_n 0) 1 1 := ⟨by decide +kernel, rfl⟩
theorem dX11_hears_1 : Dc cX11_hears 1 (.getfield 7) 3 4 := ⟨by decide +kernel, rfl⟩
theorem dX11_hears_4 : Dc cX11_hears 4 (.iconst 1) 1 5 := ⟨by decide +kernel, rfl⟩
theorem dX11_hears_5 : Dc cX11_hears 5 (.aload_n 0) 1 6 := ⟨by decide +kernel, rfl⟩
theorem dX11_hears_6 : Dc cX11_hears 6 (.getfield 7) 3 9 := ⟨by decide +kernel, rfl⟩
theorem dX11_hears_9 : Dc cX11_hears 9 (.iconst 1) 1 10 := ⟨by decide +kernel, rfl⟩
theorem dX11_hears_10 : Dc cX11_hears 10 (.iaload) 1 11 := ⟨by decide +kernel, rfl⟩
theorem dX11_hears_11 : Dc cX11_hears 11 (.iload_n 1) 1 12 := ⟨by decide +kernel, rfl⟩
theorem dX11_hears_12 : Dc cX11_hears 12 (.iadd) 1 13 := ⟨by decide +kernel, rfl⟩
theorem dX11_hears_13 : Dc cX11_hears 13 (.bipush 99) 2 15 := ⟨by decide +kernel, rfl⟩
theorem dX11_hears_15 : Dj cX11_hears 15 (.if_icmp .le 8) 3 18 (8) 23 := ⟨by decide +kernel, rfl, by decide⟩
theorem dX11_hears_18 : Dc cX11_hears 18 (.bipush 99) 2 20 := ⟨by decide +kernel, rfl⟩
theorem dX11_hears_20 : Dj cX11_hears 20 (.goto 11) 3 23 (11) 31 := ⟨by decide +kernel, rfl, by decide⟩
theorem dX11_hears_23 : Dc cX11_hears 23 (.aload_n 0) 1 24 := ⟨by decide +kernel, rfl⟩
theorem dX11_hears_24 : Dc cX11_hears 24 (.getfield 7) 3 27 := ⟨by decide +kernel, rfl⟩
theorem dX11_hears_27 : Dc cX11_hears 27 (.iconst 1) 1 28 := ⟨by decide +kernel, rfl⟩
theorem dX11_hears_28 : Dc cX11_hears 28 (.iaload) 1 29 := ⟨by decide +kernel, rfl⟩
theorem dX11_hears_29 : Dc cX11_hears 29 (.iload_n 1) 1 30 := ⟨by decide +kernel, rfl⟩
theorem dX11_hears_30 : Dc cX11_hears 30 (.iadd) 1 31 := ⟨by decide +kernel, rfl⟩
theorem dX11_hears_31 : Dc cX11_hears 31 (.iastore) 1 32 := ⟨by decide +kernel, rfl⟩
theorem dX11_hears_32 : Dc cX11_hears 32 (.return_) 1 33 := ⟨by decide +kernel, rfl⟩
theorem dX11_gun_0 : Dc cX11_gun 0 (.aload_n 0) 1 1 := ⟨by decide +kernel, rfl⟩
theorem dX11_gun_1 : Dc cX11_gun 1 (.invokevirtual 218) 3 4 := ⟨by decide +kernel, rfl⟩
theorem dX11_gun_4 : Dj cX11_gun 4 (.ifCond .eq 6) 3 7 (6) 10 := ⟨by decide +kernel, rfl, by decide⟩
theorem dX11_gun_7 : Dc cX11_gun 7 (.ldc 212) 2 9 := ⟨by decide +kernel, rfl⟩
theorem dX11_gun_9 : Dc cX11_gun 9 (.ireturn) 1 10 := ⟨by decide +kernel, rfl⟩
theorem dX11_gun_10 : Dc cX11_gun 10 (.aload_n 0) 1 11 := ⟨by decide +kernel, rfl⟩
theorem dX11_gun_11 : Dc cX11_gun 11 (.invokevirtual 221) 3 14 := ⟨by decide +kernel, rfl⟩
theorem dX11_gun_14 : Dc cX11_gun 14 (.aload_n 0) 1 15 := ⟨by decide +kernel, rfl⟩
theorem dX11_gun_15 : Dc cX11_gun 15 (.iconst 5) 1 16 := ⟨by decide +kernel, rfl⟩
theorem dX11_gun_16 : Dc cX11_gun 16 (.invokevirtual 227) 3 19 := ⟨by decide +kernel, rfl⟩
theorem dX11_gun_19 : Dc cX11_gun 19 (.aload_n 0) 1 20 := ⟨by decide +kernel, rfl⟩
theorem dX11_gun_20 : Dc cX11_gun 20 (.getfield 7) 3 23 := ⟨by decide +kernel, rfl⟩
theorem dX11_gun_23 : Dc cX11_gun 23 (.iconst 1) 1 24 := ⟨by decide +kernel, rfl⟩
theorem dX11_gun_24 : Dc cX11_gun 24 (.iaload) 1 25 := ⟨by decide +kernel, rfl⟩
theorem dX11_gun_25 : Dc cX11_gun 25 (.ireturn) 1 26 := ⟨by decide +kernel, rfl⟩
theorem dX11_sally_0 : Dc cX11_sally 0 (.aload_n 0) 1 1 := ⟨by decide +kernel, rfl⟩
theorem dX11_sally_1 : Dc cX11_sally 1 (.iload_n 1) 1 2 := ⟨by decide +kernel, rfl⟩
theorem dX11_sally_2 : Dc cX11_sally 2 (.invokevirtual 191) 3 5 := ⟨by decide +kernel, rfl⟩
theorem dX11_sally_5 : Dj cX11_sally 5 (.ifCond .ne 6) 3 8 (6) 11 := ⟨by decide +kernel, rfl, by decide⟩
theorem dX11_sally_8 : Dc cX11_sally 8 (.ldc 194) 2 10 := ⟨by decide +kernel, rfl⟩
theorem dX11_sally_10 : Dc cX11_sally 10 (.ireturn) 1 11 := ⟨by decide +kernel, rfl⟩
theorem dX11_sally_11 : Dc cX11_sally 11 (.iload_n 2) 1 12 := ⟨by decide +kernel, rfl⟩
theorem dX11_sally_12 : Dc cX11_sally 12 (.i2l) 1 13 := ⟨by decide +kernel, rfl⟩
theorem dX11_sally_13 : Dc cX11_sally 13 (.lconst 1) 1 14 := ⟨by decide +kernel, rfl⟩
theorem dX11_sally_14 : Dc cX11_sally 14 (.ldc2_w 231) 3 17 := ⟨by decide +kernel, rfl⟩
theorem dX11_sally_17 : Dc cX11_sally 17 (.invokestatic 85) 3 20 := ⟨by decide +kernel, rfl⟩
theorem dX11_sally_20 : Dj cX11_sally 20 (.ifCond .ne 6) 3 23 (6) 26 := ⟨by decide +kernel, rfl, by decide⟩
theorem dX11_sally_23 : Dc cX11_sally 23 (.ldc 99) 2 25 := ⟨by decide +kernel, rfl⟩
theorem dX11_sally_25 : Dc cX11_sally 25 (.ireturn) 1 26 := ⟨by decide +kernel, rfl⟩
theorem dX11_sally_26 : Dc cX11_sally 26 (.aload_n 0) 1 27 := ⟨by decide +kernel, rfl⟩
theorem dX11_sally_27 : Dc cX11_sally 27 (.invokevirtual 218) 3 30 := ⟨by decide +kernel, rfl⟩
theorem dX11_sally_30 : Dj cX11_sally 30 (.ifCond .ne 15) 3 33 (15) 45 := ⟨by decide +kernel, rfl, by decide⟩
theorem dX11_sally_33 : Dc cX11_sally 33 (.aload_n 0) 1 34 := ⟨by decide +kernel, rfl⟩
theorem dX11_sally_34 : Dc cX11_sally 34 (.getfield 7) 3 37 := ⟨by decide +kernel, rfl⟩
theorem dX11_sally_37 : Dc cX11_sally 37 (.iconst 5) 1 38 := ⟨by decide +kernel, rfl⟩
theorem dX11_sally_38 : Dc cX11_sally 38 (.iload_n 1) 1 39 := ⟨by decide +kernel, rfl⟩
theorem dX11_sally_39 : Dc cX11_sally 39 (.iadd) 1 40 := ⟨by decide +kernel, rfl⟩
theorem dX11_sally_40 : Dc cX11_sally 40 (.iaload) 1 41 := ⟨by decide +kernel, rfl⟩
theorem dX11_sally_41 : Dc cX11_sally 41 (.iload_n 2) 1 42 := ⟨by decide +kernel, rfl⟩
theorem dX11_sally_42 : Dj cX11_sally 42 (.if_icmp .ge 6) 3 45 (6) 48 := ⟨by decide +kernel, rfl, by decide⟩
theorem dX11_sally_45 : Dc cX11_sally 45 (.ldc 212) 2 47 := ⟨by decide +kernel, rfl⟩
theorem dX11_sally_47 : Dc cX11_sally 47 (.ireturn) 1 48 := ⟨by decide +kernel, rfl⟩
theorem dX11_sally_48 : Dc cX11_sally 48 (.aload_n 0) 1 49 := ⟨by decide +kernel, rfl⟩
theorem dX11_sally_49 : Dc cX11_sally 49 (.invokevirtual 221) 3 52 := ⟨by decide +kernel, rfl⟩
theorem dX11_sally_52 : Dc cX11_sally 52 (.aload_n 0) 1 53 := ⟨by decide +kernel, rfl⟩
theorem dX11_sally_53 : Dc cX11_sally 53 (.getfield 7) 3 56 := ⟨by decide +kernel, rfl⟩
theorem dX11_sally_56 : Dc cX11_sally 56 (.iconst 5) 1 57 := ⟨by decide +kernel, rfl⟩
theorem dX11_sally_57 : Dc cX11_sally 57 (.iload_n 1) 1 58 := ⟨by decide +kernel, rfl⟩
theorem dX11_sally_58 : Dc cX11_sally 58 (.iadd) 1 59 := ⟨by decide +kernel, rfl⟩
theorem dX11_sally_59 : Dc cX11_sally 59 (.dup2) 1 60 := ⟨by decide +kernel, rfl⟩
theorem dX11_sally_60 : Dc cX11_sally 60 (.iaload) 1 61 := ⟨by decide +kernel, rfl⟩
theorem dX11_sally_61 : Dc cX11_sally 61 (.iload_n 2) 1 62 := ⟨by decide +kernel, rfl⟩
theorem dX11_sally_62 : Dc cX11_sally 62 (.isub) 1 63 := ⟨by decide +kernel, rfl⟩
theorem dX11_sally_63 : Dc cX11_sally 63 (.iastore) 1 64 := ⟨by decide +kernel, rfl⟩
theorem dX11_sally_64 : Dc cX11_sally 64 (.aload_n 0) 1 65 := ⟨by decide +kernel, rfl⟩
theorem dX11_sally_65 : Dc cX11_sally 65 (.iload_n 2) 1 66 := ⟨by decide +kernel, rfl⟩
theorem dX11_sally_66 : Dc cX11_sally 66 (.iconst 2) 1 67 := ⟨by decide +kernel, rfl⟩
theorem dX11_sally_67 : Dc cX11_sally 67 (.idiv) 1 68 := ⟨by decide +kernel, rfl⟩
theorem dX11_sally_68 : Dc cX11_sally 68 (.invokevirtual 227) 3 71 := ⟨by decide +kernel, rfl⟩
theorem dX11_sally_71 : Dc cX11_sally 71 (.aload_n 0) 1 72 := ⟨by decide +kernel, rfl⟩
theorem dX11_sally_72 : Dc cX11_sally 72 (.getfield 7) 3 75 := ⟨by decide +kernel, rfl⟩
theorem dX11_sally_75 : Dc cX11_sally 75 (.iconst 1) 1 76 := ⟨by decide +kernel, rfl⟩
theorem dX11_sally_76 : Dc cX11_sally 76 (.iaload) 1 77 := ⟨by decide +kernel, rfl⟩
theorem dX11_sally_77 : Dc cX11_sally 77 (.ireturn) 1 78 := ⟨by decide +kernel, rfl⟩
theorem dX11_relief_0 : Dc cX11_relief 0 (.aload_n 0) 1 1 := ⟨by decide +kernel, rfl⟩
theorem dX11_relief_1 : Dc cX11_relief 1 (.invokevirtual 218) 3 4 := ⟨by decide +kernel, rfl⟩
theorem dX11_relief_4 : Dj cX11_relief 4 (.ifCond .eq 6) 3 7 (6) 10 := ⟨by decide +kernel, rfl, by decide⟩
theorem dX11_relief_7 : Dc cX11_relief 7 (.ldc 212) 2 9 := ⟨by decide +kernel, rfl⟩
theorem dX11_relief_9 : Dc cX11_relief 9 (.ireturn) 1 10 := ⟨by decide +kernel, rfl⟩
theorem dX11_relief_10 : Dc cX11_relief 10 (.aload_n 0) 1 11 := ⟨by decide +kernel, rfl⟩
theorem dX11_relief_11 : Dc cX11_relief 11 (.invokevirtual 221) 3 14 := ⟨by decide +kernel, rfl⟩
theorem dX11_relief_14 : Dc cX11_relief 14 (.aload_n 0) 1 15 := ⟨by decide +kernel, rfl⟩
theorem dX11_relief_15 : Dc cX11_relief 15 (.getfield 7) 3 18 := ⟨by decide +kernel, rfl⟩
theorem dX11_relief_18 : Dc cX11_relief 18 (.iconst 4) 1 19 := ⟨by decide +kernel, rfl⟩
theorem dX11_relief_19 : Dc cX11_relief 19 (.iload_n 1) 1 20 := ⟨by decide +kernel, rfl⟩
theorem dX11_relief_20 : Dj cX11_relief 20 (.ifCond .eq 7) 3 23 (7) 27 := ⟨by decide +kernel, rfl, by decide⟩
theorem dX11_relief_23 : Dc cX11_relief 23 (.iconst 1) 1 24 := ⟨by decide +kernel, rfl⟩
theorem dX11_relief_24 : Dj cX11_relief 24 (.goto 4) 3 27 (4) 28 := ⟨by decide +kernel, rfl, by decide⟩
theorem dX11_relief_27 : Dc cX11_relief 27 (.iconst 2) 1 28 := ⟨by decide +kernel, rfl⟩
theorem dX11_relief_28 : Dc cX11_relief 28 (.iastore) 1 29 := ⟨by decide +kernel, rfl⟩
theorem dX11_relief_29 : Dc cX11_relief 29 (.aload_n 0) 1 30 := ⟨by decide +kernel, rfl⟩
theorem dX11_relief_30 : Dc cX11_relief 30 (.getfield 7) 3 33 := ⟨by decide +kernel, rfl⟩
theorem dX11_relief_33 : Dc cX11_relief 33 (.iconst 2) 1 34 := ⟨by decide +kernel, rfl⟩
theorem dX11_relief_34 : Dc cX11_relief 34 (.iaload) 1 35 := ⟨by decide +kernel, rfl⟩
theorem dX11_relief_35 : Dc cX11_relief 35 (.ireturn) 1 36 := ⟨by decide +kernel, rfl⟩
theorem dX11_draw_0 : Dc cX11_draw 0 (.aload_n 0) 1 1 := ⟨by decide +kernel, rfl⟩
theorem dX11_draw_1 : Dc cX11_draw 1 (.getfield 7) 3 4 := ⟨by decide +kernel, rfl⟩
theorem dX11_draw_4 : Dc cX11_draw 4 (.bipush 44) 2 6 := ⟨by decide +kernel, rfl⟩
theorem dX11_draw_6 : Dc cX11_draw 6 (.aload_n 0) 1 7 := ⟨by decide +kernel, rfl⟩
theorem dX11_draw_7 : Dc cX11_draw 7 (.getfield 7) 3 10 := ⟨by decide +kernel, rfl⟩
theorem dX11_draw_10 : Dc cX11_draw 10 (.bipush 44) 2 12 := ⟨by decide +kernel, rfl⟩
theorem dX11_draw_12 : Dc cX11_draw 12 (.iaload) 1 13 := ⟨by decide +kernel, rfl⟩
theorem dX11_draw_13 : Dc cX11_draw 13 (.i2l) 1 14 := ⟨by decide +kernel, rfl⟩
theorem dX11_draw_14 : Dc cX11_draw 14 (.ldc2_w 233) 3 17 := ⟨by decide +kernel, rfl⟩
theorem dX11_draw_17 : Dc cX11_draw 17 (.lmul) 1 18 := ⟨by decide +kernel, rfl⟩
theorem dX11_draw_18 : Dc cX11_draw 18 (.ldc2_w 235) 3 21 := ⟨by decide +kernel, rfl⟩
theorem dX11_draw_21 : Dc cX11_draw 21 (.ladd) 1 22 := ⟨by decide +kernel, rfl⟩
theorem dX11_draw_22 : Dc cX11_draw 22 (.ldc2_w 237) 3 25 := ⟨by decide +kernel, rfl⟩
theorem dX11_draw_25 : Dc cX11_draw 25 (.lrem) 1 26 := ⟨by decide +kernel, rfl⟩
theorem dX11_draw_26 : Dc cX11_draw 26 (.l2i) 1 27 := ⟨by decide +kernel, rfl⟩
theorem dX11_draw_27 : Dc cX11_draw 27 (.iastore) 1 28 := ⟨by decide +kernel, rfl⟩
theorem dX11_draw_28 : Dc cX11_draw 28 (.aload_n 0) 1 29 := ⟨by decide +kernel, rfl⟩
theorem dX11_draw_29 : Dc cX11_draw 29 (.getfield 7) 3 32 := ⟨by decide +kernel, rfl⟩
theorem dX11_draw_32 : Dc cX11_draw 32 (.bipush 44) 2 34 := ⟨by decide +kernel, rfl⟩
theorem dX11_draw_34 : Dc cX11_draw 34 (.iaload) 1 35 := ⟨by decide +kernel, rfl⟩
theorem dX11_draw_35 : Dc cX11_draw 35 (.ldc 239) 2 37 := ⟨by decide +kernel, rfl⟩
theorem dX11_draw_37 : Dc cX11_draw 37 (.idiv) 1 38 := ⟨by decide +kernel, rfl⟩
theorem dX11_draw_38 : Dc cX11_draw 38 (.iload_n 1) 1 39 := ⟨by decide +kernel, rfl⟩
theorem dX11_draw_39 : Dc cX11_draw 39 (.irem) 1 40 := ⟨by decide +kernel, rfl⟩
theorem dX11_draw_40 : Dc cX11_draw 40 (.ireturn) 1 41 := ⟨by decide +kernel, rfl⟩
theorem dX11_drift_0 : Dc cX11_drift 0 (.iload_n 1) 1 1 := ⟨by decide +kernel, rfl⟩
theorem dX11_drift_1 : Dc cX11_drift 1 (.invokestatic 213) 3 4 := ⟨by decide +kernel, rfl⟩
theorem dX11_drift_4 : Dj cX11_drift 4 (.ifCond .eq 15) 3 7 (15) 19 := ⟨by decide +kernel, rfl, by decide⟩
theorem dX11_drift_7 : Dc cX11_drift 7 (.iload_n 2) 1 8 := ⟨by decide +kernel, rfl⟩
theorem dX11_drift_8 : Dc cX11_drift 8 (.i2l) 1 9 := ⟨by decide +kernel, rfl⟩
theorem dX11_drift_9 : Dc cX11_drift 9 (.lconst 1) 1 10 := ⟨by decide +kernel, rfl⟩
theorem dX11_drift_10 : Dc cX11_drift 10 (.ldc2_w 216) 3 13 := ⟨by decide +kernel, rfl⟩
theorem dX11_drift_13 : Dc cX11_drift 13 (.invokestatic 85) 3 16 := ⟨by decide +kernel, rfl⟩
theorem dX11_drift_16 : Dj cX11_drift 16 (.ifCond .ne 6) 3 19 (6) 22 := ⟨by decide +kernel, rfl, by decide⟩
theorem dX11_drift_19 : Dc cX11_drift 19 (.ldc 99) 2 21 := ⟨by decide +kernel, rfl⟩
theorem dX11_drift_21 : Dc cX11_drift 21 (.ireturn) 1 22 := ⟨by decide +kernel, rfl⟩
theorem dX11_drift_22 : Dc cX11_drift 22 (.aload_n 0) 1 23 := ⟨by decide +kernel, rfl⟩
theorem dX11_drift_23 : Dc cX11_drift 23 (.invokevirtual 218) 3 26 := ⟨by decide +kernel, rfl⟩
theorem dX11_drift_26 : Dj cX11_drift 26 (.ifCond .eq 6) 3 29 (6) 32 := ⟨by decide +kernel, rfl, by decide⟩
theorem dX11_drift_29 : Dc cX11_drift 29 (.ldc 212) 2 31 := ⟨by decide +kernel, rfl⟩
theorem dX11_drift_31 : Dc cX11_drift 31 (.ireturn) 1 32 := ⟨by decide +kernel, rfl⟩
theorem dX11_drift_32 : Dc cX11_drift 32 (.aload_n 0) 1 33 := ⟨by decide +kernel, rfl⟩
theorem dX11_drift_33 : Dc cX11_drift 33 (.getfield 7) 3 36 := ⟨by decide +kernel, rfl⟩
theorem dX11_drift_36 : Dc cX11_drift 36 (.iconst 2) 1 37 := ⟨by decide +kernel, rfl⟩
theorem dX11_drift_37 : Dc cX11_drift 37 (.iaload) 1 38 := ⟨by decide +kernel, rfl⟩
theorem dX11_drift_38 : Dc cX11_drift 38 (.sipush 9000) 3 41 := ⟨by decide +kernel, rfl⟩
theorem dX11_drift_41 : Dj cX11_drift 41 (.if_icmp .le 6) 3 44 (6) 47 := ⟨by decide +kernel, rfl, by decide⟩
theorem dX11_drift_44 : Dc cX11_drift 44 (.ldc 103) 2 46 := ⟨by decide +kernel, rfl⟩
theorem dX11_drift_46 : Dc cX11_drift 46 (.ireturn) 1 47 := ⟨by decide +kernel, rfl⟩
theorem dX11_drift_47 : Dc cX11_drift 47 (.aload_n 0) 1 48 := ⟨by decide +kernel, rfl⟩
theorem dX11_drift_48 : Dc cX11_drift 48 (.invokevirtual 221) 3 51 := ⟨by decide +kernel, rfl⟩
theorem dX11_drift_51 : Dc cX11_drift 51 (.iconst 0) 1 52 := ⟨by decide +kernel, rfl⟩
theorem dX11_drift_52 : Dc cX11_drift 52 (.istore_n 3) 1 53 := ⟨by decide +kernel, rfl⟩
theorem dX11_drift_53 : Dc cX11_drift 53 (.iload_n 3) 1 54 := ⟨by decide +kernel, rfl⟩
theorem dX11_drift_54 : Dc cX11_drift 54 (.iload_n 2) 1 55 := ⟨by decide +kernel, rfl⟩
theorem dX11_drift_55 : Dj cX11_drift 55 (.if_icmp .ge 86) 3 58 (86) 141 := ⟨by decide +kernel, rfl, by decide⟩
theorem dX11_drift_58 : Dc cX11_drift 58 (.aload_n 0) 1 59 := ⟨by decide +kernel, rfl⟩
theorem dX11_drift_59 : Dc cX11_drift 59 (.getfield 7) 3 62 := ⟨by decide +kernel, rfl⟩
theorem dX11_drift_62 : Dc cX11_drift 62 (.iconst 4) 1 63 := ⟨by decide +kernel, rfl⟩
theorem dX11_drift_63 : Dc cX11_drift 63 (.iaload) 1 64 := ⟨by decide +kernel, rfl⟩
theorem dX11_drift_64 : Dj cX11_drift 64 (.ifCond .ne 77) 3 67 (77) 141 := ⟨by decide +kernel, rfl, by decide⟩
theorem dX11_drift_67 : Dc cX11_drift 67 (.aload_n 0) 1 68 := ⟨by decide +kernel, rfl⟩
theorem dX11_drift_68 : Dc cX11_drift 68 (.bipush 100) 2 70 := ⟨by decide +kernel, rfl⟩
theorem dX11_drift_70 : Dc cX11_drift 70 (.invokevirtual 240) 3 73 := ⟨by decide +kernel, rfl⟩
theorem dX11_drift_73 : Dc cX11_drift 73 (.aload_n 0) 1 74 := ⟨by decide +kernel, rfl⟩
theorem dX11_drift_74 : Dc cX11_drift 74 (.getfield 7) 3 77 := ⟨by decide +kernel, rfl⟩
theorem dX11_drift_77 : Dc cX11_drift 77 (.iconst 1) 1 78 := ⟨by decide +kernel, rfl⟩
theorem dX11_drift_78 : Dc cX11_drift 78 (.iaload) 1 79 := ⟨by decide +kernel, rfl⟩
theorem dX11_drift_79 : Dj cX11_drift 79 (.if_icmp .ge 13) 3 82 (13) 92 := ⟨by decide +kernel, rfl, by decide⟩
theorem dX11_drift_82 : Dc cX11_drift 82 (.aload_n 0) 1 83 := ⟨by decide +kernel, rfl⟩
theorem dX11_drift_83 : Dc cX11_drift 83 (.getfield 7) 3 86 := ⟨by decide +kernel, rfl⟩
theorem dX11_drift_86 : Dc cX11_drift 86 (.iconst 4) 1 87 := ⟨by decide +kernel, rfl⟩
theorem dX11_drift_87 : Dc cX11_drift 87 (.iconst 1) 1 88 := ⟨by decide +kernel, rfl⟩
theorem dX11_drift_88 : Dc cX11_drift 88 (.iastore) 1 89 := ⟨by decide +kernel, rfl⟩
theorem dX11_drift_89 : Dj cX11_drift 89 (.goto 46) 3 92 (46) 135 := ⟨by decide +kernel, rfl, by decide⟩
theorem dX11_drift_92 : Dc cX11_drift 92 (.aload_n 0) 1 93 := ⟨by decide +kernel, rfl⟩
theorem dX11_drift_93 : Dc cX11_drift 93 (.aload_n 0) 1 94 := ⟨by decide +kernel, rfl⟩
theorem dX11_drift_94 : Dc cX11_drift 94 (.bipush 6) 2 96 := ⟨by decide +kernel, rfl⟩
theorem dX11_drift_96 : Dc cX11_drift 96 (.invokevirtual 240) 3 99 := ⟨by decide +kernel, rfl⟩
theorem dX11_drift_99 : Dj cX11_drift 99 (.ifCond .ne 7) 3 102 (7) 106 := ⟨by decide +kernel, rfl, by decide⟩
theorem dX11_drift_102 : Dc cX11_drift 102 (.iconst 5) 1 103 := ⟨by decide +kernel, rfl⟩
theorem dX11_drift_103 : Dj cX11_drift 103 (.goto 4) 3 106 (4) 107 := ⟨by decide +kernel, rfl, by decide⟩
theorem dX11_drift_106 : Dc cX11_drift 106 (.iconst 0) 1 107 := ⟨by decide +kernel, rfl⟩
theorem dX11_drift_107 : Dc cX11_drift 107 (.invokevirtual 227) 3 110 := ⟨by decide +kernel, rfl⟩
theorem dX11_drift_110 : Dc cX11_drift 110 (.aload_n 0) 1 111 := ⟨by decide +kernel, rfl⟩
theorem dX11_drift_111 : Dc cX11_drift 111 (.iconst 0) 1 112 := ⟨by decide +kernel, rfl⟩
theorem dX11_drift_112 : Dc cX11_drift 112 (.iload_n 1) 1 113 := ⟨by decide +kernel, rfl⟩
theorem dX11_drift_113 : Dc cX11_drift 113 (.invokevirtual 224) 3 116 := ⟨by decide +kernel, rfl⟩
theorem dX11_drift_116 : Dc cX11_drift 116 (.aload_n 0) 1 117 := ⟨by decide +kernel, rfl⟩
theorem dX11_drift_117 : Dc cX11_drift 117 (.getfield 7) 3 120 := ⟨by decide +kernel, rfl⟩
theorem dX11_drift_120 : Dc cX11_drift 120 (.iconst 4) 1 121 := ⟨by decide +kernel, rfl⟩
theorem dX11_drift_121 : Dc cX11_drift 121 (.aload_n 0) 1 122 := ⟨by decide +kernel, rfl⟩
theorem dX11_drift_122 : Dc cX11_drift 122 (.iconst 0) 1 123 := ⟨by decide +kernel, rfl⟩
theorem dX11_drift_123 : Dc cX11_drift 123 (.invokevirtual 188) 3 126 := ⟨by decide +kernel, rfl⟩
theorem dX11_drift_126 : Dj cX11_drift 126 (.ifCond .ne 7) 3 129 (7) 133 := ⟨by decide +kernel, rfl, by decide⟩
theorem dX11_drift_129 : Dc cX11_drift 129 (.iconst 2) 1 130 := ⟨by decide +kernel, rfl⟩
theorem dX11_drift_130 : Dj cX11_drift 130 (.goto 4) 3 133 (4) 134 := ⟨by decide +kernel, rfl, by decide⟩
theorem dX11_drift_133 : Dc cX11_drift 133 (.iconst 0) 1 134 := ⟨by decide +kernel, rfl⟩
theorem dX11_drift_134 : Dc cX11_drift 134 (.iastore) 1 135 := ⟨by decide +kernel, rfl⟩
theorem dX11_drift_135 : Dc cX11_drift 135 (.iinc 3 1) 3 138 := ⟨by decide +kernel, rfl⟩
theorem dX11_drift_138 : Dj cX11_drift 138 (.goto (-85)) 3 141 (-85) 53 := ⟨by decide +kernel, rfl, by decide⟩
theorem dX11_drift_141 : Dc cX11_drift 141 (.aload_n 0) 1 142 := ⟨by decide +kernel, rfl⟩
theorem dX11_drift_142 : Dc cX11_drift 142 (.getfield 7) 3 145 := ⟨by decide +kernel, rfl⟩
theorem dX11_drift_145 : Dc cX11_drift 145 (.iconst 4) 1 146 := ⟨by decide +kernel, rfl⟩
theorem dX11_drift_146 : Dc cX11_drift 146 (.iaload) 1 147 := ⟨by decide +kernel, rfl⟩
theorem dX11_drift_147 : Dc cX11_drift 147 (.ireturn) 1 148 := ⟨by decide +kernel, rfl⟩
theorem dX11_costsBy_0 : Dc cX11_costsBy 0 (.aload_n 0) 1 1 := ⟨by decide +kernel, rfl⟩
theorem dX11_costsBy_1 : Dc cX11_costsBy 1 (.getfield 29) 3 4 := ⟨by decide +kernel, rfl⟩
theorem dX11_costsBy_4 : Dc cX11_costsBy 4 (.iload_n 1) 1 5 := ⟨by decide +kernel, rfl⟩
theorem dX11_costsBy_5 : Dc cX11_costsBy 5 (.iaload) 1 6 := ⟨by decide +kernel, rfl⟩
theorem dX11_costsBy_6 : Dc cX11_costsBy 6 (.bipush 10) 2 8 := ⟨by decide +kernel, rfl⟩
theorem dX11_costsBy_8 : Dc cX11_costsBy 8 (.iconst 3) 1 9 := ⟨by decide +kernel, rfl⟩
theorem dX11_costsBy_9 : Dc cX11_costsBy 9 (.iload_n 2) 1 10 := ⟨by decide +kernel, rfl⟩
theorem dX11_costsBy_10 : Dc cX11_costsBy 10 (.imul) 1 11 := ⟨by decide +kernel, rfl⟩
theorem dX11_costsBy_11 : Dc cX11_costsBy 11 (.iadd) 1 12 := ⟨by decide +kernel, rfl⟩
theorem dX11_costsBy_12 : Dc cX11_costsBy 12 (.imul) 1 13 := ⟨by decide +kernel, rfl⟩
theorem dX11_costsBy_13 : Dc cX11_costsBy 13 (.bipush 10) 2 15 := ⟨by decide +kernel, rfl⟩
theorem dX11_costsBy_15 : Dc cX11_costsBy 15 (.idiv) 1 16 := ⟨by decide +kernel, rfl⟩
theorem dX11_costsBy_16 : Dc cX11_costsBy 16 (.ireturn) 1 17 := ⟨by decide +kernel, rfl⟩
theorem dX11_costs_0 : Dc cX11_costs 0 (.aload_n 0) 1 1 := ⟨by decide +kernel, rfl⟩
theorem dX11_costs_1 : Dc cX11_costs 1 (.iload_n 1) 1 2 := ⟨by decide +kernel, rfl⟩
theorem dX11_costs_2 : Dc cX11_costs 2 (.invokevirtual 243) 3 5 := ⟨by decide +kernel, rfl⟩
theorem dX11_costs_5 : Dj cX11_costs 5 (.ifCond .eq 17) 3 8 (17) 22 := ⟨by decide +kernel, rfl, by decide⟩
theorem dX11_costs_8 : Dc cX11_costs 8 (.aload_n 0) 1 9 := ⟨by decide +kernel, rfl⟩
theorem dX11_costs_9 : Dc cX11_costs 9 (.iload_n 1) 1 10 := ⟨by decide +kernel, rfl⟩
theorem dX11_costs_10 : Dc cX11_costs 10 (.aload_n 0) 1 11 := ⟨by decide +kernel, rfl⟩
theorem dX11_costs_11 : Dc cX11_costs 11 (.getfield 7) 3 14 := ⟨by decide +kernel, rfl⟩
theorem dX11_costs_14 : Dc cX11_costs 14 (.iconst 3) 1 15 := ⟨by decide +kernel, rfl⟩
theorem dX11_costs_15 : Dc cX11_costs 15 (.iaload) 1 16 := ⟨by decide +kernel, rfl⟩
theorem dX11_costs_16 : Dc cX11_costs 16 (.invokevirtual 246) 3 19 := ⟨by decide +kernel, rfl⟩
theorem dX11_costs_19 : Dj cX11_costs 19 (.goto 5) 3 22 (5) 24 := ⟨by decide +kernel, rfl, by decide⟩
theorem dX11_costs_22 : Dc cX11_costs 22 (.ldc 194) 2 24 := ⟨by decide +kernel, rfl⟩
theorem dX11_costs_24 : Dc cX11_costs 24 (.ireturn) 1 25 := ⟨by decide +kernel, rfl⟩
theorem dX11_worthOf_0 : Dc cX11_worthOf 0 (.ldc2_w 250) 3 3 := ⟨by decide +kernel, rfl⟩
theorem dX11_worthOf_3 : Dc cX11_worthOf 3 (.lstore_n 3) 1 4 := ⟨by decide +kernel, rfl⟩
theorem dX11_worthOf_4 : Dc cX11_worthOf 4 (.iconst 0) 1 5 := ⟨by decide +kernel, rfl⟩
theorem dX11_worthOf_5 : Dc cX11_worthOf 5 (.istore 5) 2 7 := ⟨by decide +kernel, rfl⟩
theorem dX11_worthOf_7 : Dc cX11_worthOf 7 (.iload 5) 2 9 := ⟨by decide +kernel, rfl⟩
theorem dX11_worthOf_9 : Dc cX11_worthOf 9 (.iload_n 2) 1 10 := ⟨by decide +kernel, rfl⟩
theorem dX11_worthOf_10 : Dj cX11_worthOf 10 (.if_icmp .ge 26) 3 13 (26) 36 := ⟨by decide +kernel, rfl, by decide⟩
theorem dX11_worthOf_13 : Dc cX11_worthOf 13 (.lload_n 3) 1 14 := ⟨by decide +kernel, rfl⟩
theorem dX11_worthOf_14 : Dc cX11_worthOf 14 (.bipush 100) 2 16 := ⟨by decide +kernel, rfl⟩
theorem dX11_worthOf_16 : Dc cX11_worthOf 16 (.aload_n 0) 1 17 := ⟨by decide +kernel, rfl⟩
theorem dX11_worthOf_17 : Dc cX11_worthOf 17 (.getfield 7) 3 20 := ⟨by decide +kernel, rfl⟩
theorem dX11_worthOf_20 : Dc cX11_worthOf 20 (.iconst 1) 1 21 := ⟨by decide +kernel, rfl⟩
theorem dX11_worthOf_21 : Dc cX11_worthOf 21 (.iaload) 1 22 := ⟨by decide +kernel, rfl⟩
theorem dX11_worthOf_22 : Dc cX11_worthOf 22 (.isub) 1 23 := ⟨by decide +kernel, rfl⟩
theorem dX11_worthOf_23 : Dc cX11_worthOf 23 (.i2l) 1 24 := ⟨by decide +kernel, rfl⟩
theorem dX11_worthOf_24 : Dc cX11_worthOf 24 (.lmul) 1 25 := ⟨by decide +kernel, rfl⟩
theorem dX11_worthOf_25 : Dc cX11_worthOf 25 (.ldc2_w 252) 3 28 := ⟨by decide +kernel, rfl⟩
theorem dX11_worthOf_28 : Dc cX11_worthOf 28 (.ldiv) 1 29 := ⟨by decide +kernel, rfl⟩
theorem dX11_worthOf_29 : Dc cX11_worthOf 29 (.lstore_n 3) 1 30 := ⟨by decide +kernel, rfl⟩
theorem dX11_worthOf_30 : Dc cX11_worthOf 30 (.iinc 5 1) 3 33 := ⟨by decide +kernel, rfl⟩
theorem dX11_worthOf_33 : Dj cX11_worthOf 33 (.goto (-26)) 3 36 (-26) 7 := ⟨by decide +kernel, rfl, by decide⟩
theorem dX11_worthOf_36 : Dc cX11_worthOf 36 (.aload_n 0) 1 37 := ⟨by decide +kernel, rfl⟩
theorem dX11_worthOf_37 : Dc cX11_worthOf 37 (.getfield 23) 3 40 := ⟨by decide +kernel, rfl⟩
theorem dX11_worthOf_40 : Dc cX11_worthOf 40 (.iload_n 1) 1 41 := ⟨by decide +kernel, rfl⟩
theorem dX11_worthOf_41 : Dc cX11_worthOf 41 (.iaload) 1 42 := ⟨by decide +kernel, rfl⟩
theorem dX11_worthOf_42 : Dc cX11_worthOf 42 (.i2l) 1 43 := ⟨by decide +kernel, rfl⟩
theorem dX11_worthOf_43 : Dc cX11_worthOf 43 (.ldc2_w 250) 3 46 := ⟨by decide +kernel, rfl⟩
theorem dX11_worthOf_46 : Dc cX11_worthOf 46 (.lload_n 3) 1 47 := ⟨by decide +kernel, rfl⟩
theorem dX11_worthOf_47 : Dc cX11_worthOf 47 (.lsub) 1 48 := ⟨by decide +kernel, rfl⟩
theorem dX11_worthOf_48 : Dc cX11_worthOf 48 (.lmul) 1 49 := ⟨by decide +kernel, rfl⟩
theorem dX11_worthOf_49 : Dc cX11_worthOf 49 (.ldc2_w 254) 3 52 := ⟨by decide +kernel, rfl⟩
theorem dX11_worthOf_52 : Dc cX11_worthOf 52 (.ldiv) 1 53 := ⟨by decide +kernel, rfl⟩
theorem dX11_worthOf_53 : Dc cX11_worthOf 53 (.l2i) 1 54 := ⟨by decide +kernel, rfl⟩
theorem dX11_worthOf_54 : Dc cX11_worthOf 54 (.ireturn) 1 55 := ⟨by decide +kernel, rfl⟩
theorem dX11_promise_0 : Dc cX11_promise 0 (.aload_n 0) 1 1 := ⟨by decide +kernel, rfl⟩
theorem dX11_promise_1 : Dc cX11_promise 1 (.iload_n 1) 1 2 := ⟨by decide +kernel, rfl⟩
theorem dX11_promise_2 : Dc cX11_promise 2 (.invokevirtual 195) 3 5 := ⟨by decide +kernel, rfl⟩
theorem dX11_promise_5 : Dj cX11_promise 5 (.ifCond .ne 6) 3 8 (6) 11 := ⟨by decide +kernel, rfl, by decide⟩
theorem dX11_promise_8 : Dc cX11_promise 8 (.ldc 194) 2 10 := ⟨by decide +kernel, rfl⟩
theorem dX11_promise_10 : Dc cX11_promise 10 (.ireturn) 1 11 := ⟨by decide +kernel, rfl⟩
theorem dX11_promise_11 : Dc cX11_promise 11 (.iload_n 2) 1 12 := ⟨by decide +kernel, rfl⟩
theorem dX11_promise_12 : Dc cX11_promise 12 (.i2l) 1 13 := ⟨by decide +kernel, rfl⟩
theorem dX11_promise_13 : Dc cX11_promise 13 (.lconst 0) 1 14 := ⟨by decide +kernel, rfl⟩
theorem dX11_promise_14 : Dc cX11_promise 14 (.ldc2_w 256) 3 17 := ⟨by decide +kernel, rfl⟩
theorem dX11_promise_17 : Dc cX11_promise 17 (.invokestatic 85) 3 20 := ⟨by decide +kernel, rfl⟩
theorem dX11_promise_20 : Dj cX11_promise 20 (.ifCond .eq 12) 3 23 (12) 32 := ⟨by decide +kernel, rfl, by decide⟩
theorem dX11_promise_23 : Dc cX11_promise 23 (.aload_n 0) 1 24 := ⟨by decide +kernel, rfl⟩
theorem dX11_promise_24 : Dc cX11_promise 24 (.iload_n 1) 1 25 := ⟨by decide +kernel, rfl⟩
theorem dX11_promise_25 : Dc cX11_promise 25 (.iload_n 2) 1 26 := ⟨by decide +kernel, rfl⟩
theorem dX11_promise_26 : Dc cX11_promise 26 (.invokevirtual 258) 3 29 := ⟨by decide +kernel, rfl⟩
theorem dX11_promise_29 : Dj cX11_promise 29 (.goto 5) 3 32 (5) 34 := ⟨by decide +kernel, rfl, by decide⟩
theorem dX11_promise_32 : Dc cX11_promise 32 (.ldc 99) 2 34 := ⟨by decide +kernel, rfl⟩
theorem dX11_promise_34 : Dc cX11_promise 34 (.ireturn) 1 35 := ⟨by decide +kernel, rfl⟩
theorem dX11_rations_0 : Dc cX11_rations 0 (.iload_n 1) 1 1 := ⟨by decide +kernel, rfl⟩
theorem dX11_rations_1 : Dc cX11_rations 1 (.i2l) 1 2 := ⟨by decide +kernel, rfl⟩
theorem dX11_rations_2 : Dc cX11_rations 2 (.lconst 1) 1 3 := ⟨by decide +kernel, rfl⟩
theorem dX11_rations_3 : Dc cX11_rations 3 (.ldc2_w 261) 3 6 := ⟨by decide +kernel, rfl⟩
theorem dX11_rations_6 : Dc cX11_rations 6 (.invokestatic 85) 3 9 := ⟨by decide +kernel, rfl⟩
theorem dX11_rations_9 : Dj cX11_rations 9 (.ifCond .ne 6) 3 12 (6) 15 := ⟨by decide +kernel, rfl, by decide⟩
theorem dX11_rations_12 : Dc cX11_rations 12 (.ldc 99) 2 14 := ⟨by decide +kernel, rfl⟩
theorem dX11_rations_14 : Dc cX11_rations 14 (.ireturn) 1 15 := ⟨by decide +kernel, rfl⟩
theorem dX11_rations_15 : Dc cX11_rations 15 (.aload_n 0) 1 16 := ⟨by decide +kernel, rfl⟩
theorem dX11_rations_16 : Dc cX11_rations 16 (.getfield 78) 3 19 := ⟨by decide +kernel, rfl⟩
theorem dX11_rations_19 : Dj cX11_rations 19 (.ifCond .ne 6) 3 22 (6) 25 := ⟨by decide +kernel, rfl, by decide⟩
theorem dX11_rations_22 : Dc cX11_rations 22 (.ldc 212) 2 24 := ⟨by decide +kernel, rfl⟩
theorem dX11_rations_24 : Dc cX11_rations 24 (.ireturn) 1 25 := ⟨by decide +kernel, rfl⟩
theorem dX11_rations_25 : Dc cX11_rations 25 (.iconst 0) 1 26 := ⟨by decide +kernel, rfl⟩
theorem dX11_rations_26 : Dc cX11_rations 26 (.istore_n 3) 1 27 := ⟨by decide +kernel, rfl⟩
theorem dX11_rations_27 : Dc cX11_rations 27 (.iconst (-1)) 1 28 := ⟨by decide +kernel, rfl⟩
theorem dX11_rations_28 : Dc cX11_rations 28 (.istore 4) 2 30 := ⟨by decide +kernel, rfl⟩
theorem dX11_rations_30 : Dc cX11_rations 30 (.iconst (-1)) 1 31 := ⟨by decide +kernel, rfl⟩
theorem dX11_rations_31 : Dc cX11_rations 31 (.istore 5) 2 33 := ⟨by decide +kernel, rfl⟩
theorem dX11_rations_33 : Dc cX11_rations 33 (.iconst 0) 1 34 := ⟨by decide +kernel, rfl⟩
theorem dX11_rations_34 : Dc cX11_rations 34 (.istore 6) 2 36 := ⟨by decide +kernel, rfl⟩
theorem dX11_rations_36 : Dc cX11_rations 36 (.iload 6) 2 38 := ⟨by decide +kernel, rfl⟩
theorem dX11_rations_38 : Dc cX11_rations 38 (.iconst 1) 1 39 := ⟨by decide +kernel, rfl⟩
theorem dX11_rations_39 : Dc cX11_rations 39 (.iconst 2) 1 40 := ⟨by decide +kernel, rfl⟩
theorem dX11_rations_40 : Dc cX11_rations 40 (.iload_n 1) 1 41 := ⟨by decide +kernel, rfl⟩
theorem dX11_rations_41 : Dc cX11_rations 41 (.imul) 1 42 := ⟨by decide +kernel, rfl⟩
theorem dX11_rations_42 : Dc cX11_rations 42 (.ishl) 1 43 := ⟨by decide +kernel, rfl⟩
theorem dX11_rations_43 : Dj cX11_rations 43 (.if_icmp .ge 133) 3 46 (133) 176 := ⟨by decide +kernel, rfl, by decide⟩
theorem dX11_rations_46 : Dc cX11_rations 46 (.aload_n 0) 1 47 := ⟨by decide +kernel, rfl⟩
theorem dX11_rations_47 : Dc cX11_rations 47 (.iconst 0) 1 48 := ⟨by decide +kernel, rfl⟩
theorem dX11_rations_48 : Dc cX11_rations 48 (.bipush 45) 2 50 := ⟨by decide +kernel, rfl⟩
theorem dX11_rations_50 : Dc cX11_rations 50 (.invokevirtual 209) 3 53 := ⟨by decide +kernel, rfl⟩
theorem dX11_rations_53 : Dc cX11_rations 53 (.iload_n 1) 1 54 := ⟨by decide +kernel, rfl⟩
theorem dX11_rations_54 : Dc cX11_rations 54 (.iconst 1) 1 55 := ⟨by decide +kernel, rfl⟩
theorem dX11_rations_55 : Dc cX11_rations 55 (.isub) 1 56 := ⟨by decide +kernel, rfl⟩
theorem dX11_rations_56 : Dc cX11_rations 56 (.istore 7) 2 58 := ⟨by decide +kernel, rfl⟩
theorem dX11_rations_58 : Dc cX11_rations 58 (.iload 7) 2 60 := ⟨by decide +kernel, rfl⟩
theorem dX11_rations_60 : Dj cX11_rations 60 (.ifCond .lt 24) 3 63 (24) 84 := ⟨by decide +kernel, rfl, by decide⟩
theorem dX11_rations_63 : Dc cX11_rations 63 (.aload_n 0) 1 64 := ⟨by decide +kernel, rfl⟩
theorem dX11_rations_64 : Dc cX11_rations 64 (.bipush 45) 2 66 := ⟨by decide +kernel, rfl⟩
theorem dX11_rations_66 : Dc cX11_rations 66 (.iload 6) 2 68 := ⟨by decide +kernel, rfl⟩
theorem dX11_rations_68 : Dc cX11_rations 68 (.iconst 2) 1 69 := ⟨by decide +kernel, rfl⟩
theorem dX11_rations_69 : Dc cX11_rations 69 (.iload 7) 2 71 := ⟨by decide +kernel, rfl⟩
theorem dX11_rations_71 : Dc cX11_rations 71 (.imul) 1 72 := ⟨by decide +kernel, rfl⟩
theorem dX11_rations_72 : Dc cX11_rations 72 (.ishr) 1 73 := ⟨by decide +kernel, rfl⟩
theorem dX11_rations_73 : Dc cX11_rations 73 (.iconst 3) 1 74 := ⟨by decide +kernel, rfl⟩
theorem dX11_rations_74 : Dc cX11_rations 74 (.iand) 1 75 := ⟨by decide +kernel, rfl⟩
theorem dX11_rations_75 : Dc cX11_rations 75 (.invokevirtual 224) 3 78 := ⟨by decide +kernel, rfl⟩
theorem dX11_rations_78 : Dc cX11_rations 78 (.iinc 7 (-1)) 3 81 := ⟨by decide +kernel, rfl⟩
theorem dX11_rations_81 : Dj cX11_rations 81 (.goto (-23)) 3 84 (-23) 58 := ⟨by decide +kernel, rfl, by decide⟩
theorem dX11_rations_84 : Dc cX11_rations 84 (.aload_n 0) 1 85 := ⟨by decide +kernel, rfl⟩
theorem dX11_rations_85 : Dc cX11_rations 85 (.bipush 45) 2 87 := ⟨by decide +kernel, rfl⟩
theorem dX11_rations_87 : Dc cX11_rations 87 (.invokevirtual 188) 3 90 := ⟨by decide +kernel, rfl⟩
theorem dX11_rations_90 : Dc cX11_rations 90 (.istore 7) 2 92 := ⟨by decide +kernel, rfl⟩
theorem dX11_rations_92 : Dc cX11_rations 92 (.iload 7) 2 94 := ⟨by decide +kernel, rfl⟩
theorem dX11_rations_94 : Dc cX11_rations 94 (.iload 4) 2 96 := ⟨by decide +kernel, rfl⟩
theorem dX11_rations_96 : Dj cX11_rations 96 (.if_icmp .gt 22) 3 99 (22) 118 := ⟨by decide +kernel, rfl, by decide⟩
theorem dX11_rations_99 : Dc cX11_rations 99 (.iload 7) 2 101 := ⟨by decide +kernel, rfl⟩
theorem dX11_rations_101 : Dc cX11_rations 101 (.iload 4) 2 103 := ⟨by decide +kernel, rfl⟩
theorem dX11_rations_103 : Dj cX11_rations 103 (.if_icmp .ne 19) 3 106 (19) 122 := ⟨by decide +kernel, rfl, by decide⟩
theorem dX11_rations_106 : Dc cX11_rations 106 (.aload_n 0) 1 107 := ⟨by decide +kernel, rfl⟩
theorem dX11_rations_107 : Dc cX11_rations 107 (.getfield 7) 3 110 := ⟨by decide +kernel, rfl⟩
theorem dX11_rations_110 : Dc cX11_rations 110 (.bipush 45) 2 112 := ⟨by decide +kernel, rfl⟩
theorem dX11_rations_112 : Dc cX11_rations 112 (.iaload) 1 113 := ⟨by decide +kernel, rfl⟩
theorem dX11_rations_113 : Dc cX11_rations 113 (.iload 5) 2 115 := ⟨by decide +kernel, rfl⟩
theorem dX11_rations_115 : Dj cX11_rations 115 (.if_icmp .le 7) 3 118 (7) 122 := ⟨by decide +kernel, rfl, by decide⟩
theorem dX11_rations_118 : Dc cX11_rations 118 (.iconst 1) 1 119 := ⟨by decide +kernel, rfl⟩
theorem dX11_rations_119 : Dj cX11_rations 119 (.goto 4) 3 122 (4) 123 := ⟨by decide +kernel, rfl, by decide⟩
theorem dX11_rations_122 : Dc cX11_rations 122 (.iconst 0) 1 123 := ⟨by decide +kernel, rfl⟩
theorem dX11_rations_123 : Dc cX11_rations 123 (.istore 8) 2 125 := ⟨by decide +kernel, rfl⟩
theorem dX11_rations_125 : Dc cX11_rations 125 (.iload 8) 2 127 := ⟨by decide +kernel, rfl⟩
theorem dX11_rations_127 : Dj cX11_rations 127 (.ifCond .eq 8) 3 130 (8) 135 := ⟨by decide +kernel, rfl, by decide⟩
theorem dX11_rations_130 : Dc cX11_rations 130 (.iload 6) 2 132 := ⟨by decide +kernel, rfl⟩
theorem dX11_rations_132 : Dj cX11_rations 132 (.goto 4) 3 135 (4) 136 := ⟨by decide +kernel, rfl, by decide⟩
theorem dX11_rations_135 : Dc cX11_rations 135 (.iload_n 3) 1 136 := ⟨by decide +kernel, rfl⟩
theorem dX11_rations_136 : Dc cX11_rations 136 (.istore_n 3) 1 137 := ⟨by decide +kernel, rfl⟩
theorem dX11_rations_137 : Dc cX11_rations 137 (.iload 8) 2 139 := ⟨by decide +kernel, rfl⟩
theorem dX11_rations_139 : Dj cX11_rations 139 (.ifCond .eq 13) 3 142 (13) 152 := ⟨by decide +kernel, rfl, by decide⟩
theorem dX11_rations_142 : Dc cX11_rations 142 (.aload_n 0) 1 143 := ⟨by decide +kernel, rfl⟩
theorem dX11_rations_143 : Dc cX11_rations 143 (.getfield 7) 3 146 := ⟨by decide +kernel, rfl⟩
theorem dX11_rations_146 : Dc cX11_rations 146 (.bipush 45) 2 148 := ⟨by decide +kernel, rfl⟩
theorem dX11_rations_148 : Dc cX11_rations 148 (.iaload) 1 149 := ⟨by decide +kernel, rfl⟩
theorem dX11_rations_149 : Dj cX11_rations 149 (.goto 5) 3 152 (5) 154 := ⟨by decide +kernel, rfl, by decide⟩
theorem dX11_rations_152 : Dc cX11_rations 152 (.iload 5) 2 154 := ⟨by decide +kernel, rfl⟩
theorem dX11_rations_154 : Dc cX11_rations 154 (.istore 5) 2 156 := ⟨by decide +kernel, rfl⟩
theorem dX11_rations_156 : Dc cX11_rations 156 (.iload 8) 2 158 := ⟨by decide +kernel, rfl⟩
theorem dX11_rations_158 : Dj cX11_rations 158 (.ifCond .eq 8) 3 161 (8) 166 := ⟨by decide +kernel, rfl, by decide⟩
theorem dX11_rations_161 : Dc cX11_rations 161 (.iload 7) 2 163 := ⟨by decide +kernel, rfl⟩
theorem dX11_rations_163 : Dj cX11_rations 163 (.goto 5) 3 166 (5) 168 := ⟨by decide +kernel, rfl, by decide⟩
theorem dX11_rations_166 : Dc cX11_rations 166 (.iload 4) 2 168 := ⟨by decide +kernel, rfl⟩
theorem dX11_rations_168 : Dc cX11_rations 168 (.istore 4) 2 170 := ⟨by decide +kernel, rfl⟩
theorem dX11_rations_170 : Dc cX11_rations 170 (.iinc 6 1) 3 173 := ⟨by decide +kernel, rfl⟩
theorem dX11_rations_173 : Dj cX11_rations 173 (.goto (-137)) 3 176 (-137) 36 := ⟨by decide +kernel, rfl, by decide⟩
theorem dX11_rations_176 : Dc cX11_rations 176 (.iload_n 2) 1 177 := ⟨by decide +kernel, rfl⟩
theorem dX11_rations_177 : Dc cX11_rations 177 (.iconst (-1)) 1 178 := ⟨by decide +kernel, rfl⟩
theorem dX11_rations_178 : Dj cX11_rations 178 (.if_icmp .ne 8) 3 181 (8) 186 := ⟨by decide +kernel, rfl, by decide⟩
theorem dX11_rations_181 : Dc cX11_rations 181 (.iload 4) 2 183 := ⟨by decide +kernel, rfl⟩
theorem dX11_rations_183 : Dj cX11_rations 183 (.goto 31) 3 186 (31) 214 := ⟨by decide +kernel, rfl, by decide⟩
theorem dX11_rations_186 : Dc cX11_rations 186 (.iload_n 2) 1 187 := ⟨by decide +kernel, rfl⟩
theorem dX11_rations_187 : Dc cX11_rations 187 (.i2l) 1 188 := ⟨by decide +kernel, rfl⟩
theorem dX11_rations_188 : Dc cX11_rations 188 (.lconst 0) 1 189 := ⟨by decide +kernel, rfl⟩
theorem dX11_rations_189 : Dc cX11_rations 189 (.iload_n 1) 1 190 := ⟨by decide +kernel, rfl⟩
theorem dX11_rations_190 : Dc cX11_rations 190 (.iconst 1) 1 191 := ⟨by decide +kernel, rfl⟩
theorem dX11_rations_191 : Dc cX11_rations 191 (.isub) 1 192 := ⟨by decide +kernel, rfl⟩
theorem dX11_rations_192 : Dc cX11_rations 192 (.i2l) 1 193 := ⟨by decide +kernel, rfl⟩
theorem dX11_rations_193 : Dc cX11_rations 193 (.invokestatic 85) 3 196 := ⟨by decide +kernel, rfl⟩
theorem dX11_rations_196 : Dj cX11_rations 196 (.ifCond .eq 17) 3 199 (17) 213 := ⟨by decide +kernel, rfl, by decide⟩
theorem dX11_rations_199 : Dc cX11_rations 199 (.iload_n 3) 1 200 := ⟨by decide +kernel, rfl⟩
theorem dX11_rations_200 : Dc cX11_rations 200 (.iconst 2) 1 201 := ⟨by decide +kernel, rfl⟩
theorem dX11_rations_201 : Dc cX11_rations 201 (.iload_n 1) 1 202 := ⟨by decide +kernel, rfl⟩
theorem dX11_rations_202 : Dc cX11_rations 202 (.iconst 1) 1 203 := ⟨by decide +kernel, rfl⟩
theorem dX11_rations_203 : Dc cX11_rations 203 (.isub) 1 204 := ⟨by decide +kernel, rfl⟩
theorem dX11_rations_204 : Dc cX11_rations 204 (.iload_n 2) 1 205 := ⟨by decide +kernel, rfl⟩
theorem dX11_rations_205 : Dc cX11_rations 205 (.isub) 1 206 := ⟨by decide +kernel, rfl⟩
theorem dX11_rations_206 : Dc cX11_rations 206 (.imul) 1 207 := ⟨by decide +kernel, rfl⟩
theorem dX11_rations_207 : Dc cX11_rations 207 (.ishr) 1 208 := ⟨by decide +kernel, rfl⟩
theorem dX11_rations_208 : Dc cX11_rations 208 (.iconst 3) 1 209 := ⟨by decide +kernel, rfl⟩
theorem dX11_rations_209 : Dc cX11_rations 209 (.iand) 1 210 := ⟨by decide +kernel, rfl⟩
theorem dX11_rations_210 : Dj cX11_rations 210 (.goto 4) 3 213 (4) 214 := ⟨by decide +kernel, rfl, by decide⟩
theorem dX11_rations_213 : Dc cX11_rations 213 (.iconst (-1)) 1 214 := ⟨by decide +kernel, rfl⟩
theorem dX11_rations_214 : Dc cX11_rations 214 (.ireturn) 1 215 := ⟨by decide +kernel, rfl⟩
theorem dX11_firstToDesert_0 : Dc cX11_firstToDesert 0 (.iload_n 1) 1 1 := ⟨by decide +kernel, rfl⟩
theorem dX11_firstToDesert_1 : Dc cX11_firstToDesert 1 (.invokestatic 213) 3 4 := ⟨by decide +kernel, rfl⟩
theorem dX11_firstToDesert_4 : Dj cX11_firstToDesert 4 (.ifCond .ne 6) 3 7 (6) 10 := ⟨by decide +kernel, rfl, by decide⟩
theorem dX11_firstToDesert_7 : Dc cX11_firstToDesert 7 (.ldc 99) 2 9 := ⟨by decide +kernel, rfl⟩
theorem dX11_firstToDesert_9 : Dc cX11_firstToDesert 9 (.ireturn) 1 10 := ⟨by decide +kernel, rfl⟩
theorem dX11_firstToDesert_10 : Dc cX11_firstToDesert 10 (.aload_n 0) 1 11 := ⟨by decide +kernel, rfl⟩
theorem dX11_firstToDesert_11 : Dc cX11_firstToDesert 11 (.getfield 78) 3 14 := ⟨by decide +kernel, rfl⟩
theorem dX11_firstToDesert_14 : Dj cX11_firstToDesert 14 (.ifCond .ne 6) 3 17 (6) 20 := ⟨by decide +kernel, rfl, by decide⟩
theorem dX11_firstToDesert_17 : Dc cX11_firstToDesert 17 (.ldc 212) 2 19 := ⟨by decide +kernel, rfl⟩
theorem dX11_firstToDesert_19 : Dc cX11_firstToDesert 19 (.ireturn) 1 20 := ⟨by decide +kernel, rfl⟩
theorem dX11_firstToDesert_20 : Dc cX11_firstToDesert 20 (.aload_n 0) 1 21 := ⟨by decide +kernel, rfl⟩
theorem dX11_firstToDesert_21 : Dc cX11_firstToDesert 21 (.iconst 0) 1 22 := ⟨by decide +kernel, rfl⟩
theorem dX11_firstToDesert_22 : Dc cX11_firstToDesert 22 (.bipush 45) 2 24 := ⟨by decide +kernel, rfl⟩
theorem dX11_firstToDesert_24 : Dc cX11_firstToDesert 24 (.invokevirtual 209) 3 27 := ⟨by decide +kernel, rfl⟩
theorem dX11_firstToDesert_27 : Dc cX11_firstToDesert 27 (.iconst 0) 1 28 := ⟨by decide +kernel, rfl⟩
theorem dX11_firstToDesert_28 : Dc cX11_firstToDesert 28 (.istore_n 2) 1 29 := ⟨by decide +kernel, rfl⟩
theorem dX11_firstToDesert_29 : Dc cX11_firstToDesert 29 (.iload_n 2) 1 30 := ⟨by decide +kernel, rfl⟩
theorem dX11_firstToDesert_30 : Dc cX11_firstToDesert 30 (.bipush 60) 2 32 := ⟨by decide +kernel, rfl⟩
theorem dX11_firstToDesert_32 : Dj cX11_firstToDesert 32 (.if_icmp .ge 29) 3 35 (29) 61 := ⟨by decide +kernel, rfl, by decide⟩
theorem dX11_firstToDesert_35 : Dc cX11_firstToDesert 35 (.aload_n 0) 1 36 := ⟨by decide +kernel, rfl⟩
theorem dX11_firstToDesert_36 : Dc cX11_firstToDesert 36 (.bipush 45) 2 38 := ⟨by decide +kernel, rfl⟩
theorem dX11_firstToDesert_38 : Dc cX11_firstToDesert 38 (.iload_n 1) 1 39 := ⟨by decide +kernel, rfl⟩
theorem dX11_firstToDesert_39 : Dc cX11_firstToDesert 39 (.invokevirtual 224) 3 42 := ⟨by decide +kernel, rfl⟩
theorem dX11_firstToDesert_42 : Dc cX11_firstToDesert 42 (.aload_n 0) 1 43 := ⟨by decide +kernel, rfl⟩
theorem dX11_firstToDesert_43 : Dc cX11_firstToDesert 43 (.getfield 198) 3 46 := ⟨by decide +kernel, rfl⟩
theorem dX11_firstToDesert_46 : Dc cX11_firstToDesert 46 (.iconst (-1)) 1 47 := ⟨by decide +kernel, rfl⟩
theorem dX11_firstToDesert_47 : Dj cX11_firstToDesert 47 (.if_icmp .eq 8) 3 50 (8) 55 := ⟨by decide +kernel, rfl, by decide⟩
theorem dX11_firstToDesert_50 : Dc cX11_firstToDesert 50 (.aload_n 0) 1 51 := ⟨by decide +kernel, rfl⟩
theorem dX11_firstToDesert_51 : Dc cX11_firstToDesert 51 (.getfield 198) 3 54 := ⟨by decide +kernel, rfl⟩
theorem dX11_firstToDesert_54 : Dc cX11_firstToDesert 54 (.ireturn) 1 55 := ⟨by decide +kernel, rfl⟩
theorem dX11_firstToDesert_55 : Dc cX11_firstToDesert 55 (.iinc 2 1) 3 58 := ⟨by decide +kernel, rfl⟩
theorem dX11_firstToDesert_58 : Dj cX11_firstToDesert 58 (.goto (-29)) 3 61 (-29) 29 := ⟨by decide +kernel, rfl, by decide⟩
theorem dX11_firstToDesert_61 : Dc cX11_firstToDesert 61 (.iconst (-1)) 1 62 := ⟨by decide +kernel, rfl⟩
theorem dX11_firstToDesert_62 : Dc cX11_firstToDesert 62 (.ireturn) 1 63 := ⟨by decide +kernel, rfl⟩
theorem dX11_holds_0 : Dc cX11_holds 0 (.iload_n 1) 1 1 := ⟨by decide +kernel, rfl⟩
theorem dX11_holds_1 : Dc cX11_holds 1 (.invokestatic 213) 3 4 := ⟨by decide +kernel, rfl⟩
theorem dX11_holds_4 : Dj cX11_holds 4 (.ifCond .ne 6) 3 7 (6) 10 := ⟨by decide +kernel, rfl, by decide⟩
theorem dX11_holds_7 : Dc cX11_holds 7 (.ldc 99) 2 9 := ⟨by decide +kernel, rfl⟩
theorem dX11_holds_9 : Dc cX11_holds 9 (.ireturn) 1 10 := ⟨by decide +kernel, rfl⟩
theorem dX11_holds_10 : Dc cX11_holds 10 (.aload_n 0) 1 11 := ⟨by decide +kernel, rfl⟩
theorem dX11_holds_11 : Dc cX11_holds 11 (.getfield 78) 3 14 := ⟨by decide +kernel, rfl⟩
theorem dX11_holds_14 : Dj cX11_holds 14 (.ifCond .ne 6) 3 17 (6) 20 := ⟨by decide +kernel, rfl, by decide⟩
theorem dX11_holds_17 : Dc cX11_holds 17 (.ldc 212) 2 19 := ⟨by decide +kernel, rfl⟩
theorem dX11_holds_19 : Dc cX11_holds 19 (.ireturn) 1 20 := ⟨by decide +kernel, rfl⟩
theorem dX11_holds_20 : Dc cX11_holds 20 (.aload_n 0) 1 21 := ⟨by decide +kernel, rfl⟩
theorem dX11_holds_21 : Dc cX11_holds 21 (.iconst 0) 1 22 := ⟨by decide +kernel, rfl⟩
theorem dX11_holds_22 : Dc cX11_holds 22 (.bipush 45) 2 24 := ⟨by decide +kernel, rfl⟩
theorem dX11_holds_24 : Dc cX11_holds 24 (.invokevirtual 209) 3 27 := ⟨by decide +kernel, rfl⟩
theorem dX11_holds_27 : Dc cX11_holds 27 (.iconst 0) 1 28 := ⟨by decide +kernel, rfl⟩
theorem dX11_holds_28 : Dc cX11_holds 28 (.istore_n 2) 1 29 := ⟨by decide +kernel, rfl⟩
theorem dX11_holds_29 : Dc cX11_holds 29 (.iload_n 2) 1 30 := ⟨by decide +kernel, rfl⟩
theorem dX11_holds_30 : Dc cX11_holds 30 (.bipush 60) 2 32 := ⟨by decide +kernel, rfl⟩
theorem dX11_holds_32 : Dj cX11_holds 32 (.if_icmp .ge 25) 3 35 (25) 57 := ⟨by decide +kernel, rfl, by decide⟩
theorem dX11_holds_35 : Dc cX11_holds 35 (.aload_n 0) 1 36 := ⟨by decide +kernel, rfl⟩
theorem dX11_holds_36 : Dc cX11_holds 36 (.bipush 45) 2 38 := ⟨by decide +kernel, rfl⟩
theorem dX11_holds_38 : Dc cX11_holds 38 (.invokevirtual 188) 3 41 := ⟨by decide +kernel, rfl⟩
theorem dX11_holds_41 : Dj cX11_holds 41 (.ifCond .le 16) 3 44 (16) 57 := ⟨by decide +kernel, rfl, by decide⟩
theorem dX11_holds_44 : Dc cX11_holds 44 (.aload_n 0) 1 45 := ⟨by decide +kernel, rfl⟩
theorem dX11_holds_45 : Dc cX11_holds 45 (.bipush 45) 2 47 := ⟨by decide +kernel, rfl⟩
theorem dX11_holds_47 : Dc cX11_holds 47 (.iload_n 1) 1 48 := ⟨by decide +kernel, rfl⟩
theorem dX11_holds_48 : Dc cX11_holds 48 (.invokevirtual 224) 3 51 := ⟨by decide +kernel, rfl⟩
theorem dX11_holds_51 : Dc cX11_holds 51 (.iinc 2 1) 3 54 := ⟨by decide +kernel, rfl⟩
theorem dX11_holds_54 : Dj cX11_holds 54 (.goto (-25)) 3 57 (-25) 29 := ⟨by decide +kernel, rfl, by decide⟩
theorem dX11_holds_57 : Dc cX11_holds 57 (.iload_n 2) 1 58 := ⟨by decide +kernel, rfl⟩
theorem dX11_holds_58 : Dc cX11_holds 58 (.ireturn) 1 59 := ⟨by decide +kernel, rfl⟩
theorem dX11_owedTo_0 : Dc cX11_owedTo 0 (.aload_n 0) 1 1 := ⟨by decide +kernel, rfl⟩
theorem dX11_owedTo_1 : Dc cX11_owedTo 1 (.getfield 7) 3 4 := ⟨by decide +kernel, rfl⟩
theorem dX11_owedTo_4 : Dc cX11_owedTo 4 (.bipush 15) 2 6 := ⟨by decide +kernel, rfl⟩
theorem dX11_owedTo_6 : Dc cX11_owedTo 6 (.iload_n 1) 1 7 := ⟨by decide +kernel, rfl⟩
theorem dX11_owedTo_7 : Dc cX11_owedTo 7 (.iadd) 1 8 := ⟨by decide +kernel, rfl⟩
theorem dX11_owedTo_8 : Dc cX11_owedTo 8 (.iaload) 1 9 := ⟨by decide +kernel, rfl⟩
theorem dX11_owedTo_9 : Dc cX11_owedTo 9 (.istore_n 3) 1 10 := ⟨by decide +kernel, rfl⟩
theorem dX11_owedTo_10 : Dc cX11_owedTo 10 (.iconst 0) 1 11 := ⟨by decide +kernel, rfl⟩
theorem dX11_owedTo_11 : Dc cX11_owedTo 11 (.istore 4) 2 13 := ⟨by decide +kernel, rfl⟩
theorem dX11_owedTo_13 : Dc cX11_owedTo 13 (.iload 4) 2 15 := ⟨by decide +kernel, rfl⟩
theorem dX11_owedTo_15 : Dc cX11_owedTo 15 (.aload_n 0) 1 16 := ⟨by decide +kernel, rfl⟩
theorem dX11_owedTo_16 : Dc cX11_owedTo 16 (.getfield 89) 3 19 := ⟨by decide +kernel, rfl⟩
theorem dX11_owedTo_19 : Dj cX11_owedTo 19 (.if_icmp .ge 57) 3 22 (57) 76 := ⟨by decide +kernel, rfl, by decide⟩
theorem dX11_owedTo_22 : Dc cX11_owedTo 22 (.iload_n 3) 1 23 := ⟨by decide +kernel, rfl⟩
theorem dX11_owedTo_23 : Dc cX11_owedTo 23 (.aload_n 0) 1 24 := ⟨by decide +kernel, rfl⟩
theorem dX11_owedTo_24 : Dc cX11_owedTo 24 (.getfield 7) 3 27 := ⟨by decide +kernel, rfl⟩
theorem dX11_owedTo_27 : Dc cX11_owedTo 27 (.bipush 24) 2 29 := ⟨by decide +kernel, rfl⟩
theorem dX11_owedTo_29 : Dc cX11_owedTo 29 (.iconst 4) 1 30 := ⟨by decide +kernel, rfl⟩
theorem dX11_owedTo_30 : Dc cX11_owedTo 30 (.iload_n 1) 1 31 := ⟨by decide +kernel, rfl⟩
theorem dX11_owedTo_31 : Dc cX11_owedTo 31 (.imul) 1 32 := ⟨by decide +kernel, rfl⟩
theorem dX11_owedTo_32 : Dc cX11_owedTo 32 (.iadd) 1 33 := ⟨by decide +kernel, rfl⟩
theorem dX11_owedTo_33 : Dc cX11_owedTo 33 (.iload 4) 2 35 := ⟨by decide +kernel, rfl⟩
theorem dX11_owedTo_35 : Dc cX11_owedTo 35 (.iadd) 1 36 := ⟨by decide +kernel, rfl⟩
theorem dX11_owedTo_36 : Dc cX11_owedTo 36 (.iaload) 1 37 := ⟨by decide +kernel, rfl⟩
theorem dX11_owedTo_37 : Dc cX11_owedTo 37 (.iload_n 2) 1 38 := ⟨by decide +kernel, rfl⟩
theorem dX11_owedTo_38 : Dj cX11_owedTo 38 (.ifCond .ne 13) 3 41 (13) 51 := ⟨by decide +kernel, rfl, by decide⟩
theorem dX11_owedTo_41 : Dc cX11_owedTo 41 (.aload_n 0) 1 42 := ⟨by decide +kernel, rfl⟩
theorem dX11_owedTo_42 : Dc cX11_owedTo 42 (.getfield 23) 3 45 := ⟨by decide +kernel, rfl⟩
theorem dX11_owedTo_45 : Dc cX11_owedTo 45 (.iload 4) 2 47 := ⟨by decide +kernel, rfl⟩
theorem dX11_owedTo_47 : Dc cX11_owedTo 47 (.iaload) 1 48 := ⟨by decide +kernel, rfl⟩
theorem dX11_owedTo_48 : Dj cX11_owedTo 48 (.goto 19) 3 51 (19) 67 := ⟨by decide +kernel, rfl, by decide⟩
theorem dX11_owedTo_51 : Dc cX11_owedTo 51 (.iload_n 2) 1 52 := ⟨by decide +kernel, rfl⟩
theorem dX11_owedTo_52 : Dc cX11_owedTo 52 (.iconst 1) 1 53 := ⟨by decide +kernel, rfl⟩
theorem dX11_owedTo_53 : Dj cX11_owedTo 53 (.if_icmp .ne 13) 3 56 (13) 66 := ⟨by decide +kernel, rfl, by decide⟩
theorem dX11_owedTo_56 : Dc cX11_owedTo 56 (.aload_n 0) 1 57 := ⟨by decide +kernel, rfl⟩
theorem dX11_owedTo_57 : Dc cX11_owedTo 57 (.getfield 26) 3 60 := ⟨by decide +kernel, rfl⟩
theorem dX11_owedTo_60 : Dc cX11_owedTo 60 (.iload 4) 2 62 := ⟨by decide +kernel, rfl⟩
theorem dX11_owedTo_62 : Dc cX11_owedTo 62 (.iaload) 1 63 := ⟨by decide +kernel, rfl⟩
theorem dX11_owedTo_63 : Dj cX11_owedTo 63 (.goto 4) 3 66 (4) 67 := ⟨by decide +kernel, rfl, by decide⟩
theorem dX11_owedTo_66 : Dc cX11_owedTo 66 (.iconst 1) 1 67 := ⟨by decide +kernel, rfl⟩
theorem dX11_owedTo_67 : Dc cX11_owedTo 67 (.imul) 1 68 := ⟨by decide +kernel, rfl⟩
theorem dX11_owedTo_68 : Dc cX11_owedTo 68 (.iadd) 1 69 := ⟨by decide +kernel, rfl⟩
theorem dX11_owedTo_69 : Dc cX11_owedTo 69 (.istore_n 3) 1 70 := ⟨by decide +kernel, rfl⟩
theorem dX11_owedTo_70 : Dc cX11_owedTo 70 (.iinc 4 1) 3 73 := ⟨by decide +kernel, rfl⟩
theorem dX11_owedTo_73 : Dj cX11_owedTo 73 (.goto (-60)) 3 76 (-60) 13 := ⟨by decide +kernel, rfl, by decide⟩
theorem dX11_owedTo_76 : Dc cX11_owedTo 76 (.iload_n 3) 1 77 := ⟨by decide +kernel, rfl⟩
theorem dX11_owedTo_77 : Dc cX11_owedTo 77 (.ireturn) 1 78 := ⟨by decide +kernel, rfl⟩
theorem dX11_owed_0 : Dc cX11_owed 0 (.aload_n 0) 1 1 := ⟨by decide +kernel, rfl⟩
theorem dX11_owed_1 : Dc cX11_owed 1 (.iload_n 1) 1 2 := ⟨by decide +kernel, rfl⟩
theorem dX11_owed_2 : Dc cX11_owed 2 (.invokevirtual 191) 3 5 := ⟨by decide +kernel, rfl⟩
theorem dX11_owed_5 : Dj cX11_owed 5 (.ifCond .ne 6) 3 8 (6) 11 := ⟨by decide +kernel, rfl, by decide⟩
theorem dX11_owed_8 : Dc cX11_owed 8 (.ldc 194) 2 10 := ⟨by decide +kernel, rfl⟩
theorem dX11_owed_10 : Dc cX11_owed 10 (.ireturn) 1 11 := ⟨by decide +kernel, rfl⟩
theorem dX11_owed_11 : Dc cX11_owed 11 (.iload_n 2) 1 12 := ⟨by decide +kernel, rfl⟩
theorem dX11_owed_12 : Dc cX11_owed 12 (.i2l) 1 13 := ⟨by decide +kernel, rfl⟩
theorem dX11_owed_13 : Dc cX11_owed 13 (.lconst 0) 1 14 := ⟨by decide +kernel, rfl⟩
theorem dX11_owed_14 : Dc cX11_owed 14 (.ldc2_w 263) 3 17 := ⟨by decide +kernel, rfl⟩
theorem dX11_owed_17 : Dc cX11_owed 17 (.invokestatic 85) 3 20 := ⟨by decide +kernel, rfl⟩
theorem dX11_owed_20 : Dj cX11_owed 20 (.ifCond .eq 12) 3 23 (12) 32 := ⟨by decide +kernel, rfl, by decide⟩
theorem dX11_owed_23 : Dc cX11_owed 23 (.aload_n 0) 1 24 := ⟨by decide +kernel, rfl⟩
theorem dX11_owed_24 : Dc cX11_owed 24 (.iload_n 1) 1 25 := ⟨by decide +kernel, rfl⟩
theorem dX11_owed_25 : Dc cX11_owed 25 (.iload_n 2) 1 26 := ⟨by decide +kernel, rfl⟩
theorem dX11_owed_26 : Dc cX11_owed 26 (.invokevirtual 265) 3 29 := ⟨by decide +kernel, rfl⟩
theorem dX11_owed_29 : Dj cX11_owed 29 (.goto 5) 3 32 (5) 34 := ⟨by decide +kernel, rfl, by decide⟩
theorem dX11_owed_32 : Dc cX11_owed 32 (.ldc 99) 2 34 := ⟨by decide +kernel, rfl⟩
theorem dX11_owed_34 : Dc cX11_owed 34 (.ireturn) 1 35 := ⟨by decide +kernel, rfl⟩
theorem dX11_least_0 : Dc cX11_least 0 (.iload_n 1) 1 1 := ⟨by decide +kernel, rfl⟩
theorem dX11_least_1 : Dc cX11_least 1 (.i2l) 1 2 := ⟨by decide +kernel, rfl⟩
theorem dX11_least_2 : Dc cX11_least 2 (.lconst 0) 1 3 := ⟨by decide +kernel, rfl⟩
theorem dX11_least_3 : Dc cX11_least 3 (.ldc2_w 261) 3 6 := ⟨by decide +kernel, rfl⟩
theorem dX11_least_6 : Dc cX11_least 6 (.invokestatic 85) 3 9 := ⟨by decide +kernel, rfl⟩
theorem dX11_least_9 : Dj cX11_least 9 (.ifCond .eq 15) 3 12 (15) 24 := ⟨by decide +kernel, rfl, by decide⟩
theorem dX11_least_12 : Dc cX11_least 12 (.iload_n 2) 1 13 := ⟨by decide +kernel, rfl⟩
theorem dX11_least_13 : Dc cX11_least 13 (.i2l) 1 14 := ⟨by decide +kernel, rfl⟩
theorem dX11_least_14 : Dc cX11_least 14 (.lconst 0) 1 15 := ⟨by decide +kernel, rfl⟩
theorem dX11_least_15 : Dc cX11_least 15 (.ldc2_w 263) 3 18 := ⟨by decide +kernel, rfl⟩
theorem dX11_least_18 : Dc cX11_least 18 (.invokestatic 85) 3 21 := ⟨by decide +kernel, rfl⟩
theorem dX11_least_21 : Dj cX11_least 21 (.ifCond .ne 6) 3 24 (6) 27 := ⟨by decide +kernel, rfl, by decide⟩
theorem dX11_least_24 : Dc cX11_least 24 (.ldc 99) 2 26 := ⟨by decide +kernel, rfl⟩
theorem dX11_least_26 : Dc cX11_least 26 (.ireturn) 1 27 := ⟨by decide +kernel, rfl⟩
theorem dX11_least_27 : Dc cX11_least 27 (.iconst 0) 1 28 := ⟨by decide +kernel, rfl⟩
theorem dX11_least_28 : Dc cX11_least 28 (.istore_n 3) 1 29 := ⟨by decide +kernel, rfl⟩
theorem dX11_least_29 : Dc cX11_least 29 (.iconst 0) 1 30 := ⟨by decide +kernel, rfl⟩
theorem dX11_least_30 : Dc cX11_least 30 (.istore 4) 2 32 := ⟨by decide +kernel, rfl⟩
theorem dX11_least_32 : Dc cX11_least 32 (.iconst 0) 1 33 := ⟨by decide +kernel, rfl⟩
theorem dX11_least_33 : Dc cX11_least 33 (.istore 5) 2 35 := ⟨by decide +kernel, rfl⟩
theorem dX11_least_35 : Dc cX11_least 35 (.iload 5) 2 37 := ⟨by decide +kernel, rfl⟩
theorem dX11_least_37 : Dc cX11_least 37 (.aload_n 0) 1 38 := ⟨by decide +kernel, rfl⟩
theorem dX11_least_38 : Dc cX11_least 38 (.getfield 82) 3 41 := ⟨by decide +kernel, rfl⟩
theorem dX11_least_41 : Dj cX11_least 41 (.if_icmp .ge 19) 3 44 (19) 60 := ⟨by decide +kernel, rfl, by decide⟩
theorem dX11_least_44 : Dc cX11_least 44 (.iload_n 3) 1 45 := ⟨by decide +kernel, rfl⟩
theorem dX11_least_45 : Dc cX11_least 45 (.aload_n 0) 1 46 := ⟨by decide +kernel, rfl⟩
theorem dX11_least_46 : Dc cX11_least 46 (.iload 5) 2 48 := ⟨by decide +kernel, rfl⟩
theorem dX11_least_48 : Dc cX11_least 48 (.iload_n 2) 1 49 := ⟨by decide +kernel, rfl⟩
theorem dX11_least_49 : Dc cX11_least 49 (.invokevirtual 265) 3 52 := ⟨by decide +kernel, rfl⟩
theorem dX11_least_52 : Dc cX11_least 52 (.iadd) 1 53 := ⟨by decide +kernel, rfl⟩
theorem dX11_least_53 : Dc cX11_least 53 (.istore_n 3) 1 54 := ⟨by decide +kernel, rfl⟩
theorem dX11_least_54 : Dc cX11_least 54 (.iinc 5 1) 3 57 := ⟨by decide +kernel, rfl⟩
theorem dX11_least_57 : Dj cX11_least 57 (.goto (-22)) 3 60 (-22) 35 := ⟨by decide +kernel, rfl, by decide⟩
theorem dX11_least_60 : Dc cX11_least 60 (.iconst 0) 1 61 := ⟨by decide +kernel, rfl⟩
theorem dX11_least_61 : Dc cX11_least 61 (.istore 5) 2 63 := ⟨by decide +kernel, rfl⟩
theorem dX11_least_63 : Dc cX11_least 63 (.iload 5) 2 65 := ⟨by decide +kernel, rfl⟩
theorem dX11_least_65 : Dc cX11_least 65 (.iload_n 1) 1 66 := ⟨by decide +kernel, rfl⟩
theorem dX11_least_66 : Dj cX11_least 66 (.if_icmp .ge 123) 3 69 (123) 189 := ⟨by decide +kernel, rfl, by decide⟩
theorem dX11_least_69 : Dc cX11_least 69 (.iconst (-1)) 1 70 := ⟨by decide +kernel, rfl⟩
theorem dX11_least_70 : Dc cX11_least 70 (.istore 6) 2 72 := ⟨by decide +kernel, rfl⟩
theorem dX11_least_72 : Dc cX11_least 72 (.iconst 0) 1 73 := ⟨by decide +kernel, rfl⟩
theorem dX11_least_73 : Dc cX11_least 73 (.istore 7) 2 75 := ⟨by decide +kernel, rfl⟩
theorem dX11_least_75 : Dc cX11_least 75 (.iload 7) 2 77 := ⟨by decide +kernel, rfl⟩
theorem dX11_least_77 : Dc cX11_least 77 (.aload_n 0) 1 78 := ⟨by decide +kernel, rfl⟩
theorem dX11_least_78 : Dc cX11_least 78 (.getfield 82) 3 81 := ⟨by decide +kernel, rfl⟩
theorem dX11_least_81 : Dj cX11_least 81 (.if_icmp .ge 63) 3 84 (63) 144 := ⟨by decide +kernel, rfl, by decide⟩
theorem dX11_least_84 : Dc cX11_least 84 (.iload 4) 2 86 := ⟨by decide +kernel, rfl⟩
theorem dX11_least_86 : Dc cX11_least 86 (.iload 7) 2 88 := ⟨by decide +kernel, rfl⟩
theorem dX11_least_88 : Dc cX11_least 88 (.ishr) 1 89 := ⟨by decide +kernel, rfl⟩
theorem dX11_least_89 : Dc cX11_least 89 (.iconst 1) 1 90 := ⟨by decide +kernel, rfl⟩
theorem dX11_least_90 : Dc cX11_least 90 (.iand) 1 91 := ⟨by decide +kernel, rfl⟩
theorem dX11_least_91 : Dj cX11_least 91 (.ifCond .ne 30) 3 94 (30) 121 := ⟨by decide +kernel, rfl, by decide⟩
theorem dX11_least_94 : Dc cX11_least 94 (.iload 6) 2 96 := ⟨by decide +kernel, rfl⟩
theorem dX11_least_96 : Dc cX11_least 96 (.iconst (-1)) 1 97 := ⟨by decide +kernel, rfl⟩
theorem dX11_least_97 : Dj cX11_least 97 (.if_icmp .eq 20) 3 100 (20) 117 := ⟨by decide +kernel, rfl, by decide⟩
theorem dX11_least_100 : Dc cX11_least 100 (.aload_n 0) 1 101 := ⟨by decide +kernel, rfl⟩
theorem dX11_least_101 : Dc cX11_least 101 (.iload 7) 2 103 := ⟨by decide +kernel, rfl⟩
theorem dX11_least_103 : Dc cX11_least 103 (.iload_n 2) 1 104 := ⟨by decide +kernel, rfl⟩
theorem dX11_least_104 : Dc cX11_least 104 (.invokevirtual 265) 3 107 := ⟨by decide +kernel, rfl⟩
theorem dX11_least_107 : Dc cX11_least 107 (.aload_n 0) 1 108 := ⟨by decide +kernel, rfl⟩
theorem dX11_least_108 : Dc cX11_least 108 (.iload 6) 2 110 := ⟨by decide +kernel, rfl⟩
theorem dX11_least_110 : Dc cX11_least 110 (.iload_n 2) 1 111 := ⟨by decide +kernel, rfl⟩
theorem dX11_least_111 : Dc cX11_least 111 (.invokevirtual 265) 3 114 := ⟨by decide +kernel, rfl⟩
theorem dX11_least_114 : Dj cX11_least 114 (.if_icmp .le 7) 3 117 (7) 121 := ⟨by decide +kernel, rfl, by decide⟩
theorem dX11_least_117 : Dc cX11_least 117 (.iconst 1) 1 118 := ⟨by decide +kernel, rfl⟩
theorem dX11_least_118 : Dj cX11_least 118 (.goto 4) 3 121 (4) 122 := ⟨by decide +kernel, rfl, by decide⟩
theorem dX11_least_121 : Dc cX11_least 121 (.iconst 0) 1 122 := ⟨by decide +kernel, rfl⟩
theorem dX11_least_122 : Dc cX11_least 122 (.istore 8) 2 124 := ⟨by decide +kernel, rfl⟩
theorem dX11_least_124 : Dc cX11_least 124 (.iload 8) 2 126 := ⟨by decide +kernel, rfl⟩
theorem dX11_least_126 : Dj cX11_least 126 (.ifCond .eq 8) 3 129 (8) 134 := ⟨by decide +kernel, rfl, by decide⟩
theorem dX11_least_129 : Dc cX11_least 129 (.iload 7) 2 131 := ⟨by decide +kernel, rfl⟩
theorem dX11_least_131 : Dj cX11_least 131 (.goto 5) 3 134 (5) 136 := ⟨by decide +kernel, rfl, by decide⟩
theorem dX11_least_134 : Dc cX11_least 134 (.iload 6) 2 136 := ⟨by decide +kernel, rfl⟩
theorem dX11_least_136 : Dc cX11_least 136 (.istore 6) 2 138 := ⟨by decide +kernel, rfl⟩
theorem dX11_least_138 : Dc cX11_least 138 (.iinc 7 1) 3 141 := ⟨by decide +kernel, rfl⟩
theorem dX11_least_141 : Dj cX11_least 141 (.goto (-66)) 3 144 (-66) 75 := ⟨by decide +kernel, rfl, by decide⟩
theorem dX11_least_144 : Dc cX11_least 144 (.iload_n 3) 1 145 := ⟨by decide +kernel, rfl⟩
theorem dX11_least_145 : Dc cX11_least 145 (.iload 6) 2 147 := ⟨by decide +kernel, rfl⟩
theorem dX11_least_147 : Dc cX11_least 147 (.iconst (-1)) 1 148 := ⟨by decide +kernel, rfl⟩
theorem dX11_least_148 : Dj cX11_least 148 (.if_icmp .ne 7) 3 151 (7) 155 := ⟨by decide +kernel, rfl, by decide⟩
theorem dX11_least_151 : Dc cX11_least 151 (.iconst 0) 1 152 := ⟨by decide +kernel, rfl⟩
theorem dX11_least_152 : Dj cX11_least 152 (.goto 10) 3 155 (10) 162 := ⟨by decide +kernel, rfl, by decide⟩
theorem dX11_least_155 : Dc cX11_least 155 (.aload_n 0) 1 156 := ⟨by decide +kernel, rfl⟩
theorem dX11_least_156 : Dc cX11_least 156 (.iload 6) 2 158 := ⟨by decide +kernel, rfl⟩
theorem dX11_least_158 : Dc cX11_least 158 (.iload_n 2) 1 159 := ⟨by decide +kernel, rfl⟩
theorem dX11_least_159 : Dc cX11_least 159 (.invokevirtual 265) 3 162 := ⟨by decide +kernel, rfl⟩
theorem dX11_least_162 : Dc cX11_least 162 (.isub) 1 163 := ⟨by decide +kernel, rfl⟩
theorem dX11_least_163 : Dc cX11_least 163 (.istore_n 3) 1 164 := ⟨by decide +kernel, rfl⟩
theorem dX11_least_164 : Dc cX11_least 164 (.iload 4) 2 166 := ⟨by decide +kernel, rfl⟩
theorem dX11_least_166 : Dc cX11_least 166 (.iload 6) 2 168 := ⟨by decide +kernel, rfl⟩
theorem dX11_least_168 : Dc cX11_least 168 (.iconst (-1)) 1 169 := ⟨by decide +kernel, rfl⟩
theorem dX11_least_169 : Dj cX11_least 169 (.if_icmp .ne 7) 3 172 (7) 176 := ⟨by decide +kernel, rfl, by decide⟩
theorem dX11_least_172 : Dc cX11_least 172 (.iconst 0) 1 173 := ⟨by decide +kernel, rfl⟩
theorem dX11_least_173 : Dj cX11_least 173 (.goto 7) 3 176 (7) 180 := ⟨by decide +kernel, rfl, by decide⟩
theorem dX11_least_176 : Dc cX11_least 176 (.iconst 1) 1 177 := ⟨by decide +kernel, rfl⟩
theorem dX11_least_177 : Dc cX11_least 177 (.iload 6) 2 179 := ⟨by decide +kernel, rfl⟩
theorem dX11_least_179 : Dc cX11_least 179 (.ishl) 1 180 := ⟨by decide +kernel, rfl⟩
theorem dX11_least_180 : Dc cX11_least 180 (.ior) 1 181 := ⟨by decide +kernel, rfl⟩
theorem dX11_least_181 : Dc cX11_least 181 (.istore 4) 2 183 := ⟨by decide +kernel, rfl⟩
theorem dX11_least_183 : Dc cX11_least 183 (.iinc 5 1) 3 186 := ⟨by decide +kernel, rfl⟩
theorem dX11_least_186 : Dj cX11_least 186 (.goto (-123)) 3 189 (-123) 63 := ⟨by decide +kernel, rfl, by decide⟩
theorem dX11_least_189 : Dc cX11_least 189 (.iload_n 3) 1 190 := ⟨by decide +kernel, rfl⟩
theorem dX11_least_190 : Dc cX11_least 190 (.ireturn) 1 191 := ⟨by decide +kernel, rfl⟩
theorem dX11_hungerFor_0 : Dc cX11_hungerFor 0 (.iconst 0) 1 1 := ⟨by decide +kernel, rfl⟩
theorem dX11_hungerFor_1 : Dc cX11_hungerFor 1 (.istore_n 3) 1 2 := ⟨by decide +kernel, rfl⟩
theorem dX11_hungerFor_2 : Dc cX11_hungerFor 2 (.iload_n 3) 1 3 := ⟨by decide +kernel, rfl⟩
theorem dX11_hungerFor_3 : Dc cX11_hungerFor 3 (.bipush 100) 2 5 := ⟨by decide +kernel, rfl⟩
theorem dX11_hungerFor_5 : Dj cX11_hungerFor 5 (.if_icmp .ge 26) 3 8 (26) 31 := ⟨by decide +kernel, rfl, by decide⟩
theorem dX11_hungerFor_8 : Dc cX11_hungerFor 8 (.aload_n 0) 1 9 := ⟨by decide +kernel, rfl⟩
theorem dX11_hungerFor_9 : Dc cX11_hungerFor 9 (.iload_n 2) 1 10 := ⟨by decide +kernel, rfl⟩
theorem dX11_hungerFor_10 : Dc cX11_hungerFor 10 (.iload_n 3) 1 11 := ⟨by decide +kernel, rfl⟩
theorem dX11_hungerFor_11 : Dc cX11_hungerFor 11 (.invokevirtual 246) 3 14 := ⟨by decide +kernel, rfl⟩
theorem dX11_hungerFor_14 : Dc cX11_hungerFor 14 (.aload_n 0) 1 15 := ⟨by decide +kernel, rfl⟩
theorem dX11_hungerFor_15 : Dc cX11_hungerFor 15 (.getfield 23) 3 18 := ⟨by decide +kernel, rfl⟩
theorem dX11_hungerFor_18 : Dc cX11_hungerFor 18 (.iload_n 1) 1 19 := ⟨by decide +kernel, rfl⟩
theorem dX11_hungerFor_19 : Dc cX11_hungerFor 19 (.iaload) 1 20 := ⟨by decide +kernel, rfl⟩
theorem dX11_hungerFor_20 : Dj cX11_hungerFor 20 (.if_icmp .ne 5) 3 23 (5) 25 := ⟨by decide +kernel, rfl, by decide⟩
theorem dX11_hungerFor_23 : Dc cX11_hungerFor 23 (.iload_n 3) 1 24 := ⟨by decide +kernel, rfl⟩
theorem dX11_hungerFor_24 : Dc cX11_hungerFor 24 (.ireturn) 1 25 := ⟨by decide +kernel, rfl⟩
theorem dX11_hungerFor_25 : Dc cX11_hungerFor 25 (.iinc 3 1) 3 28 := ⟨by decide +kernel, rfl⟩
theorem dX11_hungerFor_28 : Dj cX11_hungerFor 28 (.goto (-26)) 3 31 (-26) 2 := ⟨by decide +kernel, rfl, by decide⟩
theorem dX11_hungerFor_31 : Dc cX11_hungerFor 31 (.iconst (-1)) 1 32 := ⟨by decide +kernel, rfl⟩
theorem dX11_hungerFor_32 : Dc cX11_hungerFor 32 (.ireturn) 1 33 := ⟨by decide +kernel, rfl⟩
theorem dX11_bought_0 : Dc cX11_bought 0 (.aload_n 0) 1 1 := ⟨by decide +kernel, rfl⟩
theorem dX11_bought_1 : Dc cX11_bought 1 (.iload_n 1) 1 2 := ⟨by decide +kernel, rfl⟩
theorem dX11_bought_2 : Dc cX11_bought 2 (.invokevirtual 195) 3 5 := ⟨by decide +kernel, rfl⟩
theorem dX11_bought_5 : Dj cX11_bought 5 (.ifCond .eq 16) 3 8 (16) 21 := ⟨by decide +kernel, rfl, by decide⟩
theorem dX11_bought_8 : Dc cX11_bought 8 (.iload_n 2) 1 9 := ⟨by decide +kernel, rfl⟩
theorem dX11_bought_9 : Dc cX11_bought 9 (.iconst (-1)) 1 10 := ⟨by decide +kernel, rfl⟩
theorem dX11_bought_10 : Dj cX11_bought 10 (.if_icmp .eq 14) 3 13 (14) 24 := ⟨by decide +kernel, rfl, by decide⟩
theorem dX11_bought_13 : Dc cX11_bought 13 (.aload_n 0) 1 14 := ⟨by decide +kernel, rfl⟩
theorem dX11_bought_14 : Dc cX11_bought 14 (.iload_n 2) 1 15 := ⟨by decide +kernel, rfl⟩
theorem dX11_bought_15 : Dc cX11_bought 15 (.invokevirtual 243) 3 18 := ⟨by decide +kernel, rfl⟩
theorem dX11_bought_18 : Dj cX11_bought 18 (.ifCond .ne 6) 3 21 (6) 24 := ⟨by decide +kernel, rfl, by decide⟩
theorem dX11_bought_21 : Dc cX11_bought 21 (.ldc 194) 2 23 := ⟨by decide +kernel, rfl⟩
theorem dX11_bought_23 : Dc cX11_bought 23 (.ireturn) 1 24 := ⟨by decide +kernel, rfl⟩
theorem dX11_bought_24 : Dc cX11_bought 24 (.iload_n 2) 1 25 := ⟨by decide +kernel, rfl⟩
theorem dX11_bought_25 : Dc cX11_bought 25 (.iconst (-1)) 1 26 := ⟨by decide +kernel, rfl⟩
theorem dX11_bought_26 : Dj cX11_bought 26 (.if_icmp .eq 10) 3 29 (10) 36 := ⟨by decide +kernel, rfl, by decide⟩
theorem dX11_bought_29 : Dc cX11_bought 29 (.aload_n 0) 1 30 := ⟨by decide +kernel, rfl⟩
theorem dX11_bought_30 : Dc cX11_bought 30 (.iload_n 1) 1 31 := ⟨by decide +kernel, rfl⟩
theorem dX11_bought_31 : Dc cX11_bought 31 (.iload_n 2) 1 32 := ⟨by decide +kernel, rfl⟩
theorem dX11_bought_32 : Dc cX11_bought 32 (.invokevirtual 268) 3 35 := ⟨by decide +kernel, rfl⟩
theorem dX11_bought_35 : Dc cX11_bought 35 (.ireturn) 1 36 := ⟨by decide +kernel, rfl⟩
theorem dX11_bought_36 : Dc cX11_bought 36 (.iconst 0) 1 37 := ⟨by decide +kernel, rfl⟩
theorem dX11_bought_37 : Dc cX11_bought 37 (.istore_n 3) 1 38 := ⟨by decide +kernel, rfl⟩
theorem dX11_bought_38 : Dc cX11_bought 38 (.iconst 0) 1 39 := ⟨by decide +kernel, rfl⟩
theorem dX11_bought_39 : Dc cX11_bought 39 (.istore 4) 2 41 := ⟨by decide +kernel, rfl⟩
theorem dX11_bought_41 : Dc cX11_bought 41 (.iload 4) 2 43 := ⟨by decide +kernel, rfl⟩
theorem dX11_bought_43 : Dc cX11_bought 43 (.aload_n 0) 1 44 := ⟨by decide +kernel, rfl⟩
theorem dX11_bought_44 : Dc cX11_bought 44 (.getfield 92) 3 47 := ⟨by decide +kernel, rfl⟩
theorem dX11_bought_47 : Dj cX11_bought 47 (.if_icmp .ge 31) 3 50 (31) 78 := ⟨by decide +kernel, rfl, by decide⟩
theorem dX11_bought_50 : Dc cX11_bought 50 (.iload_n 3) 1 51 := ⟨by decide +kernel, rfl⟩
theorem dX11_bought_51 : Dc cX11_bought 51 (.aload_n 0) 1 52 := ⟨by decide +kernel, rfl⟩
theorem dX11_bought_52 : Dc cX11_bought 52 (.iload_n 1) 1 53 := ⟨by decide +kernel, rfl⟩
theorem dX11_bought_53 : Dc cX11_bought 53 (.iload 4) 2 55 := ⟨by decide +kernel, rfl⟩
theorem dX11_bought_55 : Dc cX11_bought 55 (.invokevirtual 268) 3 58 := ⟨by decide +kernel, rfl⟩
theorem dX11_bought_58 : Dc cX11_bought 58 (.iconst (-1)) 1 59 := ⟨by decide +kernel, rfl⟩
theorem dX11_bought_59 : Dj cX11_bought 59 (.if_icmp .ne 7) 3 62 (7) 66 := ⟨by decide +kernel, rfl, by decide⟩
theorem dX11_bought_62 : Dc cX11_bought 62 (.iconst 0) 1 63 := ⟨by decide +kernel, rfl⟩
theorem dX11_bought_63 : Dj cX11_bought 63 (.goto 7) 3 66 (7) 70 := ⟨by decide +kernel, rfl, by decide⟩
theorem dX11_bought_66 : Dc cX11_bought 66 (.iconst 1) 1 67 := ⟨by decide +kernel, rfl⟩
theorem dX11_bought_67 : Dc cX11_bought 67 (.iload 4) 2 69 := ⟨by decide +kernel, rfl⟩
theorem dX11_bought_69 : Dc cX11_bought 69 (.ishl) 1 70 := ⟨by decide +kernel, rfl⟩
theorem dX11_bought_70 : Dc cX11_bought 70 (.ior) 1 71 := ⟨by decide +kernel, rfl⟩
theorem dX11_bought_71 : Dc cX11_bought 71 (.istore_n 3) 1 72 := ⟨by decide +kernel, rfl⟩
theorem dX11_bought_72 : Dc cX11_bought 72 (.iinc 4 1) 3 75 := ⟨by decide +kernel, rfl⟩
theorem dX11_bought_75 : Dj cX11_bought 75 (.goto (-34)) 3 78 (-34) 41 := ⟨by decide +kernel, rfl, by decide⟩
theorem dX11_bought_78 : Dc cX11_bought 78 (.iload_n 3) 1 79 := ⟨by decide +kernel, rfl⟩
theorem dX11_bought_79 : Dc cX11_bought 79 (.ireturn) 1 80 := ⟨by decide +kernel, rfl⟩
theorem dX11_offer_0 : Dc cX11_offer 0 (.iload_n 1) 1 1 := ⟨by decide +kernel, rfl⟩
theorem dX11_offer_1 : Dc cX11_offer 1 (.i2l) 1 2 := ⟨by decide +kernel, rfl⟩
theorem dX11_offer_2 : Dc cX11_offer 2 (.lconst 1) 1 3 := ⟨by decide +kernel, rfl⟩
theorem dX11_offer_3 : Dc cX11_offer 3 (.ldc2_w 271) 3 6 := ⟨by decide +kernel, rfl⟩
theorem dX11_offer_6 : Dc cX11_offer 6 (.invokestatic 85) 3 9 := ⟨by decide +kernel, rfl⟩
theorem dX11_offer_9 : Dj cX11_offer 9 (.ifCond .eq 15) 3 12 (15) 24 := ⟨by decide +kernel, rfl, by decide⟩
theorem dX11_offer_12 : Dc cX11_offer 12 (.iload_n 2) 1 13 := ⟨by decide +kernel, rfl⟩
theorem dX11_offer_13 : Dc cX11_offer 13 (.i2l) 1 14 := ⟨by decide +kernel, rfl⟩
theorem dX11_offer_14 : Dc cX11_offer 14 (.lconst 0) 1 15 := ⟨by decide +kernel, rfl⟩
theorem dX11_offer_15 : Dc cX11_offer 15 (.ldc2_w 273) 3 18 := ⟨by decide +kernel, rfl⟩
theorem dX11_offer_18 : Dc cX11_offer 18 (.invokestatic 85) 3 21 := ⟨by decide +kernel, rfl⟩
theorem dX11_offer_21 : Dj cX11_offer 21 (.ifCond .ne 6) 3 24 (6) 27 := ⟨by decide +kernel, rfl, by decide⟩
theorem dX11_offer_24 : Dc cX11_offer 24 (.ldc 99) 2 26 := ⟨by decide +kernel, rfl⟩
theorem dX11_offer_26 : Dc cX11_offer 26 (.ireturn) 1 27 := ⟨by decide +kernel, rfl⟩
theorem dX11_offer_27 : Dc cX11_offer 27 (.aload_n 0) 1 28 := ⟨by decide +kernel, rfl⟩
theorem dX11_offer_28 : Dc cX11_offer 28 (.getfield 89) 3 31 := ⟨by decide +kernel, rfl⟩
theorem dX11_offer_31 : Dj cX11_offer 31 (.ifCond .ne 6) 3 34 (6) 37 := ⟨by decide +kernel, rfl, by decide⟩
theorem dX11_offer_34 : Dc cX11_offer 34 (.ldc 212) 2 36 := ⟨by decide +kernel, rfl⟩
theorem dX11_offer_36 : Dc cX11_offer 36 (.ireturn) 1 37 := ⟨by decide +kernel, rfl⟩
theorem dX11_offer_37 : Dc cX11_offer 37 (.iload_n 2) 1 38 := ⟨by decide +kernel, rfl⟩
theorem dX11_offer_38 : Dc cX11_offer 38 (.iload_n 1) 1 39 := ⟨by decide +kernel, rfl⟩
theorem dX11_offer_39 : Dc cX11_offer 39 (.aload_n 0) 1 40 := ⟨by decide +kernel, rfl⟩
theorem dX11_offer_40 : Dc cX11_offer 40 (.iconst 0) 1 41 := ⟨by decide +kernel, rfl⟩
theorem dX11_offer_41 : Dc cX11_offer 41 (.bipush 9) 2 43 := ⟨by decide +kernel, rfl⟩
theorem dX11_offer_43 : Dc cX11_offer 43 (.invokevirtual 258) 3 46 := ⟨by decide +kernel, rfl⟩
theorem dX11_offer_46 : Dc cX11_offer 46 (.imul) 1 47 := ⟨by decide +kernel, rfl⟩
theorem dX11_offer_47 : Dj cX11_offer 47 (.if_icmp .le 7) 3 50 (7) 54 := ⟨by decide +kernel, rfl, by decide⟩
theorem dX11_offer_50 : Dc cX11_offer 50 (.iconst 1) 1 51 := ⟨by decide +kernel, rfl⟩
theorem dX11_offer_51 : Dj cX11_offer 51 (.goto 4) 3 54 (4) 55 := ⟨by decide +kernel, rfl, by decide⟩
theorem dX11_offer_54 : Dc cX11_offer 54 (.iconst 0) 1 55 := ⟨by decide +kernel, rfl⟩
theorem dX11_offer_55 : Dc cX11_offer 55 (.ireturn) 1 56 := ⟨by decide +kernel, rfl⟩
theorem dX11_show_0 : Dc cX11_show 0 (.aload_n 0) 1 1 := ⟨by decide +kernel, rfl⟩
theorem dX11_show_1 : Dc cX11_show 1 (.iload_n 1) 1 2 := ⟨by decide +kernel, rfl⟩
theorem dX11_show_2 : Dc cX11_show 2 (.invokevirtual 195) 3 5 := ⟨by decide +kernel, rfl⟩
theorem dX11_show_5 : Dj cX11_show 5 (.ifCond .ne 6) 3 8 (6) 11 := ⟨by decide +kernel, rfl, by decide⟩
theorem dX11_show_8 : Dc cX11_show 8 (.ldc 194) 2 10 := ⟨by decide +kernel, rfl⟩
theorem dX11_show_10 : Dc cX11_show 10 (.ireturn) 1 11 := ⟨by decide +kernel, rfl⟩
theorem dX11_show_11 : Dc cX11_show 11 (.iload_n 2) 1 12 := ⟨by decide +kernel, rfl⟩
theorem dX11_show_12 : Dc cX11_show 12 (.i2l) 1 13 := ⟨by decide +kernel, rfl⟩
theorem dX11_show_13 : Dc cX11_show 13 (.lconst 0) 1 14 := ⟨by decide +kernel, rfl⟩
theorem dX11_show_14 : Dc cX11_show 14 (.ldc2_w 231) 3 17 := ⟨by decide +kernel, rfl⟩
theorem dX11_show_17 : Dc cX11_show 17 (.invokestatic 85) 3 20 := ⟨by decide +kernel, rfl⟩
theorem dX11_show_20 : Dj cX11_show 20 (.ifCond .eq 28) 3 23 (28) 48 := ⟨by decide +kernel, rfl, by decide⟩
theorem dX11_show_23 : Dc cX11_show 23 (.iload_n 3) 1 24 := ⟨by decide +kernel, rfl⟩
theorem dX11_show_24 : Dc cX11_show 24 (.i2l) 1 25 := ⟨by decide +kernel, rfl⟩
theorem dX11_show_25 : Dc cX11_show 25 (.lconst 0) 1 26 := ⟨by decide +kernel, rfl⟩
theorem dX11_show_26 : Dc cX11_show 26 (.ldc2_w 231) 3 29 := ⟨by decide +kernel, rfl⟩
theorem dX11_show_29 : Dc cX11_show 29 (.invokestatic 85) 3 32 := ⟨by decide +kernel, rfl⟩
theorem dX11_show_32 : Dj cX11_show 32 (.ifCond .eq 16) 3 35 (16) 48 := ⟨by decide +kernel, rfl, by decide⟩
theorem dX11_show_35 : Dc cX11_show 35 (.iload 4) 2 37 := ⟨by decide +kernel, rfl⟩
theorem dX11_show_37 : Dc cX11_show 37 (.i2l) 1 38 := ⟨by decide +kernel, rfl⟩
theorem dX11_show_38 : Dc cX11_show 38 (.lconst 0) 1 39 := ⟨by decide +kernel, rfl⟩
theorem dX11_show_39 : Dc cX11_show 39 (.ldc2_w 231) 3 42 := ⟨by decide +kernel, rfl⟩
theorem dX11_show_42 : Dc cX11_show 42 (.invokestatic 85) 3 45 := ⟨by decide +kernel, rfl⟩
theorem dX11_show_45 : Dj cX11_show 45 (.ifCond .ne 6) 3 48 (6) 51 := ⟨by decide +kernel, rfl, by decide⟩
theorem dX11_show_48 : Dc cX11_show 48 (.ldc 99) 2 50 := ⟨by decide +kernel, rfl⟩
theorem dX11_show_50 : Dc cX11_show 50 (.ireturn) 1 51 := ⟨by decide +kernel, rfl⟩
theorem dX11_show_51 : Dc cX11_show 51 (.aload_n 0) 1 52 := ⟨by decide +kernel, rfl⟩
theorem dX11_show_52 : Dc cX11_show 52 (.getfield 179) 3 55 := ⟨by decide +kernel, rfl⟩
theorem dX11_show_55 : Dc cX11_show 55 (.bipush 8) 2 57 := ⟨by decide +kernel, rfl⟩
theorem dX11_show_57 : Dj cX11_show 57 (.if_icmp .ne 6) 3 60 (6) 63 := ⟨by decide +kernel, rfl, by decide⟩
theorem dX11_show_60 : Dc cX11_show 60 (.ldc 103) 2 62 := ⟨by decide +kernel, rfl⟩
theorem dX11_show_62 : Dc cX11_show 62 (.ireturn) 1 63 := ⟨by decide +kernel, rfl⟩
theorem dX11_show_63 : Dc cX11_show 63 (.aload_n 0) 1 64 := ⟨by decide +kernel, rfl⟩
theorem dX11_show_64 : Dc cX11_show 64 (.getfield 60) 3 67 := ⟨by decide +kernel, rfl⟩
theorem dX11_show_67 : Dc cX11_show 67 (.aload_n 0) 1 68 := ⟨by decide +kernel, rfl⟩
theorem dX11_show_68 : Dc cX11_show 68 (.getfield 179) 3 71 := ⟨by decide +kernel, rfl⟩
theorem dX11_show_71 : Dc cX11_show 71 (.iload_n 1) 1 72 := ⟨by decide +kernel, rfl⟩
theorem dX11_show_72 : Dc cX11_show 72 (.iastore) 1 73 := ⟨by decide +kernel, rfl⟩
theorem dX11_show_73 : Dc cX11_show 73 (.aload_n 0) 1 74 := ⟨by decide +kernel, rfl⟩
theorem dX11_show_74 : Dc cX11_show 74 (.getfield 63) 3 77 := ⟨by decide +kernel, rfl⟩
theorem dX11_show_77 : Dc cX11_show 77 (.aload_n 0) 1 78 := ⟨by decide +kernel, rfl⟩
theorem dX11_show_78 : Dc cX11_show 78 (.getfield 179) 3 81 := ⟨by decide +kernel, rfl⟩
theorem dX11_show_81 : Dc cX11_show 81 (.iload_n 2) 1 82 := ⟨by decide +kernel, rfl⟩
theorem dX11_show_82 : Dc cX11_show 82 (.iastore) 1 83 := ⟨by decide +kernel, rfl⟩
theorem dX11_show_83 : Dc cX11_show 83 (.aload_n 0) 1 84 := ⟨by decide +kernel, rfl⟩
theorem dX11_show_84 : Dc cX11_show 84 (.getfield 66) 3 87 := ⟨by decide +kernel, rfl⟩
theorem dX11_show_87 : Dc cX11_show 87 (.aload_n 0) 1 88 := ⟨by decide +kernel, rfl⟩
theorem dX11_show_88 : Dc cX11_show 88 (.getfield 179) 3 91 := ⟨by decide +kernel, rfl⟩
theorem dX11_show_91 : Dc cX11_show 91 (.iload_n 3) 1 92 := ⟨by decide +kernel, rfl⟩
theorem dX11_show_92 : Dc cX11_show 92 (.iastore) 1 93 := ⟨by decide +kernel, rfl⟩
theorem dX11_show_93 : Dc cX11_show 93 (.aload_n 0) 1 94 := ⟨by decide +kernel, rfl⟩
theorem dX11_show_94 : Dc cX11_show 94 (.getfield 69) 3 97 := ⟨by decide +kernel, rfl⟩
theorem dX11_show_97 : Dc cX11_show 97 (.aload_n 0) 1 98 := ⟨by decide +kernel, rfl⟩
theorem dX11_show_98 : Dc cX11_show 98 (.getfield 179) 3 101 := ⟨by decide +kernel, rfl⟩
theorem dX11_show_101 : Dc cX11_show 101 (.iload 4) 2 103 := ⟨by decide +kernel, rfl⟩
theorem dX11_show_103 : Dc cX11_show 103 (.iastore) 1 104 := ⟨by decide +kernel, rfl⟩
theorem dX11_show_104 : Dc cX11_show 104 (.aload_n 0) 1 105 := ⟨by decide +kernel, rfl⟩
theorem dX11_show_105 : Dc cX11_show 105 (.dup) 1 106 := ⟨by decide +kernel, rfl⟩
theorem dX11_show_106 : Dc cX11_show 106 (.getfield 179) 3 109 := ⟨by decide +kernel, rfl⟩
theorem dX11_show_109 : Dc cX11_show 109 (.iconst 1) 1 110 := ⟨by decide +kernel, rfl⟩
theorem dX11_show_110 : Dc cX11_show 110 (.iadd) 1 111 := ⟨by decide +kernel, rfl⟩
theorem dX11_show_111 : Dc cX11_show 111 (.putfield 179) 3 114 := ⟨by decide +kernel, rfl⟩
theorem dX11_show_114 : Dc cX11_show 114 (.aload_n 0) 1 115 := ⟨by decide +kernel, rfl⟩
theorem dX11_show_115 : Dc cX11_show 115 (.getfield 179) 3 118 := ⟨by decide +kernel, rfl⟩
theorem dX11_show_118 : Dc cX11_show 118 (.ireturn) 1 119 := ⟨by decide +kernel, rfl⟩
theorem dX11_isBehind_0 : Dc cX11_isBehind 0 (.aload_n 0) 1 1 := ⟨by decide +kernel, rfl⟩
theorem dX11_isBehind_1 : Dc cX11_isBehind 1 (.getfield 66) 3 4 := ⟨by decide +kernel, rfl⟩
theorem dX11_isBehind_4 : Dc cX11_isBehind 4 (.iload_n 1) 1 5 := ⟨by decide +kernel, rfl⟩
theorem dX11_isBehind_5 : Dc cX11_isBehind 5 (.iaload) 1 6 := ⟨by decide +kernel, rfl⟩
theorem dX11_isBehind_6 : Dc cX11_isBehind 6 (.aload_n 0) 1 7 := ⟨by decide +kernel, rfl⟩
theorem dX11_isBehind_7 : Dc cX11_isBehind 7 (.getfield 63) 3 10 := ⟨by decide +kernel, rfl⟩
theorem dX11_isBehind_10 : Dc cX11_isBehind 10 (.iload_n 1) 1 11 := ⟨by decide +kernel, rfl⟩
theorem dX11_isBehind_11 : Dc cX11_isBehind 11 (.iaload) 1 12 := ⟨by decide +kernel, rfl⟩
theorem dX11_isBehind_12 : Dj cX11_isBehind 12 (.if_icmp .le 7) 3 15 (7) 19 := ⟨by decide +kernel, rfl, by decide⟩
theorem dX11_isBehind_15 : Dc cX11_isBehind 15 (.iconst 1) 1 16 := ⟨by decide +kernel, rfl⟩
theorem dX11_isBehind_16 : Dj cX11_isBehind 16 (.goto 4) 3 19 (4) 20 := ⟨by decide +kernel, rfl, by decide⟩
theorem dX11_isBehind_19 : Dc cX11_isBehind 19 (.iconst 0) 1 20 := ⟨by decide +kernel, rfl⟩
theorem dX11_isBehind_20 : Dc cX11_isBehind 20 (.ireturn) 1 21 := ⟨by decide +kernel, rfl⟩
theorem dX11_forged_0 : Dc cX11_forged 0 (.iconst 0) 1 1 := ⟨by decide +kernel, rfl⟩
theorem dX11_forged_1 : Dc cX11_forged 1 (.istore_n 1) 1 2 := ⟨by decide +kernel, rfl⟩
theorem dX11_forged_2 : Dc cX11_forged 2 (.iconst 0) 1 3 := ⟨by decide +kernel, rfl⟩
theorem dX11_forged_3 : Dc cX11_forged 3 (.istore_n 2) 1 4 := ⟨by decide +kernel, rfl⟩
theorem dX11_forged_4 : Dc cX11_forged 4 (.iload_n 2) 1 5 := ⟨by decide +kernel, rfl⟩
theorem dX11_forged_5 : Dc cX11_forged 5 (.aload_n 0) 1 6 := ⟨by decide +kernel, rfl⟩
theorem dX11_forged_6 : Dc cX11_forged 6 (.getfield 179) 3 9 := ⟨by decide +kernel, rfl⟩
theorem dX11_forged_9 : Dj cX11_forged 9 (.if_icmp .ge 47) 3 12 (47) 56 := ⟨by decide +kernel, rfl, by decide⟩
theorem dX11_forged_12 : Dc cX11_forged 12 (.iload_n 1) 1 13 := ⟨by decide +kernel, rfl⟩
theorem dX11_forged_13 : Dc cX11_forged 13 (.aload_n 0) 1 14 := ⟨by decide +kernel, rfl⟩
theorem dX11_forged_14 : Dc cX11_forged 14 (.iload_n 2) 1 15 := ⟨by decide +kernel, rfl⟩
theorem dX11_forged_15 : Dc cX11_forged 15 (.invokevirtual 275) 3 18 := ⟨by decide +kernel, rfl⟩
theorem dX11_forged_18 : Dj cX11_forged 18 (.ifCond .ne 23) 3 21 (23) 41 := ⟨by decide +kernel, rfl, by decide⟩
theorem dX11_forged_21 : Dc cX11_forged 21 (.aload_n 0) 1 22 := ⟨by decide +kernel, rfl⟩
theorem dX11_forged_22 : Dc cX11_forged 22 (.getfield 69) 3 25 := ⟨by decide +kernel, rfl⟩
theorem dX11_forged_25 : Dc cX11_forged 25 (.iload_n 2) 1 26 := ⟨by decide +kernel, rfl⟩
theorem dX11_forged_26 : Dc cX11_forged 26 (.iaload) 1 27 := ⟨by decide +kernel, rfl⟩
theorem dX11_forged_27 : Dc cX11_forged 27 (.aload_n 0) 1 28 := ⟨by decide +kernel, rfl⟩
theorem dX11_forged_28 : Dc cX11_forged 28 (.getfield 26) 3 31 := ⟨by decide +kernel, rfl⟩
theorem dX11_forged_31 : Dc cX11_forged 31 (.aload_n 0) 1 32 := ⟨by decide +kernel, rfl⟩
theorem dX11_forged_32 : Dc cX11_forged 32 (.getfield 60) 3 35 := ⟨by decide +kernel, rfl⟩
theorem dX11_forged_35 : Dc cX11_forged 35 (.iload_n 2) 1 36 := ⟨by decide +kernel, rfl⟩
theorem dX11_forged_36 : Dc cX11_forged 36 (.iaload) 1 37 := ⟨by decide +kernel, rfl⟩
theorem dX11_forged_37 : Dc cX11_forged 37 (.iaload) 1 38 := ⟨by decide +kernel, rfl⟩
theorem dX11_forged_38 : Dj cX11_forged 38 (.if_icmp .ge 9) 3 41 (9) 47 := ⟨by decide +kernel, rfl, by decide⟩
theorem dX11_forged_41 : Dc cX11_forged 41 (.iconst 1) 1 42 := ⟨by decide +kernel, rfl⟩
theorem dX11_forged_42 : Dc cX11_forged 42 (.iload_n 2) 1 43 := ⟨by decide +kernel, rfl⟩
theorem dX11_forged_43 : Dc cX11_forged 43 (.ishl) 1 44 := ⟨by decide +kernel, rfl⟩
theorem dX11_forged_44 : Dj cX11_forged 44 (.goto 4) 3 47 (4) 48 := ⟨by decide +kernel, rfl, by decide⟩
theorem dX11_forged_47 : Dc cX11_forged 47 (.iconst 0) 1 48 := ⟨by decide +kernel, rfl⟩
theorem dX11_forged_48 : Dc cX11_forged 48 (.ior) 1 49 := ⟨by decide +kernel, rfl⟩
theorem dX11_forged_49 : Dc cX11_forged 49 (.istore_n 1) 1 50 := ⟨by decide +kernel, rfl⟩
theorem dX11_forged_50 : Dc cX11_forged 50 (.iinc 2 1) 3 53 := ⟨by decide +kernel, rfl⟩
theorem dX11_forged_53 : Dj cX11_forged 53 (.goto (-49)) 3 56 (-49) 4 := ⟨by decide +kernel, rfl, by decide⟩
theorem dX11_forged_56 : Dc cX11_forged 56 (.iload_n 1) 1 57 := ⟨by decide +kernel, rfl⟩
theorem dX11_forged_57 : Dc cX11_forged 57 (.ireturn) 1 58 := ⟨by decide +kernel, rfl⟩
theorem dX11_weighFirst_0 : Dc cX11_weighFirst 0 (.iconst (-1)) 1 1 := ⟨by decide +kernel, rfl⟩
theorem dX11_weighFirst_1 : Dc cX11_weighFirst 1 (.istore_n 1) 1 2 := ⟨by decide +kernel, rfl⟩
theorem dX11_weighFirst_2 : Dc cX11_weighFirst 2 (.iconst 0) 1 3 := ⟨by decide +kernel, rfl⟩
theorem dX11_weighFirst_3 : Dc cX11_weighFirst 3 (.istore_n 2) 1 4 := ⟨by decide +kernel, rfl⟩
theorem dX11_weighFirst_4 : Dc cX11_weighFirst 4 (.iconst 0) 1 5 := ⟨by decide +kernel, rfl⟩
theorem dX11_weighFirst_5 : Dc cX11_weighFirst 5 (.istore_n 3) 1 6 := ⟨by decide +kernel, rfl⟩
theorem dX11_weighFirst_6 : Dc cX11_weighFirst 6 (.iload_n 3) 1 7 := ⟨by decide +kernel, rfl⟩
theorem dX11_weighFirst_7 : Dc cX11_weighFirst 7 (.aload_n 0) 1 8 := ⟨by decide +kernel, rfl⟩
theorem dX11_weighFirst_8 : Dc cX11_weighFirst 8 (.getfield 89) 3 11 := ⟨by decide +kernel, rfl⟩
theorem dX11_weighFirst_11 : Dj cX11_weighFirst 11 (.if_icmp .ge 85) 3 14 (85) 96 := ⟨by decide +kernel, rfl, by decide⟩
theorem dX11_weighFirst_14 : Dc cX11_weighFirst 14 (.iconst 0) 1 15 := ⟨by decide +kernel, rfl⟩
theorem dX11_weighFirst_15 : Dc cX11_weighFirst 15 (.istore 4) 2 17 := ⟨by decide +kernel, rfl⟩
theorem dX11_weighFirst_17 : Dc cX11_weighFirst 17 (.iconst 0) 1 18 := ⟨by decide +kernel, rfl⟩
theorem dX11_weighFirst_18 : Dc cX11_weighFirst 18 (.istore 5) 2 20 := ⟨by decide +kernel, rfl⟩
theorem dX11_weighFirst_20 : Dc cX11_weighFirst 20 (.iload 5) 2 22 := ⟨by decide +kernel, rfl⟩
theorem dX11_weighFirst_22 : Dc cX11_weighFirst 22 (.aload_n 0) 1 23 := ⟨by decide +kernel, rfl⟩
theorem dX11_weighFirst_23 : Dc cX11_weighFirst 23 (.getfield 179) 3 26 := ⟨by decide +kernel, rfl⟩
theorem dX11_weighFirst_26 : Dj cX11_weighFirst 26 (.if_icmp .ge 39) 3 29 (39) 65 := ⟨by decide +kernel, rfl, by decide⟩
theorem dX11_weighFirst_29 : Dc cX11_weighFirst 29 (.iload 4) 2 31 := ⟨by decide +kernel, rfl⟩
theorem dX11_weighFirst_31 : Dc cX11_weighFirst 31 (.aload_n 0) 1 32 := ⟨by decide +kernel, rfl⟩
theorem dX11_weighFirst_32 : Dc cX11_weighFirst 32 (.getfield 60) 3 35 := ⟨by decide +kernel, rfl⟩
theorem dX11_weighFirst_35 : Dc cX11_weighFirst 35 (.iload 5) 2 37 := ⟨by decide +kernel, rfl⟩
theorem dX11_weighFirst_37 : Dc cX11_weighFirst 37 (.iaload) 1 38 := ⟨by decide +kernel, rfl⟩
theorem dX11_weighFirst_38 : Dc cX11_weighFirst 38 (.iload_n 3) 1 39 := ⟨by decide +kernel, rfl⟩
theorem dX11_weighFirst_39 : Dj cX11_weighFirst 39 (.if_icmp .ne 16) 3 42 (16) 55 := ⟨by decide +kernel, rfl, by decide⟩
theorem dX11_weighFirst_42 : Dc cX11_weighFirst 42 (.aload_n 0) 1 43 := ⟨by decide +kernel, rfl⟩
theorem dX11_weighFirst_43 : Dc cX11_weighFirst 43 (.iload 5) 2 45 := ⟨by decide +kernel, rfl⟩
theorem dX11_weighFirst_45 : Dc cX11_weighFirst 45 (.invokevirtual 275) 3 48 := ⟨by decide +kernel, rfl⟩
theorem dX11_weighFirst_48 : Dj cX11_weighFirst 48 (.ifCond .ne 7) 3 51 (7) 55 := ⟨by decide +kernel, rfl, by decide⟩
theorem dX11_weighFirst_51 : Dc cX11_weighFirst 51 (.iconst 1) 1 52 := ⟨by decide +kernel, rfl⟩
theorem dX11_weighFirst_52 : Dj cX11_weighFirst 52 (.goto 4) 3 55 (4) 56 := ⟨by decide +kernel, rfl, by decide⟩
theorem dX11_weighFirst_55 : Dc cX11_weighFirst 55 (.iconst 0) 1 56 := ⟨by decide +kernel, rfl⟩
theorem dX11_weighFirst_56 : Dc cX11_weighFirst 56 (.iadd) 1 57 := ⟨by decide +kernel, rfl⟩
theorem dX11_weighFirst_57 : Dc cX11_weighFirst 57 (.istore 4) 2 59 := ⟨by decide +kernel, rfl⟩
theorem dX11_weighFirst_59 : Dc cX11_weighFirst 59 (.iinc 5 1) 3 62 := ⟨by decide +kernel, rfl⟩
theorem dX11_weighFirst_62 : Dj cX11_weighFirst 62 (.goto (-42)) 3 65 (-42) 20 := ⟨by decide +kernel, rfl, by decide⟩
theorem dX11_weighFirst_65 : Dc cX11_weighFirst 65 (.iload 4) 2 67 := ⟨by decide +kernel, rfl⟩
theorem dX11_weighFirst_67 : Dc cX11_weighFirst 67 (.iload_n 2) 1 68 := ⟨by decide +kernel, rfl⟩
theorem dX11_weighFirst_68 : Dj cX11_weighFirst 68 (.if_icmp .le 7) 3 71 (7) 75 := ⟨by decide +kernel, rfl, by decide⟩
theorem dX11_weighFirst_71 : Dc cX11_weighFirst 71 (.iload_n 3) 1 72 := ⟨by decide +kernel, rfl⟩
theorem dX11_weighFirst_72 : Dj cX11_weighFirst 72 (.goto 4) 3 75 (4) 76 := ⟨by decide +kernel, rfl, by decide⟩
theorem dX11_weighFirst_75 : Dc cX11_weighFirst 75 (.iload_n 1) 1 76 := ⟨by decide +kernel, rfl⟩
theorem dX11_weighFirst_76 : Dc cX11_weighFirst 76 (.istore_n 1) 1 77 := ⟨by decide +kernel, rfl⟩
theorem dX11_weighFirst_77 : Dc cX11_weighFirst 77 (.iload 4) 2 79 := ⟨by decide +kernel, rfl⟩
theorem dX11_weighFirst_79 : Dc cX11_weighFirst 79 (.iload_n 2) 1 80 := ⟨by decide +kernel, rfl⟩
theorem dX11_weighFirst_80 : Dj cX11_weighFirst 80 (.if_icmp .le 8) 3 83 (8) 88 := ⟨by decide +kernel, rfl, by decide⟩
theorem dX11_weighFirst_83 : Dc cX11_weighFirst 83 (.iload 4) 2 85 := ⟨by decide +kernel, rfl⟩
theorem dX11_weighFirst_85 : Dj cX11_weighFirst 85 (.goto 4) 3 88 (4) 89 := ⟨by decide +kernel, rfl, by decide⟩
theorem dX11_weighFirst_88 : Dc cX11_weighFirst 88 (.iload_n 2) 1 89 := ⟨by decide +kernel, rfl⟩
theorem dX11_weighFirst_89 : Dc cX11_weighFirst 89 (.istore_n 2) 1 90 := ⟨by decide +kernel, rfl⟩
theorem dX11_weighFirst_90 : Dc cX11_weighFirst 90 (.iinc 3 1) 3 93 := ⟨by decide +kernel, rfl⟩
theorem dX11_weighFirst_93 : Dj cX11_weighFirst 93 (.goto (-87)) 3 96 (-87) 6 := ⟨by decide +kernel, rfl, by decide⟩
theorem dX11_weighFirst_96 : Dc cX11_weighFirst 96 (.iload_n 1) 1 97 := ⟨by decide +kernel, rfl⟩
theorem dX11_weighFirst_97 : Dc cX11_weighFirst 97 (.ireturn) 1 98 := ⟨by decide +kernel, rfl⟩
theorem dX11_write_0 : Dc cX11_write 0 (.aload_n 0) 1 1 := ⟨by decide +kernel, rfl⟩
theorem dX11_write_1 : Dc cX11_write 1 (.iload_n 1) 1 2 := ⟨by decide +kernel, rfl⟩
theorem dX11_write_2 : Dc cX11_write 2 (.invokevirtual 191) 3 5 := ⟨by decide +kernel, rfl⟩
theorem dX11_write_5 : Dj cX11_write 5 (.ifCond .ne 6) 3 8 (6) 11 := ⟨by decide +kernel, rfl, by decide⟩
theorem dX11_write_8 : Dc cX11_write 8 (.ldc 194) 2 10 := ⟨by decide +kernel, rfl⟩
theorem dX11_write_10 : Dc cX11_write 10 (.ireturn) 1 11 := ⟨by decide +kernel, rfl⟩
theorem dX11_write_11 : Dc cX11_write 11 (.iload_n 2) 1 12 := ⟨by decide +kernel, rfl⟩
theorem dX11_write_12 : Dc cX11_write 12 (.i2l) 1 13 := ⟨by decide +kernel, rfl⟩
theorem dX11_write_13 : Dc cX11_write 13 (.lconst 0) 1 14 := ⟨by decide +kernel, rfl⟩
theorem dX11_write_14 : Dc cX11_write 14 (.ldc2_w 231) 3 17 := ⟨by decide +kernel, rfl⟩
theorem dX11_write_17 : Dc cX11_write 17 (.invokestatic 85) 3 20 := ⟨by decide +kernel, rfl⟩
theorem dX11_write_20 : Dj cX11_write 20 (.ifCond .ne 6) 3 23 (6) 26 := ⟨by decide +kernel, rfl, by decide⟩
theorem dX11_write_23 : Dc cX11_write 23 (.ldc 99) 2 25 := ⟨by decide +kernel, rfl⟩
theorem dX11_write_25 : Dc cX11_write 25 (.ireturn) 1 26 := ⟨by decide +kernel, rfl⟩
theorem dX11_write_26 : Dc cX11_write 26 (.aload_n 0) 1 27 := ⟨by decide +kernel, rfl⟩
theorem dX11_write_27 : Dc cX11_write 27 (.getfield 182) 3 30 := ⟨by decide +kernel, rfl⟩
theorem dX11_write_30 : Dc cX11_write 30 (.bipush 15) 2 32 := ⟨by decide +kernel, rfl⟩
theorem dX11_write_32 : Dj cX11_write 32 (.if_icmp .ne 6) 3 35 (6) 38 := ⟨by decide +kernel, rfl, by decide⟩
theorem dX11_write_35 : Dc cX11_write 35 (.ldc 103) 2 37 := ⟨by decide +kernel, rfl⟩
theorem dX11_write_37 : Dc cX11_write 37 (.ireturn) 1 38 := ⟨by decide +kernel, rfl⟩
theorem dX11_write_38 : Dc cX11_write 38 (.aload_n 0) 1 39 := ⟨by decide +kernel, rfl⟩
theorem dX11_write_39 : Dc cX11_write 39 (.getfield 72) 3 42 := ⟨by decide +kernel, rfl⟩
theorem dX11_write_42 : Dc cX11_write 42 (.aload_n 0) 1 43 := ⟨by decide +kernel, rfl⟩
theorem dX11_write_43 : Dc cX11_write 43 (.getfield 182) 3 46 := ⟨by decide +kernel, rfl⟩
theorem dX11_write_46 : Dc cX11_write 46 (.iload_n 1) 1 47 := ⟨by decide +kernel, rfl⟩
theorem dX11_write_47 : Dc cX11_write 47 (.iastore) 1 48 := ⟨by decide +kernel, rfl⟩
theorem dX11_write_48 : Dc cX11_write 48 (.aload_n 0) 1 49 := ⟨by decide +kernel, rfl⟩
theorem dX11_write_49 : Dc cX11_write 49 (.getfield 75) 3 52 := ⟨by decide +kernel, rfl⟩
theorem dX11_write_52 : Dc cX11_write 52 (.aload_n 0) 1 53 := ⟨by decide +kernel, rfl⟩
theorem dX11_write_53 : Dc cX11_write 53 (.getfield 182) 3 56 := ⟨by decide +kernel, rfl⟩
theorem dX11_write_56 : Dc cX11_write 56 (.iload_n 2) 1 57 := ⟨by decide +kernel, rfl⟩
theorem dX11_write_57 : Dc cX11_write 57 (.iastore) 1 58 := ⟨by decide +kernel, rfl⟩
theorem dX11_write_58 : Dc cX11_write 58 (.aload_n 0) 1 59 := ⟨by decide +kernel, rfl⟩
theorem dX11_write_59 : Dc cX11_write 59 (.dup) 1 60 := ⟨by decide +kernel, rfl⟩
theorem dX11_write_60 : Dc cX11_write 60 (.getfield 182) 3 63 := ⟨by decide +kernel, rfl⟩
theorem dX11_write_63 : Dc cX11_write 63 (.iconst 1) 1 64 := ⟨by decide +kernel, rfl⟩
theorem dX11_write_64 : Dc cX11_write 64 (.iadd) 1 65 := ⟨by decide +kernel, rfl⟩
theorem dX11_write_65 : Dc cX11_write 65 (.putfield 182) 3 68 := ⟨by decide +kernel, rfl⟩
theorem dX11_write_68 : Dc cX11_write 68 (.aload_n 0) 1 69 := ⟨by decide +kernel, rfl⟩
theorem dX11_write_69 : Dc cX11_write 69 (.getfield 182) 3 72 := ⟨by decide +kernel, rfl⟩
theorem dX11_write_72 : Dc cX11_write 72 (.ireturn) 1 73 := ⟨by decide +kernel, rfl⟩
theorem dX11_tear_0 : Dc cX11_tear 0 (.aload_n 0) 1 1 := ⟨by decide +kernel, rfl⟩
theorem dX11_tear_1 : Dc cX11_tear 1 (.getfield 179) 3 4 := ⟨by decide +kernel, rfl⟩
theorem dX11_tear_4 : Dc cX11_tear 4 (.aload_n 0) 1 5 := ⟨by decide +kernel, rfl⟩
theorem dX11_tear_5 : Dc cX11_tear 5 (.getfield 182) 3 8 := ⟨by decide +kernel, rfl⟩
theorem dX11_tear_8 : Dc cX11_tear 8 (.iadd) 1 9 := ⟨by decide +kernel, rfl⟩
theorem dX11_tear_9 : Dc cX11_tear 9 (.istore_n 1) 1 10 := ⟨by decide +kernel, rfl⟩
theorem dX11_tear_10 : Dc cX11_tear 10 (.aload_n 0) 1 11 := ⟨by decide +kernel, rfl⟩
theorem dX11_tear_11 : Dc cX11_tear 11 (.iconst 0) 1 12 := ⟨by decide +kernel, rfl⟩
theorem dX11_tear_12 : Dc cX11_tear 12 (.putfield 179) 3 15 := ⟨by decide +kernel, rfl⟩
theorem dX11_tear_15 : Dc cX11_tear 15 (.aload_n 0) 1 16 := ⟨by decide +kernel, rfl⟩
theorem dX11_tear_16 : Dc cX11_tear 16 (.iconst 0) 1 17 := ⟨by decide +kernel, rfl⟩
theorem dX11_tear_17 : Dc cX11_tear 17 (.putfield 182) 3 20 := ⟨by decide +kernel, rfl⟩
theorem dX11_tear_20 : Dc cX11_tear 20 (.iload_n 1) 1 21 := ⟨by decide +kernel, rfl⟩
theorem dX11_tear_21 : Dc cX11_tear 21 (.ireturn) 1 22 := ⟨by decide +kernel, rfl⟩
theorem dX11_judge_0 : Dc cX11_judge 0 (.iconst 0) 1 1 := ⟨by decide +kernel, rfl⟩
theorem dX11_judge_1 : Dc cX11_judge 1 (.istore_n 1) 1 2 := ⟨by decide +kernel, rfl⟩
theorem dX11_judge_2 : Dc cX11_judge 2 (.iload_n 1) 1 3 := ⟨by decide +kernel, rfl⟩
theorem dX11_judge_3 : Dc cX11_judge 3 (.aload_n 0) 1 4 := ⟨by decide +kernel, rfl⟩
theorem dX11_judge_4 : Dc cX11_judge 4 (.getfield 182) 3 7 := ⟨by decide +kernel, rfl⟩
theorem dX11_judge_7 : Dj cX11_judge 7 (.if_icmp .ge 33) 3 10 (33) 40 := ⟨by decide +kernel, rfl, by decide⟩
theorem dX11_judge_10 : Dc cX11_judge 10 (.aload_n 0) 1 11 := ⟨by decide +kernel, rfl⟩
theorem dX11_judge_11 : Dc cX11_judge 11 (.getfield 7) 3 14 := ⟨by decide +kernel, rfl⟩
theorem dX11_judge_14 : Dc cX11_judge 14 (.iconst 5) 1 15 := ⟨by decide +kernel, rfl⟩
theorem dX11_judge_15 : Dc cX11_judge 15 (.aload_n 0) 1 16 := ⟨by decide +kernel, rfl⟩
theorem dX11_judge_16 : Dc cX11_judge 16 (.getfield 72) 3 19 := ⟨by decide +kernel, rfl⟩
theorem dX11_judge_19 : Dc cX11_judge 19 (.iload_n 1) 1 20 := ⟨by decide +kernel, rfl⟩
theorem dX11_judge_20 : Dc cX11_judge 20 (.iaload) 1 21 := ⟨by decide +kernel, rfl⟩
theorem dX11_judge_21 : Dc cX11_judge 21 (.iadd) 1 22 := ⟨by decide +kernel, rfl⟩
theorem dX11_judge_22 : Dc cX11_judge 22 (.iaload) 1 23 := ⟨by decide +kernel, rfl⟩
theorem dX11_judge_23 : Dc cX11_judge 23 (.aload_n 0) 1 24 := ⟨by decide +kernel, rfl⟩
theorem dX11_judge_24 : Dc cX11_judge 24 (.getfield 75) 3 27 := ⟨by decide +kernel, rfl⟩
theorem dX11_judge_27 : Dc cX11_judge 27 (.iload_n 1) 1 28 := ⟨by decide +kernel, rfl⟩
theorem dX11_judge_28 : Dc cX11_judge 28 (.iaload) 1 29 := ⟨by decide +kernel, rfl⟩
theorem dX11_judge_29 : Dj cX11_judge 29 (.if_icmp .eq 5) 3 32 (5) 34 := ⟨by decide +kernel, rfl, by decide⟩
theorem dX11_judge_32 : Dc cX11_judge 32 (.iload_n 1) 1 33 := ⟨by decide +kernel, rfl⟩
theorem dX11_judge_33 : Dc cX11_judge 33 (.ireturn) 1 34 := ⟨by decide +kernel, rfl⟩
theorem dX11_judge_34 : Dc cX11_judge 34 (.iinc 1 1) 3 37 := ⟨by decide +kernel, rfl⟩
theorem dX11_judge_37 : Dj cX11_judge 37 (.goto (-35)) 3 40 (-35) 2 := ⟨by decide +kernel, rfl, by decide⟩
theorem dX11_judge_40 : Dc cX11_judge 40 (.iconst (-1)) 1 41 := ⟨by decide +kernel, rfl⟩
theorem dX11_judge_41 : Dc cX11_judge 41 (.ireturn) 1 42 := ⟨by decide +kernel, rfl⟩
theorem dX11_seed_0 : Dc cX11_seed 0 (.iload_n 1) 1 1 := ⟨by decide +kernel, rfl⟩
theorem dX11_seed_1 : Dj cX11_seed 1 (.ifCond .ge 6) 3 4 (6) 7 := ⟨by decide +kernel, rfl, by decide⟩
theorem dX11_seed_4 : Dc cX11_seed 4 (.ldc 99) 2 6 := ⟨by decide +kernel, rfl⟩
theorem dX11_seed_6 : Dc cX11_seed 6 (.ireturn) 1 7 := ⟨by decide +kernel, rfl⟩
theorem dX11_seed_7 : Dc cX11_seed 7 (.aload_n 0) 1 8 := ⟨by decide +kernel, rfl⟩
theorem dX11_seed_8 : Dc cX11_seed 8 (.getfield 7) 3 11 := ⟨by decide +kernel, rfl⟩
theorem dX11_seed_11 : Dc cX11_seed 11 (.bipush 44) 2 13 := ⟨by decide +kernel, rfl⟩
theorem dX11_seed_13 : Dc cX11_seed 13 (.iaload) 1 14 := ⟨by decide +kernel, rfl⟩
theorem dX11_seed_14 : Dc cX11_seed 14 (.istore_n 2) 1 15 := ⟨by decide +kernel, rfl⟩
theorem dX11_seed_15 : Dc cX11_seed 15 (.aload_n 0) 1 16 := ⟨by decide +kernel, rfl⟩
theorem dX11_seed_16 : Dc cX11_seed 16 (.getfield 7) 3 19 := ⟨by decide +kernel, rfl⟩
theorem dX11_seed_19 : Dc cX11_seed 19 (.bipush 44) 2 21 := ⟨by decide +kernel, rfl⟩
theorem dX11_seed_21 : Dc cX11_seed 21 (.iload_n 1) 1 22 := ⟨by decide +kernel, rfl⟩
theorem dX11_seed_22 : Dc cX11_seed 22 (.iastore) 1 23 := ⟨by decide +kernel, rfl⟩
theorem dX11_seed_23 : Dc cX11_seed 23 (.iload_n 2) 1 24 := ⟨by decide +kernel, rfl⟩
theorem dX11_seed_24 : Dc cX11_seed 24 (.ireturn) 1 25 := ⟨by decide +kernel, rfl⟩
theorem dX11_keep_0 : Dc cX11_keep 0 (.iload_n 1) 1 1 := ⟨by decide +kernel, rfl⟩
theorem dX11_keep_1 : Dc cX11_keep 1 (.i2l) 1 2 := ⟨by decide +kernel, rfl⟩
theorem dX11_keep_2 : Dc cX11_keep 2 (.lconst 0) 1 3 := ⟨by decide +kernel, rfl⟩
theorem dX11_keep_3 : Dc cX11_keep 3 (.lconst 1) 1 4 := ⟨by decide +kernel, rfl⟩
theorem dX11_keep_4 : Dc cX11_keep 4 (.invokestatic 85) 3 7 := ⟨by decide +kernel, rfl⟩
theorem dX11_keep_7 : Dj cX11_keep 7 (.ifCond .ne 6) 3 10 (6) 13 := ⟨by decide +kernel, rfl, by decide⟩
theorem dX11_keep_10 : Dc cX11_keep 10 (.ldc 194) 2 12 := ⟨by decide +kernel, rfl⟩
theorem dX11_keep_12 : Dc cX11_keep 12 (.ireturn) 1 13 := ⟨by decide +kernel, rfl⟩
theorem dX11_keep_13 : Dc cX11_keep 13 (.aload_n 0) 1 14 := ⟨by decide +kernel, rfl⟩
theorem dX11_keep_14 : Dc cX11_keep 14 (.iconst 0) 1 15 := ⟨by decide +kernel, rfl⟩
theorem dX11_keep_15 : Dc cX11_keep 15 (.bipush 90) 2 17 := ⟨by decide +kernel, rfl⟩
theorem dX11_keep_17 : Dc cX11_keep 17 (.bipush 45) 2 19 := ⟨by decide +kernel, rfl⟩
theorem dX11_keep_19 : Dc cX11_keep 19 (.iload_n 1) 1 20 := ⟨by decide +kernel, rfl⟩
theorem dX11_keep_20 : Dc cX11_keep 20 (.imul) 1 21 := ⟨by decide +kernel, rfl⟩
theorem dX11_keep_21 : Dc cX11_keep 21 (.iadd) 1 22 := ⟨by decide +kernel, rfl⟩
theorem dX11_keep_22 : Dc cX11_keep 22 (.invokevirtual 209) 3 25 := ⟨by decide +kernel, rfl⟩
theorem dX11_keep_25 : Dc cX11_keep 25 (.aload_n 0) 1 26 := ⟨by decide +kernel, rfl⟩
theorem dX11_keep_26 : Dc cX11_keep 26 (.getfield 13) 3 29 := ⟨by decide +kernel, rfl⟩
theorem dX11_keep_29 : Dc cX11_keep 29 (.iload_n 1) 1 30 := ⟨by decide +kernel, rfl⟩
theorem dX11_keep_30 : Dc cX11_keep 30 (.iconst 1) 1 31 := ⟨by decide +kernel, rfl⟩
theorem dX11_keep_31 : Dc cX11_keep 31 (.bastore) 1 32 := ⟨by decide +kernel, rfl⟩
theorem dX11_keep_32 : Dc cX11_keep 32 (.aload_n 0) 1 33 := ⟨by decide +kernel, rfl⟩
theorem dX11_keep_33 : Dc cX11_keep 33 (.iconst 0) 1 34 := ⟨by decide +kernel, rfl⟩
theorem dX11_keep_34 : Dc cX11_keep 34 (.putfield 185) 3 37 := ⟨by decide +kernel, rfl⟩
theorem dX11_keep_37 : Dc cX11_keep 37 (.iconst 1) 1 38 := ⟨by decide +kernel, rfl⟩
theorem dX11_keep_38 : Dc cX11_keep 38 (.ireturn) 1 39 := ⟨by decide +kernel, rfl⟩
theorem dX11_goBack_0 : Dc cX11_goBack 0 (.iload_n 1) 1 1 := ⟨by decide +kernel, rfl⟩
theorem dX11_goBack_1 : Dc cX11_goBack 1 (.i2l) 1 2 := ⟨by decide +kernel, rfl⟩
theorem dX11_goBack_2 : Dc cX11_goBack 2 (.lconst 0) 1 3 := ⟨by decide +kernel, rfl⟩
theorem dX11_goBack_3 : Dc cX11_goBack 3 (.lconst 1) 1 4 := ⟨by decide +kernel, rfl⟩
theorem dX11_goBack_4 : Dc cX11_goBack 4 (.invokestatic 85) 3 7 := ⟨by decide +kernel, rfl⟩
theorem dX11_goBack_7 : Dj cX11_goBack 7 (.ifCond .ne 6) 3 10 (6) 13 := ⟨by decide +kernel, rfl, by decide⟩
theorem dX11_goBack_10 : Dc cX11_goBack 10 (.ldc 194) 2 12 := ⟨by decide +kernel, rfl⟩
theorem dX11_goBack_12 : Dc cX11_goBack 12 (.ireturn) 1 13 := ⟨by decide +kernel, rfl⟩
theorem dX11_goBack_13 : Dc cX11_goBack 13 (.aload_n 0) 1 14 := ⟨by decide +kernel, rfl⟩
theorem dX11_goBack_14 : Dc cX11_goBack 14 (.getfield 13) 3 17 := ⟨by decide +kernel, rfl⟩
theorem dX11_goBack_17 : Dc cX11_goBack 17 (.iload_n 1) 1 18 := ⟨by decide +kernel, rfl⟩
theorem dX11_goBack_18 : Dc cX11_goBack 18 (.baload) 1 19 := ⟨by decide +kernel, rfl⟩
theorem dX11_goBack_19 : Dj cX11_goBack 19 (.ifCond .ne 6) 3 22 (6) 25 := ⟨by decide +kernel, rfl, by decide⟩
theorem dX11_goBack_22 : Dc cX11_goBack 22 (.ldc 212) 2 24 := ⟨by decide +kernel, rfl⟩
theorem dX11_goBack_24 : Dc cX11_goBack 24 (.ireturn) 1 25 := ⟨by decide +kernel, rfl⟩
theorem dX11_goBack_25 : Dc cX11_goBack 25 (.aload_n 0) 1 26 := ⟨by decide +kernel, rfl⟩
theorem dX11_goBack_26 : Dc cX11_goBack 26 (.bipush 90) 2 28 := ⟨by decide +kernel, rfl⟩
theorem dX11_goBack_28 : Dc cX11_goBack 28 (.bipush 45) 2 30 := ⟨by decide +kernel, rfl⟩
theorem dX11_goBack_30 : Dc cX11_goBack 30 (.iload_n 1) 1 31 := ⟨by decide +kernel, rfl⟩
theorem dX11_goBack_31 : Dc cX11_goBack 31 (.imul) 1 32 := ⟨by decide +kernel, rfl⟩
theorem dX11_goBack_32 : Dc cX11_goBack 32 (.iadd) 1 33 := ⟨by decide +kernel, rfl⟩
theorem dX11_goBack_33 : Dc cX11_goBack 33 (.iconst 0) 1 34 := ⟨by decide +kernel, rfl⟩
theorem dX11_goBack_34 : Dc cX11_goBack 34 (.invokevirtual 209) 3 37 := ⟨by decide +kernel, rfl⟩
theorem dX11_goBack_37 : Dc cX11_goBack 37 (.aload_n 0) 1 38 := ⟨by decide +kernel, rfl⟩
theorem dX11_goBack_38 : Dc cX11_goBack 38 (.iconst 0) 1 39 := ⟨by decide +kernel, rfl⟩
theorem dX11_goBack_39 : Dc cX11_goBack 39 (.putfield 185) 3 42 := ⟨by decide +kernel, rfl⟩
theorem dX11_goBack_42 : Dc cX11_goBack 42 (.iconst 1) 1 43 := ⟨by decide +kernel, rfl⟩
theorem dX11_goBack_43 : Dc cX11_goBack 43 (.ireturn) 1 44 := ⟨by decide +kernel, rfl⟩
end
section
theorem dL_law_0 : Dc cL_law 0 (.new 7) 3 3 := ⟨by decide +kernel, rfl⟩
theorem dL_law_3 : Dc cL_law 3 (.dup) 1 4 := ⟨by decide +kernel, rfl⟩
theorem dL_law_4 : Dc cL_law 4 (.invokespecial 9) 3 7 := ⟨by decide +kernel, rfl⟩
theorem dL_law_7 : Dc cL_law 7 (.astore_n 1) 1 8 := ⟨by decide +kernel, rfl⟩
theorem dL_law_8 : Dc cL_law 8 (.new 10) 3 11 := ⟨by decide +kernel, rfl⟩
theorem dL_law_11 : Dc cL_law 11 (.dup) 1 12 := ⟨by decide +kernel, rfl⟩
theorem dL_law_12 : Dc cL_law 12 (.invokespecial 12) 3 15 := ⟨by decide +kernel, rfl⟩
theorem dL_law_15 : Dc cL_law 15 (.astore_n 2) 1 16 := ⟨by decide +kernel, rfl⟩
theorem dL_law_16 : Dc cL_law 16 (.iconst 0) 1 17 := ⟨by decide +kernel, rfl⟩
theorem dL_law_17 : Dc cL_law 17 (.istore_n 3) 1 18 := ⟨by decide +kernel, rfl⟩
theorem dL_law_18 : Dc cL_law 18 (.iload_n 3) 1 19 := ⟨by decide +kernel, rfl⟩
theorem dL_law_19 : Dc cL_law 19 (.aload_n 0) 1 20 := ⟨by decide +kernel, rfl⟩
theorem dL_law_20 : Dc cL_law 20 (.arraylength) 1 21 := ⟨by decide +kernel, rfl⟩
theorem dL_law_21 : Dc cL_law 21 (.iconst 5) 1 22 := ⟨by decide +kernel, rfl⟩
theorem dL_law_22 : Dc cL_law 22 (.isub) 1 23 := ⟨by decide +kernel, rfl⟩
theorem dL_law_23 : Dj cL_law 23 (.if_icmp .gt 927) 3 26 (927) 950 := ⟨by decide +kernel, rfl, by decide⟩
theorem dL_law_26 : Dc cL_law 26 (.aload_n 0) 1 27 := ⟨by decide +kernel, rfl⟩
theorem dL_law_27 : Dc cL_law 27 (.iload_n 3) 1 28 := ⟨by decide +kernel, rfl⟩
theorem dL_law_28 : Dc cL_law 28 (.iaload) 1 29 := ⟨by decide +kernel, rfl⟩
theorem dL_law_29 : Dc cL_law 29 (.bipush 31) 2 31 := ⟨by decide +kernel, rfl⟩
theorem dL_law_31 : Dc cL_law 31 (.iand) 1 32 := ⟨by decide +kernel, rfl⟩
theorem dL_law_32 : decode cL_law 32 = .ok (.tableswitch 912 0 29 #[136, 159, 172, 185, 208, 241, 274, 307, 320, 353, 392, 425, 438, 461, 494, 527, 550, 573, 606, 639, 672, 705, 758, 771, 784, 817, 830, 843, 866, 889], 136) := by decide +kernel
theorem dL_law_168 : Dc cL_law 168 (.aload_n 1) 1 169 := ⟨by decide +kernel, rfl⟩
theorem dL_law_169 : Dc cL_law 169 (.aload_n 0) 1 170 := ⟨by decide +kernel, rfl⟩
theorem dL_law_170 : Dc cL_law 170 (.iload_n 3) 1 171 := ⟨by decide +kernel, rfl⟩
theorem dL_law_171 : Dc cL_law 171 (.iconst 1) 1 172 := ⟨by decide +kernel, rfl⟩
theorem dL_law_172 : Dc cL_law 172 (.iadd) 1 173 := ⟨by decide +kernel, rfl⟩
theorem dL_law_173 : Dc cL_law 173 (.iaload) 1 174 := ⟨by decide +kernel, rfl⟩
theorem dL_law_174 : Dc cL_law 174 (.invokevirtual 13) 3 177 := ⟨by decide +kernel, rfl⟩
theorem dL_law_177 : Dc cL_law 177 (.aload_n 2) 1 178 := ⟨by decide +kernel, rfl⟩
theorem dL_law_178 : Dc cL_law 178 (.aload_n 0) 1 179 := ⟨by decide +kernel, rfl⟩
theorem dL_law_179 : Dc cL_law 179 (.iload_n 3) 1 180 := ⟨by decide +kernel, rfl⟩
theorem dL_law_180 : Dc cL_law 180 (.iconst 1) 1 181 := ⟨by decide +kernel, rfl⟩
theorem dL_law_181 : Dc cL_law 181 (.iadd) 1 182 := ⟨by decide +kernel, rfl⟩
theorem dL_law_182 : Dc cL_law 182 (.iaload) 1 183 := ⟨by decide +kernel, rfl⟩
theorem dL_law_183 : Dc cL_law 183 (.invokevirtual 17) 3 186 := ⟨by decide +kernel, rfl⟩
theorem dL_law_186 : Dj cL_law 186 (.if_icmp .eq 758) 3 189 (758) 944 := ⟨by decide +kernel, rfl, by decide⟩
theorem dL_law_189 : Dc cL_law 189 (.iconst 0) 1 190 := ⟨by decide +kernel, rfl⟩
theorem dL_law_190 : Dc cL_law 190 (.ireturn) 1 191 := ⟨by decide +kernel, rfl⟩
theorem dL_law_191 : Dc cL_law 191 (.aload_n 1) 1 192 := ⟨by decide +kernel, rfl⟩
theorem dL_law_192 : Dc cL_law 192 (.invokevirtual 18) 3 195 := ⟨by decide +kernel, rfl⟩
theorem dL_law_195 : Dc cL_law 195 (.aload_n 2) 1 196 := ⟨by decide +kernel, rfl⟩
theorem dL_law_196 : Dc cL_law 196 (.invokevirtual 22) 3 199 := ⟨by decide +kernel, rfl⟩
theorem dL_law_199 : Dj cL_law 199 (.if_icmp .eq 745) 3 202 (745) 944 := ⟨by decide +kernel, rfl, by decide⟩
theorem dL_law_202 : Dc cL_law 202 (.iconst 0) 1 203 := ⟨by decide +kernel, rfl⟩
theorem dL_law_203 : Dc cL_law 203 (.ireturn) 1 204 := ⟨by decide +kernel, rfl⟩
theorem dL_law_204 : Dc cL_law 204 (.aload_n 1) 1 205 := ⟨by decide +kernel, rfl⟩
theorem dL_law_205 : Dc cL_law 205 (.invokevirtual 23) 3 208 := ⟨by decide +kernel, rfl⟩
theorem dL_law_208 : Dc cL_law 208 (.aload_n 2) 1 209 := ⟨by decide +kernel, rfl⟩
theorem dL_law_209 : Dc cL_law 209 (.invokevirtual 26) 3 212 := ⟨by decide +kernel, rfl⟩
theorem dL_law_212 : Dj cL_law 212 (.if_icmp .eq 732) 3 215 (732) 944 := ⟨by decide +kernel, rfl, by decide⟩
theorem dL_law_215 : Dc cL_law 215 (.iconst 0) 1 216 := ⟨by decide +kernel, rfl⟩
theorem dL_law_216 : Dc cL_law 216 (.ireturn) 1 217 := ⟨by decide +kernel, rfl⟩
theorem dL_law_217 : Dc cL_law 217 (.aload_n 1) 1 218 := ⟨by decide +kernel, rfl⟩
theorem dL_law_218 : Dc cL_law 218 (.aload_n 0) 1 219 := ⟨by decide +kernel, rfl⟩
theorem dL_law_219 : Dc cL_law 219 (.iload_n 3) 1 220 := ⟨by decide +kernel, rfl⟩
theorem dL_law_220 : Dc cL_law 220 (.iconst 1) 1 221 := ⟨by decide +kernel, rfl⟩
theorem dL_law_221 : Dc cL_law 221 (.iadd) 1 222 := ⟨by decide +kernel, rfl⟩
theorem dL_law_222 : Dc cL_law 222 (.iaload) 1 223 := ⟨by decide +kernel, rfl⟩
theorem dL_law_223 : Dc cL_law 223 (.invokevirtual 27) 3 226 := ⟨by decide +kernel, rfl⟩
theorem dL_law_226 : Dc cL_law 226 (.aload_n 2) 1 227 := ⟨by decide +kernel, rfl⟩
theorem dL_law_227 : Dc cL_law 227 (.aload_n 0) 1 228 := ⟨by decide +kernel, rfl⟩
theorem dL_law_228 : Dc cL_law 228 (.iload_n 3) 1 229 := ⟨by decide +kernel, rfl⟩
theorem dL_law_229 : Dc cL_law 229 (.iconst 1) 1 230 := ⟨by decide +kernel, rfl⟩
theorem dL_law_230 : Dc cL_law 230 (.iadd) 1 231 := ⟨by decide +kernel, rfl⟩
theorem dL_law_231 : Dc cL_law 231 (.iaload) 1 232 := ⟨by decide +kernel, rfl⟩
theorem dL_law_232 : Dc cL_law 232 (.invokevirtual 30) 3 235 := ⟨by decide +kernel, rfl⟩
theorem dL_law_235 : Dj cL_law 235 (.if_icmp .eq 709) 3 238 (709) 944 := ⟨by decide +kernel, rfl, by decide⟩
theorem dL_law_238 : Dc cL_law 238 (.iconst 0) 1 239 := ⟨by decide +kernel, rfl⟩
theorem dL_law_239 : Dc cL_law 239 (.ireturn) 1 240 := ⟨by decide +kernel, rfl⟩
theorem dL_law_240 : Dc cL_law 240 (.aload_n 1) 1 241 := ⟨by decide +kernel, rfl⟩
theorem dL_law_241 : Dc cL_law 241 (.aload_n 0) 1 242 := ⟨by decide +kernel, rfl⟩
theorem dL_law_242 : Dc cL_law 242 (.iload_n 3) 1 243 := ⟨by decide +kernel, rfl⟩
theorem dL_law_243 : Dc cL_law 243 (.iconst 1) 1 244 := ⟨by decide +kernel, rfl⟩
theorem dL_law_244 : Dc cL_law 244 (.iadd) 1 245 := ⟨by decide +kernel, rfl⟩
theorem dL_law_245 : Dc cL_law 245 (.iaload) 1 246 := ⟨by decide +kernel, rfl⟩
theorem dL_law_246 : Dc cL_law 246 (.aload_n 0) 1 247 := ⟨by decide +kernel, rfl⟩
theorem dL_law_247 : Dc cL_law 247 (.iload_n 3) 1 248 := ⟨by decide +kernel, rfl⟩
theorem dL_law_248 : Dc cL_law 248 (.iconst 2) 1 249 := ⟨by decide +kernel, rfl⟩
theorem dL_law_249 : Dc cL_law 249 (.iadd) 1 250 := ⟨by decide +kernel, rfl⟩
theorem dL_law_250 : Dc cL_law 250 (.iaload) 1 251 := ⟨by decide +kernel, rfl⟩
theorem dL_law_251 : Dc cL_law 251 (.invokevirtual 31) 3 254 := ⟨by decide +kernel, rfl⟩
theorem dL_law_254 : Dc cL_law 254 (.aload_n 2) 1 255 := ⟨by decide +kernel, rfl⟩
theorem dL_law_255 : Dc cL_law 255 (.aload_n 0) 1 256 := ⟨by decide +kernel, rfl⟩
theorem dL_law_256 : Dc cL_law 256 (.iload_n 3) 1 257 := ⟨by decide +kernel, rfl⟩
theorem dL_law_257 : Dc cL_law 257 (.iconst 1) 1 258 := ⟨by decide +kernel, rfl⟩
theorem dL_law_258 : Dc cL_law 258 (.iadd) 1 259 := ⟨by decide +kernel, rfl⟩
theorem dL_law_259 : Dc cL_law 259 (.iaload) 1 260 := ⟨by decide +kernel, rfl⟩
theorem dL_law_260 : Dc cL_law 260 (.aload_n 0) 1 261 := ⟨by decide +kernel, rfl⟩
theorem dL_law_261 : Dc cL_law 261 (.iload_n 3) 1 262 := ⟨by decide +kernel, rfl⟩
theorem dL_law_262 : Dc cL_law 262 (.iconst 2) 1 263 := ⟨by decide +kernel, rfl⟩
theorem dL_law_263 : Dc cL_law 263 (.iadd) 1 264 := ⟨by decide +kernel, rfl⟩
theorem dL_law_264 : Dc cL_law 264 (.iaload) 1 265 := ⟨by decide +kernel, rfl⟩
theorem dL_law_265 : Dc cL_law 265 (.invokevirtual 35) 3 268 := ⟨by decide +kernel, rfl⟩
theorem dL_law_268 : Dj cL_law 268 (.if_icmp .eq 676) 3 271 (676) 944 := ⟨by decide +kernel, rfl, by decide⟩
theorem dL_law_271 : Dc cL_law 271 (.iconst 0) 1 272 := ⟨by decide +kernel, rfl⟩
theorem dL_law_272 : Dc cL_law 272 (.ireturn) 1 273 := ⟨by decide +kernel, rfl⟩
theorem dL_law_273 : Dc cL_law 273 (.aload_n 1) 1 274 := ⟨by decide +kernel, rfl⟩
theorem dL_law_274 : Dc cL_law 274 (.aload_n 0) 1 275 := ⟨by decide +kernel, rfl⟩
theorem dL_law_275 : Dc cL_law 275 (.iload_n 3) 1 276 := ⟨by decide +kernel, rfl⟩
theorem dL_law_276 : Dc cL_law 276 (.iconst 1) 1 277 := ⟨by decide +kernel, rfl⟩
theorem dL_law_277 : Dc cL_law 277 (.iadd) 1 278 := ⟨by decide +kernel, rfl⟩
theorem dL_law_278 : Dc cL_law 278 (.iaload) 1 279 := ⟨by decide +kernel, rfl⟩
theorem dL_law_279 : Dc cL_law 279 (.aload_n 0) 1 280 := ⟨by decide +kernel, rfl⟩
theorem dL_law_280 : Dc cL_law 280 (.iload_n 3) 1 281 := ⟨by decide +kernel, rfl⟩
theorem dL_law_281 : Dc cL_law 281 (.iconst 2) 1 282 := ⟨by decide +kernel, rfl⟩
theorem dL_law_282 : Dc cL_law 282 (.iadd) 1 283 := ⟨by decide +kernel, rfl⟩
theorem dL_law_283 : Dc cL_law 283 (.iaload) 1 284 := ⟨by decide +kernel, rfl⟩
theorem dL_law_284 : Dc cL_law 284 (.invokevirtual 36) 3 287 := ⟨by decide +kernel, rfl⟩
theorem dL_law_287 : Dc cL_law 287 (.aload_n 2) 1 288 := ⟨by decide +kernel, rfl⟩
theorem dL_law_288 : Dc cL_law 288 (.aload_n 0) 1 289 := ⟨by decide +kernel, rfl⟩
theorem dL_law_289 : Dc cL_law 289 (.iload_n 3) 1 290 := ⟨by decide +kernel, rfl⟩
theorem dL_law_290 : Dc cL_law 290 (.iconst 1) 1 291 := ⟨by decide +kernel, rfl⟩
theorem dL_law_291 : Dc cL_law 291 (.iadd) 1 292 := ⟨by decide +kernel, rfl⟩
theorem dL_law_292 : Dc cL_law 292 (.iaload) 1 293 := ⟨by decide +kernel, rfl⟩
theorem dL_law_293 : Dc cL_law 293 (.aload_n 0) 1 294 := ⟨by decide +kernel, rfl⟩
theorem dL_law_294 : Dc cL_law 294 (.iload_n 3) 1 295 := ⟨by decide +kernel, rfl⟩
theorem dL_law_295 : Dc cL_law 295 (.iconst 2) 1 296 := ⟨by decide +kernel, rfl⟩
theorem dL_law_296 : Dc cL_law 296 (.iadd) 1 297 := ⟨by decide +kernel, rfl⟩
theorem dL_law_297 : Dc cL_law 297 (.iaload) 1 298 := ⟨by decide +kernel, rfl⟩
theorem dL_law_298 : Dc cL_law 298 (.invokevirtual 39) 3 301 := ⟨by decide +kernel, rfl⟩
theorem dL_law_301 : Dj cL_law 301 (.if_icmp .eq 643) 3 304 (643) 944 := ⟨by decide +kernel, rfl, by decide⟩
theorem dL_law_304 : Dc cL_law 304 (.iconst 0) 1 305 := ⟨by decide +kernel, rfl⟩
theorem dL_law_305 : Dc cL_law 305 (.ireturn) 1 306 := ⟨by decide +kernel, rfl⟩
theorem dL_law_306 : Dc cL_law 306 (.aload_n 1) 1 307 := ⟨by decide +kernel, rfl⟩
theorem dL_law_307 : Dc cL_law 307 (.aload_n 0) 1 308 := ⟨by decide +kernel, rfl⟩
theorem dL_law_308 : Dc cL_law 308 (.iload_n 3) 1 309 := ⟨by decide +kernel, rfl⟩
theorem dL_law_309 : Dc cL_law 309 (.iconst 1) 1 310 := ⟨by decide +kernel, rfl⟩
theorem dL_law_310 : Dc cL_law 310 (.iadd) 1 311 := ⟨by decide +kernel, rfl⟩
theorem dL_law_311 : Dc cL_law 311 (.iaload) 1 312 := ⟨by decide +kernel, rfl⟩
theorem dL_law_312 : Dc cL_law 312 (.aload_n 0) 1 313 := ⟨by decide +kernel, rfl⟩
theorem dL_law_313 : Dc cL_law 313 (.iload_n 3) 1 314 := ⟨by decide +kernel, rfl⟩
theorem dL_law_314 : Dc cL_law 314 (.iconst 2) 1 315 := ⟨by decide +kernel, rfl⟩
theorem dL_law_315 : Dc cL_law 315 (.iadd) 1 316 := ⟨by decide +kernel, rfl⟩
theorem dL_law_316 : Dc cL_law 316 (.iaload) 1 317 := ⟨by decide +kernel, rfl⟩
theorem dL_law_317 : Dc cL_law 317 (.invokevirtual 40) 3 320 := ⟨by decide +kernel, rfl⟩
theorem dL_law_320 : Dc cL_law 320 (.aload_n 2) 1 321 := ⟨by decide +kernel, rfl⟩
theorem dL_law_321 : Dc cL_law 321 (.aload_n 0) 1 322 := ⟨by decide +kernel, rfl⟩
theorem dL_law_322 : Dc cL_law 322 (.iload_n 3) 1 323 := ⟨by decide +kernel, rfl⟩
theorem dL_law_323 : Dc cL_law 323 (.iconst 1) 1 324 := ⟨by decide +kernel, rfl⟩
theorem dL_law_324 : Dc cL_law 324 (.iadd) 1 325 := ⟨by decide +kernel, rfl⟩
theorem dL_law_325 : Dc cL_law 325 (.iaload) 1 326 := ⟨by decide +kernel, rfl⟩
theorem dL_law_326 : Dc cL_law 326 (.aload_n 0) 1 327 := ⟨by decide +kernel, rfl⟩
theorem dL_law_327 : Dc cL_law 327 (.iload_n 3) 1 328 := ⟨by decide +kernel, rfl⟩
theorem dL_law_328 : Dc cL_law 328 (.iconst 2) 1 329 := ⟨by decide +kernel, rfl⟩
theorem dL_law_329 : Dc cL_law 329 (.iadd) 1 330 := ⟨by decide +kernel, rfl⟩
theorem dL_law_330 : Dc cL_law 330 (.iaload) 1 331 := ⟨by decide +kernel, rfl⟩
theorem dL_law_331 : Dc cL_law 331 (.invokevirtual 43) 3 334 := ⟨by decide +kernel, rfl⟩
theorem dL_law_334 : Dj cL_law 334 (.if_icmp .eq 610) 3 337 (610) 944 := ⟨by decide +kernel, rfl, by decide⟩
theorem dL_law_337 : Dc cL_law 337 (.iconst 0) 1 338 := ⟨by decide +kernel, rfl⟩
theorem dL_law_338 : Dc cL_law 338 (.ireturn) 1 339 := ⟨by decide +kernel, rfl⟩
theorem dL_law_339 : Dc cL_law 339 (.aload_n 1) 1 340 := ⟨by decide +kernel, rfl⟩
theorem dL_law_340 : Dc cL_law 340 (.invokevirtual 44) 3 343 := ⟨by decide +kernel, rfl⟩
theorem dL_law_343 : Dc cL_law 343 (.aload_n 2) 1 344 := ⟨by decide +kernel, rfl⟩
theorem dL_law_344 : Dc cL_law 344 (.invokevirtual 47) 3 347 := ⟨by decide +kernel, rfl⟩
theorem dL_law_347 : Dj cL_law 347 (.if_icmp .eq 597) 3 350 (597) 944 := ⟨by decide +kernel, rfl, by decide⟩
theorem dL_law_350 : Dc cL_law 350 (.iconst 0) 1 351 := ⟨by decide +kernel, rfl⟩
theorem dL_law_351 : Dc cL_law 351 (.ireturn) 1 352 := ⟨by decide +kernel, rfl⟩
theorem dL_law_352 : Dc cL_law 352 (.aload_n 1) 1 353 := ⟨by decide +kernel, rfl⟩
theorem dL_law_353 : Dc cL_law 353 (.aload_n 0) 1 354 := ⟨by decide +kernel, rfl⟩
theorem dL_law_354 : Dc cL_law 354 (.iload_n 3) 1 355 := ⟨by decide +kernel, rfl⟩
theorem dL_law_355 : Dc cL_law 355 (.iconst 1) 1 356 := ⟨by decide +kernel, rfl⟩
theorem dL_law_356 : Dc cL_law 356 (.iadd) 1 357 := ⟨by decide +kernel, rfl⟩
theorem dL_law_357 : Dc cL_law 357 (.iaload) 1 358 := ⟨by decide +kernel, rfl⟩
theorem dL_law_358 : Dc cL_law 358 (.aload_n 0) 1 359 := ⟨by decide +kernel, rfl⟩
theorem dL_law_359 : Dc cL_law 359 (.iload_n 3) 1 360 := ⟨by decide +kernel, rfl⟩
theorem dL_law_360 : Dc cL_law 360 (.iconst 2) 1 361 := ⟨by decide +kernel, rfl⟩
theorem dL_law_361 : Dc cL_law 361 (.iadd) 1 362 := ⟨by decide +kernel, rfl⟩
theorem dL_law_362 : Dc cL_law 362 (.iaload) 1 363 := ⟨by decide +kernel, rfl⟩
theorem dL_law_363 : Dc cL_law 363 (.invokevirtual 48) 3 366 := ⟨by decide +kernel, rfl⟩
theorem dL_law_366 : Dc cL_law 366 (.aload_n 2) 1 367 := ⟨by decide +kernel, rfl⟩
theorem dL_law_367 : Dc cL_law 367 (.aload_n 0) 1 368 := ⟨by decide +kernel, rfl⟩
theorem dL_law_368 : Dc cL_law 368 (.iload_n 3) 1 369 := ⟨by decide +kernel, rfl⟩
theorem dL_law_369 : Dc cL_law 369 (.iconst 1) 1 370 := ⟨by decide +kernel, rfl⟩
theorem dL_law_370 : Dc cL_law 370 (.iadd) 1 371 := ⟨by decide +kernel, rfl⟩
theorem dL_law_371 : Dc cL_law 371 (.iaload) 1 372 := ⟨by decide +kernel, rfl⟩
theorem dL_law_372 : Dc cL_law 372 (.aload_n 0) 1 373 := ⟨by decide +kernel, rfl⟩
theorem dL_law_373 : Dc cL_law 373 (.iload_n 3) 1 374 := ⟨by decide +kernel, rfl⟩
theorem dL_law_374 : Dc cL_law 374 (.iconst 2) 1 375 := ⟨by decide +kernel, rfl⟩
theorem dL_law_375 : Dc cL_law 375 (.iadd) 1 376 := ⟨by decide +kernel, rfl⟩
theorem dL_law_376 : Dc cL_law 376 (.iaload) 1 377 := ⟨by decide +kernel, rfl⟩
theorem dL_law_377 : Dc cL_law 377 (.invokevirtual 51) 3 380 := ⟨by decide +kernel, rfl⟩
theorem dL_law_380 : Dj cL_law 380 (.if_icmp .eq 564) 3 383 (564) 944 := ⟨by decide +kernel, rfl, by decide⟩
theorem dL_law_383 : Dc cL_law 383 (.iconst 0) 1 384 := ⟨by decide +kernel, rfl⟩
theorem dL_law_384 : Dc cL_law 384 (.ireturn) 1 385 := ⟨by decide +kernel, rfl⟩
theorem dL_law_385 : Dc cL_law 385 (.aload_n 1) 1 386 := ⟨by decide +kernel, rfl⟩
theorem dL_law_386 : Dc cL_law 386 (.aload_n 0) 1 387 := ⟨by decide +kernel, rfl⟩
theorem dL_law_387 : Dc cL_law 387 (.iload_n 3) 1 388 := ⟨by decide +kernel, rfl⟩
theorem dL_law_388 : Dc cL_law 388 (.iconst 1) 1 389 := ⟨by decide +kernel, rfl⟩
theorem dL_law_389 : Dc cL_law 389 (.iadd) 1 390 := ⟨by decide +kernel, rfl⟩
theorem dL_law_390 : Dc cL_law 390 (.iaload) 1 391 := ⟨by decide +kernel, rfl⟩
theorem dL_law_391 : Dj cL_law 391 (.ifCond .eq 7) 3 394 (7) 398 := ⟨by decide +kernel, rfl, by decide⟩
theorem dL_law_394 : Dc cL_law 394 (.iconst 1) 1 395 := ⟨by decide +kernel, rfl⟩
theorem dL_law_395 : Dj cL_law 395 (.goto 4) 3 398 (4) 399 := ⟨by decide +kernel, rfl, by decide⟩
theorem dL_law_398 : Dc cL_law 398 (.iconst 0) 1 399 := ⟨by decide +kernel, rfl⟩
theorem dL_law_399 : Dc cL_law 399 (.invokevirtual 52) 3 402 := ⟨by decide +kernel, rfl⟩
theorem dL_law_402 : Dc cL_law 402 (.aload_n 2) 1 403 := ⟨by decide +kernel, rfl⟩
theorem dL_law_403 : Dc cL_law 403 (.aload_n 0) 1 404 := ⟨by decide +kernel, rfl⟩
theorem dL_law_404 : Dc cL_law 404 (.iload_n 3) 1 405 := ⟨by decide +kernel, rfl⟩
theorem dL_law_405 : Dc cL_law 405 (.iconst 1) 1 406 := ⟨by decide +kernel, rfl⟩
theorem dL_law_406 : Dc cL_law 406 (.iadd) 1 407 := ⟨by decide +kernel, rfl⟩
theorem dL_law_407 : Dc cL_law 407 (.iaload) 1 408 := ⟨by decide +kernel, rfl⟩
theorem dL_law_408 : Dj cL_law 408 (.ifCond .eq 7) 3 411 (7) 415 := ⟨by decide +kernel, rfl, by decide⟩
theorem dL_law_411 : Dc cL_law 411 (.iconst 1) 1 412 := ⟨by decide +kernel, rfl⟩
theorem dL_law_412 : Dj cL_law 412 (.goto 4) 3 415 (4) 416 := ⟨by decide +kernel, rfl, by decide⟩
theorem dL_law_415 : Dc cL_law 415 (.iconst 0) 1 416 := ⟨by decide +kernel, rfl⟩
theorem dL_law_416 : Dc cL_law 416 (.invokevirtual 56) 3 419 := ⟨by decide +kernel, rfl⟩
theorem dL_law_419 : Dj cL_law 419 (.if_icmp .eq 525) 3 422 (525) 944 := ⟨by decide +kernel, rfl, by decide⟩
theorem dL_law_422 : Dc cL_law 422 (.iconst 0) 1 423 := ⟨by decide +kernel, rfl⟩
theorem dL_law_423 : Dc cL_law 423 (.ireturn) 1 424 := ⟨by decide +kernel, rfl⟩
theorem dL_law_424 : Dc cL_law 424 (.aload_n 1) 1 425 := ⟨by decide +kernel, rfl⟩
theorem dL_law_425 : Dc cL_law 425 (.aload_n 0) 1 426 := ⟨by decide +kernel, rfl⟩
theorem dL_law_426 : Dc cL_law 426 (.iload_n 3) 1 427 := ⟨by decide +kernel, rfl⟩
theorem dL_law_427 : Dc cL_law 427 (.iconst 1) 1 428 := ⟨by decide +kernel, rfl⟩
theorem dL_law_428 : Dc cL_law 428 (.iadd) 1 429 := ⟨by decide +kernel, rfl⟩
theorem dL_law_429 : Dc cL_law 429 (.iaload) 1 430 := ⟨by decide +kernel, rfl⟩
theorem dL_law_430 : Dc cL_law 430 (.aload_n 0) 1 431 := ⟨by decide +kernel, rfl⟩
theorem dL_law_431 : Dc cL_law 431 (.iload_n 3) 1 432 := ⟨by decide +kernel, rfl⟩
theorem dL_law_432 : Dc cL_law 432 (.iconst 2) 1 433 := ⟨by decide +kernel, rfl⟩
theorem dL_law_433 : Dc cL_law 433 (.iadd) 1 434 := ⟨by decide +kernel, rfl⟩
theorem dL_law_434 : Dc cL_law 434 (.iaload) 1 435 := ⟨by decide +kernel, rfl⟩
theorem dL_law_435 : Dc cL_law 435 (.invokevirtual 57) 3 438 := ⟨by decide +kernel, rfl⟩
theorem dL_law_438 : Dc cL_law 438 (.aload_n 2) 1 439 := ⟨by decide +kernel, rfl⟩
theorem dL_law_439 : Dc cL_law 439 (.aload_n 0) 1 440 := ⟨by decide +kernel, rfl⟩
theorem dL_law_440 : Dc cL_law 440 (.iload_n 3) 1 441 := ⟨by decide +kernel, rfl⟩
theorem dL_law_441 : Dc cL_law 441 (.iconst 1) 1 442 := ⟨by decide +kernel, rfl⟩
theorem dL_law_442 : Dc cL_law 442 (.iadd) 1 443 := ⟨by decide +kernel, rfl⟩
theorem dL_law_443 : Dc cL_law 443 (.iaload) 1 444 := ⟨by decide +kernel, rfl⟩
theorem dL_law_444 : Dc cL_law 444 (.aload_n 0) 1 445 := ⟨by decide +kernel, rfl⟩
theorem dL_law_445 : Dc cL_law 445 (.iload_n 3) 1 446 := ⟨by decide +kernel, rfl⟩
theorem dL_law_446 : Dc cL_law 446 (.iconst 2) 1 447 := ⟨by decide +kernel, rfl⟩
theorem dL_law_447 : Dc cL_law 447 (.iadd) 1 448 := ⟨by decide +kernel, rfl⟩
theorem dL_law_448 : Dc cL_law 448 (.iaload) 1 449 := ⟨by decide +kernel, rfl⟩
theorem dL_law_449 : Dc cL_law 449 (.invokevirtual 60) 3 452 := ⟨by decide +kernel, rfl⟩
theorem dL_law_452 : Dj cL_law 452 (.if_icmp .eq 492) 3 455 (492) 944 := ⟨by decide +kernel, rfl, by decide⟩
theorem dL_law_455 : Dc cL_law 455 (.iconst 0) 1 456 := ⟨by decide +kernel, rfl⟩
theorem dL_law_456 : Dc cL_law 456 (.ireturn) 1 457 := ⟨by decide +kernel, rfl⟩
theorem dL_law_457 : Dc cL_law 457 (.aload_n 1) 1 458 := ⟨by decide +kernel, rfl⟩
theorem dL_law_458 : Dc cL_law 458 (.invokevirtual 61) 3 461 := ⟨by decide +kernel, rfl⟩
theorem dL_law_461 : Dc cL_law 461 (.aload_n 2) 1 462 := ⟨by decide +kernel, rfl⟩
theorem dL_law_462 : Dc cL_law 462 (.invokevirtual 64) 3 465 := ⟨by decide +kernel, rfl⟩
theorem dL_law_465 : Dj cL_law 465 (.if_icmp .eq 479) 3 468 (479) 944 := ⟨by decide +kernel, rfl, by decide⟩
theorem dL_law_468 : Dc cL_law 468 (.iconst 0) 1 469 := ⟨by decide +kernel, rfl⟩
theorem dL_law_469 : Dc cL_law 469 (.ireturn) 1 470 := ⟨by decide +kernel, rfl⟩
theorem dL_law_470 : Dc cL_law 470 (.aload_n 1) 1 471 := ⟨by decide +kernel, rfl⟩
theorem dL_law_471 : Dc cL_law 471 (.aload_n 0) 1 472 := ⟨by decide +kernel, rfl⟩
theorem dL_law_472 : Dc cL_law 472 (.iload_n 3) 1 473 := ⟨by decide +kernel, rfl⟩
theorem dL_law_473 : Dc cL_law 473 (.iconst 1) 1 474 := ⟨by decide +kernel, rfl⟩
theorem dL_law_474 : Dc cL_law 474 (.iadd) 1 475 := ⟨by decide +kernel, rfl⟩
theorem dL_law_475 : Dc cL_law 475 (.iaload) 1 476 := ⟨by decide +kernel, rfl⟩
theorem dL_law_476 : Dc cL_law 476 (.invokevirtual 65) 3 479 := ⟨by decide +kernel, rfl⟩
theorem dL_law_479 : Dc cL_law 479 (.aload_n 2) 1 480 := ⟨by decide +kernel, rfl⟩
theorem dL_law_480 : Dc cL_law 480 (.aload_n 0) 1 481 := ⟨by decide +kernel, rfl⟩
theorem dL_law_481 : Dc cL_law 481 (.iload_n 3) 1 482 := ⟨by decide +kernel, rfl⟩
theorem dL_law_482 : Dc cL_law 482 (.iconst 1) 1 483 := ⟨by decide +kernel, rfl⟩
theorem dL_law_483 : Dc cL_law 483 (.iadd) 1 484 := ⟨by decide +kernel, rfl⟩
theorem dL_law_484 : Dc cL_law 484 (.iaload) 1 485 := ⟨by decide +kernel, rfl⟩
theorem dL_law_485 : Dc cL_law 485 (.invokevirtual 68) 3 488 := ⟨by decide +kernel, rfl⟩
theorem dL_law_488 : Dj cL_law 488 (.if_icmp .eq 456) 3 491 (456) 944 := ⟨by decide +kernel, rfl, by decide⟩
theorem dL_law_491 : Dc cL_law 491 (.iconst 0) 1 492 := ⟨by decide +kernel, rfl⟩
theorem dL_law_492 : Dc cL_law 492 (.ireturn) 1 493 := ⟨by decide +kernel, rfl⟩
theorem dL_law_493 : Dc cL_law 493 (.aload_n 1) 1 494 := ⟨by decide +kernel, rfl⟩
theorem dL_law_494 : Dc cL_law 494 (.aload_n 0) 1 495 := ⟨by decide +kernel, rfl⟩
theorem dL_law_495 : Dc cL_law 495 (.iload_n 3) 1 496 := ⟨by decide +kernel, rfl⟩
theorem dL_law_496 : Dc cL_law 496 (.iconst 1) 1 497 := ⟨by decide +kernel, rfl⟩
theorem dL_law_497 : Dc cL_law 497 (.iadd) 1 498 := ⟨by decide +kernel, rfl⟩
theorem dL_law_498 : Dc cL_law 498 (.iaload) 1 499 := ⟨by decide +kernel, rfl⟩
theorem dL_law_499 : Dc cL_law 499 (.aload_n 0) 1 500 := ⟨by decide +kernel, rfl⟩
theorem dL_law_500 : Dc cL_law 500 (.iload_n 3) 1 501 := ⟨by decide +kernel, rfl⟩
theorem dL_law_501 : Dc cL_law 501 (.iconst 2) 1 502 := ⟨by decide +kernel, rfl⟩
theorem dL_law_502 : Dc cL_law 502 (.iadd) 1 503 := ⟨by decide +kernel, rfl⟩
theorem dL_law_503 : Dc cL_law 503 (.iaload) 1 504 := ⟨by decide +kernel, rfl⟩
theorem dL_law_504 : Dc cL_law 504 (.invokevirtual 69) 3 507 := ⟨by decide +kernel, rfl⟩
theorem dL_law_507 : Dc cL_law 507 (.aload_n 2) 1 508 := ⟨by decide +kernel, rfl⟩
theorem dL_law_508 : Dc cL_law 508 (.aload_n 0) 1 509 := ⟨by decide +kernel, rfl⟩
theorem dL_law_509 : Dc cL_law 509 (.iload_n 3) 1 510 := ⟨by decide +kernel, rfl⟩
theorem dL_law_510 : Dc cL_law 510 (.iconst 1) 1 511 := ⟨by decide +kernel, rfl⟩
theorem dL_law_511 : Dc cL_law 511 (.iadd) 1 512 := ⟨by decide +kernel, rfl⟩
theorem dL_law_512 : Dc cL_law 512 (.iaload) 1 513 := ⟨by decide +kernel, rfl⟩
theorem dL_law_513 : Dc cL_law 513 (.aload_n 0) 1 514 := ⟨by decide +kernel, rfl⟩
theorem dL_law_514 : Dc cL_law 514 (.iload_n 3) 1 515 := ⟨by decide +kernel, rfl⟩
theorem dL_law_515 : Dc cL_law 515 (.iconst 2) 1 516 := ⟨by decide +kernel, rfl⟩
theorem dL_law_516 : Dc cL_law 516 (.iadd) 1 517 := ⟨by decide +kernel, rfl⟩
theorem dL_law_517 : Dc cL_law 517 (.iaload) 1 518 := ⟨by decide +kernel, rfl⟩
theorem dL_law_518 : Dc cL_law 518 (.invokevirtual 72) 3 521 := ⟨by decide +kernel, rfl⟩
theorem dL_law_521 : Dj cL_law 521 (.if_icmp .eq 423) 3 524 (423) 944 := ⟨by decide +kernel, rfl, by decide⟩
theorem dL_law_524 : Dc cL_law 524 (.iconst 0) 1 525 := ⟨by decide +kernel, rfl⟩
theorem dL_law_525 : Dc cL_law 525 (.ireturn) 1 526 := ⟨by decide +kernel, rfl⟩
theorem dL_law_526 : Dc cL_law 526 (.aload_n 1) 1 527 := ⟨by decide +kernel, rfl⟩
theorem dL_law_527 : Dc cL_law 527 (.aload_n 0) 1 528 := ⟨by decide +kernel, rfl⟩
theorem dL_law_528 : Dc cL_law 528 (.iload_n 3) 1 529 := ⟨by decide +kernel, rfl⟩
theorem dL_law_529 : Dc cL_law 529 (.iconst 1) 1 530 := ⟨by decide +kernel, rfl⟩
theorem dL_law_530 : Dc cL_law 530 (.iadd) 1 531 := ⟨by decide +kernel, rfl⟩
theorem dL_law_531 : Dc cL_law 531 (.iaload) 1 532 := ⟨by decide +kernel, rfl⟩
theorem dL_law_532 : Dc cL_law 532 (.aload_n 0) 1 533 := ⟨by decide +kernel, rfl⟩
theorem dL_law_533 : Dc cL_law 533 (.iload_n 3) 1 534 := ⟨by decide +kernel, rfl⟩
theorem dL_law_534 : Dc cL_law 534 (.iconst 2) 1 535 := ⟨by decide +kernel, rfl⟩
theorem dL_law_535 : Dc cL_law 535 (.iadd) 1 536 := ⟨by decide +kernel, rfl⟩
theorem dL_law_536 : Dc cL_law 536 (.iaload) 1 537 := ⟨by decide +kernel, rfl⟩
theorem dL_law_537 : Dc cL_law 537 (.invokevirtual 73) 3 540 := ⟨by decide +kernel, rfl⟩
theorem dL_law_540 : Dc cL_law 540 (.aload_n 2) 1 541 := ⟨by decide +kernel, rfl⟩
theorem dL_law_541 : Dc cL_law 541 (.aload_n 0) 1 542 := ⟨by decide +kernel, rfl⟩
theorem dL_law_542 : Dc cL_law 542 (.iload_n 3) 1 543 := ⟨by decide +kernel, rfl⟩
theorem dL_law_543 : Dc cL_law 543 (.iconst 1) 1 544 := ⟨by decide +kernel, rfl⟩
theorem dL_law_544 : Dc cL_law 544 (.iadd) 1 545 := ⟨by decide +kernel, rfl⟩
theorem dL_law_545 : Dc cL_law 545 (.iaload) 1 546 := ⟨by decide +kernel, rfl⟩
theorem dL_law_546 : Dc cL_law 546 (.aload_n 0) 1 547 := ⟨by decide +kernel, rfl⟩
theorem dL_law_547 : Dc cL_law 547 (.iload_n 3) 1 548 := ⟨by decide +kernel, rfl⟩
theorem dL_law_548 : Dc cL_law 548 (.iconst 2) 1 549 := ⟨by decide +kernel, rfl⟩
theorem dL_law_549 : Dc cL_law 549 (.iadd) 1 550 := ⟨by decide +kernel, rfl⟩
theorem dL_law_550 : Dc cL_law 550 (.iaload) 1 551 := ⟨by decide +kernel, rfl⟩
theorem dL_law_551 : Dc cL_law 551 (.invokevirtual 76) 3 554 := ⟨by decide +kernel, rfl⟩
theorem dL_law_554 : Dj cL_law 554 (.if_icmp .eq 390) 3 557 (390) 944 := ⟨by decide +kernel, rfl, by decide⟩
theorem dL_law_557 : Dc cL_law 557 (.iconst 0) 1 558 := ⟨by decide +kernel, rfl⟩
theorem dL_law_558 : Dc cL_law 558 (.ireturn) 1 559 := ⟨by decide +kernel, rfl⟩
theorem dL_law_559 : Dc cL_law 559 (.aload_n 1) 1 560 := ⟨by decide +kernel, rfl⟩
theorem dL_law_560 : Dc cL_law 560 (.aload_n 0) 1 561 := ⟨by decide +kernel, rfl⟩
theorem dL_law_561 : Dc cL_law 561 (.iload_n 3) 1 562 := ⟨by decide +kernel, rfl⟩
theorem dL_law_562 : Dc cL_law 562 (.iconst 1) 1 563 := ⟨by decide +kernel, rfl⟩
theorem dL_law_563 : Dc cL_law 563 (.iadd) 1 564 := ⟨by decide +kernel, rfl⟩
theorem dL_law_564 : Dc cL_law 564 (.iaload) 1 565 := ⟨by decide +kernel, rfl⟩
theorem dL_law_565 : Dc cL_law 565 (.invokevirtual 77) 3 568 := ⟨by decide +kernel, rfl⟩
theorem dL_law_568 : Dc cL_law 568 (.aload_n 2) 1 569 := ⟨by decide +kernel, rfl⟩
theorem dL_law_569 : Dc cL_law 569 (.aload_n 0) 1 570 := ⟨by decide +kernel, rfl⟩
theorem dL_law_570 : Dc cL_law 570 (.iload_n 3) 1 571 := ⟨by decide +kernel, rfl⟩
theorem dL_law_571 : Dc cL_law 571 (.iconst 1) 1 572 := ⟨by decide +kernel, rfl⟩
theorem dL_law_572 : Dc cL_law 572 (.iadd) 1 573 := ⟨by decide +kernel, rfl⟩
theorem dL_law_573 : Dc cL_law 573 (.iaload) 1 574 := ⟨by decide +kernel, rfl⟩
theorem dL_law_574 : Dc cL_law 574 (.invokevirtual 80) 3 577 := ⟨by decide +kernel, rfl⟩
theorem dL_law_577 : Dj cL_law 577 (.if_icmp .eq 367) 3 580 (367) 944 := ⟨by decide +kernel, rfl, by decide⟩
theorem dL_law_580 : Dc cL_law 580 (.iconst 0) 1 581 := ⟨by decide +kernel, rfl⟩
theorem dL_law_581 : Dc cL_law 581 (.ireturn) 1 582 := ⟨by decide +kernel, rfl⟩
theorem dL_law_582 : Dc cL_law 582 (.aload_n 1) 1 583 := ⟨by decide +kernel, rfl⟩
theorem dL_law_583 : Dc cL_law 583 (.aload_n 0) 1 584 := ⟨by decide +kernel, rfl⟩
theorem dL_law_584 : Dc cL_law 584 (.iload_n 3) 1 585 := ⟨by decide +kernel, rfl⟩
theorem dL_law_585 : Dc cL_law 585 (.iconst 1) 1 586 := ⟨by decide +kernel, rfl⟩
theorem dL_law_586 : Dc cL_law 586 (.iadd) 1 587 := ⟨by decide +kernel, rfl⟩
theorem dL_law_587 : Dc cL_law 587 (.iaload) 1 588 := ⟨by decide +kernel, rfl⟩
theorem dL_law_588 : Dc cL_law 588 (.invokevirtual 81) 3 591 := ⟨by decide +kernel, rfl⟩
theorem dL_law_591 : Dc cL_law 591 (.aload_n 2) 1 592 := ⟨by decide +kernel, rfl⟩
theorem dL_law_592 : Dc cL_law 592 (.aload_n 0) 1 593 := ⟨by decide +kernel, rfl⟩
theorem dL_law_593 : Dc cL_law 593 (.iload_n 3) 1 594 := ⟨by decide +kernel, rfl⟩
theorem dL_law_594 : Dc cL_law 594 (.iconst 1) 1 595 := ⟨by decide +kernel, rfl⟩
theorem dL_law_595 : Dc cL_law 595 (.iadd) 1 596 := ⟨by decide +kernel, rfl⟩
theorem dL_law_596 : Dc cL_law 596 (.iaload) 1 597 := ⟨by decide +kernel, rfl⟩
theorem dL_law_597 : Dc cL_law 597 (.invokevirtual 84) 3 600 := ⟨by decide +kernel, rfl⟩
theorem dL_law_600 : Dj cL_law 600 (.if_icmp .eq 344) 3 603 (344) 944 := ⟨by decide +kernel, rfl, by decide⟩
theorem dL_law_603 : Dc cL_law 603 (.iconst 0) 1 604 := ⟨by decide +kernel, rfl⟩
theorem dL_law_604 : Dc cL_law 604 (.ireturn) 1 605 := ⟨by decide +kernel, rfl⟩
theorem dL_law_605 : Dc cL_law 605 (.aload_n 1) 1 606 := ⟨by decide +kernel, rfl⟩
theorem dL_law_606 : Dc cL_law 606 (.aload_n 0) 1 607 := ⟨by decide +kernel, rfl⟩
theorem dL_law_607 : Dc cL_law 607 (.iload_n 3) 1 608 := ⟨by decide +kernel, rfl⟩
theorem dL_law_608 : Dc cL_law 608 (.iconst 1) 1 609 := ⟨by decide +kernel, rfl⟩
theorem dL_law_609 : Dc cL_law 609 (.iadd) 1 610 := ⟨by decide +kernel, rfl⟩
theorem dL_law_610 : Dc cL_law 610 (.iaload) 1 611 := ⟨by decide +kernel, rfl⟩
theorem dL_law_611 : Dc cL_law 611 (.aload_n 0) 1 612 := ⟨by decide +kernel, rfl⟩
theorem dL_law_612 : Dc cL_law 612 (.iload_n 3) 1 613 := ⟨by decide +kernel, rfl⟩
theorem dL_law_613 : Dc cL_law 613 (.iconst 2) 1 614 := ⟨by decide +kernel, rfl⟩
theorem dL_law_614 : Dc cL_law 614 (.iadd) 1 615 := ⟨by decide +kernel, rfl⟩
theorem dL_law_615 : Dc cL_law 615 (.iaload) 1 616 := ⟨by decide +kernel, rfl⟩
theorem dL_law_616 : Dc cL_law 616 (.invokevirtual 85) 3 619 := ⟨by decide +kernel, rfl⟩
theorem dL_law_619 : Dc cL_law 619 (.aload_n 2) 1 620 := ⟨by decide +kernel, rfl⟩
theorem dL_law_620 : Dc cL_law 620 (.aload_n 0) 1 621 := ⟨by decide +kernel, rfl⟩
theorem dL_law_621 : Dc cL_law 621 (.iload_n 3) 1 622 := ⟨by decide +kernel, rfl⟩
theorem dL_law_622 : Dc cL_law 622 (.iconst 1) 1 623 := ⟨by decide +kernel, rfl⟩
theorem dL_law_623 : Dc cL_law 623 (.iadd) 1 624 := ⟨by decide +kernel, rfl⟩
theorem dL_law_624 : Dc cL_law 624 (.iaload) 1 625 := ⟨by decide +kernel, rfl⟩
theorem dL_law_625 : Dc cL_law 625 (.aload_n 0) 1 626 := ⟨by decide +kernel, rfl⟩
theorem dL_law_626 : Dc cL_law 626 (.iload_n 3) 1 627 := ⟨by decide +kernel, rfl⟩
theorem dL_law_627 : Dc cL_law 627 (.iconst 2) 1 628 := ⟨by decide +kernel, rfl⟩
theorem dL_law_628 : Dc cL_law 628 (.iadd) 1 629 := ⟨by decide +kernel, rfl⟩
theorem dL_law_629 : Dc cL_law 629 (.iaload) 1 630 := ⟨by decide +kernel, rfl⟩
theorem dL_law_630 : Dc cL_law 630 (.invokevirtual 88) 3 633 := ⟨by decide +kernel, rfl⟩
theorem dL_law_633 : Dj cL_law 633 (.if_icmp .eq 311) 3 636 (311) 944 := ⟨by decide +kernel, rfl, by decide⟩
theorem dL_law_636 : Dc cL_law 636 (.iconst 0) 1 637 := ⟨by decide +kernel, rfl⟩
theorem dL_law_637 : Dc cL_law 637 (.ireturn) 1 638 := ⟨by decide +kernel, rfl⟩
theorem dL_law_638 : Dc cL_law 638 (.aload_n 1) 1 639 := ⟨by decide +kernel, rfl⟩
theorem dL_law_639 : Dc cL_law 639 (.aload_n 0) 1 640 := ⟨by decide +kernel, rfl⟩
theorem dL_law_640 : Dc cL_law 640 (.iload_n 3) 1 641 := ⟨by decide +kernel, rfl⟩
theorem dL_law_641 : Dc cL_law 641 (.iconst 1) 1 642 := ⟨by decide +kernel, rfl⟩
theorem dL_law_642 : Dc cL_law 642 (.iadd) 1 643 := ⟨by decide +kernel, rfl⟩
theorem dL_law_643 : Dc cL_law 643 (.iaload) 1 644 := ⟨by decide +kernel, rfl⟩
theorem dL_law_644 : Dc cL_law 644 (.aload_n 0) 1 645 := ⟨by decide +kernel, rfl⟩
theorem dL_law_645 : Dc cL_law 645 (.iload_n 3) 1 646 := ⟨by decide +kernel, rfl⟩
theorem dL_law_646 : Dc cL_law 646 (.iconst 2) 1 647 := ⟨by decide +kernel, rfl⟩
theorem dL_law_647 : Dc cL_law 647 (.iadd) 1 648 := ⟨by decide +kernel, rfl⟩
theorem dL_law_648 : Dc cL_law 648 (.iaload) 1 649 := ⟨by decide +kernel, rfl⟩
theorem dL_law_649 : Dc cL_law 649 (.invokevirtual 89) 3 652 := ⟨by decide +kernel, rfl⟩
theorem dL_law_652 : Dc cL_law 652 (.aload_n 2) 1 653 := ⟨by decide +kernel, rfl⟩
theorem dL_law_653 : Dc cL_law 653 (.aload_n 0) 1 654 := ⟨by decide +kernel, rfl⟩
theorem dL_law_654 : Dc cL_law 654 (.iload_n 3) 1 655 := ⟨by decide +kernel, rfl⟩
theorem dL_law_655 : Dc cL_law 655 (.iconst 1) 1 656 := ⟨by decide +kernel, rfl⟩
theorem dL_law_656 : Dc cL_law 656 (.iadd) 1 657 := ⟨by decide +kernel, rfl⟩
theorem dL_law_657 : Dc cL_law 657 (.iaload) 1 658 := ⟨by decide +kernel, rfl⟩
theorem dL_law_658 : Dc cL_law 658 (.aload_n 0) 1 659 := ⟨by decide +kernel, rfl⟩
theorem dL_law_659 : Dc cL_law 659 (.iload_n 3) 1 660 := ⟨by decide +kernel, rfl⟩
theorem dL_law_660 : Dc cL_law 660 (.iconst 2) 1 661 := ⟨by decide +kernel, rfl⟩
theorem dL_law_661 : Dc cL_law 661 (.iadd) 1 662 := ⟨by decide +kernel, rfl⟩
theorem dL_law_662 : Dc cL_law 662 (.iaload) 1 663 := ⟨by decide +kernel, rfl⟩
theorem dL_law_663 : Dc cL_law 663 (.invokevirtual 92) 3 666 := ⟨by decide +kernel, rfl⟩
theorem dL_law_666 : Dj cL_law 666 (.if_icmp .eq 278) 3 669 (278) 944 := ⟨by decide +kernel, rfl, by decide⟩
theorem dL_law_669 : Dc cL_law 669 (.iconst 0) 1 670 := ⟨by decide +kernel, rfl⟩
theorem dL_law_670 : Dc cL_law 670 (.ireturn) 1 671 := ⟨by decide +kernel, rfl⟩
theorem dL_law_671 : Dc cL_law 671 (.aload_n 1) 1 672 := ⟨by decide +kernel, rfl⟩
theorem dL_law_672 : Dc cL_law 672 (.aload_n 0) 1 673 := ⟨by decide +kernel, rfl⟩
theorem dL_law_673 : Dc cL_law 673 (.iload_n 3) 1 674 := ⟨by decide +kernel, rfl⟩
theorem dL_law_674 : Dc cL_law 674 (.iconst 1) 1 675 := ⟨by decide +kernel, rfl⟩
theorem dL_law_675 : Dc cL_law 675 (.iadd) 1 676 := ⟨by decide +kernel, rfl⟩
theorem dL_law_676 : Dc cL_law 676 (.iaload) 1 677 := ⟨by decide +kernel, rfl⟩
theorem dL_law_677 : Dc cL_law 677 (.aload_n 0) 1 678 := ⟨by decide +kernel, rfl⟩
theorem dL_law_678 : Dc cL_law 678 (.iload_n 3) 1 679 := ⟨by decide +kernel, rfl⟩
theorem dL_law_679 : Dc cL_law 679 (.iconst 2) 1 680 := ⟨by decide +kernel, rfl⟩
theorem dL_law_680 : Dc cL_law 680 (.iadd) 1 681 := ⟨by decide +kernel, rfl⟩
theorem dL_law_681 : Dc cL_law 681 (.iaload) 1 682 := ⟨by decide +kernel, rfl⟩
theorem dL_law_682 : Dc cL_law 682 (.invokevirtual 93) 3 685 := ⟨by decide +kernel, rfl⟩
theorem dL_law_685 : Dc cL_law 685 (.aload_n 2) 1 686 := ⟨by decide +kernel, rfl⟩
theorem dL_law_686 : Dc cL_law 686 (.aload_n 0) 1 687 := ⟨by decide +kernel, rfl⟩
theorem dL_law_687 : Dc cL_law 687 (.iload_n 3) 1 688 := ⟨by decide +kernel, rfl⟩
theorem dL_law_688 : Dc cL_law 688 (.iconst 1) 1 689 := ⟨by decide +kernel, rfl⟩
theorem dL_law_689 : Dc cL_law 689 (.iadd) 1 690 := ⟨by decide +kernel, rfl⟩
theorem dL_law_690 : Dc cL_law 690 (.iaload) 1 691 := ⟨by decide +kernel, rfl⟩
theorem dL_law_691 : Dc cL_law 691 (.aload_n 0) 1 692 := ⟨by decide +kernel, rfl⟩
theorem dL_law_692 : Dc cL_law 692 (.iload_n 3) 1 693 := ⟨by decide +kernel, rfl⟩
theorem dL_law_693 : Dc cL_law 693 (.iconst 2) 1 694 := ⟨by decide +kernel, rfl⟩
theorem dL_law_694 : Dc cL_law 694 (.iadd) 1 695 := ⟨by decide +kernel, rfl⟩
theorem dL_law_695 : Dc cL_law 695 (.iaload) 1 696 := ⟨by decide +kernel, rfl⟩
theorem dL_law_696 : Dc cL_law 696 (.invokevirtual 96) 3 699 := ⟨by decide +kernel, rfl⟩
theorem dL_law_699 : Dj cL_law 699 (.if_icmp .eq 245) 3 702 (245) 944 := ⟨by decide +kernel, rfl, by decide⟩
theorem dL_law_702 : Dc cL_law 702 (.iconst 0) 1 703 := ⟨by decide +kernel, rfl⟩
theorem dL_law_703 : Dc cL_law 703 (.ireturn) 1 704 := ⟨by decide +kernel, rfl⟩
theorem dL_law_704 : Dc cL_law 704 (.aload_n 1) 1 705 := ⟨by decide +kernel, rfl⟩
theorem dL_law_705 : Dc cL_law 705 (.aload_n 0) 1 706 := ⟨by decide +kernel, rfl⟩
theorem dL_law_706 : Dc cL_law 706 (.iload_n 3) 1 707 := ⟨by decide +kernel, rfl⟩
theorem dL_law_707 : Dc cL_law 707 (.iconst 1) 1 708 := ⟨by decide +kernel, rfl⟩
theorem dL_law_708 : Dc cL_law 708 (.iadd) 1 709 := ⟨by decide +kernel, rfl⟩
theorem dL_law_709 : Dc cL_law 709 (.iaload) 1 710 := ⟨by decide +kernel, rfl⟩
theorem dL_law_710 : Dc cL_law 710 (.aload_n 0) 1 711 := ⟨by decide +kernel, rfl⟩
theorem dL_law_711 : Dc cL_law 711 (.iload_n 3) 1 712 := ⟨by decide +kernel, rfl⟩
theorem dL_law_712 : Dc cL_law 712 (.iconst 2) 1 713 := ⟨by decide +kernel, rfl⟩
theorem dL_law_713 : Dc cL_law 713 (.iadd) 1 714 := ⟨by decide +kernel, rfl⟩
theorem dL_law_714 : Dc cL_law 714 (.iaload) 1 715 := ⟨by decide +kernel, rfl⟩
theorem dL_law_715 : Dc cL_law 715 (.invokevirtual 97) 3 718 := ⟨by decide +kernel, rfl⟩
theorem dL_law_718 : Dc cL_law 718 (.aload_n 2) 1 719 := ⟨by decide +kernel, rfl⟩
theorem dL_law_719 : Dc cL_law 719 (.aload_n 0) 1 720 := ⟨by decide +kernel, rfl⟩
theorem dL_law_720 : Dc cL_law 720 (.iload_n 3) 1 721 := ⟨by decide +kernel, rfl⟩
theorem dL_law_721 : Dc cL_law 721 (.iconst 1) 1 722 := ⟨by decide +kernel, rfl⟩
theorem dL_law_722 : Dc cL_law 722 (.iadd) 1 723 := ⟨by decide +kernel, rfl⟩
theorem dL_law_723 : Dc cL_law 723 (.iaload) 1 724 := ⟨by decide +kernel, rfl⟩
theorem dL_law_724 : Dc cL_law 724 (.aload_n 0) 1 725 := ⟨by decide +kernel, rfl⟩
theorem dL_law_725 : Dc cL_law 725 (.iload_n 3) 1 726 := ⟨by decide +kernel, rfl⟩
theorem dL_law_726 : Dc cL_law 726 (.iconst 2) 1 727 := ⟨by decide +kernel, rfl⟩
theorem dL_law_727 : Dc cL_law 727 (.iadd) 1 728 := ⟨by decide +kernel, rfl⟩
theorem dL_law_728 : Dc cL_law 728 (.iaload) 1 729 := ⟨by decide +kernel, rfl⟩
theorem dL_law_729 : Dc cL_law 729 (.invokevirtual 100) 3 732 := ⟨by decide +kernel, rfl⟩
theorem dL_law_732 : Dj cL_law 732 (.if_icmp .eq 212) 3 735 (212) 944 := ⟨by decide +kernel, rfl, by decide⟩
theorem dL_law_735 : Dc cL_law 735 (.iconst 0) 1 736 := ⟨by decide +kernel, rfl⟩
theorem dL_law_736 : Dc cL_law 736 (.ireturn) 1 737 := ⟨by decide +kernel, rfl⟩
theorem dL_law_737 : Dc cL_law 737 (.aload_n 1) 1 738 := ⟨by decide +kernel, rfl⟩
theorem dL_law_738 : Dc cL_law 738 (.aload_n 0) 1 739 := ⟨by decide +kernel, rfl⟩
theorem dL_law_739 : Dc cL_law 739 (.iload_n 3) 1 740 := ⟨by decide +kernel, rfl⟩
theorem dL_law_740 : Dc cL_law 740 (.iconst 1) 1 741 := ⟨by decide +kernel, rfl⟩
theorem dL_law_741 : Dc cL_law 741 (.iadd) 1 742 := ⟨by decide +kernel, rfl⟩
theorem dL_law_742 : Dc cL_law 742 (.iaload) 1 743 := ⟨by decide +kernel, rfl⟩
theorem dL_law_743 : Dc cL_law 743 (.aload_n 0) 1 744 := ⟨by decide +kernel, rfl⟩
theorem dL_law_744 : Dc cL_law 744 (.iload_n 3) 1 745 := ⟨by decide +kernel, rfl⟩
theorem dL_law_745 : Dc cL_law 745 (.iconst 2) 1 746 := ⟨by decide +kernel, rfl⟩
theorem dL_law_746 : Dc cL_law 746 (.iadd) 1 747 := ⟨by decide +kernel, rfl⟩
theorem dL_law_747 : Dc cL_law 747 (.iaload) 1 748 := ⟨by decide +kernel, rfl⟩
theorem dL_law_748 : Dc cL_law 748 (.aload_n 0) 1 749 := ⟨by decide +kernel, rfl⟩
theorem dL_law_749 : Dc cL_law 749 (.iload_n 3) 1 750 := ⟨by decide +kernel, rfl⟩
theorem dL_law_750 : Dc cL_law 750 (.iconst 3) 1 751 := ⟨by decide +kernel, rfl⟩
theorem dL_law_751 : Dc cL_law 751 (.iadd) 1 752 := ⟨by decide +kernel, rfl⟩
theorem dL_law_752 : Dc cL_law 752 (.iaload) 1 753 := ⟨by decide +kernel, rfl⟩
theorem dL_law_753 : Dc cL_law 753 (.aload_n 0) 1 754 := ⟨by decide +kernel, rfl⟩
theorem dL_law_754 : Dc cL_law 754 (.iload_n 3) 1 755 := ⟨by decide +kernel, rfl⟩
theorem dL_law_755 : Dc cL_law 755 (.iconst 4) 1 756 := ⟨by decide +kernel, rfl⟩
theorem dL_law_756 : Dc cL_law 756 (.iadd) 1 757 := ⟨by decide +kernel, rfl⟩
theorem dL_law_757 : Dc cL_law 757 (.iaload) 1 758 := ⟨by decide +kernel, rfl⟩
theorem dL_law_758 : Dc cL_law 758 (.invokevirtual 101) 3 761 := ⟨by decide +kernel, rfl⟩
theorem dL_law_761 : Dc cL_law 761 (.aload_n 2) 1 762 := ⟨by decide +kernel, rfl⟩
theorem dL_law_762 : Dc cL_law 762 (.aload_n 0) 1 763 := ⟨by decide +kernel, rfl⟩
theorem dL_law_763 : Dc cL_law 763 (.iload_n 3) 1 764 := ⟨by decide +kernel, rfl⟩
theorem dL_law_764 : Dc cL_law 764 (.iconst 1) 1 765 := ⟨by decide +kernel, rfl⟩
theorem dL_law_765 : Dc cL_law 765 (.iadd) 1 766 := ⟨by decide +kernel, rfl⟩
theorem dL_law_766 : Dc cL_law 766 (.iaload) 1 767 := ⟨by decide +kernel, rfl⟩
theorem dL_law_767 : Dc cL_law 767 (.aload_n 0) 1 768 := ⟨by decide +kernel, rfl⟩
theorem dL_law_768 : Dc cL_law 768 (.iload_n 3) 1 769 := ⟨by decide +kernel, rfl⟩
theorem dL_law_769 : Dc cL_law 769 (.iconst 2) 1 770 := ⟨by decide +kernel, rfl⟩
theorem dL_law_770 : Dc cL_law 770 (.iadd) 1 771 := ⟨by decide +kernel, rfl⟩
theorem dL_law_771 : Dc cL_law 771 (.iaload) 1 772 := ⟨by decide +kernel, rfl⟩
theorem dL_law_772 : Dc cL_law 772 (.aload_n 0) 1 773 := ⟨by decide +kernel, rfl⟩
theorem dL_law_773 : Dc cL_law 773 (.iload_n 3) 1 774 := ⟨by decide +kernel, rfl⟩
theorem dL_law_774 : Dc cL_law 774 (.iconst 3) 1 775 := ⟨by decide +kernel, rfl⟩
theorem dL_law_775 : Dc cL_law 775 (.iadd) 1 776 := ⟨by decide +kernel, rfl⟩
theorem dL_law_776 : Dc cL_law 776 (.iaload) 1 777 := ⟨by decide +kernel, rfl⟩
theorem dL_law_777 : Dc cL_law 777 (.aload_n 0) 1 778 := ⟨by decide +kernel, rfl⟩
theorem dL_law_778 : Dc cL_law 778 (.iload_n 3) 1 779 := ⟨by decide +kernel, rfl⟩
theorem dL_law_779 : Dc cL_law 779 (.iconst 4) 1 780 := ⟨by decide +kernel, rfl⟩
theorem dL_law_780 : Dc cL_law 780 (.iadd) 1 781 := ⟨by decide +kernel, rfl⟩
theorem dL_law_781 : Dc cL_law 781 (.iaload) 1 782 := ⟨by decide +kernel, rfl⟩
theorem dL_law_782 : Dc cL_law 782 (.invokevirtual 105) 3 785 := ⟨by decide +kernel, rfl⟩
theorem dL_law_785 : Dj cL_law 785 (.if_icmp .eq 159) 3 788 (159) 944 := ⟨by decide +kernel, rfl, by decide⟩
theorem dL_law_788 : Dc cL_law 788 (.iconst 0) 1 789 := ⟨by decide +kernel, rfl⟩
theorem dL_law_789 : Dc cL_law 789 (.ireturn) 1 790 := ⟨by decide +kernel, rfl⟩
theorem dL_law_790 : Dc cL_law 790 (.aload_n 1) 1 791 := ⟨by decide +kernel, rfl⟩
theorem dL_law_791 : Dc cL_law 791 (.invokevirtual 106) 3 794 := ⟨by decide +kernel, rfl⟩
theorem dL_law_794 : Dc cL_law 794 (.aload_n 2) 1 795 := ⟨by decide +kernel, rfl⟩
theorem dL_law_795 : Dc cL_law 795 (.invokevirtual 109) 3 798 := ⟨by decide +kernel, rfl⟩
theorem dL_law_798 : Dj cL_law 798 (.if_icmp .eq 146) 3 801 (146) 944 := ⟨by decide +kernel, rfl, by decide⟩
theorem dL_law_801 : Dc cL_law 801 (.iconst 0) 1 802 := ⟨by decide +kernel, rfl⟩
theorem dL_law_802 : Dc cL_law 802 (.ireturn) 1 803 := ⟨by decide +kernel, rfl⟩
theorem dL_law_803 : Dc cL_law 803 (.aload_n 1) 1 804 := ⟨by decide +kernel, rfl⟩
theorem dL_law_804 : Dc cL_law 804 (.invokevirtual 110) 3 807 := ⟨by decide +kernel, rfl⟩
theorem dL_law_807 : Dc cL_law 807 (.aload_n 2) 1 808 := ⟨by decide +kernel, rfl⟩
theorem dL_law_808 : Dc cL_law 808 (.invokevirtual 113) 3 811 := ⟨by decide +kernel, rfl⟩
theorem dL_law_811 : Dj cL_law 811 (.if_icmp .eq 133) 3 814 (133) 944 := ⟨by decide +kernel, rfl, by decide⟩
theorem dL_law_814 : Dc cL_law 814 (.iconst 0) 1 815 := ⟨by decide +kernel, rfl⟩
theorem dL_law_815 : Dc cL_law 815 (.ireturn) 1 816 := ⟨by decide +kernel, rfl⟩
theorem dL_law_816 : Dc cL_law 816 (.aload_n 1) 1 817 := ⟨by decide +kernel, rfl⟩
theorem dL_law_817 : Dc cL_law 817 (.aload_n 0) 1 818 := ⟨by decide +kernel, rfl⟩
theorem dL_law_818 : Dc cL_law 818 (.iload_n 3) 1 819 := ⟨by decide +kernel, rfl⟩
theorem dL_law_819 : Dc cL_law 819 (.iconst 1) 1 820 := ⟨by decide +kernel, rfl⟩
theorem dL_law_820 : Dc cL_law 820 (.iadd) 1 821 := ⟨by decide +kernel, rfl⟩
theorem dL_law_821 : Dc cL_law 821 (.iaload) 1 822 := ⟨by decide +kernel, rfl⟩
theorem dL_law_822 : Dc cL_law 822 (.aload_n 0) 1 823 := ⟨by decide +kernel, rfl⟩
theorem dL_law_823 : Dc cL_law 823 (.iload_n 3) 1 824 := ⟨by decide +kernel, rfl⟩
theorem dL_law_824 : Dc cL_law 824 (.iconst 2) 1 825 := ⟨by decide +kernel, rfl⟩
theorem dL_law_825 : Dc cL_law 825 (.iadd) 1 826 := ⟨by decide +kernel, rfl⟩
theorem dL_law_826 : Dc cL_law 826 (.iaload) 1 827 := ⟨by decide +kernel, rfl⟩
theorem dL_law_827 : Dc cL_law 827 (.invokevirtual 114) 3 830 := ⟨by decide +kernel, rfl⟩
theorem dL_law_830 : Dc cL_law 830 (.aload_n 2) 1 831 := ⟨by decide +kernel, rfl⟩
theorem dL_law_831 : Dc cL_law 831 (.aload_n 0) 1 832 := ⟨by decide +kernel, rfl⟩
theorem dL_law_832 : Dc cL_law 832 (.iload_n 3) 1 833 := ⟨by decide +kernel, rfl⟩
theorem dL_law_833 : Dc cL_law 833 (.iconst 1) 1 834 := ⟨by decide +kernel, rfl⟩
theorem dL_law_834 : Dc cL_law 834 (.iadd) 1 835 := ⟨by decide +kernel, rfl⟩
theorem dL_law_835 : Dc cL_law 835 (.iaload) 1 836 := ⟨by decide +kernel, rfl⟩
theorem dL_law_836 : Dc cL_law 836 (.aload_n 0) 1 837 := ⟨by decide +kernel, rfl⟩
theorem dL_law_837 : Dc cL_law 837 (.iload_n 3) 1 838 := ⟨by decide +kernel, rfl⟩
theorem dL_law_838 : Dc cL_law 838 (.iconst 2) 1 839 := ⟨by decide +kernel, rfl⟩
theorem dL_law_839 : Dc cL_law 839 (.iadd) 1 840 := ⟨by decide +kernel, rfl⟩
theorem dL_law_840 : Dc cL_law 840 (.iaload) 1 841 := ⟨by decide +kernel, rfl⟩
theorem dL_law_841 : Dc cL_law 841 (.invokevirtual 117) 3 844 := ⟨by decide +kernel, rfl⟩
theorem dL_law_844 : Dj cL_law 844 (.if_icmp .eq 100) 3 847 (100) 944 := ⟨by decide +kernel, rfl, by decide⟩
theorem dL_law_847 : Dc cL_law 847 (.iconst 0) 1 848 := ⟨by decide +kernel, rfl⟩
theorem dL_law_848 : Dc cL_law 848 (.ireturn) 1 849 := ⟨by decide +kernel, rfl⟩
theorem dL_law_849 : Dc cL_law 849 (.aload_n 1) 1 850 := ⟨by decide +kernel, rfl⟩
theorem dL_law_850 : Dc cL_law 850 (.invokevirtual 118) 3 853 := ⟨by decide +kernel, rfl⟩
theorem dL_law_853 : Dc cL_law 853 (.aload_n 2) 1 854 := ⟨by decide +kernel, rfl⟩
theorem dL_law_854 : Dc cL_law 854 (.invokevirtual 121) 3 857 := ⟨by decide +kernel, rfl⟩
theorem dL_law_857 : Dj cL_law 857 (.if_icmp .eq 87) 3 860 (87) 944 := ⟨by decide +kernel, rfl, by decide⟩
theorem dL_law_860 : Dc cL_law 860 (.iconst 0) 1 861 := ⟨by decide +kernel, rfl⟩
theorem dL_law_861 : Dc cL_law 861 (.ireturn) 1 862 := ⟨by decide +kernel, rfl⟩
theorem dL_law_862 : Dc cL_law 862 (.aload_n 1) 1 863 := ⟨by decide +kernel, rfl⟩
theorem dL_law_863 : Dc cL_law 863 (.invokevirtual 122) 3 866 := ⟨by decide +kernel, rfl⟩
theorem dL_law_866 : Dc cL_law 866 (.aload_n 2) 1 867 := ⟨by decide +kernel, rfl⟩
theorem dL_law_867 : Dc cL_law 867 (.invokevirtual 125) 3 870 := ⟨by decide +kernel, rfl⟩
theorem dL_law_870 : Dj cL_law 870 (.if_icmp .eq 74) 3 873 (74) 944 := ⟨by decide +kernel, rfl, by decide⟩
theorem dL_law_873 : Dc cL_law 873 (.iconst 0) 1 874 := ⟨by decide +kernel, rfl⟩
theorem dL_law_874 : Dc cL_law 874 (.ireturn) 1 875 := ⟨by decide +kernel, rfl⟩
theorem dL_law_875 : Dc cL_law 875 (.aload_n 1) 1 876 := ⟨by decide +kernel, rfl⟩
theorem dL_law_876 : Dc cL_law 876 (.aload_n 0) 1 877 := ⟨by decide +kernel, rfl⟩
theorem dL_law_877 : Dc cL_law 877 (.iload_n 3) 1 878 := ⟨by decide +kernel, rfl⟩
theorem dL_law_878 : Dc cL_law 878 (.iconst 1) 1 879 := ⟨by decide +kernel, rfl⟩
theorem dL_law_879 : Dc cL_law 879 (.iadd) 1 880 := ⟨by decide +kernel, rfl⟩
theorem dL_law_880 : Dc cL_law 880 (.iaload) 1 881 := ⟨by decide +kernel, rfl⟩
theorem dL_law_881 : Dc cL_law 881 (.invokevirtual 126) 3 884 := ⟨by decide +kernel, rfl⟩
theorem dL_law_884 : Dc cL_law 884 (.aload_n 2) 1 885 := ⟨by decide +kernel, rfl⟩
theorem dL_law_885 : Dc cL_law 885 (.aload_n 0) 1 886 := ⟨by decide +kernel, rfl⟩
theorem dL_law_886 : Dc cL_law 886 (.iload_n 3) 1 887 := ⟨by decide +kernel, rfl⟩
theorem dL_law_887 : Dc cL_law 887 (.iconst 1) 1 888 := ⟨by decide +kernel, rfl⟩
theorem dL_law_888 : Dc cL_law 888 (.iadd) 1 889 := ⟨by decide +kernel, rfl⟩
theorem dL_law_889 : Dc cL_law 889 (.iaload) 1 890 := ⟨by decide +kernel, rfl⟩
theorem dL_law_890 : Dc cL_law 890 (.invokevirtual 129) 3 893 := ⟨by decide +kernel, rfl⟩
theorem dL_law_893 : Dj cL_law 893 (.if_icmp .eq 51) 3 896 (51) 944 := ⟨by decide +kernel, rfl, by decide⟩
theorem dL_law_896 : Dc cL_law 896 (.iconst 0) 1 897 := ⟨by decide +kernel, rfl⟩
theorem dL_law_897 : Dc cL_law 897 (.ireturn) 1 898 := ⟨by decide +kernel, rfl⟩
theorem dL_law_898 : Dc cL_law 898 (.aload_n 1) 1 899 := ⟨by decide +kernel, rfl⟩
theorem dL_law_899 : Dc cL_law 899 (.aload_n 0) 1 900 := ⟨by decide +kernel, rfl⟩
theorem dL_law_900 : Dc cL_law 900 (.iload_n 3) 1 901 := ⟨by decide +kernel, rfl⟩
theorem dL_law_901 : Dc cL_law 901 (.iconst 1) 1 902 := ⟨by decide +kernel, rfl⟩
theorem dL_law_902 : Dc cL_law 902 (.iadd) 1 903 := ⟨by decide +kernel, rfl⟩
theorem dL_law_903 : Dc cL_law 903 (.iaload) 1 904 := ⟨by decide +kernel, rfl⟩
theorem dL_law_904 : Dc cL_law 904 (.invokevirtual 130) 3 907 := ⟨by decide +kernel, rfl⟩
theorem dL_law_907 : Dc cL_law 907 (.aload_n 2) 1 908 := ⟨by decide +kernel, rfl⟩
theorem dL_law_908 : Dc cL_law 908 (.aload_n 0) 1 909 := ⟨by decide +kernel, rfl⟩
theorem dL_law_909 : Dc cL_law 909 (.iload_n 3) 1 910 := ⟨by decide +kernel, rfl⟩
theorem dL_law_910 : Dc cL_law 910 (.iconst 1) 1 911 := ⟨by decide +kernel, rfl⟩
theorem dL_law_911 : Dc cL_law 911 (.iadd) 1 912 := ⟨by decide +kernel, rfl⟩
theorem dL_law_912 : Dc cL_law 912 (.iaload) 1 913 := ⟨by decide +kernel, rfl⟩
theorem dL_law_913 : Dc cL_law 913 (.invokevirtual 133) 3 916 := ⟨by decide +kernel, rfl⟩
theorem dL_law_916 : Dj cL_law 916 (.if_icmp .eq 28) 3 919 (28) 944 := ⟨by decide +kernel, rfl, by decide⟩
theorem dL_law_919 : Dc cL_law 919 (.iconst 0) 1 920 := ⟨by decide +kernel, rfl⟩
theorem dL_law_920 : Dc cL_law 920 (.ireturn) 1 921 := ⟨by decide +kernel, rfl⟩
theorem dL_law_921 : Dc cL_law 921 (.aload_n 1) 1 922 := ⟨by decide +kernel, rfl⟩
theorem dL_law_922 : Dc cL_law 922 (.aload_n 0) 1 923 := ⟨by decide +kernel, rfl⟩
theorem dL_law_923 : Dc cL_law 923 (.iload_n 3) 1 924 := ⟨by decide +kernel, rfl⟩
theorem dL_law_924 : Dc cL_law 924 (.iconst 1) 1 925 := ⟨by decide +kernel, rfl⟩
theorem dL_law_925 : Dc cL_law 925 (.iadd) 1 926 := ⟨by decide +kernel, rfl⟩
theorem dL_law_926 : Dc cL_law 926 (.iaload) 1 927 := ⟨by decide +kernel, rfl⟩
theorem dL_law_927 : Dc cL_law 927 (.invokevirtual 134) 3 930 := ⟨by decide +kernel, rfl⟩
theorem dL_law_930 : Dc cL_law 930 (.aload_n 2) 1 931 := ⟨by decide +kernel, rfl⟩
theorem dL_law_931 : Dc cL_law 931 (.aload_n 0) 1 932 := ⟨by decide +kernel, rfl⟩
theorem dL_law_932 : Dc cL_law 932 (.iload_n 3) 1 933 := ⟨by decide +kernel, rfl⟩
theorem dL_law_933 : Dc cL_law 933 (.iconst 1) 1 934 := ⟨by decide +kernel, rfl⟩
theorem dL_law_934 : Dc cL_law 934 (.iadd) 1 935 := ⟨by decide +kernel, rfl⟩
theorem dL_law_935 : Dc cL_law 935 (.iaload) 1 936 := ⟨by decide +kernel, rfl⟩
theorem dL_law_936 : Dc cL_law 936 (.invokevirtual 137) 3 939 := ⟨by decide +kernel, rfl⟩
theorem dL_law_939 : Dj cL_law 939 (.if_icmp .eq 5) 3 942 (5) 944 := ⟨by decide +kernel, rfl, by decide⟩
theorem dL_law_942 : Dc cL_law 942 (.iconst 0) 1 943 := ⟨by decide +kernel, rfl⟩
theorem dL_law_943 : Dc cL_law 943 (.ireturn) 1 944 := ⟨by decide +kernel, rfl⟩
theorem dL_law_944 : Dc cL_law 944 (.iinc 3 5) 3 947 := ⟨by decide +kernel, rfl⟩
theorem dL_law_947 : Dj cL_law 947 (.goto (-929)) 3 950 (-929) 18 := ⟨by decide +kernel, rfl, by decide⟩
theorem dL_law_950 : Dc cL_law 950 (.iconst 1) 1 951 := ⟨by decide +kernel, rfl⟩
theorem dL_law_951 : Dc cL_law 951 (.ireturn) 1 952 := ⟨by decide +kernel, rfl⟩
end
section
theorem tbm {w : Cond} (p : Nat) (h : lw_tbl[p]? = some w) (g : goodWord w = true) : w ∈ tb := List.mem_filter.mpr ⟨List.mem_of_getElem? h, g⟩
theorem nsm {w : Cond} (p : Nat) (h : tables_1[p]? = some w) (g : (fun w => match w with | Cond.methodLinkNest _ _ _ _ => true | _ => false) w = true) : w ∈ nestW := List.mem_filter.mpr ⟨List.mem_of_getElem? h, g⟩
theorem cf0 : CF 0 RX0 TX0 3 := ⟨rfl, rfl, by decide +kernel, tyX0_ok, nmX0, by decide +kernel, rfl, by decide⟩
theorem cf1 : CF 1 RX1 TX1 6 := ⟨rfl, rfl, by decide +kernel, tyX1_ok, nmX1, by decide +kernel, rfl, by decide⟩
theorem cf2 : CF 2 RX2 TX2 3 := ⟨rfl, rfl, by decide +kernel, tyX2_ok, nmX2, by decide +kernel, rfl, by decide⟩
theorem cf3 : CF 3 RX3 TX3 3 := ⟨rfl, rfl, by decide +kernel, tyX3_ok, nmX3, by decide +kernel, rfl, by decide⟩
theorem cf4 : CF 4 RX4 TX4 4 := ⟨rfl, rfl, by decide +kernel, tyX4_ok, nmX4, by decide +kernel, rfl, by decide⟩
theorem cf5 : CF 5 RX5 TX5 6 := ⟨rfl, rfl, by decide +kernel, tyX5_ok, nmX5, by decide +kernel, rfl, by decide⟩
theorem cf6 : CF 6 RX6 TX6 7 := ⟨rfl, rfl, by decide +kernel, tyX6_ok, nmX6, by decide +kernel, rfl, by decide⟩
theorem cf7 : CF 7 RX7 TX7 2 := ⟨rfl, rfl, by decide +kernel, tyX7_ok, nmX7, by decide +kernel, rfl, by decide⟩
theorem cf8 : CF 8 RX8 TX8 16 := ⟨rfl, rfl, by decide +kernel, tyX8_ok, nmX8, by decide +kernel, rfl, by decide⟩
theorem cf9 : CF 9 RX9 TX9 5 := ⟨rfl, rfl, by decide +kernel, tyX9_ok, nmX9, by decide +kernel, rfl, by decide⟩
theorem cf10 : CF 10 RX10 TX10 12 := ⟨rfl, rfl, by decide +kernel, tyX10_ok, nmX10, by decide +kernel, rfl, by decide⟩
theorem cf11 : CF 11 RX11 TX11 41 := ⟨rfl, rfl, by decide +kernel, tyX11_ok, nmX11, by decide +kernel, rfl, by decide⟩
theorem anX10_47 : Cond.classLink RX10 47 "SiegePlate$Image" ∈ tb := (tbm 283 (by decide +kernel) rfl)
theorem anX3_9 : Cond.classLink RX3 9 "SiegePlate$Siege" ∈ tb := (tbm 269 (by decide +kernel) rfl)
theorem anX9_9 : Cond.classLink RX9 9 "SiegePlate$Camp" ∈ tb := (tbm 291 (by decide +kernel) rfl)
theorem flX10_10 : FL RX10 10 10 0 true := ⟨RX10, TX10, 12, cf10, by decide, (tbm 375 (by decide +kernel) rfl), rfl⟩
theorem flX10_19 : FL RX10 19 10 1 true := ⟨RX10, TX10, 12, cf10, by decide, (tbm 376 (by decide +kernel) rfl), rfl⟩
theorem flX10_26 : FL RX10 26 10 2 false := ⟨RX10, TX10, 12, cf10, by decide, (tbm 377 (by decide +kernel) rfl), rfl⟩
theorem flX10_30 : FL RX10 30 10 3 false := ⟨RX10, TX10, 12, cf10, by decide, (tbm 378 (by decide +kernel) rfl), rfl⟩
theorem flX10_36 : FL RX10 36 10 4 true := ⟨RX10, TX10, 12, cf10, by decide, (tbm 379 (by decide +kernel) rfl), rfl⟩
theorem flX10_43 : FL RX10 43 10 5 true := ⟨RX10, TX10, 12, cf10, by decide, (tbm 380 (by decide +kernel) rfl), rfl⟩
theorem flX10_49 : FL RX10 49 10 6 true := ⟨RX10, TX10, 12, cf10, by decide, (tbm 381 (by decide +kernel) rfl), rfl⟩
theorem flX10_56 : FL RX10 56 10 7 true := ⟨RX10, TX10, 12, cf10, by decide, (tbm 382 (by decide +kernel) rfl), rfl⟩
theorem flX10_63 : FL RX10 63 10 8 true := ⟨RX10, TX10, 12, cf10, by decide, (tbm 383 (by decide +kernel) rfl), rfl⟩
theorem flX10_70 : FL RX10 70 10 9 true := ⟨RX10, TX10, 12, cf10, by decide, (tbm 384 (by decide +kernel) rfl), rfl⟩
theorem flX10_74 : FL RX10 74 10 10 false := ⟨RX10, TX10, 12, cf10, by decide, (tbm 385 (by decide +kernel) rfl), rfl⟩
theorem flX10_78 : FL RX10 78 10 11 false := ⟨RX10, TX10, 12, cf10, by decide, (tbm 386 (by decide +kernel) rfl), rfl⟩
theorem flX10_87 : FL RX10 87 7 1 false := ⟨RX7, TX7, 2, cf7, by decide, (tbm 86 (by decide +kernel) rfl), rfl⟩
theorem flX10_99 : FL RX10 99 4 3 false := ⟨RX4, TX4, 4, cf4, by decide, (tbm 105 (by decide +kernel) rfl), rfl⟩
theorem flX10_102 : FL RX10 102 4 2 false := ⟨RX4, TX4, 4, cf4, by decide, (tbm 103 (by decide +kernel) rfl), rfl⟩
theorem flX10_108 : FL RX10 108 8 3 false := ⟨RX8, TX8, 16, cf8, by decide, (tbm 130 (by decide +kernel) rfl), rfl⟩
theorem flX10_118 : FL RX10 118 5 5 false := ⟨RX5, TX5, 6, cf5, by decide, (tbm 324 (by decide +kernel) rfl), rfl⟩
theorem flX10_121 : FL RX10 121 0 2 false := ⟨RX0, TX0, 3, cf0, by decide, (tbm 347 (by decide +kernel) rfl), rfl⟩
theorem flX10_122 : FL RX10 122 2 2 false := ⟨RX2, TX2, 3, cf2, by decide, (tbm 367 (by decide +kernel) rfl), rfl⟩
theorem flX10_126 : FL RX10 126 6 0 true := ⟨RX6, TX6, 7, cf6, by decide, (tbm 236 (by decide +kernel) rfl), rfl⟩
theorem flX10_130 : FL RX10 130 1 0 false := ⟨RX1, TX1, 6, cf1, by decide, (tbm 209 (by decide +kernel) rfl), rfl⟩
theorem flX10_135 : FL RX10 135 6 1 false := ⟨RX6, TX6, 7, cf6, by decide, (tbm 238 (by decide +kernel) rfl), rfl⟩
theorem flX10_138 : FL RX10 138 8 4 false := ⟨RX8, TX8, 16, cf8, by decide, (tbm 136 (by decide +kernel) rfl), rfl⟩
theorem flX10_141 : FL RX10 141 8 5 false := ⟨RX8, TX8, 16, cf8, by decide, (tbm 138 (by decide +kernel) rfl), rfl⟩
theorem flX10_144 : FL RX10 144 8 6 false := ⟨RX8, TX8, 16, cf8, by decide, (tbm 140 (by decide +kernel) rfl), rfl⟩
theorem flX10_147 : FL RX10 147 1 1 false := ⟨RX1, TX1, 6, cf1, by decide, (tbm 211 (by decide +kernel) rfl), rfl⟩
theorem flX10_150 : FL RX10 150 6 2 false := ⟨RX6, TX6, 7, cf6, by decide, (tbm 240 (by decide +kernel) rfl), rfl⟩
theorem flX10_157 : FL RX10 157 6 3 false := ⟨RX6, TX6, 7, cf6, by decide, (tbm 242 (by decide +kernel) rfl), rfl⟩
theorem flX10_160 : FL RX10 160 3 2 false := ⟨RX3, TX3, 3, cf3, by decide, (tbm 275 (by decide +kernel) rfl), rfl⟩
theorem flX10_161 : FL RX10 161 8 0 false := ⟨RX8, TX8, 16, cf8, by decide, (tbm 123 (by decide +kernel) rfl), rfl⟩
theorem flX10_169 : FL RX10 169 1 2 true := ⟨RX1, TX1, 6, cf1, by decide, (tbm 215 (by decide +kernel) rfl), rfl⟩
theorem flX10_173 : FL RX10 173 8 8 true := ⟨RX8, TX8, 16, cf8, by decide, (tbm 145 (by decide +kernel) rfl), rfl⟩
theorem flX10_176 : FL RX10 176 8 9 true := ⟨RX8, TX8, 16, cf8, by decide, (tbm 148 (by decide +kernel) rfl), rfl⟩
theorem flX10_179 : FL RX10 179 1 3 true := ⟨RX1, TX1, 6, cf1, by decide, (tbm 217 (by decide +kernel) rfl), rfl⟩
theorem flX10_182 : FL RX10 182 6 5 true := ⟨RX6, TX6, 7, cf6, by decide, (tbm 246 (by decide +kernel) rfl), rfl⟩
theorem flX10_188 : FL RX10 188 6 4 true := ⟨RX6, TX6, 7, cf6, by decide, (tbm 244 (by decide +kernel) rfl), rfl⟩
theorem flX10_191 : FL RX10 191 8 11 true := ⟨RX8, TX8, 16, cf8, by decide, (tbm 153 (by decide +kernel) rfl), rfl⟩
theorem flX10_194 : FL RX10 194 8 12 true := ⟨RX8, TX8, 16, cf8, by decide, (tbm 157 (by decide +kernel) rfl), rfl⟩
theorem flX10_238 : FL RX10 238 8 13 true := ⟨RX8, TX8, 16, cf8, by decide, (tbm 159 (by decide +kernel) rfl), rfl⟩
theorem flX10_252 : FL RX10 252 9 2 false := ⟨RX9, TX9, 5, cf9, by decide, (tbm 297 (by decide +kernel) rfl), rfl⟩
theorem flX10_255 : FL RX10 255 9 3 false := ⟨RX9, TX9, 5, cf9, by decide, (tbm 299 (by decide +kernel) rfl), rfl⟩
theorem flX10_302 : FL RX10 302 2 0 true := ⟨RX2, TX2, 3, cf2, by decide, (tbm 363 (by decide +kernel) rfl), rfl⟩
theorem flX10_308 : FL RX10 308 2 1 false := ⟨RX2, TX2, 3, cf2, by decide, (tbm 365 (by decide +kernel) rfl), rfl⟩
theorem flX0_9 : FL RX0 9 0 0 true := ⟨RX0, TX0, 3, cf0, by decide, (tbm 344 (by decide +kernel) rfl), rfl⟩
theorem flX0_15 : FL RX0 15 0 1 true := ⟨RX0, TX0, 3, cf0, by decide, (tbm 345 (by decide +kernel) rfl), rfl⟩
theorem flX0_18 : FL RX0 18 0 2 false := ⟨RX0, TX0, 3, cf0, by decide, (tbm 346 (by decide +kernel) rfl), rfl⟩
theorem flX0_22 : FL RX0 22 1 2 true := ⟨RX1, TX1, 6, cf1, by decide, (tbm 213 (by decide +kernel) rfl), rfl⟩
theorem flX1_9 : FL RX1 9 1 0 false := ⟨RX1, TX1, 6, cf1, by decide, (tbm 207 (by decide +kernel) rfl), rfl⟩
theorem flX1_15 : FL RX1 15 1 1 false := ⟨RX1, TX1, 6, cf1, by decide, (tbm 210 (by decide +kernel) rfl), rfl⟩
theorem flX1_18 : FL RX1 18 1 2 true := ⟨RX1, TX1, 6, cf1, by decide, (tbm 212 (by decide +kernel) rfl), rfl⟩
theorem flX1_22 : FL RX1 22 1 3 true := ⟨RX1, TX1, 6, cf1, by decide, (tbm 216 (by decide +kernel) rfl), rfl⟩
theorem flX1_29 : FL RX1 29 1 5 false := ⟨RX1, TX1, 6, cf1, by decide, (tbm 220 (by decide +kernel) rfl), rfl⟩
theorem flX1_32 : FL RX1 32 8 1 false := ⟨RX8, TX8, 16, cf8, by decide, (tbm 125 (by decide +kernel) rfl), rfl⟩
theorem flX1_35 : FL RX1 35 8 3 false := ⟨RX8, TX8, 16, cf8, by decide, (tbm 129 (by decide +kernel) rfl), rfl⟩
theorem flX1_38 : FL RX1 38 8 7 true := ⟨RX8, TX8, 16, cf8, by decide, (tbm 142 (by decide +kernel) rfl), rfl⟩
theorem flX1_47 : FL RX1 47 8 9 true := ⟨RX8, TX8, 16, cf8, by decide, (tbm 147 (by decide +kernel) rfl), rfl⟩
theorem flX3_11 : FL RX3 11 3 0 true := ⟨RX3, TX3, 3, cf3, by decide, (tbm 272 (by decide +kernel) rfl), rfl⟩
theorem flX3_17 : FL RX3 17 3 1 false := ⟨RX3, TX3, 3, cf3, by decide, (tbm 273 (by decide +kernel) rfl), rfl⟩
theorem flX3_21 : FL RX3 21 3 2 false := ⟨RX3, TX3, 3, cf3, by decide, (tbm 274 (by decide +kernel) rfl), rfl⟩
theorem flX4_11 : FL RX4 11 4 0 true := ⟨RX4, TX4, 4, cf4, by decide, (tbm 100 (by decide +kernel) rfl), rfl⟩
theorem flX4_15 : FL RX4 15 4 1 false := ⟨RX4, TX4, 4, cf4, by decide, (tbm 101 (by decide +kernel) rfl), rfl⟩
theorem flX4_19 : FL RX4 19 4 2 false := ⟨RX4, TX4, 4, cf4, by decide, (tbm 102 (by decide +kernel) rfl), rfl⟩
theorem flX4_34 : FL RX4 34 7 1 false := ⟨RX7, TX7, 2, cf7, by decide, (tbm 87 (by decide +kernel) rfl), rfl⟩
theorem flX4_43 : FL RX4 43 7 0 true := ⟨RX7, TX7, 2, cf7, by decide, (tbm 84 (by decide +kernel) rfl), rfl⟩
theorem flX4_50 : FL RX4 50 8 0 false := ⟨RX8, TX8, 16, cf8, by decide, (tbm 122 (by decide +kernel) rfl), rfl⟩
theorem flX5_9 : FL RX5 9 5 0 true := ⟨RX5, TX5, 6, cf5, by decide, (tbm 318 (by decide +kernel) rfl), rfl⟩
theorem flX5_15 : FL RX5 15 5 1 true := ⟨RX5, TX5, 6, cf5, by decide, (tbm 319 (by decide +kernel) rfl), rfl⟩
theorem flX5_18 : FL RX5 18 5 2 true := ⟨RX5, TX5, 6, cf5, by decide, (tbm 320 (by decide +kernel) rfl), rfl⟩
theorem flX5_21 : FL RX5 21 5 3 true := ⟨RX5, TX5, 6, cf5, by decide, (tbm 321 (by decide +kernel) rfl), rfl⟩
theorem flX5_24 : FL RX5 24 5 4 true := ⟨RX5, TX5, 6, cf5, by decide, (tbm 322 (by decide +kernel) rfl), rfl⟩
theorem flX5_27 : FL RX5 27 5 5 false := ⟨RX5, TX5, 6, cf5, by decide, (tbm 323 (by decide +kernel) rfl), rfl⟩
theorem flX5_35 : FL RX5 35 8 12 true := ⟨RX8, TX8, 16, cf8, by decide, (tbm 155 (by decide +kernel) rfl), rfl⟩
theorem flX5_40 : FL RX5 40 8 4 false := ⟨RX8, TX8, 16, cf8, by decide, (tbm 135 (by decide +kernel) rfl), rfl⟩
theorem flX6_12 : FL RX6 12 6 0 true := ⟨RX6, TX6, 7, cf6, by decide, (tbm 235 (by decide +kernel) rfl), rfl⟩
theorem flX6_18 : FL RX6 18 6 1 false := ⟨RX6, TX6, 7, cf6, by decide, (tbm 237 (by decide +kernel) rfl), rfl⟩
theorem flX6_22 : FL RX6 22 6 2 false := ⟨RX6, TX6, 7, cf6, by decide, (tbm 239 (by decide +kernel) rfl), rfl⟩
theorem flX6_25 : FL RX6 25 6 3 false := ⟨RX6, TX6, 7, cf6, by decide, (tbm 241 (by decide +kernel) rfl), rfl⟩
theorem flX6_28 : FL RX6 28 6 4 true := ⟨RX6, TX6, 7, cf6, by decide, (tbm 243 (by decide +kernel) rfl), rfl⟩
theorem flX6_32 : FL RX6 32 6 5 true := ⟨RX6, TX6, 7, cf6, by decide, (tbm 245 (by decide +kernel) rfl), rfl⟩
theorem flX6_35 : FL RX6 35 6 6 true := ⟨RX6, TX6, 7, cf6, by decide, (tbm 247 (by decide +kernel) rfl), rfl⟩
theorem flX6_42 : FL RX6 42 8 2 false := ⟨RX8, TX8, 16, cf8, by decide, (tbm 127 (by decide +kernel) rfl), rfl⟩
theorem flX6_45 : FL RX6 45 8 4 false := ⟨RX8, TX8, 16, cf8, by decide, (tbm 134 (by decide +kernel) rfl), rfl⟩
theorem flX6_48 : FL RX6 48 8 10 true := ⟨RX8, TX8, 16, cf8, by decide, (tbm 150 (by decide +kernel) rfl), rfl⟩
theorem flX6_59 : FL RX6 59 8 3 false := ⟨RX8, TX8, 16, cf8, by decide, (tbm 131 (by decide +kernel) rfl), rfl⟩
theorem flX6_62 : FL RX6 62 1 2 true := ⟨RX1, TX1, 6, cf1, by decide, (tbm 214 (by decide +kernel) rfl), rfl⟩
theorem flX6_65 : FL RX6 65 8 8 true := ⟨RX8, TX8, 16, cf8, by decide, (tbm 144 (by decide +kernel) rfl), rfl⟩
theorem flX6_72 : FL RX6 72 1 4 false := ⟨RX1, TX1, 6, cf1, by decide, (tbm 219 (by decide +kernel) rfl), rfl⟩
theorem flX6_86 : FL RX6 86 8 11 true := ⟨RX8, TX8, 16, cf8, by decide, (tbm 152 (by decide +kernel) rfl), rfl⟩
theorem flX6_89 : FL RX6 89 8 12 true := ⟨RX8, TX8, 16, cf8, by decide, (tbm 156 (by decide +kernel) rfl), rfl⟩
theorem flX7_9 : FL RX7 9 7 0 true := ⟨RX7, TX7, 2, cf7, by decide, (tbm 83 (by decide +kernel) rfl), rfl⟩
theorem flX7_15 : FL RX7 15 7 1 false := ⟨RX7, TX7, 2, cf7, by decide, (tbm 85 (by decide +kernel) rfl), rfl⟩
theorem flX8_9 : FL RX8 9 8 0 false := ⟨RX8, TX8, 16, cf8, by decide, (tbm 121 (by decide +kernel) rfl), rfl⟩
theorem flX8_22 : FL RX8 22 8 3 false := ⟨RX8, TX8, 16, cf8, by decide, (tbm 128 (by decide +kernel) rfl), rfl⟩
theorem flX8_25 : FL RX8 25 8 4 false := ⟨RX8, TX8, 16, cf8, by decide, (tbm 133 (by decide +kernel) rfl), rfl⟩
theorem flX8_28 : FL RX8 28 8 5 false := ⟨RX8, TX8, 16, cf8, by decide, (tbm 137 (by decide +kernel) rfl), rfl⟩
theorem flX8_31 : FL RX8 31 8 6 false := ⟨RX8, TX8, 16, cf8, by decide, (tbm 139 (by decide +kernel) rfl), rfl⟩
theorem flX8_34 : FL RX8 34 8 7 true := ⟨RX8, TX8, 16, cf8, by decide, (tbm 141 (by decide +kernel) rfl), rfl⟩
theorem flX8_38 : FL RX8 38 8 8 true := ⟨RX8, TX8, 16, cf8, by decide, (tbm 143 (by decide +kernel) rfl), rfl⟩
theorem flX8_41 : FL RX8 41 8 9 true := ⟨RX8, TX8, 16, cf8, by decide, (tbm 146 (by decide +kernel) rfl), rfl⟩
theorem flX8_44 : FL RX8 44 8 10 true := ⟨RX8, TX8, 16, cf8, by decide, (tbm 149 (by decide +kernel) rfl), rfl⟩
theorem flX8_47 : FL RX8 47 8 11 true := ⟨RX8, TX8, 16, cf8, by decide, (tbm 151 (by decide +kernel) rfl), rfl⟩
theorem flX8_50 : FL RX8 50 8 12 true := ⟨RX8, TX8, 16, cf8, by decide, (tbm 154 (by decide +kernel) rfl), rfl⟩
theorem flX8_53 : FL RX8 53 8 13 true := ⟨RX8, TX8, 16, cf8, by decide, (tbm 158 (by decide +kernel) rfl), rfl⟩
theorem flX8_56 : FL RX8 56 8 14 true := ⟨RX8, TX8, 16, cf8, by decide, (tbm 160 (by decide +kernel) rfl), rfl⟩
theorem flX8_59 : FL RX8 59 8 15 true := ⟨RX8, TX8, 16, cf8, by decide, (tbm 161 (by decide +kernel) rfl), rfl⟩
theorem flX9_11 : FL RX9 11 9 0 true := ⟨RX9, TX9, 5, cf9, by decide, (tbm 294 (by decide +kernel) rfl), rfl⟩
theorem flX9_17 : FL RX9 17 9 1 true := ⟨RX9, TX9, 5, cf9, by decide, (tbm 295 (by decide +kernel) rfl), rfl⟩
theorem flX9_21 : FL RX9 21 9 2 false := ⟨RX9, TX9, 5, cf9, by decide, (tbm 296 (by decide +kernel) rfl), rfl⟩
theorem flX9_28 : FL RX9 28 9 4 false := ⟨RX9, TX9, 5, cf9, by decide, (tbm 300 (by decide +kernel) rfl), rfl⟩
theorem flX9_61 : FL RX9 61 1 0 false := ⟨RX1, TX1, 6, cf1, by decide, (tbm 208 (by decide +kernel) rfl), rfl⟩
theorem flX9_64 : FL RX9 64 1 5 false := ⟨RX1, TX1, 6, cf1, by decide, (tbm 221 (by decide +kernel) rfl), rfl⟩
theorem flX9_67 : FL RX9 67 8 3 false := ⟨RX8, TX8, 16, cf8, by decide, (tbm 132 (by decide +kernel) rfl), rfl⟩
theorem flX11_7 : FL RX11 7 11 0 true := ⟨RX11, TX11, 41, cf11, by decide, (tbm 817 (by decide +kernel) rfl), rfl⟩
theorem flX11_13 : FL RX11 13 11 1 true := ⟨RX11, TX11, 41, cf11, by decide, (tbm 818 (by decide +kernel) rfl), rfl⟩
theorem flX11_17 : FL RX11 17 11 5 true := ⟨RX11, TX11, 41, cf11, by decide, (tbm 822 (by decide +kernel) rfl), rfl⟩
theorem flX11_20 : FL RX11 20 11 6 true := ⟨RX11, TX11, 41, cf11, by decide, (tbm 823 (by decide +kernel) rfl), rfl⟩
theorem flX11_23 : FL RX11 23 11 8 true := ⟨RX11, TX11, 41, cf11, by decide, (tbm 825 (by decide +kernel) rfl), rfl⟩
theorem flX11_26 : FL RX11 26 11 9 true := ⟨RX11, TX11, 41, cf11, by decide, (tbm 826 (by decide +kernel) rfl), rfl⟩
theorem flX11_29 : FL RX11 29 11 11 true := ⟨RX11, TX11, 41, cf11, by decide, (tbm 828 (by decide +kernel) rfl), rfl⟩
theorem flX11_32 : FL RX11 32 11 13 true := ⟨RX11, TX11, 41, cf11, by decide, (tbm 830 (by decide +kernel) rfl), rfl⟩
theorem flX11_35 : FL RX11 35 11 14 true := ⟨RX11, TX11, 41, cf11, by decide, (tbm 831 (by decide +kernel) rfl), rfl⟩
theorem flX11_38 : FL RX11 38 11 15 true := ⟨RX11, TX11, 41, cf11, by decide, (tbm 832 (by decide +kernel) rfl), rfl⟩
theorem flX11_41 : FL RX11 41 11 21 false := ⟨RX11, TX11, 41, cf11, by decide, (tbm 838 (by decide +kernel) rfl), rfl⟩
theorem flX11_45 : FL RX11 45 11 23 true := ⟨RX11, TX11, 41, cf11, by decide, (tbm 840 (by decide +kernel) rfl), rfl⟩
theorem flX11_48 : FL RX11 48 11 25 true := ⟨RX11, TX11, 41, cf11, by decide, (tbm 842 (by decide +kernel) rfl), rfl⟩
theorem flX11_51 : FL RX11 51 11 27 true := ⟨RX11, TX11, 41, cf11, by decide, (tbm 844 (by decide +kernel) rfl), rfl⟩
theorem flX11_54 : FL RX11 54 11 29 true := ⟨RX11, TX11, 41, cf11, by decide, (tbm 846 (by decide +kernel) rfl), rfl⟩
theorem flX11_57 : FL RX11 57 11 31 true := ⟨RX11, TX11, 41, cf11, by decide, (tbm 848 (by decide +kernel) rfl), rfl⟩
theorem flX11_60 : FL RX11 60 11 34 true := ⟨RX11, TX11, 41, cf11, by decide, (tbm 851 (by decide +kernel) rfl), rfl⟩
theorem flX11_63 : FL RX11 63 11 35 true := ⟨RX11, TX11, 41, cf11, by decide, (tbm 852 (by decide +kernel) rfl), rfl⟩
theorem flX11_66 : FL RX11 66 11 36 true := ⟨RX11, TX11, 41, cf11, by decide, (tbm 853 (by decide +kernel) rfl), rfl⟩
theorem flX11_69 : FL RX11 69 11 37 true := ⟨RX11, TX11, 41, cf11, by decide, (tbm 854 (by decide +kernel) rfl), rfl⟩
theorem flX11_72 : FL RX11 72 11 39 true := ⟨RX11, TX11, 41, cf11, by decide, (tbm 856 (by decide +kernel) rfl), rfl⟩
theorem flX11_75 : FL RX11 75 11 40 true := ⟨RX11, TX11, 41, cf11, by decide, (tbm 857 (by decide +kernel) rfl), rfl⟩
theorem flX11_78 : FL RX11 78 11 3 false := ⟨RX11, TX11, 41, cf11, by decide, (tbm 820 (by decide +kernel) rfl), rfl⟩
theorem flX11_82 : FL RX11 82 11 4 false := ⟨RX11, TX11, 41, cf11, by decide, (tbm 821 (by decide +kernel) rfl), rfl⟩
theorem flX11_89 : FL RX11 89 11 7 false := ⟨RX11, TX11, 41, cf11, by decide, (tbm 824 (by decide +kernel) rfl), rfl⟩
theorem flX11_92 : FL RX11 92 11 10 false := ⟨RX11, TX11, 41, cf11, by decide, (tbm 827 (by decide +kernel) rfl), rfl⟩
theorem flX11_100 : FL RX11 100 11 16 false := ⟨RX11, TX11, 41, cf11, by decide, (tbm 833 (by decide +kernel) rfl), rfl⟩
theorem flX11_104 : FL RX11 104 11 17 false := ⟨RX11, TX11, 41, cf11, by decide, (tbm 834 (by decide +kernel) rfl), rfl⟩
theorem flX11_111 : FL RX11 111 11 18 false := ⟨RX11, TX11, 41, cf11, by decide, (tbm 835 (by decide +kernel) rfl), rfl⟩
theorem flX11_114 : FL RX11 114 11 20 false := ⟨RX11, TX11, 41, cf11, by decide, (tbm 837 (by decide +kernel) rfl), rfl⟩
theorem flX11_129 : FL RX11 129 11 19 false := ⟨RX11, TX11, 41, cf11, by decide, (tbm 836 (by decide +kernel) rfl), rfl⟩
theorem flX11_132 : FL RX11 132 11 22 false := ⟨RX11, TX11, 41, cf11, by decide, (tbm 839 (by decide +kernel) rfl), rfl⟩
theorem flX11_138 : FL RX11 138 11 24 false := ⟨RX11, TX11, 41, cf11, by decide, (tbm 841 (by decide +kernel) rfl), rfl⟩
theorem flX11_141 : FL RX11 141 11 26 false := ⟨RX11, TX11, 41, cf11, by decide, (tbm 843 (by decide +kernel) rfl), rfl⟩
theorem flX11_144 : FL RX11 144 11 28 false := ⟨RX11, TX11, 41, cf11, by decide, (tbm 845 (by decide +kernel) rfl), rfl⟩
theorem flX11_147 : FL RX11 147 11 30 false := ⟨RX11, TX11, 41, cf11, by decide, (tbm 847 (by decide +kernel) rfl), rfl⟩
theorem flX11_176 : FL RX11 176 11 12 false := ⟨RX11, TX11, 41, cf11, by decide, (tbm 829 (by decide +kernel) rfl), rfl⟩
theorem flX11_179 : FL RX11 179 11 33 false := ⟨RX11, TX11, 41, cf11, by decide, (tbm 850 (by decide +kernel) rfl), rfl⟩
theorem flX11_182 : FL RX11 182 11 38 false := ⟨RX11, TX11, 41, cf11, by decide, (tbm 855 (by decide +kernel) rfl), rfl⟩
theorem flX11_185 : FL RX11 185 11 2 false := ⟨RX11, TX11, 41, cf11, by decide, (tbm 819 (by decide +kernel) rfl), rfl⟩
theorem flX11_198 : FL RX11 198 11 32 false := ⟨RX11, TX11, 41, cf11, by decide, (tbm 849 (by decide +kernel) rfl), rfl⟩
theorem gsX4_73 : Cond.fieldLink RX4 73 "SiegePlate$Reader" "NUMBERS" "[I" ∈ tb := (tbm 460 (by decide +kernel) rfl)
theorem gsX4_76 : Cond.fieldLink RX4 76 "SiegePlate$Reader" "LOWEST" "[I" ∈ tb := (tbm 462 (by decide +kernel) rfl)
theorem gsX4_79 : Cond.fieldLink RX4 79 "SiegePlate$Reader" "HIGHEST" "[I" ∈ tb := (tbm 464 (by decide +kernel) rfl)
theorem coX10_1 : Cond.methodLink RX10 1 objectInit ∈ tb ∧ Cond.instanceMethod objectInit ∈ tb ∧ Cond.code objectInit ⟨#[0xb1]⟩ 1 none ∈ tb := ⟨(tbm 74 (by decide +kernel) rfl), (tbm 75 (by decide +kernel) rfl), (tbm 76 (by decide +kernel) rfl)⟩
theorem cnX10_9 : Cond.methodLinkNest RX10 9 yX7_init "SiegePlate" ∈ nestW ∧ Cond.instanceMethod yX7_init ∈ tb ∧ (yX7_init).name = "<init>" := ⟨nsm 24 (by decide +kernel) rfl, (tbm 80 (by decide +kernel) rfl), rfl⟩
theorem cnX10_18 : Cond.methodLinkNest RX10 18 yX4_init "SiegePlate" ∈ nestW ∧ Cond.instanceMethod yX4_init ∈ tb ∧ (yX4_init).name = "<init>" := ⟨nsm 41 (by decide +kernel) rfl, (tbm 97 (by decide +kernel) rfl), rfl⟩
theorem cnX10_25 : Cond.methodLinkNest RX10 25 yX8_init "SiegePlate" ∈ nestW ∧ Cond.instanceMethod yX8_init ∈ tb ∧ (yX8_init).name = "<init>" := ⟨nsm 62 (by decide +kernel) rfl, (tbm 118 (by decide +kernel) rfl), rfl⟩
theorem cnX10_35 : Cond.methodLinkNest RX10 35 yX6_init "SiegePlate" ∈ nestW ∧ Cond.instanceMethod yX6_init ∈ tb ∧ (yX6_init).name = "<init>" := ⟨nsm 142 (by decide +kernel) rfl, (tbm 198 (by decide +kernel) rfl), rfl⟩
theorem ciX10_42 : Cond.methodLink RX10 42 yX3_init ∈ tb ∧ Cond.instanceMethod yX3_init ∈ tb ∧ (yX3_init).name = "<init>" := ⟨(tbm 265 (by decide +kernel) rfl), (tbm 266 (by decide +kernel) rfl), rfl⟩
theorem ciX10_55 : Cond.methodLink RX10 55 yX9_init ∈ tb ∧ Cond.instanceMethod yX9_init ∈ tb ∧ (yX9_init).name = "<init>" := ⟨(tbm 287 (by decide +kernel) rfl), (tbm 288 (by decide +kernel) rfl), rfl⟩
theorem cnX10_62 : Cond.methodLinkNest RX10 62 yX5_init "SiegePlate" ∈ nestW ∧ Cond.instanceMethod yX5_init ∈ tb ∧ (yX5_init).name = "<init>" := ⟨nsm 259 (by decide +kernel) rfl, (tbm 315 (by decide +kernel) rfl), rfl⟩
theorem cnX10_69 : Cond.methodLinkNest RX10 69 yX0_init "SiegePlate" ∈ nestW ∧ Cond.instanceMethod yX0_init ∈ tb ∧ (yX0_init).name = "<init>" := ⟨nsm 285 (by decide +kernel) rfl, (tbm 341 (by decide +kernel) rfl), rfl⟩
theorem cnX10_81 : Cond.methodLinkNest RX10 81 yX2_init "SiegePlate" ∈ nestW ∧ Cond.instanceMethod yX2_init ∈ tb ∧ (yX2_init).name = "<init>" := ⟨nsm 301 (by decide +kernel) rfl, (tbm 357 (by decide +kernel) rfl), rfl⟩
theorem coX0_3 : Cond.methodLink RX0 3 objectInit ∈ tb ∧ Cond.instanceMethod objectInit ∈ tb ∧ Cond.code objectInit ⟨#[0xb1]⟩ 1 none ∈ tb := ⟨(tbm 343 (by decide +kernel) rfl), (tbm 75 (by decide +kernel) rfl), (tbm 76 (by decide +kernel) rfl)⟩
theorem coX1_3 : Cond.methodLink RX1 3 objectInit ∈ tb ∧ Cond.instanceMethod objectInit ∈ tb ∧ Cond.code objectInit ⟨#[0xb1]⟩ 1 none ∈ tb := ⟨(tbm 206 (by decide +kernel) rfl), (tbm 75 (by decide +kernel) rfl), (tbm 76 (by decide +kernel) rfl)⟩
theorem coX2_1 : Cond.methodLink RX2 1 objectInit ∈ tb ∧ Cond.instanceMethod objectInit ∈ tb ∧ Cond.code objectInit ⟨#[0xb1]⟩ 1 none ∈ tb := ⟨(tbm 359 (by decide +kernel) rfl), (tbm 75 (by decide +kernel) rfl), (tbm 76 (by decide +kernel) rfl)⟩
theorem cnX2_9 : Cond.methodLinkNest RX2 9 yX6_init "SiegePlate" ∈ nestW ∧ Cond.instanceMethod yX6_init ∈ tb ∧ (yX6_init).name = "<init>" := ⟨nsm 306 (by decide +kernel) rfl, (tbm 198 (by decide +kernel) rfl), rfl⟩
theorem coX3_3 : Cond.methodLink RX3 3 objectInit ∈ tb ∧ Cond.instanceMethod objectInit ∈ tb ∧ Cond.code objectInit ⟨#[0xb1]⟩ 1 none ∈ tb := ⟨(tbm 268 (by decide +kernel) rfl), (tbm 75 (by decide +kernel) rfl), (tbm 76 (by decide +kernel) rfl)⟩
theorem cnX3_24 : Cond.methodLinkNest RX3 24 yX6_init "SiegePlate" ∈ nestW ∧ Cond.instanceMethod yX6_init ∈ tb ∧ (yX6_init).name = "<init>" := ⟨nsm 216 (by decide +kernel) rfl, (tbm 198 (by decide +kernel) rfl), rfl⟩
theorem coX4_3 : Cond.methodLink RX4 3 objectInit ∈ tb ∧ Cond.instanceMethod objectInit ∈ tb ∧ Cond.code objectInit ⟨#[0xb1]⟩ 1 none ∈ tb := ⟨(tbm 99 (by decide +kernel) rfl), (tbm 75 (by decide +kernel) rfl), (tbm 76 (by decide +kernel) rfl)⟩
theorem coX5_3 : Cond.methodLink RX5 3 objectInit ∈ tb ∧ Cond.instanceMethod objectInit ∈ tb ∧ Cond.code objectInit ⟨#[0xb1]⟩ 1 none ∈ tb := ⟨(tbm 317 (by decide +kernel) rfl), (tbm 75 (by decide +kernel) rfl), (tbm 76 (by decide +kernel) rfl)⟩
theorem coX6_3 : Cond.methodLink RX6 3 objectInit ∈ tb ∧ Cond.instanceMethod objectInit ∈ tb ∧ Cond.code objectInit ⟨#[0xb1]⟩ 1 none ∈ tb := ⟨(tbm 200 (by decide +kernel) rfl), (tbm 75 (by decide +kernel) rfl), (tbm 76 (by decide +kernel) rfl)⟩
theorem cnX6_11 : Cond.methodLinkNest RX6 11 yX1_init "SiegePlate" ∈ nestW ∧ Cond.instanceMethod yX1_init ∈ tb ∧ (yX1_init).name = "<init>" := ⟨nsm 148 (by decide +kernel) rfl, (tbm 204 (by decide +kernel) rfl), rfl⟩
theorem coX7_3 : Cond.methodLink RX7 3 objectInit ∈ tb ∧ Cond.instanceMethod objectInit ∈ tb ∧ Cond.code objectInit ⟨#[0xb1]⟩ 1 none ∈ tb := ⟨(tbm 82 (by decide +kernel) rfl), (tbm 75 (by decide +kernel) rfl), (tbm 76 (by decide +kernel) rfl)⟩
theorem coX8_3 : Cond.methodLink RX8 3 objectInit ∈ tb ∧ Cond.instanceMethod objectInit ∈ tb ∧ Cond.code objectInit ⟨#[0xb1]⟩ 1 none ∈ tb := ⟨(tbm 120 (by decide +kernel) rfl), (tbm 75 (by decide +kernel) rfl), (tbm 76 (by decide +kernel) rfl)⟩
theorem coX9_3 : Cond.methodLink RX9 3 objectInit ∈ tb ∧ Cond.instanceMethod objectInit ∈ tb ∧ Cond.code objectInit ⟨#[0xb1]⟩ 1 none ∈ tb := ⟨(tbm 290 (by decide +kernel) rfl), (tbm 75 (by decide +kernel) rfl), (tbm 76 (by decide +kernel) rfl)⟩
theorem cnX9_31 : Cond.methodLinkNest RX9 31 yX1_init "SiegePlate" ∈ nestW ∧ Cond.instanceMethod yX1_init ∈ tb ∧ (yX1_init).name = "<init>" := ⟨nsm 238 (by decide +kernel) rfl, (tbm 204 (by decide +kernel) rfl), rfl⟩
theorem ciL_9 : Cond.methodLink RL 9 yX10_init ∈ tb ∧ Cond.instanceMethod yX10_init ∈ tb ∧ (yX10_init).name = "<init>" := ⟨(tbm 71 (by decide +kernel) rfl), (tbm 72 (by decide +kernel) rfl), rfl⟩
theorem ciL_12 : Cond.methodLink RL 12 yX11_init ∈ tb ∧ Cond.instanceMethod yX11_init ∈ tb ∧ (yX11_init).name = "<init>" := ⟨(tbm 813 (by decide +kernel) rfl), (tbm 814 (by decide +kernel) rfl), rfl⟩
theorem coX11_1 : Cond.methodLink RX11 1 objectInit ∈ tb ∧ Cond.instanceMethod objectInit ∈ tb ∧ Cond.code objectInit ⟨#[0xb1]⟩ 1 none ∈ tb := ⟨(tbm 816 (by decide +kernel) rfl), (tbm 75 (by decide +kernel) rfl), (tbm 76 (by decide +kernel) rfl)⟩
theorem csX10_82 : Cond.methodLink RX10 82 yX10_isWithin ∈ tb ∧ Cond.static yX10_isWithin ∈ tb := ⟨(tbm 416 (by decide +kernel) rfl), (tbm 417 (by decide +kernel) rfl)⟩
theorem csX10_232 : Cond.methodLink RX10 232 yX10_isRation ∈ tb ∧ Cond.static yX10_isRation ∈ tb := ⟨(tbm 556 (by decide +kernel) rfl), (tbm 557 (by decide +kernel) rfl)⟩
theorem csX10_241 : Cond.methodLink RX10 241 yX10_priceAt ∈ tb ∧ Cond.static yX10_priceAt ∈ tb := ⟨(tbm 660 (by decide +kernel) rfl), (tbm 661 (by decide +kernel) rfl)⟩
theorem csX10_258 : Cond.methodLink RX10 258 yX9_rationOf ∈ tb ∧ Cond.static yX9_rationOf ∈ tb := ⟨(tbm 694 (by decide +kernel) rfl), (tbm 686 (by decide +kernel) rfl)⟩
theorem csX10_269 : Cond.methodLink RX10 269 yX10_isReading ∈ tb ∧ Cond.static yX10_isReading ∈ tb := ⟨(tbm 715 (by decide +kernel) rfl), (tbm 716 (by decide +kernel) rfl)⟩
theorem csX10_280 : Cond.methodLink RX10 280 yX10_leastHungerAt ∈ tb ∧ Cond.static yX10_leastHungerAt ∈ tb := ⟨(tbm 742 (by decide +kernel) rfl), (tbm 743 (by decide +kernel) rfl)⟩
theorem cmX1_54 : Cond.methodLink RX1 54 Lib.Math.min.name ∈ tb ∧ Cond.static Lib.Math.min.name ∈ tb ∧ Cond.initialized "java/lang/Math" ∈ tb ∧ Cond.code Lib.Math.min.name Lib.Math.min.code 2 (some .int) ∈ tb := ⟨(tbm 599 (by decide +kernel) rfl), (tbm 577 (by decide +kernel) rfl), (tbm 68 (by decide +kernel) rfl), (tbm 578 (by decide +kernel) rfl)⟩
theorem cmX3_29 : Cond.methodLink RX3 29 Lib.Math.min.name ∈ tb ∧ Cond.static Lib.Math.min.name ∈ tb ∧ Cond.initialized "java/lang/Math" ∈ tb ∧ Cond.code Lib.Math.min.name Lib.Math.min.code 2 (some .int) ∈ tb := ⟨(tbm 576 (by decide +kernel) rfl), (tbm 577 (by decide +kernel) rfl), (tbm 68 (by decide +kernel) rfl), (tbm 578 (by decide +kernel) rfl)⟩
theorem csX4_46 : Cond.methodLink RX4 46 yX4_clauseOf ∈ tb ∧ Cond.static yX4_clauseOf ∈ tb := ⟨(tbm 445 (by decide +kernel) rfl), (tbm 446 (by decide +kernel) rfl)⟩
theorem csX4_86 : Cond.methodLink RX4 86 yX4_isFigure ∈ tb ∧ Cond.static yX4_isFigure ∈ tb := ⟨(tbm 470 (by decide +kernel) rfl), (tbm 471 (by decide +kernel) rfl)⟩
theorem cnX4_89 : Cond.methodLinkNest RX4 89 yX10_isWithin "SiegePlate" ∈ nestW ∧ Cond.static yX10_isWithin ∈ tb := ⟨nsm 418 (by decide +kernel) rfl, (tbm 417 (by decide +kernel) rfl)⟩
theorem cmX6_76 : Cond.methodLink RX6 76 Lib.Math.max.name ∈ tb ∧ Cond.static Lib.Math.max.name ∈ tb ∧ Cond.initialized "java/lang/Math" ∈ tb ∧ Cond.code Lib.Math.max.name Lib.Math.max.code 2 (some .int) ∈ tb := ⟨(tbm 604 (by decide +kernel) rfl), (tbm 605 (by decide +kernel) rfl), (tbm 68 (by decide +kernel) rfl), (tbm 606 (by decide +kernel) rfl)⟩
theorem csX6_82 : Cond.methodLink RX6 82 yX6_worthOfSquare ∈ tb ∧ Cond.static yX6_worthOfSquare ∈ tb := ⟨(tbm 722 (by decide +kernel) rfl), (tbm 723 (by decide +kernel) rfl)⟩
theorem cmX6_96 : Cond.methodLink RX6 96 Lib.Math.min.name ∈ tb ∧ Cond.static Lib.Math.min.name ∈ tb ∧ Cond.initialized "java/lang/Math" ∈ tb ∧ Cond.code Lib.Math.min.name Lib.Math.min.code 2 (some .int) ∈ tb := ⟨(tbm 619 (by decide +kernel) rfl), (tbm 577 (by decide +kernel) rfl), (tbm 68 (by decide +kernel) rfl), (tbm 578 (by decide +kernel) rfl)⟩
theorem cmX9_32 : Cond.methodLink RX9 32 Lib.Math.min.name ∈ tb ∧ Cond.static Lib.Math.min.name ∈ tb ∧ Cond.initialized "java/lang/Math" ∈ tb ∧ Cond.code Lib.Math.min.name Lib.Math.min.code 2 (some .int) ∈ tb := ⟨(tbm 680 (by decide +kernel) rfl), (tbm 577 (by decide +kernel) rfl), (tbm 68 (by decide +kernel) rfl), (tbm 578 (by decide +kernel) rfl)⟩
theorem csX9_42 : Cond.methodLink RX9 42 yX9_firstDayToTry ∈ tb ∧ Cond.static yX9_firstDayToTry ∈ tb := ⟨(tbm 682 (by decide +kernel) rfl), (tbm 683 (by decide +kernel) rfl)⟩
theorem csX9_45 : Cond.methodLink RX9 45 yX9_rationOf ∈ tb ∧ Cond.static yX9_rationOf ∈ tb := ⟨(tbm 685 (by decide +kernel) rfl), (tbm 686 (by decide +kernel) rfl)⟩
theorem csX11_85 : Cond.methodLink RX11 85 yX11_in ∈ tb ∧ Cond.static yX11_in ∈ tb := ⟨(tbm 947 (by decide +kernel) rfl), (tbm 948 (by decide +kernel) rfl)⟩
theorem csX11_213 : Cond.methodLink RX11 213 yX11_isRation ∈ tb ∧ Cond.static yX11_isRation ∈ tb := ⟨(tbm 1048 (by decide +kernel) rfl), (tbm 1049 (by decide +kernel) rfl)⟩
theorem cvX10_91 : CV RX10 91 yX7_append 7 := ⟨(tbm 421 (by decide +kernel) rfl), (tbm 422 (by decide +kernel) rfl), (tbm 423 (by decide +kernel) rfl), rfl, rfl⟩
theorem cvX10_95 : CV RX10 95 yX4_readTown 4 := ⟨(tbm 429 (by decide +kernel) rfl), (tbm 430 (by decide +kernel) rfl), (tbm 431 (by decide +kernel) rfl), rfl, rfl⟩
theorem cvX10_105 : CV RX10 105 yX10_beginSiege 10 := ⟨(tbm 503 (by decide +kernel) rfl), (tbm 505 (by decide +kernel) rfl), (tbm 11 (by decide +kernel) rfl), rfl, rfl⟩
theorem cvX10_111 : CV RX10 111 yX6_begin 6 := ⟨(tbm 507 (by decide +kernel) rfl), (tbm 508 (by decide +kernel) rfl), (tbm 509 (by decide +kernel) rfl), rfl, rfl⟩
theorem cvX10_115 : CV RX10 115 yX3_clear 3 := ⟨(tbm 515 (by decide +kernel) rfl), (tbm 516 (by decide +kernel) rfl), (tbm 517 (by decide +kernel) rfl), rfl, rfl⟩
theorem cvX10_153 : CV RX10 153 yX1_menOfAll 1 := ⟨(tbm 527 (by decide +kernel) rfl), (tbm 528 (by decide +kernel) rfl), (tbm 529 (by decide +kernel) rfl), rfl, rfl⟩
theorem cvX10_164 : CV RX10 164 yX10_isCompany 10 := ⟨(tbm 535 (by decide +kernel) rfl), (tbm 537 (by decide +kernel) rfl), (tbm 12 (by decide +kernel) rfl), rfl, rfl⟩
theorem cvX10_185 : CV RX10 185 yX10_isMoney 10 := ⟨(tbm 544 (by decide +kernel) rfl), (tbm 546 (by decide +kernel) rfl), (tbm 13 (by decide +kernel) rfl), rfl, rfl⟩
theorem cvX10_197 : CV RX10 197 yX10_refusalOfDays 10 := ⟨(tbm 552 (by decide +kernel) rfl), (tbm 554 (by decide +kernel) rfl), (tbm 14 (by decide +kernel) rfl), rfl, rfl⟩
theorem cvX10_201 : CV RX10 201 yX3_push 3 := ⟨(tbm 564 (by decide +kernel) rfl), (tbm 565 (by decide +kernel) rfl), (tbm 566 (by decide +kernel) rfl), rfl, rfl⟩
theorem cvX10_205 : CV RX10 205 yX6_passDay 6 := ⟨(tbm 579 (by decide +kernel) rfl), (tbm 580 (by decide +kernel) rfl), (tbm 581 (by decide +kernel) rfl), rfl, rfl⟩
theorem cvX10_209 : CV RX10 209 yX10_isBesieged 10 := ⟨(tbm 559 (by decide +kernel) rfl), (tbm 561 (by decide +kernel) rfl), (tbm 15 (by decide +kernel) rfl), rfl, rfl⟩
theorem cvX10_214 : CV RX10 214 yX6_hearGun 6 := ⟨(tbm 611 (by decide +kernel) rfl), (tbm 612 (by decide +kernel) rfl), (tbm 613 (by decide +kernel) rfl), rfl, rfl⟩
theorem cvX10_217 : CV RX10 217 yX6_raiseOdds 6 := ⟨(tbm 624 (by decide +kernel) rfl), (tbm 616 (by decide +kernel) rfl), (tbm 617 (by decide +kernel) rfl), rfl, rfl⟩
theorem cvX10_220 : CV RX10 220 yX10_passDayByDraws 10 := ⟨(tbm 633 (by decide +kernel) rfl), (tbm 635 (by decide +kernel) rfl), (tbm 19 (by decide +kernel) rfl), rfl, rfl⟩
theorem cvX10_223 : CV RX10 223 yX10_nextDraw 10 := ⟨(tbm 637 (by decide +kernel) rfl), (tbm 639 (by decide +kernel) rfl), (tbm 20 (by decide +kernel) rfl), rfl, rfl⟩
theorem cvX10_229 : CV RX10 229 yX3_popInto 3 := ⟨(tbm 648 (by decide +kernel) rfl), (tbm 649 (by decide +kernel) rfl), (tbm 650 (by decide +kernel) rfl), rfl, rfl⟩
theorem cvX10_235 : CV RX10 235 yX10_isGood 10 := ⟨(tbm 656 (by decide +kernel) rfl), (tbm 658 (by decide +kernel) rfl), (tbm 21 (by decide +kernel) rfl), rfl, rfl⟩
theorem cvX10_244 : CV RX10 244 yX10_worthWithin 10 := ⟨(tbm 667 (by decide +kernel) rfl), (tbm 669 (by decide +kernel) rfl), (tbm 22 (by decide +kernel) rfl), rfl, rfl⟩
theorem cvX10_248 : CV RX10 248 yX9_tryAllRows 9 := ⟨(tbm 676 (by decide +kernel) rfl), (tbm 677 (by decide +kernel) rfl), (tbm 678 (by decide +kernel) rfl), rfl, rfl⟩
theorem cvX10_262 : CV RX10 262 yX9_firstDeserter 9 := ⟨(tbm 699 (by decide +kernel) rfl), (tbm 700 (by decide +kernel) rfl), (tbm 701 (by decide +kernel) rfl), rfl, rfl⟩
theorem cvX10_266 : CV RX10 266 yX9_daysWithMen 9 := ⟨(tbm 707 (by decide +kernel) rfl), (tbm 708 (by decide +kernel) rfl), (tbm 709 (by decide +kernel) rfl), rfl, rfl⟩
theorem cvX10_272 : CV RX10 272 yX6_owedTo 6 := ⟨(tbm 718 (by decide +kernel) rfl), (tbm 719 (by decide +kernel) rfl), (tbm 720 (by decide +kernel) rfl), rfl, rfl⟩
theorem cvX10_276 : CV RX10 276 yX9_leastToPay 9 := ⟨(tbm 729 (by decide +kernel) rfl), (tbm 730 (by decide +kernel) rfl), (tbm 731 (by decide +kernel) rfl), rfl, rfl⟩
theorem cvX10_284 : CV RX10 284 yX5_add 5 := ⟨(tbm 754 (by decide +kernel) rfl), (tbm 755 (by decide +kernel) rfl), (tbm 756 (by decide +kernel) rfl), rfl, rfl⟩
theorem cvX10_288 : CV RX10 288 yX5_forgedOnes 5 := ⟨(tbm 762 (by decide +kernel) rfl), (tbm 763 (by decide +kernel) rfl), (tbm 764 (by decide +kernel) rfl), rfl, rfl⟩
theorem cvX10_292 : CV RX10 292 yX5_kindToWeigh 5 := ⟨(tbm 774 (by decide +kernel) rfl), (tbm 775 (by decide +kernel) rfl), (tbm 776 (by decide +kernel) rfl), rfl, rfl⟩
theorem cvX10_295 : CV RX10 295 yX0_add 0 := ⟨(tbm 782 (by decide +kernel) rfl), (tbm 783 (by decide +kernel) rfl), (tbm 784 (by decide +kernel) rfl), rfl, rfl⟩
theorem cvX10_298 : CV RX10 298 yX0_firstWrong 0 := ⟨(tbm 794 (by decide +kernel) rfl), (tbm 795 (by decide +kernel) rfl), (tbm 796 (by decide +kernel) rfl), rfl, rfl⟩
theorem cvX10_305 : CV RX10 305 yX6_become 6 := ⟨(tbm 806 (by decide +kernel) rfl), (tbm 569 (by decide +kernel) rfl), (tbm 570 (by decide +kernel) rfl), rfl, rfl⟩
theorem cvX1_39 : CV RX1 39 yX8_foodOfHorses 8 := ⟨(tbm 587 (by decide +kernel) rfl), (tbm 588 (by decide +kernel) rfl), (tbm 589 (by decide +kernel) rfl), rfl, rfl⟩
theorem cvX1_43 : CV RX1 43 yX1_isFed 1 := ⟨(tbm 591 (by decide +kernel) rfl), (tbm 593 (by decide +kernel) rfl), (tbm 16 (by decide +kernel) rfl), rfl, rfl⟩
theorem cvX1_50 : CV RX1 50 yX1_starve 1 := ⟨(tbm 595 (by decide +kernel) rfl), (tbm 597 (by decide +kernel) rfl), (tbm 17 (by decide +kernel) rfl), rfl, rfl⟩
theorem cvX3_25 : CV RX3 25 yX6_become 6 := ⟨(tbm 568 (by decide +kernel) rfl), (tbm 569 (by decide +kernel) rfl), (tbm 570 (by decide +kernel) rfl), rfl, rfl⟩
theorem cvX4_25 : CV RX4 25 yX8_clear 8 := ⟨(tbm 433 (by decide +kernel) rfl), (tbm 434 (by decide +kernel) rfl), (tbm 435 (by decide +kernel) rfl), rfl, rfl⟩
theorem cvX4_30 : CV RX4 30 yX4_skipBlanks 4 := ⟨(tbm 437 (by decide +kernel) rfl), (tbm 439 (by decide +kernel) rfl), (tbm 0 (by decide +kernel) rfl), rfl, rfl⟩
theorem cvX4_39 : CV RX4 39 yX4_readClause 4 := ⟨(tbm 441 (by decide +kernel) rfl), (tbm 443 (by decide +kernel) rfl), (tbm 1 (by decide +kernel) rfl), rfl, rfl⟩
theorem cvX4_54 : CV RX4 54 yX4_setFault 4 := ⟨(tbm 448 (by decide +kernel) rfl), (tbm 450 (by decide +kernel) rfl), (tbm 2 (by decide +kernel) rfl), rfl, rfl⟩
theorem cvX4_58 : CV RX4 58 yX8_hasRoomFor 8 := ⟨(tbm 452 (by decide +kernel) rfl), (tbm 453 (by decide +kernel) rfl), (tbm 454 (by decide +kernel) rfl), rfl, rfl⟩
theorem cvX4_62 : CV RX4 62 yX4_readNumbers 4 := ⟨(tbm 456 (by decide +kernel) rfl), (tbm 458 (by decide +kernel) rfl), (tbm 3 (by decide +kernel) rfl), rfl, rfl⟩
theorem cvX4_66 : CV RX4 66 yX4_readEnd 4 := ⟨(tbm 474 (by decide +kernel) rfl), (tbm 476 (by decide +kernel) rfl), (tbm 5 (by decide +kernel) rfl), rfl, rfl⟩
theorem cvX4_69 : CV RX4 69 yX8_add 8 := ⟨(tbm 478 (by decide +kernel) rfl), (tbm 479 (by decide +kernel) rfl), (tbm 480 (by decide +kernel) rfl), rfl, rfl⟩
theorem cvX4_82 : CV RX4 82 yX4_readNumber 4 := ⟨(tbm 466 (by decide +kernel) rfl), (tbm 468 (by decide +kernel) rfl), (tbm 4 (by decide +kernel) rfl), rfl, rfl⟩
theorem cvX5_31 : CV RX5 31 yX5_bearsStampOfDead 5 := ⟨(tbm 766 (by decide +kernel) rfl), (tbm 768 (by decide +kernel) rfl), (tbm 25 (by decide +kernel) rfl), rfl, rfl⟩
theorem cvX6_38 : CV RX6 38 yX1_begin 1 := ⟨(tbm 511 (by decide +kernel) rfl), (tbm 512 (by decide +kernel) rfl), (tbm 513 (by decide +kernel) rfl), rfl, rfl⟩
theorem cvX6_51 : CV RX6 51 yX1_become 1 := ⟨(tbm 572 (by decide +kernel) rfl), (tbm 573 (by decide +kernel) rfl), (tbm 574 (by decide +kernel) rfl), rfl, rfl⟩
theorem cvX6_55 : CV RX6 55 yX1_eatADay 1 := ⟨(tbm 583 (by decide +kernel) rfl), (tbm 584 (by decide +kernel) rfl), (tbm 585 (by decide +kernel) rfl), rfl, rfl⟩
theorem cvX6_68 : CV RX6 68 yX6_payCompany 6 := ⟨(tbm 600 (by decide +kernel) rfl), (tbm 602 (by decide +kernel) rfl), (tbm 18 (by decide +kernel) rfl), rfl, rfl⟩
theorem cvX6_92 : CV RX6 92 yX6_raiseOdds 6 := ⟨(tbm 615 (by decide +kernel) rfl), (tbm 616 (by decide +kernel) rfl), (tbm 617 (by decide +kernel) rfl), rfl, rfl⟩
theorem cvX8_62 : CV RX8 62 yX8_hasRoomFor 8 := ⟨(tbm 482 (by decide +kernel) rfl), (tbm 453 (by decide +kernel) rfl), (tbm 454 (by decide +kernel) rfl), rfl, rfl⟩
theorem cvX8_66 : CV RX8 66 yX8_addStores 8 := ⟨(tbm 483 (by decide +kernel) rfl), (tbm 485 (by decide +kernel) rfl), (tbm 6 (by decide +kernel) rfl), rfl, rfl⟩
theorem cvX8_70 : CV RX8 70 yX8_addCompany 8 := ⟨(tbm 487 (by decide +kernel) rfl), (tbm 489 (by decide +kernel) rfl), (tbm 7 (by decide +kernel) rfl), rfl, rfl⟩
theorem cvX8_74 : CV RX8 74 yX8_addMoney 8 := ⟨(tbm 491 (by decide +kernel) rfl), (tbm 493 (by decide +kernel) rfl), (tbm 8 (by decide +kernel) rfl), rfl, rfl⟩
theorem cvX8_77 : CV RX8 77 yX8_addGood 8 := ⟨(tbm 495 (by decide +kernel) rfl), (tbm 497 (by decide +kernel) rfl), (tbm 9 (by decide +kernel) rfl), rfl, rfl⟩
theorem cvX8_81 : CV RX8 81 yX8_addHorse 8 := ⟨(tbm 499 (by decide +kernel) rfl), (tbm 501 (by decide +kernel) rfl), (tbm 10 (by decide +kernel) rfl), rfl, rfl⟩
theorem cvX9_38 : CV RX9 38 yX1_become 1 := ⟨(tbm 681 (by decide +kernel) rfl), (tbm 573 (by decide +kernel) rfl), (tbm 574 (by decide +kernel) rfl), rfl, rfl⟩
theorem cvX9_49 : CV RX9 49 yX1_eatADay 1 := ⟨(tbm 688 (by decide +kernel) rfl), (tbm 584 (by decide +kernel) rfl), (tbm 585 (by decide +kernel) rfl), rfl, rfl⟩
theorem cvX9_53 : CV RX9 53 yX9_compareRow 9 := ⟨(tbm 689 (by decide +kernel) rfl), (tbm 691 (by decide +kernel) rfl), (tbm 23 (by decide +kernel) rfl), rfl, rfl⟩
theorem cvX9_57 : CV RX9 57 yX1_menOfAll 1 := ⟨(tbm 693 (by decide +kernel) rfl), (tbm 528 (by decide +kernel) rfl), (tbm 529 (by decide +kernel) rfl), rfl, rfl⟩
theorem cvX9_72 : CV RX9 72 yX6_owedTo 6 := ⟨(tbm 733 (by decide +kernel) rfl), (tbm 719 (by decide +kernel) rfl), (tbm 720 (by decide +kernel) rfl), rfl, rfl⟩
theorem cvX9_78 : CV RX9 78 yX9_strikeGreatestDebt 9 := ⟨(tbm 734 (by decide +kernel) rfl), (tbm 736 (by decide +kernel) rfl), (tbm 24 (by decide +kernel) rfl), rfl, rfl⟩
theorem cvL_13 : CV RL 13 yX10_feed 10 := ⟨(tbm 412 (by decide +kernel) rfl), (tbm 413 (by decide +kernel) rfl), (tbm 414 (by decide +kernel) rfl), rfl, rfl⟩
theorem cvL_17 : CV RL 17 yX11_feed 11 := ⟨(tbm 942 (by decide +kernel) rfl), (tbm 943 (by decide +kernel) rfl), (tbm 944 (by decide +kernel) rfl), rfl, rfl⟩
theorem cvL_18 : CV RL 18 yX10_town 10 := ⟨(tbm 425 (by decide +kernel) rfl), (tbm 426 (by decide +kernel) rfl), (tbm 427 (by decide +kernel) rfl), rfl, rfl⟩
theorem cvL_22 : CV RL 22 yX11_town 11 := ⟨(tbm 952 (by decide +kernel) rfl), (tbm 953 (by decide +kernel) rfl), (tbm 954 (by decide +kernel) rfl), rfl, rfl⟩
theorem cvL_23 : CV RL 23 yX10_fault 10 := ⟨(tbm 519 (by decide +kernel) rfl), (tbm 520 (by decide +kernel) rfl), (tbm 521 (by decide +kernel) rfl), rfl, rfl⟩
theorem cvL_26 : CV RL 26 yX11_fault 11 := ⟨(tbm 1006 (by decide +kernel) rfl), (tbm 1007 (by decide +kernel) rfl), (tbm 1008 (by decide +kernel) rfl), rfl, rfl⟩
theorem cvL_27 : CV RL 27 yX10_told 10 := ⟨(tbm 523 (by decide +kernel) rfl), (tbm 524 (by decide +kernel) rfl), (tbm 525 (by decide +kernel) rfl), rfl, rfl⟩
theorem cvL_30 : CV RL 30 yX11_told 11 := ⟨(tbm 1010 (by decide +kernel) rfl), (tbm 1011 (by decide +kernel) rfl), (tbm 1012 (by decide +kernel) rfl), rfl, rfl⟩
theorem cvL_31 : CV RL 31 yX10_company 10 := ⟨(tbm 531 (by decide +kernel) rfl), (tbm 532 (by decide +kernel) rfl), (tbm 533 (by decide +kernel) rfl), rfl, rfl⟩
theorem cvL_35 : CV RL 35 yX11_company 11 := ⟨(tbm 1018 (by decide +kernel) rfl), (tbm 1019 (by decide +kernel) rfl), (tbm 1020 (by decide +kernel) rfl), rfl, rfl⟩
theorem cvL_36 : CV RL 36 yX10_money 10 := ⟨(tbm 540 (by decide +kernel) rfl), (tbm 541 (by decide +kernel) rfl), (tbm 542 (by decide +kernel) rfl), rfl, rfl⟩
theorem cvL_39 : CV RL 39 yX11_money 11 := ⟨(tbm 1027 (by decide +kernel) rfl), (tbm 1028 (by decide +kernel) rfl), (tbm 1029 (by decide +kernel) rfl), rfl, rfl⟩
theorem cvL_40 : CV RL 40 yX10_day 10 := ⟨(tbm 548 (by decide +kernel) rfl), (tbm 549 (by decide +kernel) rfl), (tbm 550 (by decide +kernel) rfl), rfl, rfl⟩
theorem cvL_43 : CV RL 43 yX11_day 11 := ⟨(tbm 1044 (by decide +kernel) rfl), (tbm 1045 (by decide +kernel) rfl), (tbm 1046 (by decide +kernel) rfl), rfl, rfl⟩
theorem cvL_44 : CV RL 44 yX10_gun 10 := ⟨(tbm 607 (by decide +kernel) rfl), (tbm 608 (by decide +kernel) rfl), (tbm 609 (by decide +kernel) rfl), rfl, rfl⟩
theorem cvL_47 : CV RL 47 yX11_gun 11 := ⟨(tbm 1073 (by decide +kernel) rfl), (tbm 1074 (by decide +kernel) rfl), (tbm 1075 (by decide +kernel) rfl), rfl, rfl⟩
theorem cvL_48 : CV RL 48 yX10_sally 10 := ⟨(tbm 620 (by decide +kernel) rfl), (tbm 621 (by decide +kernel) rfl), (tbm 622 (by decide +kernel) rfl), rfl, rfl⟩
theorem cvL_51 : CV RL 51 yX11_sally 11 := ⟨(tbm 1081 (by decide +kernel) rfl), (tbm 1082 (by decide +kernel) rfl), (tbm 1083 (by decide +kernel) rfl), rfl, rfl⟩
theorem cvL_52 : CV RL 52 yX10_relief 10 := ⟨(tbm 625 (by decide +kernel) rfl), (tbm 626 (by decide +kernel) rfl), (tbm 627 (by decide +kernel) rfl), rfl, rfl⟩
theorem cvL_56 : CV RL 56 yX11_relief 11 := ⟨(tbm 1086 (by decide +kernel) rfl), (tbm 1087 (by decide +kernel) rfl), (tbm 1088 (by decide +kernel) rfl), rfl, rfl⟩
theorem cvL_57 : CV RL 57 yX10_drift 10 := ⟨(tbm 629 (by decide +kernel) rfl), (tbm 630 (by decide +kernel) rfl), (tbm 631 (by decide +kernel) rfl), rfl, rfl⟩
theorem cvL_60 : CV RL 60 yX11_drift 11 := ⟨(tbm 1090 (by decide +kernel) rfl), (tbm 1091 (by decide +kernel) rfl), (tbm 1092 (by decide +kernel) rfl), rfl, rfl⟩
theorem cvL_61 : CV RL 61 yX10_undo 10 := ⟨(tbm 644 (by decide +kernel) rfl), (tbm 645 (by decide +kernel) rfl), (tbm 646 (by decide +kernel) rfl), rfl, rfl⟩
theorem cvL_64 : CV RL 64 yX11_undo 11 := ⟨(tbm 1035 (by decide +kernel) rfl), (tbm 1036 (by decide +kernel) rfl), (tbm 1037 (by decide +kernel) rfl), rfl, rfl⟩
theorem cvL_65 : CV RL 65 yX10_costs 10 := ⟨(tbm 652 (by decide +kernel) rfl), (tbm 653 (by decide +kernel) rfl), (tbm 654 (by decide +kernel) rfl), rfl, rfl⟩
theorem cvL_68 : CV RL 68 yX11_costs 11 := ⟨(tbm 1102 (by decide +kernel) rfl), (tbm 1103 (by decide +kernel) rfl), (tbm 1104 (by decide +kernel) rfl), rfl, rfl⟩
theorem cvL_69 : CV RL 69 yX10_promise 10 := ⟨(tbm 663 (by decide +kernel) rfl), (tbm 664 (by decide +kernel) rfl), (tbm 665 (by decide +kernel) rfl), rfl, rfl⟩
theorem cvL_72 : CV RL 72 yX11_promise 11 := ⟨(tbm 1114 (by decide +kernel) rfl), (tbm 1115 (by decide +kernel) rfl), (tbm 1116 (by decide +kernel) rfl), rfl, rfl⟩
theorem cvL_73 : CV RL 73 yX10_rations 10 := ⟨(tbm 672 (by decide +kernel) rfl), (tbm 673 (by decide +kernel) rfl), (tbm 674 (by decide +kernel) rfl), rfl, rfl⟩
theorem cvL_76 : CV RL 76 yX11_rations 11 := ⟨(tbm 1126 (by decide +kernel) rfl), (tbm 1127 (by decide +kernel) rfl), (tbm 1128 (by decide +kernel) rfl), rfl, rfl⟩
theorem cvL_77 : CV RL 77 yX10_firstToDesert 10 := ⟨(tbm 695 (by decide +kernel) rfl), (tbm 696 (by decide +kernel) rfl), (tbm 697 (by decide +kernel) rfl), rfl, rfl⟩
theorem cvL_80 : CV RL 80 yX11_firstToDesert 11 := ⟨(tbm 1131 (by decide +kernel) rfl), (tbm 1132 (by decide +kernel) rfl), (tbm 1133 (by decide +kernel) rfl), rfl, rfl⟩
theorem cvL_81 : CV RL 81 yX10_holds 10 := ⟨(tbm 703 (by decide +kernel) rfl), (tbm 704 (by decide +kernel) rfl), (tbm 705 (by decide +kernel) rfl), rfl, rfl⟩
theorem cvL_84 : CV RL 84 yX11_holds 11 := ⟨(tbm 1135 (by decide +kernel) rfl), (tbm 1136 (by decide +kernel) rfl), (tbm 1137 (by decide +kernel) rfl), rfl, rfl⟩
theorem cvL_85 : CV RL 85 yX10_owed 10 := ⟨(tbm 711 (by decide +kernel) rfl), (tbm 712 (by decide +kernel) rfl), (tbm 713 (by decide +kernel) rfl), rfl, rfl⟩
theorem cvL_88 : CV RL 88 yX11_owed 11 := ⟨(tbm 1139 (by decide +kernel) rfl), (tbm 1140 (by decide +kernel) rfl), (tbm 1141 (by decide +kernel) rfl), rfl, rfl⟩
theorem cvL_89 : CV RL 89 yX10_least 10 := ⟨(tbm 725 (by decide +kernel) rfl), (tbm 726 (by decide +kernel) rfl), (tbm 727 (by decide +kernel) rfl), rfl, rfl⟩
theorem cvL_92 : CV RL 92 yX11_least 11 := ⟨(tbm 1148 (by decide +kernel) rfl), (tbm 1149 (by decide +kernel) rfl), (tbm 1150 (by decide +kernel) rfl), rfl, rfl⟩
theorem cvL_93 : CV RL 93 yX10_bought 10 := ⟨(tbm 738 (by decide +kernel) rfl), (tbm 739 (by decide +kernel) rfl), (tbm 740 (by decide +kernel) rfl), rfl, rfl⟩
theorem cvL_96 : CV RL 96 yX11_bought 11 := ⟨(tbm 1152 (by decide +kernel) rfl), (tbm 1153 (by decide +kernel) rfl), (tbm 1154 (by decide +kernel) rfl), rfl, rfl⟩
theorem cvL_97 : CV RL 97 yX10_offer 10 := ⟨(tbm 745 (by decide +kernel) rfl), (tbm 746 (by decide +kernel) rfl), (tbm 747 (by decide +kernel) rfl), rfl, rfl⟩
theorem cvL_100 : CV RL 100 yX11_offer 11 := ⟨(tbm 1160 (by decide +kernel) rfl), (tbm 1161 (by decide +kernel) rfl), (tbm 1162 (by decide +kernel) rfl), rfl, rfl⟩
theorem cvL_101 : CV RL 101 yX10_show 10 := ⟨(tbm 750 (by decide +kernel) rfl), (tbm 751 (by decide +kernel) rfl), (tbm 752 (by decide +kernel) rfl), rfl, rfl⟩
theorem cvL_105 : CV RL 105 yX11_show 11 := ⟨(tbm 1166 (by decide +kernel) rfl), (tbm 1167 (by decide +kernel) rfl), (tbm 1168 (by decide +kernel) rfl), rfl, rfl⟩
theorem cvL_106 : CV RL 106 yX10_forged 10 := ⟨(tbm 758 (by decide +kernel) rfl), (tbm 759 (by decide +kernel) rfl), (tbm 760 (by decide +kernel) rfl), rfl, rfl⟩
theorem cvL_109 : CV RL 109 yX11_forged 11 := ⟨(tbm 1170 (by decide +kernel) rfl), (tbm 1171 (by decide +kernel) rfl), (tbm 1172 (by decide +kernel) rfl), rfl, rfl⟩
theorem cvL_110 : CV RL 110 yX10_weighFirst 10 := ⟨(tbm 770 (by decide +kernel) rfl), (tbm 771 (by decide +kernel) rfl), (tbm 772 (by decide +kernel) rfl), rfl, rfl⟩
theorem cvL_113 : CV RL 113 yX11_weighFirst 11 := ⟨(tbm 1178 (by decide +kernel) rfl), (tbm 1179 (by decide +kernel) rfl), (tbm 1180 (by decide +kernel) rfl), rfl, rfl⟩
theorem cvL_114 : CV RL 114 yX10_write 10 := ⟨(tbm 778 (by decide +kernel) rfl), (tbm 779 (by decide +kernel) rfl), (tbm 780 (by decide +kernel) rfl), rfl, rfl⟩
theorem cvL_117 : CV RL 117 yX11_write 11 := ⟨(tbm 1182 (by decide +kernel) rfl), (tbm 1183 (by decide +kernel) rfl), (tbm 1184 (by decide +kernel) rfl), rfl, rfl⟩
theorem cvL_118 : CV RL 118 yX10_tear 10 := ⟨(tbm 786 (by decide +kernel) rfl), (tbm 787 (by decide +kernel) rfl), (tbm 788 (by decide +kernel) rfl), rfl, rfl⟩
theorem cvL_121 : CV RL 121 yX11_tear 11 := ⟨(tbm 1186 (by decide +kernel) rfl), (tbm 1187 (by decide +kernel) rfl), (tbm 1188 (by decide +kernel) rfl), rfl, rfl⟩
theorem cvL_122 : CV RL 122 yX10_judge 10 := ⟨(tbm 790 (by decide +kernel) rfl), (tbm 791 (by decide +kernel) rfl), (tbm 792 (by decide +kernel) rfl), rfl, rfl⟩
theorem cvL_125 : CV RL 125 yX11_judge 11 := ⟨(tbm 1190 (by decide +kernel) rfl), (tbm 1191 (by decide +kernel) rfl), (tbm 1192 (by decide +kernel) rfl), rfl, rfl⟩
theorem cvL_126 : CV RL 126 yX10_seed 10 := ⟨(tbm 798 (by decide +kernel) rfl), (tbm 799 (by decide +kernel) rfl), (tbm 800 (by decide +kernel) rfl), rfl, rfl⟩
theorem cvL_129 : CV RL 129 yX11_seed 11 := ⟨(tbm 1194 (by decide +kernel) rfl), (tbm 1195 (by decide +kernel) rfl), (tbm 1196 (by decide +kernel) rfl), rfl, rfl⟩
theorem cvL_130 : CV RL 130 yX10_keep 10 := ⟨(tbm 802 (by decide +kernel) rfl), (tbm 803 (by decide +kernel) rfl), (tbm 804 (by decide +kernel) rfl), rfl, rfl⟩
theorem cvL_133 : CV RL 133 yX11_keep 11 := ⟨(tbm 1198 (by decide +kernel) rfl), (tbm 1199 (by decide +kernel) rfl), (tbm 1200 (by decide +kernel) rfl), rfl, rfl⟩
theorem cvL_134 : CV RL 134 yX10_goBack 10 := ⟨(tbm 807 (by decide +kernel) rfl), (tbm 808 (by decide +kernel) rfl), (tbm 809 (by decide +kernel) rfl), rfl, rfl⟩
theorem cvL_137 : CV RL 137 yX11_goBack 11 := ⟨(tbm 1202 (by decide +kernel) rfl), (tbm 1203 (by decide +kernel) rfl), (tbm 1204 (by decide +kernel) rfl), rfl, rfl⟩
theorem cvX11_107 : CV RX11 107 yX11_letterAt 11 := ⟨(tbm 960 (by decide +kernel) rfl), (tbm 962 (by decide +kernel) rfl), (tbm 27 (by decide +kernel) rfl), rfl, rfl⟩
theorem cvX11_117 : CV RX11 117 yX11_here 11 := ⟨(tbm 956 (by decide +kernel) rfl), (tbm 958 (by decide +kernel) rfl), (tbm 26 (by decide +kernel) rfl), rfl, rfl⟩
theorem cvX11_121 : CV RX11 121 yX11_fails 11 := ⟨(tbm 968 (by decide +kernel) rfl), (tbm 970 (by decide +kernel) rfl), (tbm 29 (by decide +kernel) rfl), rfl, rfl⟩
theorem cvX11_135 : CV RX11 135 yX11_takesNumber 11 := ⟨(tbm 980 (by decide +kernel) rfl), (tbm 982 (by decide +kernel) rfl), (tbm 32 (by decide +kernel) rfl), rfl, rfl⟩
theorem cvX11_150 : CV RX11 150 yX11_takesTown 11 := ⟨(tbm 976 (by decide +kernel) rfl), (tbm 978 (by decide +kernel) rfl), (tbm 31 (by decide +kernel) rfl), rfl, rfl⟩
theorem cvX11_154 : CV RX11 154 yX11_takesCompany 11 := ⟨(tbm 986 (by decide +kernel) rfl), (tbm 988 (by decide +kernel) rfl), (tbm 33 (by decide +kernel) rfl), rfl, rfl⟩
theorem cvX11_157 : CV RX11 157 yX11_takesKind 11 := ⟨(tbm 990 (by decide +kernel) rfl), (tbm 992 (by decide +kernel) rfl), (tbm 34 (by decide +kernel) rfl), rfl, rfl⟩
theorem cvX11_160 : CV RX11 160 yX11_takesGood 11 := ⟨(tbm 994 (by decide +kernel) rfl), (tbm 996 (by decide +kernel) rfl), (tbm 35 (by decide +kernel) rfl), rfl, rfl⟩
theorem cvX11_163 : CV RX11 163 yX11_takesHorse 11 := ⟨(tbm 998 (by decide +kernel) rfl), (tbm 1000 (by decide +kernel) rfl), (tbm 36 (by decide +kernel) rfl), rfl, rfl⟩
theorem cvX11_166 : CV RX11 166 yX11_takesWords 11 := ⟨(tbm 972 (by decide +kernel) rfl), (tbm 974 (by decide +kernel) rfl), (tbm 30 (by decide +kernel) rfl), rfl, rfl⟩
theorem cvX11_170 : CV RX11 170 yX11_takes 11 := ⟨(tbm 1002 (by decide +kernel) rfl), (tbm 1004 (by decide +kernel) rfl), (tbm 37 (by decide +kernel) rfl), rfl, rfl⟩
theorem cvX11_173 : CV RX11 173 yX11_takesClause 11 := ⟨(tbm 964 (by decide +kernel) rfl), (tbm 966 (by decide +kernel) rfl), (tbm 28 (by decide +kernel) rfl), rfl, rfl⟩
theorem cvX11_188 : CV RX11 188 yX11_menIn 11 := ⟨(tbm 1014 (by decide +kernel) rfl), (tbm 1016 (by decide +kernel) rfl), (tbm 38 (by decide +kernel) rfl), rfl, rfl⟩
theorem cvX11_191 : CV RX11 191 yX11_isCompany 11 := ⟨(tbm 1022 (by decide +kernel) rfl), (tbm 1024 (by decide +kernel) rfl), (tbm 39 (by decide +kernel) rfl), rfl, rfl⟩
theorem cvX11_195 : CV RX11 195 yX11_isMoney 11 := ⟨(tbm 1031 (by decide +kernel) rfl), (tbm 1033 (by decide +kernel) rfl), (tbm 40 (by decide +kernel) rfl), rfl, rfl⟩
theorem cvX11_201 : CV RX11 201 yX11_eats 11 := ⟨(tbm 1065 (by decide +kernel) rfl), (tbm 1067 (by decide +kernel) rfl), (tbm 45 (by decide +kernel) rfl), rfl, rfl⟩
theorem cvX11_205 : CV RX11 205 yX11_isPaid 11 := ⟨(tbm 1069 (by decide +kernel) rfl), (tbm 1071 (by decide +kernel) rfl), (tbm 46 (by decide +kernel) rfl), rfl, rfl⟩
theorem cvX11_209 : CV RX11 209 yX11_copy 11 := ⟨(tbm 1040 (by decide +kernel) rfl), (tbm 1042 (by decide +kernel) rfl), (tbm 41 (by decide +kernel) rfl), rfl, rfl⟩
theorem cvX11_218 : CV RX11 218 yX11_isOver 11 := ⟨(tbm 1053 (by decide +kernel) rfl), (tbm 1055 (by decide +kernel) rfl), (tbm 42 (by decide +kernel) rfl), rfl, rfl⟩
theorem cvX11_221 : CV RX11 221 yX11_minds 11 := ⟨(tbm 1057 (by decide +kernel) rfl), (tbm 1059 (by decide +kernel) rfl), (tbm 43 (by decide +kernel) rfl), rfl, rfl⟩
theorem cvX11_224 : CV RX11 224 yX11_passes 11 := ⟨(tbm 1061 (by decide +kernel) rfl), (tbm 1063 (by decide +kernel) rfl), (tbm 44 (by decide +kernel) rfl), rfl, rfl⟩
theorem cvX11_227 : CV RX11 227 yX11_hears 11 := ⟨(tbm 1077 (by decide +kernel) rfl), (tbm 1079 (by decide +kernel) rfl), (tbm 47 (by decide +kernel) rfl), rfl, rfl⟩
theorem cvX11_240 : CV RX11 240 yX11_draw 11 := ⟨(tbm 1094 (by decide +kernel) rfl), (tbm 1096 (by decide +kernel) rfl), (tbm 48 (by decide +kernel) rfl), rfl, rfl⟩
theorem cvX11_243 : CV RX11 243 yX11_isGood 11 := ⟨(tbm 1106 (by decide +kernel) rfl), (tbm 1108 (by decide +kernel) rfl), (tbm 49 (by decide +kernel) rfl), rfl, rfl⟩
theorem cvX11_246 : CV RX11 246 yX11_costsBy 11 := ⟨(tbm 1110 (by decide +kernel) rfl), (tbm 1112 (by decide +kernel) rfl), (tbm 50 (by decide +kernel) rfl), rfl, rfl⟩
theorem cvX11_258 : CV RX11 258 yX11_worthOf 11 := ⟨(tbm 1119 (by decide +kernel) rfl), (tbm 1121 (by decide +kernel) rfl), (tbm 51 (by decide +kernel) rfl), rfl, rfl⟩
theorem cvX11_265 : CV RX11 265 yX11_owedTo 11 := ⟨(tbm 1144 (by decide +kernel) rfl), (tbm 1146 (by decide +kernel) rfl), (tbm 52 (by decide +kernel) rfl), rfl, rfl⟩
theorem cvX11_268 : CV RX11 268 yX11_hungerFor 11 := ⟨(tbm 1156 (by decide +kernel) rfl), (tbm 1158 (by decide +kernel) rfl), (tbm 53 (by decide +kernel) rfl), rfl, rfl⟩
theorem cvX11_275 : CV RX11 275 yX11_isBehind 11 := ⟨(tbm 1174 (by decide +kernel) rfl), (tbm 1176 (by decide +kernel) rfl), (tbm 54 (by decide +kernel) rfl), rfl, rfl⟩
theorem kX10_86 : Cond.constant RX10 86 (-1000000002) ∈ tb := (tbm 419 (by decide +kernel) rfl)
theorem kX10_90 : Cond.constant RX10 90 (-1000000004) ∈ tb := (tbm 420 (by decide +kernel) rfl)
theorem kX10_168 : Cond.constant RX10 168 (-1000000001) ∈ tb := (tbm 539 (by decide +kernel) rfl)
theorem kX10_213 : Cond.constant RX10 213 (-1000000003) ∈ tb := (tbm 563 (by decide +kernel) rfl)
theorem kX10_226 : Cond.constant RX10 226 (1103515245) ∈ tb := (tbm 641 (by decide +kernel) rfl)
theorem kX10_227 : Cond.constant RX10 227 (2147483647) ∈ tb := (tbm 642 (by decide +kernel) rfl)
theorem kX10_228 : Cond.constant RX10 228 (65536) ∈ tb := (tbm 643 (by decide +kernel) rfl)
theorem kX10_247 : Cond.constant RX10 247 (1000000) ∈ tb := (tbm 671 (by decide +kernel) rfl)
theorem kX11_99 : Cond.constant RX11 99 (-1000000002) ∈ tb := (tbm 950 (by decide +kernel) rfl)
theorem kX11_103 : Cond.constant RX11 103 (-1000000004) ∈ tb := (tbm 951 (by decide +kernel) rfl)
theorem kX11_194 : Cond.constant RX11 194 (-1000000001) ∈ tb := (tbm 1026 (by decide +kernel) rfl)
theorem kX11_212 : Cond.constant RX11 212 (-1000000003) ∈ tb := (tbm 1039 (by decide +kernel) rfl)
theorem kX11_239 : Cond.constant RX11 239 (65536) ∈ tb := (tbm 1101 (by decide +kernel) rfl)
theorem klX11_95 : Cond.constantLong RX11 95 (3) ∈ tb := (tbm 1051 (by decide +kernel) rfl)
theorem klX11_97 : Cond.constantLong RX11 97 (255) ∈ tb := (tbm 946 (by decide +kernel) rfl)
theorem klX11_125 : Cond.constantLong RX11 125 (48) ∈ tb := (tbm 984 (by decide +kernel) rfl)
theorem klX11_127 : Cond.constantLong RX11 127 (57) ∈ tb := (tbm 985 (by decide +kernel) rfl)
theorem klX11_216 : Cond.constantLong RX11 216 (30) ∈ tb := (tbm 1052 (by decide +kernel) rfl)
theorem klX11_231 : Cond.constantLong RX11 231 (99) ∈ tb := (tbm 1085 (by decide +kernel) rfl)
theorem klX11_233 : Cond.constantLong RX11 233 (1103515245) ∈ tb := (tbm 1098 (by decide +kernel) rfl)
theorem klX11_235 : Cond.constantLong RX11 235 (12345) ∈ tb := (tbm 1099 (by decide +kernel) rfl)
theorem klX11_237 : Cond.constantLong RX11 237 (2147483648) ∈ tb := (tbm 1100 (by decide +kernel) rfl)
theorem klX11_250 : Cond.constantLong RX11 250 (1000000) ∈ tb := (tbm 1123 (by decide +kernel) rfl)
theorem klX11_252 : Cond.constantLong RX11 252 (100) ∈ tb := (tbm 1124 (by decide +kernel) rfl)
theorem klX11_254 : Cond.constantLong RX11 254 (1000) ∈ tb := (tbm 1125 (by decide +kernel) rfl)
theorem klX11_256 : Cond.constantLong RX11 256 (60) ∈ tb := (tbm 1118 (by decide +kernel) rfl)
theorem klX11_261 : Cond.constantLong RX11 261 (5) ∈ tb := (tbm 1130 (by decide +kernel) rfl)
theorem klX11_263 : Cond.constantLong RX11 263 (2) ∈ tb := (tbm 1143 (by decide +kernel) rfl)
theorem klX11_271 : Cond.constantLong RX11 271 (999) ∈ tb := (tbm 1164 (by decide +kernel) rfl)
theorem klX11_273 : Cond.constantLong RX11 273 (99999999) ∈ tb := (tbm 1165 (by decide +kernel) rfl)
theorem kX10_283 : Cond.constant RX10 283 (99999999) ∈ tb := (tbm 749 (by decide +kernel) rfl)
theorem clX10_7 : CL RX10 7 7 := ⟨RX7, TX7, 2, cf7, (tbm 77 (by decide +kernel) rfl), (tbm 78 (by decide +kernel) rfl), (tbm 57 (by decide +kernel) rfl), by decide +kernel⟩
theorem clX10_16 : CL RX10 16 4 := ⟨RX4, TX4, 4, cf4, (tbm 94 (by decide +kernel) rfl), (tbm 95 (by decide +kernel) rfl), (tbm 58 (by decide +kernel) rfl), by decide +kernel⟩
theorem clX10_23 : CL RX10 23 8 := ⟨RX8, TX8, 16, cf8, (tbm 115 (by decide +kernel) rfl), (tbm 116 (by decide +kernel) rfl), (tbm 59 (by decide +kernel) rfl), by decide +kernel⟩
theorem clX10_33 : CL RX10 33 6 := ⟨RX6, TX6, 7, cf6, (tbm 195 (by decide +kernel) rfl), (tbm 196 (by decide +kernel) rfl), (tbm 60 (by decide +kernel) rfl), by decide +kernel⟩
theorem clX10_40 : CL RX10 40 3 := ⟨RX3, TX3, 3, cf3, (tbm 263 (by decide +kernel) rfl), (tbm 264 (by decide +kernel) rfl), (tbm 62 (by decide +kernel) rfl), by decide +kernel⟩
theorem clX10_47 : CL RX10 47 2 := ⟨RX2, TX2, 3, cf2, (tbm 283 (by decide +kernel) rfl), (tbm 355 (by decide +kernel) rfl), (tbm 66 (by decide +kernel) rfl), by decide +kernel⟩
theorem clX10_53 : CL RX10 53 9 := ⟨RX9, TX9, 5, cf9, (tbm 285 (by decide +kernel) rfl), (tbm 286 (by decide +kernel) rfl), (tbm 63 (by decide +kernel) rfl), by decide +kernel⟩
theorem clX10_60 : CL RX10 60 5 := ⟨RX5, TX5, 6, cf5, (tbm 312 (by decide +kernel) rfl), (tbm 313 (by decide +kernel) rfl), (tbm 64 (by decide +kernel) rfl), by decide +kernel⟩
theorem clX10_67 : CL RX10 67 0 := ⟨RX0, TX0, 3, cf0, (tbm 338 (by decide +kernel) rfl), (tbm 339 (by decide +kernel) rfl), (tbm 65 (by decide +kernel) rfl), by decide +kernel⟩
theorem clX2_7 : CL RX2 7 6 := ⟨RX6, TX6, 7, cf6, (tbm 360 (by decide +kernel) rfl), (tbm 196 (by decide +kernel) rfl), (tbm 60 (by decide +kernel) rfl), by decide +kernel⟩
theorem clX3_9 : CL RX3 9 6 := ⟨RX6, TX6, 7, cf6, (tbm 269 (by decide +kernel) rfl), (tbm 196 (by decide +kernel) rfl), (tbm 60 (by decide +kernel) rfl), by decide +kernel⟩
theorem clX6_9 : CL RX6 9 1 := ⟨RX1, TX1, 6, cf1, (tbm 201 (by decide +kernel) rfl), (tbm 202 (by decide +kernel) rfl), (tbm 61 (by decide +kernel) rfl), by decide +kernel⟩
theorem clX9_9 : CL RX9 9 1 := ⟨RX1, TX1, 6, cf1, (tbm 291 (by decide +kernel) rfl), (tbm 202 (by decide +kernel) rfl), (tbm 61 (by decide +kernel) rfl), by decide +kernel⟩
theorem clL_7 : CL RL 7 10 := ⟨RX10, TX10, 12, cf10, (tbm 69 (by decide +kernel) rfl), (tbm 70 (by decide +kernel) rfl), (tbm 56 (by decide +kernel) rfl), by decide +kernel⟩
theorem clL_10 : CL RL 10 11 := ⟨RX11, TX11, 41, cf11, (tbm 811 (by decide +kernel) rfl), (tbm 812 (by decide +kernel) rfl), (tbm 67 (by decide +kernel) rfl), by decide +kernel⟩
theorem flX1_25 : FL RX1 25 1 4 false := ⟨RX1, TX1, 6, cf1, by decide, (tbm 218 (by decide +kernel) rfl), rfl⟩
theorem flX2_10 : FL RX2 10 2 0 true := ⟨RX2, TX2, 3, cf2, by decide, (tbm 362 (by decide +kernel) rfl), rfl⟩
theorem flX2_16 : FL RX2 16 2 1 false := ⟨RX2, TX2, 3, cf2, by decide, (tbm 364 (by decide +kernel) rfl), rfl⟩
theorem flX2_20 : FL RX2 20 2 2 false := ⟨RX2, TX2, 3, cf2, by decide, (tbm 366 (by decide +kernel) rfl), rfl⟩
theorem flX4_22 : FL RX4 22 4 3 false := ⟨RX4, TX4, 4, cf4, by decide, (tbm 104 (by decide +kernel) rfl), rfl⟩
theorem flX8_15 : FL RX8 15 8 1 false := ⟨RX8, TX8, 16, cf8, by decide, (tbm 124 (by decide +kernel) rfl), rfl⟩
theorem flX8_19 : FL RX8 19 8 2 false := ⟨RX8, TX8, 16, cf8, by decide, (tbm 126 (by decide +kernel) rfl), rfl⟩
theorem flX9_25 : FL RX9 25 9 3 false := ⟨RX9, TX9, 5, cf9, by decide, (tbm 298 (by decide +kernel) rfl), rfl⟩
theorem cw_X10_init : CW yX10_init cX10_init 2 none 0 := ⟨(tbm 73 (by decide +kernel) rfl), (tbm 56 (by decide +kernel) rfl), by decide +kernel, by decide⟩
theorem cw_X10_beginSiege : CW yX10_beginSiege cX10_beginSiege 2 none 0 := ⟨(tbm 506 (by decide +kernel) rfl), (tbm 56 (by decide +kernel) rfl), by decide +kernel, by decide⟩
theorem cw_X10_bought : CW yX10_bought cX10_bought 5 (some .int) 2 := ⟨(tbm 741 (by decide +kernel) rfl), (tbm 56 (by decide +kernel) rfl), by decide +kernel, by decide⟩
theorem cw_X10_company : CW yX10_company cX10_company 3 (some .int) 2 := ⟨(tbm 534 (by decide +kernel) rfl), (tbm 56 (by decide +kernel) rfl), by decide +kernel, by decide⟩
theorem cw_X10_costs : CW yX10_costs cX10_costs 2 (some .int) 1 := ⟨(tbm 655 (by decide +kernel) rfl), (tbm 56 (by decide +kernel) rfl), by decide +kernel, by decide⟩
theorem cw_X10_day : CW yX10_day cX10_day 5 (some .int) 2 := ⟨(tbm 551 (by decide +kernel) rfl), (tbm 56 (by decide +kernel) rfl), by decide +kernel, by decide⟩
theorem cw_X10_drift : CW yX10_drift cX10_drift 5 (some .int) 2 := ⟨(tbm 632 (by decide +kernel) rfl), (tbm 56 (by decide +kernel) rfl), by decide +kernel, by decide⟩
theorem cw_X10_fault : CW yX10_fault cX10_fault 1 (some .int) 0 := ⟨(tbm 522 (by decide +kernel) rfl), (tbm 56 (by decide +kernel) rfl), by decide +kernel, by decide⟩
theorem cw_X10_feed : CW yX10_feed cX10_feed 2 (some .int) 1 := ⟨(tbm 415 (by decide +kernel) rfl), (tbm 56 (by decide +kernel) rfl), by decide +kernel, by decide⟩
theorem cw_X10_firstToDesert : CW yX10_firstToDesert cX10_firstToDesert 2 (some .int) 1 := ⟨(tbm 698 (by decide +kernel) rfl), (tbm 56 (by decide +kernel) rfl), by decide +kernel, by decide⟩
theorem cw_X10_forged : CW yX10_forged cX10_forged 1 (some .int) 0 := ⟨(tbm 761 (by decide +kernel) rfl), (tbm 56 (by decide +kernel) rfl), by decide +kernel, by decide⟩
theorem cw_X10_goBack : CW yX10_goBack cX10_goBack 2 (some .int) 1 := ⟨(tbm 810 (by decide +kernel) rfl), (tbm 56 (by decide +kernel) rfl), by decide +kernel, by decide⟩
theorem cw_X10_gun : CW yX10_gun cX10_gun 1 (some .int) 0 := ⟨(tbm 610 (by decide +kernel) rfl), (tbm 56 (by decide +kernel) rfl), by decide +kernel, by decide⟩
theorem cw_X10_holds : CW yX10_holds cX10_holds 2 (some .int) 1 := ⟨(tbm 706 (by decide +kernel) rfl), (tbm 56 (by decide +kernel) rfl), by decide +kernel, by decide⟩
theorem cw_X10_isBesieged : CW yX10_isBesieged cX10_isBesieged 1 (some .boolean) 0 := ⟨(tbm 562 (by decide +kernel) rfl), (tbm 56 (by decide +kernel) rfl), by decide +kernel, by decide⟩
theorem cw_X10_isCompany : CW yX10_isCompany cX10_isCompany 2 (some .boolean) 1 := ⟨(tbm 538 (by decide +kernel) rfl), (tbm 56 (by decide +kernel) rfl), by decide +kernel, by decide⟩
theorem cw_X10_isGood : CW yX10_isGood cX10_isGood 2 (some .boolean) 1 := ⟨(tbm 659 (by decide +kernel) rfl), (tbm 56 (by decide +kernel) rfl), by decide +kernel, by decide⟩
theorem cw_X10_isMoney : CW yX10_isMoney cX10_isMoney 2 (some .boolean) 1 := ⟨(tbm 547 (by decide +kernel) rfl), (tbm 56 (by decide +kernel) rfl), by decide +kernel, by decide⟩
theorem cw_X10_isRation : CW yX10_isRation cX10_isRation 1 (some .boolean) 1 := ⟨(tbm 558 (by decide +kernel) rfl), (tbm 56 (by decide +kernel) rfl), by decide +kernel, by decide⟩
theorem cw_X10_isReading : CW yX10_isReading cX10_isReading 1 (some .boolean) 1 := ⟨(tbm 717 (by decide +kernel) rfl), (tbm 56 (by decide +kernel) rfl), by decide +kernel, by decide⟩
theorem cw_X10_isWithin : CW yX10_isWithin cX10_isWithin 3 (some .boolean) 3 := ⟨(tbm 418 (by decide +kernel) rfl), (tbm 56 (by decide +kernel) rfl), by decide +kernel, by decide⟩
theorem cw_X10_judge : CW yX10_judge cX10_judge 1 (some .int) 0 := ⟨(tbm 793 (by decide +kernel) rfl), (tbm 56 (by decide +kernel) rfl), by decide +kernel, by decide⟩
theorem cw_X10_keep : CW yX10_keep cX10_keep 2 (some .int) 1 := ⟨(tbm 805 (by decide +kernel) rfl), (tbm 56 (by decide +kernel) rfl), by decide +kernel, by decide⟩
theorem cw_X10_least : CW yX10_least cX10_least 3 (some .int) 2 := ⟨(tbm 728 (by decide +kernel) rfl), (tbm 56 (by decide +kernel) rfl), by decide +kernel, by decide⟩
theorem cw_X10_leastHungerAt : CW yX10_leastHungerAt cX10_leastHungerAt 3 (some .int) 2 := ⟨(tbm 744 (by decide +kernel) rfl), (tbm 56 (by decide +kernel) rfl), by decide +kernel, by decide⟩
theorem cw_X10_money : CW yX10_money cX10_money 3 (some .int) 2 := ⟨(tbm 543 (by decide +kernel) rfl), (tbm 56 (by decide +kernel) rfl), by decide +kernel, by decide⟩
theorem cw_X10_nextDraw : CW yX10_nextDraw cX10_nextDraw 1 (some .int) 0 := ⟨(tbm 640 (by decide +kernel) rfl), (tbm 56 (by decide +kernel) rfl), by decide +kernel, by decide⟩
theorem cw_X10_offer : CW yX10_offer cX10_offer 3 (some .int) 2 := ⟨(tbm 748 (by decide +kernel) rfl), (tbm 56 (by decide +kernel) rfl), by decide +kernel, by decide⟩
theorem cw_X10_owed : CW yX10_owed cX10_owed 3 (some .int) 2 := ⟨(tbm 714 (by decide +kernel) rfl), (tbm 56 (by decide +kernel) rfl), by decide +kernel, by decide⟩
theorem cw_X10_passDayByDraws : CW yX10_passDayByDraws cX10_passDayByDraws 2 none 1 := ⟨(tbm 636 (by decide +kernel) rfl), (tbm 56 (by decide +kernel) rfl), by decide +kernel, by decide⟩
theorem cw_X10_priceAt : CW yX10_priceAt cX10_priceAt 2 (some .int) 2 := ⟨(tbm 662 (by decide +kernel) rfl), (tbm 56 (by decide +kernel) rfl), by decide +kernel, by decide⟩
theorem cw_X10_promise : CW yX10_promise cX10_promise 3 (some .int) 2 := ⟨(tbm 666 (by decide +kernel) rfl), (tbm 56 (by decide +kernel) rfl), by decide +kernel, by decide⟩
theorem cw_X10_rations : CW yX10_rations cX10_rations 3 (some .int) 2 := ⟨(tbm 675 (by decide +kernel) rfl), (tbm 56 (by decide +kernel) rfl), by decide +kernel, by decide⟩
theorem cw_X10_refusalOfDays : CW yX10_refusalOfDays cX10_refusalOfDays 3 (some .int) 2 := ⟨(tbm 555 (by decide +kernel) rfl), (tbm 56 (by decide +kernel) rfl), by decide +kernel, by decide⟩
theorem cw_X10_relief : CW yX10_relief cX10_relief 2 (some .int) 1 := ⟨(tbm 628 (by decide +kernel) rfl), (tbm 56 (by decide +kernel) rfl), by decide +kernel, by decide⟩
theorem cw_X10_sally : CW yX10_sally cX10_sally 3 (some .int) 2 := ⟨(tbm 623 (by decide +kernel) rfl), (tbm 56 (by decide +kernel) rfl), by decide +kernel, by decide⟩
theorem cw_X10_seed : CW yX10_seed cX10_seed 3 (some .int) 1 := ⟨(tbm 801 (by decide +kernel) rfl), (tbm 56 (by decide +kernel) rfl), by decide +kernel, by decide⟩
theorem cw_X10_show : CW yX10_show cX10_show 5 (some .int) 4 := ⟨(tbm 753 (by decide +kernel) rfl), (tbm 56 (by decide +kernel) rfl), by decide +kernel, by decide⟩
theorem cw_X10_tear : CW yX10_tear cX10_tear 2 (some .int) 0 := ⟨(tbm 789 (by decide +kernel) rfl), (tbm 56 (by decide +kernel) rfl), by decide +kernel, by decide⟩
theorem cw_X10_told : CW yX10_told cX10_told 2 (some .int) 1 := ⟨(tbm 526 (by decide +kernel) rfl), (tbm 56 (by decide +kernel) rfl), by decide +kernel, by decide⟩
theorem cw_X10_town : CW yX10_town cX10_town 2 (some .int) 0 := ⟨(tbm 428 (by decide +kernel) rfl), (tbm 56 (by decide +kernel) rfl), by decide +kernel, by decide⟩
theorem cw_X10_undo : CW yX10_undo cX10_undo 1 (some .int) 0 := ⟨(tbm 647 (by decide +kernel) rfl), (tbm 56 (by decide +kernel) rfl), by decide +kernel, by decide⟩
theorem cw_X10_weighFirst : CW yX10_weighFirst cX10_weighFirst 1 (some .int) 0 := ⟨(tbm 773 (by decide +kernel) rfl), (tbm 56 (by decide +kernel) rfl), by decide +kernel, by decide⟩
theorem cw_X10_worthWithin : CW yX10_worthWithin cX10_worthWithin 5 (some .int) 2 := ⟨(tbm 670 (by decide +kernel) rfl), (tbm 56 (by decide +kernel) rfl), by decide +kernel, by decide⟩
theorem cw_X10_write : CW yX10_write cX10_write 3 (some .int) 2 := ⟨(tbm 781 (by decide +kernel) rfl), (tbm 56 (by decide +kernel) rfl), by decide +kernel, by decide⟩
theorem cw_X0_init : CW yX0_init cX0_init 1 none 0 := ⟨(tbm 342 (by decide +kernel) rfl), (tbm 65 (by decide +kernel) rfl), by decide +kernel, by decide⟩
theorem cw_X0_add : CW yX0_add cX0_add 3 none 2 := ⟨(tbm 785 (by decide +kernel) rfl), (tbm 65 (by decide +kernel) rfl), by decide +kernel, by decide⟩
theorem cw_X0_firstWrong : CW yX0_firstWrong cX0_firstWrong 3 (some .int) 1 := ⟨(tbm 797 (by decide +kernel) rfl), (tbm 65 (by decide +kernel) rfl), by decide +kernel, by decide⟩
theorem cw_X1_init : CW yX1_init cX1_init 1 none 0 := ⟨(tbm 205 (by decide +kernel) rfl), (tbm 61 (by decide +kernel) rfl), by decide +kernel, by decide⟩
theorem cw_X1_become : CW yX1_become cX1_become 3 none 1 := ⟨(tbm 575 (by decide +kernel) rfl), (tbm 61 (by decide +kernel) rfl), by decide +kernel, by decide⟩
theorem cw_X1_begin : CW yX1_begin cX1_begin 3 none 1 := ⟨(tbm 514 (by decide +kernel) rfl), (tbm 61 (by decide +kernel) rfl), by decide +kernel, by decide⟩
theorem cw_X1_eatADay : CW yX1_eatADay cX1_eatADay 4 none 2 := ⟨(tbm 586 (by decide +kernel) rfl), (tbm 61 (by decide +kernel) rfl), by decide +kernel, by decide⟩
theorem cw_X1_isFed : CW yX1_isFed cX1_isFed 4 (some .boolean) 2 := ⟨(tbm 594 (by decide +kernel) rfl), (tbm 61 (by decide +kernel) rfl), by decide +kernel, by decide⟩
theorem cw_X1_menOfAll : CW yX1_menOfAll cX1_menOfAll 3 (some .int) 0 := ⟨(tbm 530 (by decide +kernel) rfl), (tbm 61 (by decide +kernel) rfl), by decide +kernel, by decide⟩
theorem cw_X1_starve : CW yX1_starve cX1_starve 3 none 2 := ⟨(tbm 598 (by decide +kernel) rfl), (tbm 61 (by decide +kernel) rfl), by decide +kernel, by decide⟩
theorem cw_X2_init : CW yX2_init cX2_init 1 none 0 := ⟨(tbm 358 (by decide +kernel) rfl), (tbm 66 (by decide +kernel) rfl), by decide +kernel, by decide⟩
theorem cw_X3_init : CW yX3_init cX3_init 2 none 0 := ⟨(tbm 267 (by decide +kernel) rfl), (tbm 62 (by decide +kernel) rfl), by decide +kernel, by decide⟩
theorem cw_X3_clear : CW yX3_clear cX3_clear 1 none 0 := ⟨(tbm 518 (by decide +kernel) rfl), (tbm 62 (by decide +kernel) rfl), by decide +kernel, by decide⟩
theorem cw_X3_popInto : CW yX3_popInto cX3_popInto 2 none 1 := ⟨(tbm 651 (by decide +kernel) rfl), (tbm 62 (by decide +kernel) rfl), by decide +kernel, by decide⟩
theorem cw_X3_push : CW yX3_push cX3_push 2 none 1 := ⟨(tbm 567 (by decide +kernel) rfl), (tbm 62 (by decide +kernel) rfl), by decide +kernel, by decide⟩
theorem cw_X4_init : CW yX4_init cX4_init 1 none 0 := ⟨(tbm 98 (by decide +kernel) rfl), (tbm 58 (by decide +kernel) rfl), by decide +kernel, by decide⟩
theorem cw_X4_clauseOf : CW yX4_clauseOf cX4_clauseOf 1 (some .int) 1 := ⟨(tbm 447 (by decide +kernel) rfl), (tbm 58 (by decide +kernel) rfl), by decide +kernel, by decide⟩
theorem cw_X4_isFigure : CW yX4_isFigure cX4_isFigure 1 (some .boolean) 1 := ⟨(tbm 472 (by decide +kernel) rfl), (tbm 58 (by decide +kernel) rfl), by decide +kernel, by decide⟩
theorem cw_X4_readClause : CW yX4_readClause cX4_readClause 4 none 2 := ⟨(tbm 444 (by decide +kernel) rfl), (tbm 58 (by decide +kernel) rfl), by decide +kernel, by decide⟩
theorem cw_X4_readEnd : CW yX4_readEnd cX4_readEnd 2 none 1 := ⟨(tbm 477 (by decide +kernel) rfl), (tbm 58 (by decide +kernel) rfl), by decide +kernel, by decide⟩
theorem cw_X4_readNumber : CW yX4_readNumber cX4_readNumber 6 (some .int) 3 := ⟨(tbm 469 (by decide +kernel) rfl), (tbm 58 (by decide +kernel) rfl), by decide +kernel, by decide⟩
theorem cw_X4_readNumbers : CW yX4_readNumbers cX4_readNumbers 5 none 2 := ⟨(tbm 459 (by decide +kernel) rfl), (tbm 58 (by decide +kernel) rfl), by decide +kernel, by decide⟩
theorem cw_X4_readTown : CW yX4_readTown cX4_readTown 4 none 2 := ⟨(tbm 432 (by decide +kernel) rfl), (tbm 58 (by decide +kernel) rfl), by decide +kernel, by decide⟩
theorem cw_X4_setFault : CW yX4_setFault cX4_setFault 3 none 2 := ⟨(tbm 451 (by decide +kernel) rfl), (tbm 58 (by decide +kernel) rfl), by decide +kernel, by decide⟩
theorem cw_X4_skipBlanks : CW yX4_skipBlanks cX4_skipBlanks 2 none 1 := ⟨(tbm 440 (by decide +kernel) rfl), (tbm 58 (by decide +kernel) rfl), by decide +kernel, by decide⟩
theorem cw_X5_init : CW yX5_init cX5_init 1 none 0 := ⟨(tbm 316 (by decide +kernel) rfl), (tbm 64 (by decide +kernel) rfl), by decide +kernel, by decide⟩
theorem cw_X5_add : CW yX5_add cX5_add 5 none 4 := ⟨(tbm 757 (by decide +kernel) rfl), (tbm 64 (by decide +kernel) rfl), by decide +kernel, by decide⟩
theorem cw_X5_bearsStampOfDead : CW yX5_bearsStampOfDead cX5_bearsStampOfDead 2 (some .boolean) 1 := ⟨(tbm 769 (by decide +kernel) rfl), (tbm 64 (by decide +kernel) rfl), by decide +kernel, by decide⟩
theorem cw_X5_forgedOnes : CW yX5_forgedOnes cX5_forgedOnes 4 (some .int) 1 := ⟨(tbm 765 (by decide +kernel) rfl), (tbm 64 (by decide +kernel) rfl), by decide +kernel, by decide⟩
theorem cw_X5_kindToWeigh : CW yX5_kindToWeigh cX5_kindToWeigh 4 (some .int) 1 := ⟨(tbm 777 (by decide +kernel) rfl), (tbm 64 (by decide +kernel) rfl), by decide +kernel, by decide⟩
theorem cw_X6_init : CW yX6_init cX6_init 1 none 0 := ⟨(tbm 199 (by decide +kernel) rfl), (tbm 60 (by decide +kernel) rfl), by decide +kernel, by decide⟩
theorem cw_X6_become : CW yX6_become cX6_become 3 none 1 := ⟨(tbm 571 (by decide +kernel) rfl), (tbm 60 (by decide +kernel) rfl), by decide +kernel, by decide⟩
theorem cw_X6_begin : CW yX6_begin cX6_begin 3 none 1 := ⟨(tbm 510 (by decide +kernel) rfl), (tbm 60 (by decide +kernel) rfl), by decide +kernel, by decide⟩
theorem cw_X6_hearGun : CW yX6_hearGun cX6_hearGun 1 none 0 := ⟨(tbm 614 (by decide +kernel) rfl), (tbm 60 (by decide +kernel) rfl), by decide +kernel, by decide⟩
theorem cw_X6_owedTo : CW yX6_owedTo cX6_owedTo 6 (some .int) 3 := ⟨(tbm 721 (by decide +kernel) rfl), (tbm 60 (by decide +kernel) rfl), by decide +kernel, by decide⟩
theorem cw_X6_passDay : CW yX6_passDay cX6_passDay 4 none 2 := ⟨(tbm 582 (by decide +kernel) rfl), (tbm 60 (by decide +kernel) rfl), by decide +kernel, by decide⟩
theorem cw_X6_payCompany : CW yX6_payCompany cX6_payCompany 5 none 3 := ⟨(tbm 603 (by decide +kernel) rfl), (tbm 60 (by decide +kernel) rfl), by decide +kernel, by decide⟩
theorem cw_X6_raiseOdds : CW yX6_raiseOdds cX6_raiseOdds 2 none 1 := ⟨(tbm 618 (by decide +kernel) rfl), (tbm 60 (by decide +kernel) rfl), by decide +kernel, by decide⟩
theorem cw_X6_worthOfSquare : CW yX6_worthOfSquare cX6_worthOfSquare 3 (some .int) 3 := ⟨(tbm 724 (by decide +kernel) rfl), (tbm 60 (by decide +kernel) rfl), by decide +kernel, by decide⟩
theorem cw_X7_init : CW yX7_init cX7_init 1 none 0 := ⟨(tbm 81 (by decide +kernel) rfl), (tbm 57 (by decide +kernel) rfl), by decide +kernel, by decide⟩
theorem cw_X7_append : CW yX7_append cX7_append 2 none 1 := ⟨(tbm 424 (by decide +kernel) rfl), (tbm 57 (by decide +kernel) rfl), by decide +kernel, by decide⟩
theorem cw_X8_init : CW yX8_init cX8_init 1 none 0 := ⟨(tbm 119 (by decide +kernel) rfl), (tbm 59 (by decide +kernel) rfl), by decide +kernel, by decide⟩
theorem cw_X8_add : CW yX8_add cX8_add 5 none 4 := ⟨(tbm 481 (by decide +kernel) rfl), (tbm 59 (by decide +kernel) rfl), by decide +kernel, by decide⟩
theorem cw_X8_addCompany : CW yX8_addCompany cX8_addCompany 4 none 3 := ⟨(tbm 490 (by decide +kernel) rfl), (tbm 59 (by decide +kernel) rfl), by decide +kernel, by decide⟩
theorem cw_X8_addGood : CW yX8_addGood cX8_addGood 2 none 1 := ⟨(tbm 498 (by decide +kernel) rfl), (tbm 59 (by decide +kernel) rfl), by decide +kernel, by decide⟩
theorem cw_X8_addHorse : CW yX8_addHorse cX8_addHorse 3 none 2 := ⟨(tbm 502 (by decide +kernel) rfl), (tbm 59 (by decide +kernel) rfl), by decide +kernel, by decide⟩
theorem cw_X8_addMoney : CW yX8_addMoney cX8_addMoney 4 none 3 := ⟨(tbm 494 (by decide +kernel) rfl), (tbm 59 (by decide +kernel) rfl), by decide +kernel, by decide⟩
theorem cw_X8_addStores : CW yX8_addStores cX8_addStores 3 none 2 := ⟨(tbm 486 (by decide +kernel) rfl), (tbm 59 (by decide +kernel) rfl), by decide +kernel, by decide⟩
theorem cw_X8_clear : CW yX8_clear cX8_clear 1 none 0 := ⟨(tbm 436 (by decide +kernel) rfl), (tbm 59 (by decide +kernel) rfl), by decide +kernel, by decide⟩
theorem cw_X8_foodOfHorses : CW yX8_foodOfHorses cX8_foodOfHorses 4 (some .int) 1 := ⟨(tbm 590 (by decide +kernel) rfl), (tbm 59 (by decide +kernel) rfl), by decide +kernel, by decide⟩
theorem cw_X8_hasRoomFor : CW yX8_hasRoomFor cX8_hasRoomFor 2 (some .boolean) 1 := ⟨(tbm 455 (by decide +kernel) rfl), (tbm 59 (by decide +kernel) rfl), by decide +kernel, by decide⟩
theorem cw_X9_init : CW yX9_init cX9_init 2 none 0 := ⟨(tbm 289 (by decide +kernel) rfl), (tbm 63 (by decide +kernel) rfl), by decide +kernel, by decide⟩
theorem cw_X9_compareRow : CW yX9_compareRow cX9_compareRow 4 none 2 := ⟨(tbm 692 (by decide +kernel) rfl), (tbm 63 (by decide +kernel) rfl), by decide +kernel, by decide⟩
theorem cw_X9_daysWithMen : CW yX9_daysWithMen cX9_daysWithMen 6 (some .int) 3 := ⟨(tbm 710 (by decide +kernel) rfl), (tbm 63 (by decide +kernel) rfl), by decide +kernel, by decide⟩
theorem cw_X9_firstDayToTry : CW yX9_firstDayToTry cX9_firstDayToTry 3 (some .int) 2 := ⟨(tbm 684 (by decide +kernel) rfl), (tbm 63 (by decide +kernel) rfl), by decide +kernel, by decide⟩
theorem cw_X9_firstDeserter : CW yX9_firstDeserter cX9_firstDeserter 6 (some .int) 3 := ⟨(tbm 702 (by decide +kernel) rfl), (tbm 63 (by decide +kernel) rfl), by decide +kernel, by decide⟩
theorem cw_X9_leastToPay : CW yX9_leastToPay cX9_leastToPay 7 (some .int) 4 := ⟨(tbm 732 (by decide +kernel) rfl), (tbm 63 (by decide +kernel) rfl), by decide +kernel, by decide⟩
theorem cw_X9_rationOf : CW yX9_rationOf cX9_rationOf 3 (some .int) 3 := ⟨(tbm 687 (by decide +kernel) rfl), (tbm 63 (by decide +kernel) rfl), by decide +kernel, by decide⟩
theorem cw_X9_strikeGreatestDebt : CW yX9_strikeGreatestDebt cX9_strikeGreatestDebt 4 (some .int) 1 := ⟨(tbm 737 (by decide +kernel) rfl), (tbm 63 (by decide +kernel) rfl), by decide +kernel, by decide⟩
theorem cw_X9_tryAllRows : CW yX9_tryAllRows cX9_tryAllRows 7 none 3 := ⟨(tbm 679 (by decide +kernel) rfl), (tbm 63 (by decide +kernel) rfl), by decide +kernel, by decide⟩
theorem cw_X11_init : CW yX11_init cX11_init 1 none 0 := ⟨(tbm 815 (by decide +kernel) rfl), (tbm 67 (by decide +kernel) rfl), by decide +kernel, by decide⟩
theorem cw_X11_bought : CW yX11_bought cX11_bought 5 (some .int) 2 := ⟨(tbm 1155 (by decide +kernel) rfl), (tbm 67 (by decide +kernel) rfl), by decide +kernel, by decide⟩
theorem cw_X11_company : CW yX11_company cX11_company 3 (some .int) 2 := ⟨(tbm 1021 (by decide +kernel) rfl), (tbm 67 (by decide +kernel) rfl), by decide +kernel, by decide⟩
theorem cw_X11_copy : CW yX11_copy cX11_copy 4 none 2 := ⟨(tbm 1043 (by decide +kernel) rfl), (tbm 67 (by decide +kernel) rfl), by decide +kernel, by decide⟩
theorem cw_X11_costs : CW yX11_costs cX11_costs 2 (some .int) 1 := ⟨(tbm 1105 (by decide +kernel) rfl), (tbm 67 (by decide +kernel) rfl), by decide +kernel, by decide⟩
theorem cw_X11_costsBy : CW yX11_costsBy cX11_costsBy 3 (some .int) 2 := ⟨(tbm 1113 (by decide +kernel) rfl), (tbm 67 (by decide +kernel) rfl), by decide +kernel, by decide⟩
theorem cw_X11_day : CW yX11_day cX11_day 4 (some .int) 2 := ⟨(tbm 1047 (by decide +kernel) rfl), (tbm 67 (by decide +kernel) rfl), by decide +kernel, by decide⟩
theorem cw_X11_draw : CW yX11_draw cX11_draw 2 (some .int) 1 := ⟨(tbm 1097 (by decide +kernel) rfl), (tbm 67 (by decide +kernel) rfl), by decide +kernel, by decide⟩
theorem cw_X11_drift : CW yX11_drift cX11_drift 4 (some .int) 2 := ⟨(tbm 1093 (by decide +kernel) rfl), (tbm 67 (by decide +kernel) rfl), by decide +kernel, by decide⟩
theorem cw_X11_eats : CW yX11_eats cX11_eats 8 (some .boolean) 3 := ⟨(tbm 1068 (by decide +kernel) rfl), (tbm 67 (by decide +kernel) rfl), by decide +kernel, by decide⟩
theorem cw_X11_fails : CW yX11_fails cX11_fails 3 (some .boolean) 2 := ⟨(tbm 971 (by decide +kernel) rfl), (tbm 67 (by decide +kernel) rfl), by decide +kernel, by decide⟩
theorem cw_X11_fault : CW yX11_fault cX11_fault 1 (some .int) 0 := ⟨(tbm 1009 (by decide +kernel) rfl), (tbm 67 (by decide +kernel) rfl), by decide +kernel, by decide⟩
theorem cw_X11_feed : CW yX11_feed cX11_feed 2 (some .int) 1 := ⟨(tbm 945 (by decide +kernel) rfl), (tbm 67 (by decide +kernel) rfl), by decide +kernel, by decide⟩
theorem cw_X11_firstToDesert : CW yX11_firstToDesert cX11_firstToDesert 3 (some .int) 1 := ⟨(tbm 1134 (by decide +kernel) rfl), (tbm 67 (by decide +kernel) rfl), by decide +kernel, by decide⟩
theorem cw_X11_forged : CW yX11_forged cX11_forged 3 (some .int) 0 := ⟨(tbm 1173 (by decide +kernel) rfl), (tbm 67 (by decide +kernel) rfl), by decide +kernel, by decide⟩
theorem cw_X11_goBack : CW yX11_goBack cX11_goBack 2 (some .int) 1 := ⟨(tbm 1205 (by decide +kernel) rfl), (tbm 67 (by decide +kernel) rfl), by decide +kernel, by decide⟩
theorem cw_X11_gun : CW yX11_gun cX11_gun 1 (some .int) 0 := ⟨(tbm 1076 (by decide +kernel) rfl), (tbm 67 (by decide +kernel) rfl), by decide +kernel, by decide⟩
theorem cw_X11_hears : CW yX11_hears cX11_hears 2 none 1 := ⟨(tbm 1080 (by decide +kernel) rfl), (tbm 67 (by decide +kernel) rfl), by decide +kernel, by decide⟩
theorem cw_X11_here : CW yX11_here cX11_here 1 (some .int) 0 := ⟨(tbm 959 (by decide +kernel) rfl), (tbm 67 (by decide +kernel) rfl), by decide +kernel, by decide⟩
theorem cw_X11_holds : CW yX11_holds cX11_holds 3 (some .int) 1 := ⟨(tbm 1138 (by decide +kernel) rfl), (tbm 67 (by decide +kernel) rfl), by decide +kernel, by decide⟩
theorem cw_X11_hungerFor : CW yX11_hungerFor cX11_hungerFor 4 (some .int) 2 := ⟨(tbm 1159 (by decide +kernel) rfl), (tbm 67 (by decide +kernel) rfl), by decide +kernel, by decide⟩
theorem cw_X11_in : CW yX11_in cX11_in 6 (some .boolean) 3 := ⟨(tbm 949 (by decide +kernel) rfl), (tbm 67 (by decide +kernel) rfl), by decide +kernel, by decide⟩
theorem cw_X11_isBehind : CW yX11_isBehind cX11_isBehind 2 (some .boolean) 1 := ⟨(tbm 1177 (by decide +kernel) rfl), (tbm 67 (by decide +kernel) rfl), by decide +kernel, by decide⟩
theorem cw_X11_isCompany : CW yX11_isCompany cX11_isCompany 2 (some .boolean) 1 := ⟨(tbm 1025 (by decide +kernel) rfl), (tbm 67 (by decide +kernel) rfl), by decide +kernel, by decide⟩
theorem cw_X11_isGood : CW yX11_isGood cX11_isGood 2 (some .boolean) 1 := ⟨(tbm 1109 (by decide +kernel) rfl), (tbm 67 (by decide +kernel) rfl), by decide +kernel, by decide⟩
theorem cw_X11_isMoney : CW yX11_isMoney cX11_isMoney 2 (some .boolean) 1 := ⟨(tbm 1034 (by decide +kernel) rfl), (tbm 67 (by decide +kernel) rfl), by decide +kernel, by decide⟩
theorem cw_X11_isOver : CW yX11_isOver cX11_isOver 1 (some .boolean) 0 := ⟨(tbm 1056 (by decide +kernel) rfl), (tbm 67 (by decide +kernel) rfl), by decide +kernel, by decide⟩
theorem cw_X11_isPaid : CW yX11_isPaid cX11_isPaid 5 none 2 := ⟨(tbm 1072 (by decide +kernel) rfl), (tbm 67 (by decide +kernel) rfl), by decide +kernel, by decide⟩
theorem cw_X11_isRation : CW yX11_isRation cX11_isRation 1 (some .boolean) 1 := ⟨(tbm 1050 (by decide +kernel) rfl), (tbm 67 (by decide +kernel) rfl), by decide +kernel, by decide⟩
theorem cw_X11_judge : CW yX11_judge cX11_judge 2 (some .int) 0 := ⟨(tbm 1193 (by decide +kernel) rfl), (tbm 67 (by decide +kernel) rfl), by decide +kernel, by decide⟩
theorem cw_X11_keep : CW yX11_keep cX11_keep 2 (some .int) 1 := ⟨(tbm 1201 (by decide +kernel) rfl), (tbm 67 (by decide +kernel) rfl), by decide +kernel, by decide⟩
theorem cw_X11_least : CW yX11_least cX11_least 9 (some .int) 2 := ⟨(tbm 1151 (by decide +kernel) rfl), (tbm 67 (by decide +kernel) rfl), by decide +kernel, by decide⟩
theorem cw_X11_letterAt : CW yX11_letterAt cX11_letterAt 2 (some .int) 1 := ⟨(tbm 963 (by decide +kernel) rfl), (tbm 67 (by decide +kernel) rfl), by decide +kernel, by decide⟩
theorem cw_X11_menIn : CW yX11_menIn cX11_menIn 4 (some .int) 1 := ⟨(tbm 1017 (by decide +kernel) rfl), (tbm 67 (by decide +kernel) rfl), by decide +kernel, by decide⟩
theorem cw_X11_minds : CW yX11_minds cX11_minds 2 none 0 := ⟨(tbm 1060 (by decide +kernel) rfl), (tbm 67 (by decide +kernel) rfl), by decide +kernel, by decide⟩
theorem cw_X11_money : CW yX11_money cX11_money 3 (some .int) 2 := ⟨(tbm 1030 (by decide +kernel) rfl), (tbm 67 (by decide +kernel) rfl), by decide +kernel, by decide⟩
theorem cw_X11_offer : CW yX11_offer cX11_offer 3 (some .int) 2 := ⟨(tbm 1163 (by decide +kernel) rfl), (tbm 67 (by decide +kernel) rfl), by decide +kernel, by decide⟩
theorem cw_X11_owed : CW yX11_owed cX11_owed 3 (some .int) 2 := ⟨(tbm 1142 (by decide +kernel) rfl), (tbm 67 (by decide +kernel) rfl), by decide +kernel, by decide⟩
theorem cw_X11_owedTo : CW yX11_owedTo cX11_owedTo 5 (some .int) 2 := ⟨(tbm 1147 (by decide +kernel) rfl), (tbm 67 (by decide +kernel) rfl), by decide +kernel, by decide⟩
theorem cw_X11_passes : CW yX11_passes cX11_passes 5 none 2 := ⟨(tbm 1064 (by decide +kernel) rfl), (tbm 67 (by decide +kernel) rfl), by decide +kernel, by decide⟩
theorem cw_X11_promise : CW yX11_promise cX11_promise 3 (some .int) 2 := ⟨(tbm 1117 (by decide +kernel) rfl), (tbm 67 (by decide +kernel) rfl), by decide +kernel, by decide⟩
theorem cw_X11_rations : CW yX11_rations cX11_rations 9 (some .int) 2 := ⟨(tbm 1129 (by decide +kernel) rfl), (tbm 67 (by decide +kernel) rfl), by decide +kernel, by decide⟩
theorem cw_X11_relief : CW yX11_relief cX11_relief 2 (some .int) 1 := ⟨(tbm 1089 (by decide +kernel) rfl), (tbm 67 (by decide +kernel) rfl), by decide +kernel, by decide⟩
theorem cw_X11_sally : CW yX11_sally cX11_sally 3 (some .int) 2 := ⟨(tbm 1084 (by decide +kernel) rfl), (tbm 67 (by decide +kernel) rfl), by decide +kernel, by decide⟩
theorem cw_X11_seed : CW yX11_seed cX11_seed 3 (some .int) 1 := ⟨(tbm 1197 (by decide +kernel) rfl), (tbm 67 (by decide +kernel) rfl), by decide +kernel, by decide⟩
theorem cw_X11_show : CW yX11_show cX11_show 5 (some .int) 4 := ⟨(tbm 1169 (by decide +kernel) rfl), (tbm 67 (by decide +kernel) rfl), by decide +kernel, by decide⟩
theorem cw_X11_takes : CW yX11_takes cX11_takes 2 (some .boolean) 1 := ⟨(tbm 1005 (by decide +kernel) rfl), (tbm 67 (by decide +kernel) rfl), by decide +kernel, by decide⟩
theorem cw_X11_takesClause : CW yX11_takesClause cX11_takesClause 4 (some .boolean) 0 := ⟨(tbm 967 (by decide +kernel) rfl), (tbm 67 (by decide +kernel) rfl), by decide +kernel, by decide⟩
theorem cw_X11_takesCompany : CW yX11_takesCompany cX11_takesCompany 2 (some .boolean) 0 := ⟨(tbm 989 (by decide +kernel) rfl), (tbm 67 (by decide +kernel) rfl), by decide +kernel, by decide⟩
theorem cw_X11_takesGood : CW yX11_takesGood cX11_takesGood 1 (some .boolean) 0 := ⟨(tbm 997 (by decide +kernel) rfl), (tbm 67 (by decide +kernel) rfl), by decide +kernel, by decide⟩
theorem cw_X11_takesHorse : CW yX11_takesHorse cX11_takesHorse 2 (some .boolean) 0 := ⟨(tbm 1001 (by decide +kernel) rfl), (tbm 67 (by decide +kernel) rfl), by decide +kernel, by decide⟩
theorem cw_X11_takesKind : CW yX11_takesKind cX11_takesKind 2 (some .boolean) 0 := ⟨(tbm 993 (by decide +kernel) rfl), (tbm 67 (by decide +kernel) rfl), by decide +kernel, by decide⟩
theorem cw_X11_takesNumber : CW yX11_takesNumber cX11_takesNumber 3 (some .boolean) 2 := ⟨(tbm 983 (by decide +kernel) rfl), (tbm 67 (by decide +kernel) rfl), by decide +kernel, by decide⟩
theorem cw_X11_takesTown : CW yX11_takesTown cX11_takesTown 1 (some .boolean) 0 := ⟨(tbm 979 (by decide +kernel) rfl), (tbm 67 (by decide +kernel) rfl), by decide +kernel, by decide⟩
theorem cw_X11_takesWords : CW yX11_takesWords cX11_takesWords 2 (some .boolean) 1 := ⟨(tbm 975 (by decide +kernel) rfl), (tbm 67 (by decide +kernel) rfl), by decide +kernel, by decide⟩
theorem cw_X11_tear : CW yX11_tear cX11_tear 2 (some .int) 0 := ⟨(tbm 1189 (by decide +kernel) rfl), (tbm 67 (by decide +kernel) rfl), by decide +kernel, by decide⟩
theorem cw_X11_told : CW yX11_told cX11_told 2 (some .int) 1 := ⟨(tbm 1013 (by decide +kernel) rfl), (tbm 67 (by decide +kernel) rfl), by decide +kernel, by decide⟩
theorem cw_X11_town : CW yX11_town cX11_town 4 (some .int) 0 := ⟨(tbm 955 (by decide +kernel) rfl), (tbm 67 (by decide +kernel) rfl), by decide +kernel, by decide⟩
theorem cw_X11_undo : CW yX11_undo cX11_undo 2 (some .int) 0 := ⟨(tbm 1038 (by decide +kernel) rfl), (tbm 67 (by decide +kernel) rfl), by decide +kernel, by decide⟩
theorem cw_X11_weighFirst : CW yX11_weighFirst cX11_weighFirst 6 (some .int) 0 := ⟨(tbm 1181 (by decide +kernel) rfl), (tbm 67 (by decide +kernel) rfl), by decide +kernel, by decide⟩
theorem cw_X11_worthOf : CW yX11_worthOf cX11_worthOf 6 (some .int) 2 := ⟨(tbm 1122 (by decide +kernel) rfl), (tbm 67 (by decide +kernel) rfl), by decide +kernel, by decide⟩
theorem cw_X11_write : CW yX11_write cX11_write 3 (some .int) 2 := ⟨(tbm 1185 (by decide +kernel) rfl), (tbm 67 (by decide +kernel) rfl), by decide +kernel, by decide⟩
theorem aw_I : Cond.arrayClass .int ∈ tb := (tbm 93 (by decide +kernel) rfl)
theorem aw_Z : Cond.arrayClass .boolean ∈ tb := (tbm 941 (by decide +kernel) rfl)
end
section
theorem ok0 : Ok 243 0 0 := Ok.full (by decide) (by decide)
theorem ok3 : Ok 243 3 0 := Ok.full (by decide) (by decide)
theorem ok4 : Ok 243 4 0 := Ok.full (by decide) (by decide)
theorem ok5 : Ok 243 5 0 := Ok.full (by decide) (by decide)
theorem ok7 : Ok 243 7 0 := Ok.full (by decide) (by decide)
theorem ok9 : Ok 243 9 0 := Ok.full (by decide) (by decide)
theorem ok10 : Ok 243 10 0 := Ok.full (by decide) (by decide)
theorem ok11 : Ok 243 11 0 := Ok.full (by decide) (by decide)
theorem ok12 : Ok 243 12 0 := Ok.full (by decide) (by decide)
theorem ok13 : Ok 243 13 0 := Ok.full (by decide) (by decide)
theorem ok16 : Ok 243 16 0 := Ok.full (by decide) (by decide)
theorem ok17 : Ok 243 17 0 := Ok.full (by decide) (by decide)
theorem ok18 : Ok 243 18 0 := Ok.full (by decide) (by decide)
theorem ok19 : Ok 243 19 0 := Ok.full (by decide) (by decide)
theorem ok20 : Ok 243 20 0 := Ok.full (by decide) (by decide)
theorem ok21 : Ok 243 21 0 := Ok.full (by decide) (by decide)
theorem ok22 : Ok 243 22 0 := Ok.full (by decide) (by decide)
theorem ok26 : Ok 243 26 0 := Ok.full (by decide) (by decide)
theorem ok36 : Ok 243 36 0 := Ok.full (by decide) (by decide)
theorem ok37 : Ok 243 37 0 := Ok.full (by decide) (by decide)
theorem ok38 : Ok 243 38 0 := Ok.full (by decide) (by decide)
theorem ok39 : Ok 243 39 0 := Ok.full (by decide) (by decide)
theorem ok40 : Ok 243 40 0 := Ok.full (by decide) (by decide)
theorem ok41 : Ok 243 41 0 := Ok.full (by decide) (by decide)
theorem ok42 : Ok 243 42 0 := Ok.full (by decide) (by decide)
theorem ok43 : Ok 243 43 0 := Ok.full (by decide) (by decide)
theorem ok44 : Ok 243 44 0 := Ok.full (by decide) (by decide)
theorem ok45 : Ok 243 45 0 := Ok.full (by decide) (by decide)
theorem ok46 : Ok 243 46 0 := Ok.full (by decide) (by decide)
theorem ok47 : Ok 243 47 0 := Ok.full (by decide) (by decide)
theorem ok48 : Ok 243 48 0 := Ok.full (by decide) (by decide)
theorem ok49 : Ok 243 49 0 := Ok.full (by decide) (by decide)
theorem ok50 : Ok 243 50 0 := Ok.full (by decide) (by decide)
theorem ok51 : Ok 243 51 0 := Ok.full (by decide) (by decide)
theorem ok52 : Ok 243 52 0 := Ok.full (by decide) (by decide)
theorem ok53 : Ok 243 53 0 := Ok.full (by decide) (by decide)
theorem ok54 : Ok 243 54 0 := Ok.full (by decide) (by decide)
theorem ok55 : Ok 243 55 0 := Ok.full (by decide) (by decide)
theorem ok56 : Ok 243 56 0 := Ok.full (by decide) (by decide)
theorem ok57 : Ok 243 57 0 := Ok.full (by decide) (by decide)
theorem ok58 : Ok 243 58 0 := Ok.full (by decide) (by decide)
theorem ok59 : Ok 243 59 0 := Ok.full (by decide) (by decide)
theorem nf_lt (k : Nat) : nf k < 2 ^ 31 := by
  unfold nf
  split <;> decide
section WR
variable {E : Ev} {G : Gv} {n d nm pc pc' : Nat} {R : RF} {h : HF} {Q : State → Prop} {L L' : List (Option AV)} {st : List AV} {cc : ByteArray} {own : String} {k j i idx m : Nat}
theorem q_getV (C : Cx E G d cc own nm) {fin : Bool} {x : Int32} (hf : FL own idx k i fin) (hd : Dc cc pc (.getfield idx) 3 pc') (ho : Ok n k j) (hr : isr k i = false) (hx : h k j i = x) (kk : Wa E G n R h Q pc' L (aI x :: st)) : Wa E G n R h Q pc L (aR k j :: st) := r_getI C hf hd ho hr (by rw [hx]; exact kk)
theorem q_iald (C : Cx E G d cc own nm) {x : Nat} (hd : Dc cc pc .iaload 1 pc') (ho : Ok n k j) (hs : shp k = 1) (hm : nf k = m) (hx : x < m) (kk : Wa E G n R h Q pc' L (aI (h k j x) :: st)) : Wa E G n R h Q pc L (aI (nI x) :: aR k j :: st) := r_iald C hd ho hs rfl (by rw [hm]; exact hx) (nf_lt k) kk
theorem q_ialdV (C : Cx E G d cc own nm) {x : Nat} {y : Int32} (hd : Dc cc pc .iaload 1 pc') (ho : Ok n k j) (hs : shp k = 1) (hm : nf k = m) (hx : x < m) (hy : h k j x = y) (kk : Wa E G n R h Q pc' L (aI y :: st)) : Wa E G n R h Q pc L (aI (nI x) :: aR k j :: st) := q_iald C hd ho hs hm hx (by rw [hy]; exact kk)
theorem q_iast (C : Cx E G d cc own nm) {x : Nat} {y : Int32} (hd : Dc cc pc .iastore 1 pc') (ho : Ok n k j) (hs : shp k = 1) (hm : nf k = m) (hx : x < m) (kk : Wa E G n R (put h k j x y) Q pc' L st) : Wa E G n R h Q pc L (aI y :: aI (nI x) :: aR k j :: st) := r_iast C hd ho hs rfl (by rw [hm]; exact hx) (nf_lt k) kk
theorem q_zald (C : Cx E G d cc own nm) {x : Nat} (hd : Dc cc pc .baload 1 pc') (ho : Ok n k j) (hs : shp k = 2) (hm : nf k = m) (hx : x < m) (kk : Wa E G n R h Q pc' L (aI (h k j x) :: st)) : Wa E G n R h Q pc L (aI (nI x) :: aR k j :: st) := r_zald C hd ho hs rfl (by rw [hm]; exact hx) (nf_lt k) kk
theorem q_zast (C : Cx E G d cc own nm) {x : Nat} {y : Int32} (hd : Dc cc pc .bastore 1 pc') (ho : Ok n k j) (hs : shp k = 2) (hm : nf k = m) (hx : x < m) (hy : vp_nar .boolean y = y) (kk : Wa E G n R (put h k j x y) Q pc' L st) : Wa E G n R h Q pc L (aI y :: aI (nI x) :: aR k j :: st) := r_zast C hd ho hs rfl (by rw [hm]; exact hx) (nf_lt k) hy kk
theorem q_aald (C : Cx E G d cc own nm) {x t a b : Nat} (hd : Dc cc pc .aaload 1 pc') (ho : Ok n k j) (hs : shp k = t + 3) (ht : t < 3) (hm : nf k = m) (hx : x < m) (hR : R k j x = some (a, b)) (kk : Wa E G n R h Q pc' L (aR a b :: st)) : Wa E G n R h Q pc L (aI (nI x) :: aR k j :: st) := r_aald C hd ho hs ht rfl (by rw [hm]; exact hx) (nf_lt k) hR kk
end WR
/-- h' differs from h at most in the cells of S -/
def Fr (S : Nat → Nat → Bool) (h h' : HF) : Prop := ∀ k j, S k j = false → h' k j = h k j
theorem Fr.rf {S : Nat → Nat → Bool} {h : HF} : Fr S h h := fun _ _ _ => rfl
theorem Fr.put {S : Nat → Nat → Bool} {h h' : HF} {k j i : Nat} {v : Int32} (f : Fr S h h') (hs : S k j = true) : Fr S h (put h' k j i v) := fun k' j' hn => by
  rw [put_off (fun z => by rw [z.1, z.2, hs] at hn; cases hn)]
  exact f k' j' hn
theorem Fr.tr {S : Nat → Nat → Bool} {h h' h2 : HF} (f : Fr S h h') (g : Fr S h' h2) : Fr S h h2 := fun k j hn => (g k j hn).trans (f k j hn)
theorem Fr.wk {S S' : Nat → Nat → Bool} {h h' : HF} (f : Fr S h h') (hs : ∀ k j, S k j = true → S' k j = true) : Fr S' h h' := fun k j hn => f k j (by
  cases z : S k j with
  | false => rfl
  | true => rw [hs k j z] at hn; cases hn)
theorem put_same {h : HF} {k j i : Nat} {v : Int32} : put h k j i v k j i = v := by simp [put]
theorem put_i {h : HF} {k j i j' i' : Nat} {v : Int32} (hi : i' ≠ i) : put h k j i v k j' i' = h k j' i' := by simp [put, hi]
theorem put_k {h : HF} {k j i k' : Nat} {v : Int32} (hk : k' ≠ k) : put h k j i v k' = h k' := by
  funext j' i'
  simp [put, hk]
theorem put_j {h : HF} {k j i j' : Nat} {v : Int32} (hj : j' ≠ j) : put h k j i v k j' = h k j' := by
  funext i'
  simp [put, hj]
end
section
/-! THE PURE SIDE: a siege is 45 numbers: 0 food, 1 odds, 2 days, 3 hunger, 4 fate, 5.. men, 10.. hungry days, 15.. words, 20.. squares left, 24.. paid (4 each), 44 the seed -/
abbrev Sv : Type := Nat → Int32
/-- rows of a town: 0 pay, 1 bears, 2 stamp, 3 weight, 4 cost, 5 horse's day, 6 its food -/
abbrev Tv : Type := Nat → Nat → Int32
def fedB (q : Int32) (s : Sv) (c : Nat) : Bool := decide (q * s (5 + c) ≤ s 0) && decide (nI 2 ≤ q)
def fedS (q : Int32) (s : Sv) (c : Nat) : Sv := if q * s (5 + c) ≤ s 0 then va_up s 0 (s 0 - q * s (5 + c)) else s
def goneF (m : Int32) : Int32 := if m / nI 5 + nI 1 < m then m / nI 5 + nI 1 else m
def starveF (b : Int32) (c : Nat) (u : Sv × Int32 × Int32) : Sv × Int32 × Int32 :=
  if u.1 (5 + c) = 0 then (va_up u.1 (10 + c) (u.1 (10 + c) + nI 1), u.2)
  else if u.1 (10 + c) + nI 1 ≤ b then (va_up u.1 (10 + c) (u.1 (10 + c) + nI 1), nI 1, u.2.2)
  else (va_up (va_up u.1 (10 + c) (u.1 (10 + c) + nI 1)) (5 + c) (u.1 (5 + c) - goneF (u.1 (5 + c))), nI 1, if u.2.2 = -1 then nI c else u.2.2)
def eat1 (b : Nat → Int32) (q : Int32) (c : Nat) (u : Sv × Int32 × Int32) : Sv × Int32 × Int32 :=
  if fedB q u.1 c = true then (va_up (fedS q u.1 c) (10 + c) (nI 0), u.2) else starveF (b c) c (fedS q u.1 c, u.2)
def eatN (b : Nat → Int32) (q : Int32) (u : Sv × Int32 × Int32) : Nat → Sv × Int32 × Int32
  | 0 => u
  | c + 1 => eat1 b q c (eatN b q u c)
def hfd (T : Tv) (day : Int32) : Nat → Int32
  | 0 => nI 0
  | n + 1 => if T 5 n = day then hfd T day n + T 6 n else hfd T day n
def edayF (N : Nat → Nat) (T : Tv) (q : Int32) (s : Sv) : Sv × Int32 × Int32 :=
  (va_up (eatN (T 1) q (va_up s 0 (s 0 + hfd T (s 2) (N 3)), nI 0, -1) (N 0)).1 2 ((eatN (T 1) q (va_up s 0 (s 0 + hfd T (s 2) (N 3)), nI 0, -1) (N 0)).1 2 + nI 1), (eatN (T 1) q (va_up s 0 (s 0 + hfd T (s 2) (N 3)), nI 0, -1) (N 0)).2)
def msum (s : Sv) : Nat → Int32
  | 0 => nI 0
  | c + 1 => msum s c + s (5 + c)
/-- camp j of the class -/
def cmp (h : HF) (j : Nat) (s : Sv) : Prop := h 1 j 0 = s 0 ∧ h 1 j 1 = s 2 ∧ (∀ c, c < 5 → h 14 j c = s (5 + c)) ∧ ∀ c, c < 5 → h 15 j c = s (10 + c)
def cmq (h : HF) (j : Nat) (s : Sv) (w d : Int32) : Prop := cmp h j s ∧ h 1 j 4 = w ∧ h 1 j 5 = d
/-- town t of the class -/
def twn (h : HF) (t : Nat) (N : Nat → Nat) (T : Tv) : Prop := h 8 t 3 = nI (N 0) ∧ h 8 t 4 = nI (N 1) ∧ h 8 t 5 = nI (N 2) ∧ h 8 t 6 = nI (N 3) ∧ h 8 t 0 = nI (N 4) ∧ (∀ i, i < N 0 → h 28 t i = T 0 i ∧ h 29 t i = T 1 i) ∧ (∀ i, i < N 1 → h 31 t i = T 2 i ∧ h 32 t i = T 3 i) ∧ (∀ i, i < N 2 → h 33 t i = T 4 i) ∧ (∀ i, i < N 3 → h 34 t i = T 5 i ∧ h 35 t i = T 6 i) ∧ N 0 ≤ 5 ∧ N 1 ≤ 4 ∧ N 2 ≤ 6 ∧ N 3 ≤ 4 ∧ N 4 ≤ 1
def sC (j : Nat) : Nat → Nat → Bool := fun k j' => (k == 1 || k == 14 || k == 15) && j' == j
theorem cmp.fr {S : Nat → Nat → Bool} {h h' : HF} {j : Nat} {s : Sv} (f : Fr S h h') (h1 : S 1 j = false) (h2 : S 14 j = false) (h3 : S 15 j = false) (c : cmp h j s) : cmp h' j s := by
  unfold cmp
  rw [f 1 j h1, f 14 j h2, f 15 j h3]
  exact c
theorem twn.fr {S : Nat → Nat → Bool} {h h' : HF} {t : Nat} {N : Nat → Nat} {T : Tv} (f : Fr S h h') (hs : ∀ k, (k = 8 ∨ (28 ≤ k ∧ k ≤ 35)) → S k t = false) (c : twn h t N T) : twn h' t N T := by
  unfold twn
  rw [f 8 t (hs 8 (by omega)), f 28 t (hs 28 (by omega)), f 29 t (hs 29 (by omega)), f 31 t (hs 31 (by omega)), f 32 t (hs 32 (by omega)), f 33 t (hs 33 (by omega)), f 34 t (hs 34 (by omega)), f 35 t (hs 35 (by omega))]
  exact c
theorem sC_twn {j t : Nat} : ∀ k, (k = 8 ∨ (28 ≤ k ∧ k ≤ 35)) → sC j k t = false := by
  intro k hk
  have : (k == 1) = false ∧ (k == 14) = false ∧ (k == 15) = false := ⟨by simp; omega, by simp; omega, by simp; omega⟩
  simp [sC, this]
theorem sC1 {j : Nat} : sC j 1 j = true := by simp [sC]
theorem sC14 {j : Nat} : sC j 14 j = true := by simp [sC]
theorem sC15 {j : Nat} : sC j 15 j = true := by simp [sC]
theorem cmq_food {h : HF} {j : Nat} {s : Sv} {w d x : Int32} (c : cmq h j s w d) : cmq (put h 1 j 0 x) j (va_up s 0 x) w d := by
  obtain ⟨⟨a1, a2, a3, a4⟩, a5, a6⟩ := c
  refine ⟨⟨put_same, ?_, fun c hc => ?_, fun c hc => ?_⟩, ?_, ?_⟩
  · rw [put_i (by decide), va_up_ne _ _ (by decide)]; exact a2
  · rw [put_k (by decide), va_up_ne _ _ (by omega)]; exact a3 c hc
  · rw [put_k (by decide), va_up_ne _ _ (by omega)]; exact a4 c hc
  · rw [put_i (by decide)]; exact a5
  · rw [put_i (by decide)]; exact a6
theorem cmq_days {h : HF} {j : Nat} {s : Sv} {w d x : Int32} (c : cmq h j s w d) : cmq (put h 1 j 1 x) j (va_up s 2 x) w d := by
  obtain ⟨⟨a1, a2, a3, a4⟩, a5, a6⟩ := c
  refine ⟨⟨?_, put_same, fun c hc => ?_, fun c hc => ?_⟩, ?_, ?_⟩
  · rw [put_i (by decide), va_up_ne _ _ (by decide)]; exact a1
  · rw [put_k (by decide), va_up_ne _ _ (by omega)]; exact a3 c hc
  · rw [put_k (by decide), va_up_ne _ _ (by omega)]; exact a4 c hc
  · rw [put_i (by decide)]; exact a5
  · rw [put_i (by decide)]; exact a6
theorem cmq_wh {h : HF} {j : Nat} {s : Sv} {w d x : Int32} (c : cmq h j s w d) : cmq (put h 1 j 4 x) j s x d := by
  obtain ⟨⟨a1, a2, a3, a4⟩, a5, a6⟩ := c
  refine ⟨⟨?_, ?_, fun c hc => ?_, fun c hc => ?_⟩, put_same, ?_⟩
  · rw [put_i (by decide)]; exact a1
  · rw [put_i (by decide)]; exact a2
  · rw [put_k (by decide)]; exact a3 c hc
  · rw [put_k (by decide)]; exact a4 c hc
  · rw [put_i (by decide)]; exact a6
theorem cmq_des {h : HF} {j : Nat} {s : Sv} {w d x : Int32} (c : cmq h j s w d) : cmq (put h 1 j 5 x) j s w x := by
  obtain ⟨⟨a1, a2, a3, a4⟩, a5, a6⟩ := c
  refine ⟨⟨?_, ?_, fun c hc => ?_, fun c hc => ?_⟩, ?_, put_same⟩
  · rw [put_i (by decide)]; exact a1
  · rw [put_i (by decide)]; exact a2
  · rw [put_k (by decide)]; exact a3 c hc
  · rw [put_k (by decide)]; exact a4 c hc
  · rw [put_i (by decide)]; exact a5
theorem cmq_men {h : HF} {j i : Nat} {s : Sv} {w d x : Int32} (hi : i < 5) (c : cmq h j s w d) : cmq (put h 14 j i x) j (va_up s (5 + i) x) w d := by
  obtain ⟨⟨a1, a2, a3, a4⟩, a5, a6⟩ := c
  refine ⟨⟨?_, ?_, fun c hc => ?_, fun c hc => ?_⟩, ?_, ?_⟩
  · rw [put_k (by decide), va_up_ne _ _ (by omega)]; exact a1
  · rw [put_k (by decide), va_up_ne _ _ (by omega)]; exact a2
  · by_cases e : c = i
    · subst e; rw [put_same, va_up_self]
    · rw [put_i e, va_up_ne _ _ (by omega)]; exact a3 c hc
  · rw [put_k (by decide), va_up_ne _ _ (by omega)]; exact a4 c hc
  · rw [put_k (by decide)]; exact a5
  · rw [put_k (by decide)]; exact a6
theorem cmq_hd {h : HF} {j i : Nat} {s : Sv} {w d x : Int32} (hi : i < 5) (c : cmq h j s w d) : cmq (put h 15 j i x) j (va_up s (10 + i) x) w d := by
  obtain ⟨⟨a1, a2, a3, a4⟩, a5, a6⟩ := c
  refine ⟨⟨?_, ?_, fun c hc => ?_, fun c hc => ?_⟩, ?_, ?_⟩
  · rw [put_k (by decide), va_up_ne _ _ (by omega)]; exact a1
  · rw [put_k (by decide), va_up_ne _ _ (by omega)]; exact a2
  · rw [put_k (by decide), va_up_ne _ _ (by omega)]; exact a3 c hc
  · by_cases e : c = i
    · subst e; rw [put_same, va_up_self]
    · rw [put_i e, va_up_ne _ _ (by omega)]; exact a4 c hc
  · rw [put_k (by decide)]; exact a5
  · rw [put_k (by decide)]; exact a6
set_option maxRecDepth 100000 in
set_option maxHeartbeats 4000000 in
theorem c_menOfAll {E : Ev} {a b j : Nat} {h : HF} {s : Sv} (hC : j < 29) (hc : cmp h j s) : Ct E 0 yX1_menOfAll cX1_menOfAll 3 (some .int) [aR 1 j] 243 (Rs a b) h 243 (fun v R' h' => v = some (aI (msum s 5)) ∧ R' = Rs a b ∧ h' = h) := by
  refine Ct.of 2 (L0 := [some (aR 1 j), none, none]) (by decide) ⟨Nat.le_refl _, Nat.le_refl _⟩ rfl rfl ?_
  intro G C hg hrt hnm
  have hN : gn G ≤ 243 ∧ 243 ≤ 243 ∧ 243 ≤ 243 := ⟨by omega, by decide, by decide⟩
  refine r_iconst (v := (nI 0)) C dX1_menOfAll_0 (by decide) ?_
  refine r_istore_n C dX1_menOfAll_1 st1 ?_
  refine r_iconst (v := (nI 0)) C dX1_menOfAll_2 (by decide) ?_
  refine r_istore_n C dX1_menOfAll_3 st2 ?_
  have loop : ∀ k c, c + k = 5 → Wa E G 243 (Rs a b) h (QQ E G 243 (fun v R' h' => v = some (aI (msum s 5)) ∧ R' = Rs a b ∧ h' = h)) 4 [some (aR 1 j), some (aI (msum s c)), some (aI (nI c))] [] := by
    intro k
    induction k with
    | zero =>
      intro c hc5
      refine r_iload_n C dX1_menOfAll_4 rfl ?_
      refine r_iconst (v := (nI 5)) C dX1_menOfAll_5 (by decide) ?_
      refine r_icmpN_ge C dX1_menOfAll_6 (by omega) (by omega) (fun _ => ?_) (fun cc => absurd cc (by omega))
      refine r_iload_n C dX1_menOfAll_24 rfl ?_
      refine r_iret C hrt dX1_menOfAll_25 ?_
      have e : c = 5 := by omega
      subst e
      exact ⟨rfl, rfl, rfl⟩
    | succ k ih =>
      intro c hc5
      refine r_iload_n C dX1_menOfAll_4 rfl ?_
      refine r_iconst (v := (nI 5)) C dX1_menOfAll_5 (by decide) ?_
      refine r_icmpN_ge C dX1_menOfAll_6 (by omega) (by omega) (fun cc => absurd cc (by omega)) (fun _ => ?_)
      refine r_iload_n C dX1_menOfAll_9 rfl ?_
      refine r_aload_n C dX1_menOfAll_10 rfl ?_
      refine r_getR C flX1_18 dX1_menOfAll_11 (Ok.full (by decide) hC) rfl rfl ?_
      refine r_iload_n C dX1_menOfAll_14 rfl ?_
      refine q_ialdV (m := 5) C dX1_menOfAll_15 (Ok.full (by decide) hC) rfl rfl (by omega) (hc.2.2.1 c (by omega)) ?_
      refine r_iadd C dX1_menOfAll_16 ?_
      refine r_istore_n C dX1_menOfAll_17 st1 ?_
      first | refine r_iincN C dX1_menOfAll_18 rfl st2 ?_ | refine r_iinc C dX1_menOfAll_18 rfl rfl st2 ?_
      refine r_goto C dX1_menOfAll_21 ?_
      exact ih (c + 1) (by omega)
  exact loop 5 0 rfl
end
section
set_option maxRecDepth 100000 in
set_option maxHeartbeats 4000000 in
theorem c_isFed {E : Ev} {a b j c : Nat} {h : HF} {s : Sv} {w d q : Int32} (hC : j < 29) (hcc : c < 5) (hc : cmq h j s w d) : Ct E 0 yX1_isFed cX1_isFed 4 (some .boolean) [aR 1 j, aI (nI c), aI q] 243 (Rs a b) h 243 (fun v R' h' => v = some (aI (if fedB q s c = true then nI 1 else nI 0)) ∧ R' = Rs a b ∧ cmq h' j (fedS q s c) w d ∧ Fr (sC j) h h') := by
  refine Ct.of 1 (L0 := [some (aR 1 j), some (aI (nI c)), some (aI q), none]) (by decide) ⟨Nat.le_refl _, Nat.le_refl _⟩ rfl rfl ?_
  intro G C hg hrt hnm
  have hN : gn G ≤ 243 ∧ 243 ≤ 243 ∧ 243 ≤ 243 := ⟨by omega, by decide, by decide⟩
  refine r_iload_n C dX1_isFed_0 rfl ?_
  refine r_aload_n C dX1_isFed_1 rfl ?_
  refine r_getR C flX1_18 dX1_isFed_2 (Ok.full (by decide) hC) rfl rfl ?_
  refine r_iload_n C dX1_isFed_5 rfl ?_
  refine q_ialdV (m := 5) C dX1_isFed_6 (Ok.full (by decide) hC) rfl rfl (by omega) (hc.1.2.2.1 c hcc) ?_
  first | refine r_imulN C dX1_isFed_7 ?_ | refine r_imul C dX1_isFed_7 ?_
  refine r_istore_n C dX1_isFed_8 st3 ?_
  refine r_iload_n C dX1_isFed_9 rfl ?_
  refine r_aload_n C dX1_isFed_10 rfl ?_
  refine q_getV C flX1_9 dX1_isFed_11 (Ok.full (by decide) hC) rfl hc.1.1 ?_
  refine r_icmp_le C dX1_isFed_14 (fun c14 => ?_) (fun c14 => ?_)
  · refine r_aload_n C dX1_isFed_19 rfl ?_
    refine r_dup C dX1_isFed_20 rfl ?_
    refine q_getV C flX1_9 dX1_isFed_21 (Ok.full (by decide) hC) rfl hc.1.1 ?_
    refine r_iload_n C dX1_isFed_24 rfl ?_
    refine r_isub C dX1_isFed_25 ?_
    refine r_putI C flX1_9 dX1_isFed_26 (Ok.full (by decide) hC) rfl ⟨rfl, rfl⟩ ?_
    refine r_iload_n C dX1_isFed_29 rfl ?_
    refine r_iconst (v := (nI 2)) C dX1_isFed_30 (by decide) ?_
    refine r_icmp_lt C dX1_isFed_31 (fun c31 => ?_) (fun c31 => ?_)
    · refine r_iconst (v := (nI 0)) C dX1_isFed_38 (by decide) ?_
      refine r_zret C hrt dX1_isFed_39 (by decide) ?_
      have e : fedB q s c = false := by simp [fedB, c31]
      rw [e, fedS, if_pos c14]
      exact ⟨rfl, rfl, cmq_food hc, Fr.put Fr.rf sC1⟩
    · refine r_iconst (v := (nI 1)) C dX1_isFed_34 (by decide) ?_
      refine r_goto C dX1_isFed_35 ?_
      refine r_zret C hrt dX1_isFed_39 (by decide) ?_
      have e : fedB q s c = true := by simp [fedB, c14, Int32.not_lt.mp c31]
      rw [e, fedS, if_pos c14]
      exact ⟨rfl, rfl, cmq_food hc, Fr.put Fr.rf sC1⟩
  · refine r_iconst (v := (nI 0)) C dX1_isFed_17 (by decide) ?_
    refine r_zret C hrt dX1_isFed_18 (by decide) ?_
    have e : fedB q s c = false := by simp [fedB, c14]
    rw [e, fedS, if_neg c14]
    exact ⟨rfl, rfl, hc, Fr.rf⟩
set_option maxRecDepth 100000 in
set_option maxHeartbeats 4000000 in
theorem c_starve {E : Ev} {a b j c : Nat} {h : HF} {s : Sv} {w d b0 : Int32} (hC : j < 29) (hcc : c < 5) (hc : cmq h j s w d) : Ct E 1 yX1_starve cX1_starve 3 none [aR 1 j, aI (nI c), aI b0] 243 (Rs a b) h 243 (fun v R' h' => v = none ∧ R' = Rs a b ∧ cmq h' j (starveF b0 c (s, w, d)).1 (starveF b0 c (s, w, d)).2.1 (starveF b0 c (s, w, d)).2.2 ∧ Fr (sC j) h h') := by
  refine Ct.of 0 (L0 := [some (aR 1 j), some (aI (nI c)), some (aI b0)]) (by decide) ⟨Nat.le_refl _, Nat.le_refl _⟩ rfl rfl ?_
  intro G C hg hrt hnm
  have hN : gn G ≤ 243 ∧ 243 ≤ 243 ∧ 243 ≤ 243 := ⟨by omega, by decide, by decide⟩
  refine r_aload_n C dX1_starve_0 rfl ?_
  refine r_getR C flX1_22 dX1_starve_1 (Ok.full (by decide) hC) rfl rfl ?_
  refine r_iload_n C dX1_starve_4 rfl ?_
  refine r_dup2 C dX1_starve_5 rfl rfl ?_
  refine q_ialdV (m := 5) C dX1_starve_6 (Ok.full (by decide) hC) rfl rfl (by omega) (hc.1.2.2.2 c hcc) ?_
  refine r_iconst (v := (nI 1)) C dX1_starve_7 (by decide) ?_
  first | refine r_iaddN C dX1_starve_8 ?_ | refine r_iadd C dX1_starve_8 ?_
  refine q_iast (m := 5) C dX1_starve_9 (Ok.full (by decide) hC) rfl rfl (by omega) ?_
  refine r_aload_n C dX1_starve_10 rfl ?_
  refine r_getR C flX1_18 dX1_starve_11 (Ok.full (by decide) hC) rfl rfl ?_
  refine r_iload_n C dX1_starve_14 rfl ?_
  refine q_ialdV (m := 5) C dX1_starve_15 (Ok.full (by decide) hC) rfl rfl (by omega) (hc.1.2.2.1 c hcc) ?_
  refine r_if_ne C dX1_starve_16 (fun c16 => ?_) (fun c16 => ?_)
  · refine r_aload_n C dX1_starve_20 rfl ?_
    refine r_iconst (v := (nI 1)) C dX1_starve_21 (by decide) ?_
    refine r_putI C flX1_25 dX1_starve_22 (Ok.full (by decide) hC) rfl ⟨rfl, rfl⟩ ?_
    refine r_aload_n C dX1_starve_25 rfl ?_
    refine r_getR C flX1_22 dX1_starve_26 (Ok.full (by decide) hC) rfl rfl ?_
    refine r_iload_n C dX1_starve_29 rfl ?_
    refine q_ialdV (m := 5) C dX1_starve_30 (Ok.full (by decide) hC) rfl rfl (by omega) (show _ = s (10 + c) + nI 1 by rw [put_k (by decide), put_same]) ?_
    refine r_iload_n C dX1_starve_31 rfl ?_
    refine r_icmp_le C dX1_starve_32 (fun c32 => ?_) (fun c32 => ?_)
    · refine r_vret C hrt dX1_starve_76 ?_
      rw [starveF, if_neg c16, if_pos c32]
      exact ⟨rfl, rfl, cmq_wh (cmq_hd hcc hc), Fr.put (Fr.put Fr.rf sC15) sC1⟩
    · refine r_aload_n C dX1_starve_35 rfl ?_
      refine r_getR C flX1_18 dX1_starve_36 (Ok.full (by decide) hC) rfl rfl ?_
      refine r_iload_n C dX1_starve_39 rfl ?_
      refine r_dup2 C dX1_starve_40 rfl rfl ?_
      refine q_ialdV (m := 5) C dX1_starve_41 (Ok.full (by decide) hC) rfl rfl (by omega) (hc.1.2.2.1 c hcc) ?_
      refine r_aload_n C dX1_starve_42 rfl ?_
      refine r_getR C flX1_18 dX1_starve_43 (Ok.full (by decide) hC) rfl rfl ?_
      refine r_iload_n C dX1_starve_46 rfl ?_
      refine q_ialdV (m := 5) C dX1_starve_47 (Ok.full (by decide) hC) rfl rfl (by omega) (hc.1.2.2.1 c hcc) ?_
      refine r_aload_n C dX1_starve_48 rfl ?_
      refine r_getR C flX1_18 dX1_starve_49 (Ok.full (by decide) hC) rfl rfl ?_
      refine r_iload_n C dX1_starve_52 rfl ?_
      refine q_ialdV (m := 5) C dX1_starve_53 (Ok.full (by decide) hC) rfl rfl (by omega) (hc.1.2.2.1 c hcc) ?_
      refine r_iconst (v := (nI 5)) C dX1_starve_54 (by decide) ?_
      refine r_idiv C dX1_starve_55 (by decide) ?_
      refine r_iconst (v := (nI 1)) C dX1_starve_56 (by decide) ?_
      first | refine r_iaddN C dX1_starve_57 ?_ | refine r_iadd C dX1_starve_57 ?_
      refine r_min C dX1_starve_58 cmX1_54 (by omega) (Nat.le_of_ble_eq_true rfl) ⟨hN.1, hN.2.2⟩ ?_
      refine r_isub C dX1_starve_61 ?_
      refine q_iast (m := 5) C dX1_starve_62 (Ok.full (by decide) hC) rfl rfl (by omega) ?_
      refine r_aload_n C dX1_starve_63 rfl ?_
      refine q_getV C flX1_29 dX1_starve_64 (Ok.full (by decide) hC) rfl hc.2.2 ?_
      refine r_iconst (v := (-1)) C dX1_starve_67 (by decide) ?_
      have hh := cmq_men (x := s (5 + c) - goneF (s (5 + c))) hcc (cmq_wh (x := nI 1) (cmq_hd (x := s (10 + c) + nI 1) hcc hc))
      have ff : Fr (sC j) h (put (put (put h 15 j c (s (10 + c) + nI 1)) 1 j 4 (nI 1)) 14 j c (s (5 + c) - goneF (s (5 + c)))) := Fr.put (Fr.put (Fr.put Fr.rf sC15) sC1) sC14
      refine r_icmp_ne C dX1_starve_68 (fun c68 => ?_) (fun c68 => ?_)
      · refine r_vret C hrt dX1_starve_76 ?_
        rw [starveF, if_neg c16, if_neg c32, if_neg c68]
        exact ⟨rfl, rfl, hh, ff⟩
      · refine r_aload_n C dX1_starve_71 rfl ?_
        refine r_iload_n C dX1_starve_72 rfl ?_
        refine r_putI C flX1_29 dX1_starve_73 (Ok.full (by decide) hC) rfl ⟨rfl, rfl⟩ ?_
        refine r_vret C hrt dX1_starve_76 ?_
        rw [starveF, if_neg c16, if_neg c32, if_pos c68]
        exact ⟨rfl, rfl, cmq_des hh, Fr.put ff sC1⟩
  · refine r_vret C hrt dX1_starve_19 ?_
    rw [starveF, if_pos c16]
    exact ⟨rfl, rfl, cmq_hd hcc hc, Fr.put Fr.rf sC15⟩
set_option maxRecDepth 100000 in
set_option maxHeartbeats 4000000 in
theorem c_foodOfHorses {E : Ev} {a b t : Nat} {h : HF} {N : Nat → Nat} {T : Tv} {day : Int32} (hT : t < 2) (ht : twn h t N T) : Ct E 0 yX8_foodOfHorses cX8_foodOfHorses 4 (some .int) [aR 8 t, aI day] 243 (Rs a b) h 243 (fun v R' h' => v = some (aI (hfd T day (N 3))) ∧ R' = Rs a b ∧ h' = h) := by
  refine Ct.of 2 (L0 := [some (aR 8 t), some (aI day), none, none]) (by decide) ⟨Nat.le_refl _, Nat.le_refl _⟩ rfl rfl ?_
  intro G C hg hrt hnm
  have hN : gn G ≤ 243 ∧ 243 ≤ 243 ∧ 243 ≤ 243 := ⟨by omega, by decide, by decide⟩
  refine r_iconst (v := (nI 0)) C dX8_foodOfHorses_0 (by decide) ?_
  refine r_istore_n C dX8_foodOfHorses_1 st2 ?_
  refine r_iconst (v := (nI 0)) C dX8_foodOfHorses_2 (by decide) ?_
  refine r_istore_n C dX8_foodOfHorses_3 st3 ?_
  have hN3 := ht.2.2.2.2.2.2.2.2.2.2.2.2.1
  have loop : ∀ k i, i + k = N 3 → Wa E G 243 (Rs a b) h (QQ E G 243 (fun v R' h' => v = some (aI (hfd T day (N 3))) ∧ R' = Rs a b ∧ h' = h)) 4 [some (aR 8 t), some (aI day), some (aI (hfd T day i)), some (aI (nI i))] [] := by
    intro k
    induction k with
    | zero =>
      intro i hi
      refine r_iload_n C dX8_foodOfHorses_4 rfl ?_
      refine r_aload_n C dX8_foodOfHorses_5 rfl ?_
      refine q_getV C flX8_31 dX8_foodOfHorses_6 (Ok.full (by decide) hT) rfl ht.2.2.2.1 ?_
      refine r_icmpN_ge C dX8_foodOfHorses_9 (by omega) (by omega) (fun _ => ?_) (fun cc => absurd cc (by omega))
      refine r_iload_n C dX8_foodOfHorses_37 rfl ?_
      refine r_iret C hrt dX8_foodOfHorses_38 ?_
      have e : i = N 3 := by omega
      subst e
      exact ⟨rfl, rfl, rfl⟩
    | succ k ih =>
      intro i hi
      have hrow := ht.2.2.2.2.2.2.2.2.1 i (by omega)
      have ih2 := ih (i + 1) (by omega)
      refine r_iload_n C dX8_foodOfHorses_4 rfl ?_
      refine r_aload_n C dX8_foodOfHorses_5 rfl ?_
      refine q_getV C flX8_31 dX8_foodOfHorses_6 (Ok.full (by decide) hT) rfl ht.2.2.2.1 ?_
      refine r_icmpN_ge C dX8_foodOfHorses_9 (by omega) (by omega) (fun cc => absurd cc (by omega)) (fun _ => ?_)
      refine r_aload_n C dX8_foodOfHorses_12 rfl ?_
      refine r_getR C flX8_56 dX8_foodOfHorses_13 (Ok.full (by decide) hT) rfl rfl ?_
      refine r_iload_n C dX8_foodOfHorses_16 rfl ?_
      refine q_ialdV (m := 4) C dX8_foodOfHorses_17 (Ok.full (by decide) hT) rfl rfl (by omega) hrow.1 ?_
      refine r_iload_n C dX8_foodOfHorses_18 rfl ?_
      refine r_icmp_ne C dX8_foodOfHorses_19 (fun c19 => ?_) (fun c19 => ?_)
      · first | refine r_iincN C dX8_foodOfHorses_31 rfl st3 ?_ | refine r_iinc C dX8_foodOfHorses_31 rfl rfl st3 ?_
        refine r_goto C dX8_foodOfHorses_34 ?_
        rw [hfd, if_neg c19] at ih2
        exact ih2
      · refine r_iload_n C dX8_foodOfHorses_22 rfl ?_
        refine r_aload_n C dX8_foodOfHorses_23 rfl ?_
        refine r_getR C flX8_59 dX8_foodOfHorses_24 (Ok.full (by decide) hT) rfl rfl ?_
        refine r_iload_n C dX8_foodOfHorses_27 rfl ?_
        refine q_ialdV (m := 4) C dX8_foodOfHorses_28 (Ok.full (by decide) hT) rfl rfl (by omega) hrow.2 ?_
        refine r_iadd C dX8_foodOfHorses_29 ?_
        refine r_istore_n C dX8_foodOfHorses_30 st2 ?_
        first | refine r_iincN C dX8_foodOfHorses_31 rfl st3 ?_ | refine r_iinc C dX8_foodOfHorses_31 rfl rfl st3 ?_
        refine r_goto C dX8_foodOfHorses_34 ?_
        rw [hfd, if_pos c19] at ih2
        exact ih2
  exact loop (N 3) 0 (by omega)
set_option maxRecDepth 100000 in
set_option maxHeartbeats 4000000 in
theorem c_eatADay {E : Ev} {a b j t : Nat} {h : HF} {N : Nat → Nat} {T : Tv} {s : Sv} {q : Int32} (hC : j < 29) (hT : t < 2) (ht : twn h t N T) (hc : cmp h j s) : Ct E 2 yX1_eatADay cX1_eatADay 4 none [aR 1 j, aR 8 t, aI q] 243 (Rs a b) h 243 (fun v R' h' => v = none ∧ R' = Rs a b ∧ cmq h' j (edayF N T q s).1 (edayF N T q s).2.1 (edayF N T q s).2.2 ∧ Fr (sC j) h h') := by
  refine Ct.of 1 (L0 := [some (aR 1 j), some (aR 8 t), some (aI q), none]) (by decide) ⟨Nat.le_refl _, Nat.le_refl _⟩ rfl rfl ?_
  intro G C hg hrt hnm
  have hN : gn G ≤ 243 ∧ 243 ≤ 243 ∧ 243 ≤ 243 := ⟨by omega, by decide, by decide⟩
  have hc0 : cmq h j s (h 1 j 4) (h 1 j 5) := ⟨hc, rfl, rfl⟩
  have hN0 := ht.2.2.2.2.2.2.2.2.2.1
  refine r_aload_n C dX1_eatADay_0 rfl ?_
  refine r_dup C dX1_eatADay_1 rfl ?_
  refine q_getV C flX1_9 dX1_eatADay_2 (Ok.full (by decide) hC) rfl hc.1 ?_
  refine r_aload_n C dX1_eatADay_5 rfl ?_
  refine r_aload_n C dX1_eatADay_6 rfl ?_
  refine q_getV C flX1_15 dX1_eatADay_7 (Ok.full (by decide) hC) rfl hc.2.1 ?_
  refine r_callV C (c_foodOfHorses hT ht) dX1_eatADay_10 cw_X8_foodOfHorses cvX1_39 (by omega) (Ok.full (by decide) hT) rfl hN rfl (Nat.le_of_ble_eq_true rfl) ?_
  rintro v R' h' ⟨rfl, rfl, rfl⟩
  first | refine r_iaddN C dX1_eatADay_13 ?_ | refine r_iadd C dX1_eatADay_13 ?_
  refine r_putI C flX1_9 dX1_eatADay_14 (Ok.full (by decide) hC) rfl ⟨rfl, rfl⟩ ?_
  refine r_aload_n C dX1_eatADay_17 rfl ?_
  refine r_iconst (v := (nI 0)) C dX1_eatADay_18 (by decide) ?_
  refine r_putI C flX1_25 dX1_eatADay_19 (Ok.full (by decide) hC) rfl ⟨rfl, rfl⟩ ?_
  refine r_aload_n C dX1_eatADay_22 rfl ?_
  refine r_iconst (v := (-1)) C dX1_eatADay_23 (by decide) ?_
  refine r_putI C flX1_29 dX1_eatADay_24 (Ok.full (by decide) hC) rfl ⟨rfl, rfl⟩ ?_
  refine r_iconst (v := (nI 0)) C dX1_eatADay_27 (by decide) ?_
  refine r_istore_n C dX1_eatADay_28 st3 ?_
  have hc1 := cmq_des (x := -1) (cmq_wh (x := nI 0) (cmq_food (x := s 0 + hfd T (s 2) (N 3)) hc0))
  have f1 : Fr (sC j) h' (put (put (put h' 1 j 0 (s 0 + hfd T (s 2) (N 3))) 1 j 4 (nI 0)) 1 j 5 (-1)) := Fr.put (Fr.put (Fr.put Fr.rf sC1) sC1) sC1
  have loop : ∀ k c hh, c + k = N 0 → cmq hh j (eatN (T 1) q (va_up s 0 (s 0 + hfd T (s 2) (N 3)), nI 0, -1) c).1 (eatN (T 1) q (va_up s 0 (s 0 + hfd T (s 2) (N 3)), nI 0, -1) c).2.1 (eatN (T 1) q (va_up s 0 (s 0 + hfd T (s 2) (N 3)), nI 0, -1) c).2.2 → Fr (sC j) h' hh →
      Wa E G 243 (Rs a b) hh (QQ E G 243 (fun v R' h2 => v = none ∧ R' = Rs a b ∧ cmq h2 j (edayF N T q s).1 (edayF N T q s).2.1 (edayF N T q s).2.2 ∧ Fr (sC j) h' h2)) 29 [some (aR 1 j), some (aR 8 t), some (aI q), some (aI (nI c))] [] := by
    intro k
    induction k with
    | zero =>
      intro c hh hk hcm hf
      have htn := ht.fr hf sC_twn
      have e : c = N 0 := by omega
      subst e
      refine r_iload_n C dX1_eatADay_29 rfl ?_
      refine r_aload_n C dX1_eatADay_30 rfl ?_
      refine q_getV C flX1_35 dX1_eatADay_31 (Ok.full (by decide) hT) rfl htn.1 ?_
      refine r_icmpN_ge C dX1_eatADay_34 (by omega) (by omega) (fun _ => ?_) (fun cc => absurd cc (by omega))
      refine r_aload_n C dX1_eatADay_73 rfl ?_
      refine r_dup C dX1_eatADay_74 rfl ?_
      refine q_getV C flX1_15 dX1_eatADay_75 (Ok.full (by decide) hC) rfl hcm.1.2.1 ?_
      refine r_iconst (v := (nI 1)) C dX1_eatADay_78 (by decide) ?_
      first | refine r_iaddN C dX1_eatADay_79 ?_ | refine r_iadd C dX1_eatADay_79 ?_
      refine r_putI C flX1_15 dX1_eatADay_80 (Ok.full (by decide) hC) rfl ⟨rfl, rfl⟩ ?_
      refine r_vret C hrt dX1_eatADay_83 ?_
      exact ⟨rfl, rfl, cmq_days hcm, Fr.put hf sC1⟩
    | succ k ih =>
      intro c hh hk hcm hf
      have htn := ht.fr hf sC_twn
      have ih2 := ih (c + 1)
      rw [eatN, eat1] at ih2
      refine r_iload_n C dX1_eatADay_29 rfl ?_
      refine r_aload_n C dX1_eatADay_30 rfl ?_
      refine q_getV C flX1_35 dX1_eatADay_31 (Ok.full (by decide) hT) rfl htn.1 ?_
      refine r_icmpN_ge C dX1_eatADay_34 (by omega) (by omega) (fun cc => absurd cc (by omega)) (fun _ => ?_)
      refine r_aload_n C dX1_eatADay_37 rfl ?_
      refine r_iload_n C dX1_eatADay_38 rfl ?_
      refine r_iload_n C dX1_eatADay_39 rfl ?_
      refine r_callV C (c_isFed hC (by omega) hcm) dX1_eatADay_40 cw_X1_isFed cvX1_43 (by omega) (Ok.full (by decide) hC) rfl hN rfl (Nat.le_of_ble_eq_true rfl) ?_
      rintro v R' h2 ⟨rfl, rfl, hc2, hf2⟩
      by_cases hfd : fedB q (eatN (T 1) q (va_up s 0 (s 0 + hfd T (s 2) (N 3)), nI 0, -1) c).1 c = true
      · rw [if_pos hfd] at ih2
        rw [if_pos hfd]
        refine r_if_eq C dX1_eatADay_43 (fun cc => absurd cc (by decide)) (fun _ => ?_)
        refine r_aload_n C dX1_eatADay_46 rfl ?_
        refine r_getR C flX1_22 dX1_eatADay_47 (Ok.full (by decide) hC) rfl rfl ?_
        refine r_iload_n C dX1_eatADay_50 rfl ?_
        refine r_iconst (v := (nI 0)) C dX1_eatADay_51 (by decide) ?_
        refine q_iast (m := 5) C dX1_eatADay_52 (Ok.full (by decide) hC) rfl rfl (by omega) ?_
        refine r_goto C dX1_eatADay_53 ?_
        first | refine r_iincN C dX1_eatADay_67 rfl st3 ?_ | refine r_iinc C dX1_eatADay_67 rfl rfl st3 ?_
        refine r_goto C dX1_eatADay_70 ?_
        exact ih2 _ (by omega) (cmq_hd (by omega) hc2) (Fr.put (hf.tr hf2) sC15)
      · rw [if_neg hfd] at ih2
        rw [if_neg hfd]
        refine r_if_eq C dX1_eatADay_43 (fun _ => ?_) (fun cc => absurd cc (by decide))
        have htn2 := htn.fr hf2 sC_twn
        refine r_aload_n C dX1_eatADay_56 rfl ?_
        refine r_iload_n C dX1_eatADay_57 rfl ?_
        refine r_aload_n C dX1_eatADay_58 rfl ?_
        refine r_getR C flX1_47 dX1_eatADay_59 (Ok.full (by decide) hT) rfl rfl ?_
        refine r_iload_n C dX1_eatADay_62 rfl ?_
        refine q_ialdV (m := 5) C dX1_eatADay_63 (Ok.full (by decide) hT) rfl rfl (by omega) ((htn2.2.2.2.2.2.1 c (by omega)).2) ?_
        refine r_callV C (c_starve hC (by omega) hc2) dX1_eatADay_64 cw_X1_starve cvX1_50 (by omega) (Ok.full (by decide) hC) rfl hN rfl (Nat.le_of_ble_eq_true rfl) ?_
        rintro v R' h3 ⟨rfl, rfl, hc3, hf3⟩
        first | refine r_iincN C dX1_eatADay_67 rfl st3 ?_ | refine r_iinc C dX1_eatADay_67 rfl rfl st3 ?_
        refine r_goto C dX1_eatADay_70 ?_
        exact ih2 _ (by omega) hc3 ((hf.tr hf2).tr hf3)
  exact loop (N 0) 0 _ (by omega) hc1 f1
end
section
/-! sieges -/
def sS (j : Nat) : Nat → Nat → Bool := fun k j' => (k == 1 || k == 14 || k == 15 || k == 6 || k == 23 || k == 24 || k == 25) && j' == j
def sgp (h : HF) (j : Nat) (s : Sv) : Prop := cmp h j s ∧ h 6 j 1 = s 1 ∧ h 6 j 2 = s 3 ∧ h 6 j 3 = s 4 ∧ (∀ m, m < 4 → h 23 j m = s (20 + m)) ∧ (∀ c, c < 5 → h 24 j c = s (15 + c)) ∧ ∀ i, i < 20 → h 25 j i = s (24 + i)
theorem sS_of {j k : Nat} (hk : k = 1 ∨ k = 14 ∨ k = 15 ∨ k = 6 ∨ k = 23 ∨ k = 24 ∨ k = 25) : sS j k j = true := by
  rcases hk with rfl | rfl | rfl | rfl | rfl | rfl | rfl <;> simp [sS]
theorem sS_twn {j t : Nat} : ∀ k, (k = 8 ∨ (27 ≤ k ∧ k ≤ 35)) → sS j k t = false := by
  intro k hk
  have : (k == 1) = false ∧ (k == 14) = false ∧ (k == 15) = false ∧ (k == 6) = false ∧ (k == 23) = false ∧ (k == 24) = false ∧ (k == 25) = false := ⟨by simp; omega, by simp; omega, by simp; omega, by simp; omega, by simp; omega, by simp; omega, by simp; omega⟩
  simp [sS, this]
theorem sS_twn' {j t : Nat} : ∀ k, (k = 8 ∨ (28 ≤ k ∧ k ≤ 35)) → sS j k t = false := fun k hk => sS_twn k (by omega)
theorem sC_sS {j : Nat} : ∀ k j', sC j k j' = true → sS j k j' = true := by
  intro k j' hh
  simp only [sC, sS, Bool.and_eq_true, Bool.or_eq_true] at hh ⊢
  refine ⟨?_, hh.2⟩
  rcases hh.1 with (z | z) | z <;> simp [z]
theorem sS_ne {i j k : Nat} (h : i ≠ j) : sS j k i = false := by simp [sS, h]
theorem sC_ne {i j k : Nat} (h : i ≠ j) : sC j k i = false := by simp [sC, h]
theorem sgp.fr {S : Nat → Nat → Bool} {h h' : HF} {j : Nat} {s : Sv} (f : Fr S h h') (hs : ∀ k, (k = 1 ∨ k = 14 ∨ k = 15 ∨ k = 6 ∨ k = 23 ∨ k = 24 ∨ k = 25) → S k j = false) (c : sgp h j s) : sgp h' j s := by
  unfold sgp
  rw [f 6 j (hs 6 (by omega)), f 23 j (hs 23 (by omega)), f 24 j (hs 24 (by omega)), f 25 j (hs 25 (by omega))]
  exact ⟨c.1.fr f (hs 1 (by omega)) (hs 14 (by omega)) (hs 15 (by omega)), c.2⟩
/-- the camp's part of a siege changes -/
theorem sgp.camp {h h' : HF} {j : Nat} {s s' : Sv} (c : sgp h j s) (f : Fr (sC j) h h') (hc : cmp h' j s') (ho : ∀ k, k ≠ 0 → k ≠ 2 → (k < 5 ∨ 15 ≤ k) → s' k = s k) : sgp h' j s' := by
  obtain ⟨-, a1, a2, a3, a4, a5, a6⟩ := c
  refine ⟨hc, ?_, ?_, ?_, fun m hm => ?_, fun m hm => ?_, fun m hm => ?_⟩
  · rw [f 6 j rfl, ho 1 (by omega) (by omega) (by omega)]; exact a1
  · rw [f 6 j rfl, ho 3 (by omega) (by omega) (by omega)]; exact a2
  · rw [f 6 j rfl, ho 4 (by omega) (by omega) (by omega)]; exact a3
  · rw [f 23 j rfl, ho (20 + m) (by omega) (by omega) (by omega)]; exact a4 m hm
  · rw [f 24 j rfl, ho (15 + m) (by omega) (by omega) (by omega)]; exact a5 m hm
  · rw [f 25 j rfl, ho (24 + m) (by omega) (by omega) (by omega)]; exact a6 m hm
theorem cmp.up {h : HF} {j n : Nat} {s : Sv} {x : Int32} (c : cmp h j s) (h1 : n ≠ 0) (h2 : n ≠ 2) (h3 : n < 5 ∨ 15 ≤ n) : cmp h j (va_up s n x) := by
  obtain ⟨a1, a2, a3, a4⟩ := c
  exact ⟨by rw [va_up_ne _ _ (by omega)]; exact a1, by rw [va_up_ne _ _ (by omega)]; exact a2, fun c hc => by rw [va_up_ne _ _ (by omega)]; exact a3 c hc, fun c hc => by rw [va_up_ne _ _ (by omega)]; exact a4 c hc⟩
theorem cmp.putk {h : HF} {j k i n : Nat} {s : Sv} {x : Int32} (c : cmp h j s) (h1 : k ≠ 1) (h2 : k ≠ 14) (h3 : k ≠ 15) : cmp (put h k n i x) j s := by
  unfold cmp
  rw [put_k (Ne.symm h1), put_k (Ne.symm h2), put_k (Ne.symm h3)]
  exact c
theorem sgp_odds {h : HF} {j : Nat} {s : Sv} {x : Int32} (c : sgp h j s) : sgp (put h 6 j 1 x) j (va_up s 1 x) := by
  obtain ⟨a0, a1, a2, a3, a4, a5, a6⟩ := c
  refine ⟨(a0.up (by omega) (by omega) (by omega)).putk (by omega) (by omega) (by omega), put_same, ?_, ?_, fun m hm => ?_, fun m hm => ?_, fun m hm => ?_⟩
  · rw [put_i (by decide), va_up_ne _ _ (by decide)]; exact a2
  · rw [put_i (by decide), va_up_ne _ _ (by decide)]; exact a3
  · rw [put_k (by decide), va_up_ne _ _ (by omega)]; exact a4 m hm
  · rw [put_k (by decide), va_up_ne _ _ (by omega)]; exact a5 m hm
  · rw [put_k (by decide), va_up_ne _ _ (by omega)]; exact a6 m hm
theorem sgp_hunger {h : HF} {j : Nat} {s : Sv} {x : Int32} (c : sgp h j s) : sgp (put h 6 j 2 x) j (va_up s 3 x) := by
  obtain ⟨a0, a1, a2, a3, a4, a5, a6⟩ := c
  refine ⟨(a0.up (by omega) (by omega) (by omega)).putk (by omega) (by omega) (by omega), ?_, put_same, ?_, fun m hm => ?_, fun m hm => ?_, fun m hm => ?_⟩
  · rw [put_i (by decide), va_up_ne _ _ (by decide)]; exact a1
  · rw [put_i (by decide), va_up_ne _ _ (by decide)]; exact a3
  · rw [put_k (by decide), va_up_ne _ _ (by omega)]; exact a4 m hm
  · rw [put_k (by decide), va_up_ne _ _ (by omega)]; exact a5 m hm
  · rw [put_k (by decide), va_up_ne _ _ (by omega)]; exact a6 m hm
theorem sgp_fate {h : HF} {j : Nat} {s : Sv} {x : Int32} (c : sgp h j s) : sgp (put h 6 j 3 x) j (va_up s 4 x) := by
  obtain ⟨a0, a1, a2, a3, a4, a5, a6⟩ := c
  refine ⟨(a0.up (by omega) (by omega) (by omega)).putk (by omega) (by omega) (by omega), ?_, ?_, put_same, fun m hm => ?_, fun m hm => ?_, fun m hm => ?_⟩
  · rw [put_i (by decide), va_up_ne _ _ (by decide)]; exact a1
  · rw [put_i (by decide), va_up_ne _ _ (by decide)]; exact a2
  · rw [put_k (by decide), va_up_ne _ _ (by omega)]; exact a4 m hm
  · rw [put_k (by decide), va_up_ne _ _ (by omega)]; exact a5 m hm
  · rw [put_k (by decide), va_up_ne _ _ (by omega)]; exact a6 m hm
theorem sgp_left {h : HF} {j i : Nat} {s : Sv} {x : Int32} (hi : i < 4) (c : sgp h j s) : sgp (put h 23 j i x) j (va_up s (20 + i) x) := by
  obtain ⟨a0, a1, a2, a3, a4, a5, a6⟩ := c
  refine ⟨(a0.up (by omega) (by omega) (by omega)).putk (by omega) (by omega) (by omega), ?_, ?_, ?_, fun m hm => ?_, fun m hm => ?_, fun m hm => ?_⟩
  · rw [put_k (by decide), va_up_ne _ _ (by omega)]; exact a1
  · rw [put_k (by decide), va_up_ne _ _ (by omega)]; exact a2
  · rw [put_k (by decide), va_up_ne _ _ (by omega)]; exact a3
  · by_cases e : m = i
    · subst e; rw [put_same, va_up_self]
    · rw [put_i e, va_up_ne _ _ (by omega)]; exact a4 m hm
  · rw [put_k (by decide), va_up_ne _ _ (by omega)]; exact a5 m hm
  · rw [put_k (by decide), va_up_ne _ _ (by omega)]; exact a6 m hm
theorem sgp_words {h : HF} {j i : Nat} {s : Sv} {x : Int32} (hi : i < 5) (c : sgp h j s) : sgp (put h 24 j i x) j (va_up s (15 + i) x) := by
  obtain ⟨a0, a1, a2, a3, a4, a5, a6⟩ := c
  refine ⟨(a0.up (by omega) (by omega) (by omega)).putk (by omega) (by omega) (by omega), ?_, ?_, ?_, fun m hm => ?_, fun m hm => ?_, fun m hm => ?_⟩
  · rw [put_k (by decide), va_up_ne _ _ (by omega)]; exact a1
  · rw [put_k (by decide), va_up_ne _ _ (by omega)]; exact a2
  · rw [put_k (by decide), va_up_ne _ _ (by omega)]; exact a3
  · rw [put_k (by decide), va_up_ne _ _ (by omega)]; exact a4 m hm
  · by_cases e : m = i
    · subst e; rw [put_same, va_up_self]
    · rw [put_i e, va_up_ne _ _ (by omega)]; exact a5 m hm
  · rw [put_k (by decide), va_up_ne _ _ (by omega)]; exact a6 m hm
theorem sgp_paid {h : HF} {j i : Nat} {s : Sv} {x : Int32} (hi : i < 20) (c : sgp h j s) : sgp (put h 25 j i x) j (va_up s (24 + i) x) := by
  obtain ⟨a0, a1, a2, a3, a4, a5, a6⟩ := c
  refine ⟨(a0.up (by omega) (by omega) (by omega)).putk (by omega) (by omega) (by omega), ?_, ?_, ?_, fun m hm => ?_, fun m hm => ?_, fun m hm => ?_⟩
  · rw [put_k (by decide), va_up_ne _ _ (by omega)]; exact a1
  · rw [put_k (by decide), va_up_ne _ _ (by omega)]; exact a2
  · rw [put_k (by decide), va_up_ne _ _ (by omega)]; exact a3
  · rw [put_k (by decide), va_up_ne _ _ (by omega)]; exact a4 m hm
  · rw [put_k (by decide), va_up_ne _ _ (by omega)]; exact a5 m hm
  · by_cases e : m = i
    · subst e; rw [put_same, va_up_self]
    · rw [put_i e, va_up_ne _ _ (by omega)]; exact a6 m hm
theorem sgp_men {h : HF} {j i : Nat} {s : Sv} {x : Int32} (hi : i < 5) (c : sgp h j s) : sgp (put h 14 j i x) j (va_up s (5 + i) x) :=
  c.camp (Fr.put Fr.rf sC14) (cmq_men hi ⟨c.1, rfl, rfl⟩).1 (fun k h1 h2 h3 => by rw [va_up_ne _ _ (by omega)])
/-- what isn't a camp's stays, when a day is eaten -/
theorem fedS_off {q : Int32} {s : Sv} {c k : Nat} (hk : k ≠ 0) : fedS q s c k = s k := by
  unfold fedS
  split
  · rw [va_up_ne _ _ hk]
  · rfl
theorem starveF_off {b : Int32} {c k : Nat} {u : Sv × Int32 × Int32} (hc : c < 5) (hk : k < 5 ∨ 15 ≤ k) : (starveF b c u).1 k = u.1 k := by
  unfold starveF
  split
  · exact va_up_ne _ _ (by omega)
  · split
    · exact va_up_ne _ _ (by omega)
    · show va_up (va_up _ _ _) _ _ k = _
      rw [va_up_ne _ _ (by omega), va_up_ne _ _ (by omega)]
theorem eat1_off {b : Nat → Int32} {q : Int32} {c k : Nat} {u : Sv × Int32 × Int32} (hc : c < 5) (h0 : k ≠ 0) (hk : k < 5 ∨ 15 ≤ k) : (eat1 b q c u).1 k = u.1 k := by
  unfold eat1
  split
  · show va_up _ _ _ k = _
    rw [va_up_ne _ _ (by omega), fedS_off h0]
  · rw [starveF_off hc hk]
    exact fedS_off h0
theorem eatN_off {b : Nat → Int32} {q : Int32} {k : Nat} {u : Sv × Int32 × Int32} (h0 : k ≠ 0) (hk : k < 5 ∨ 15 ≤ k) : ∀ n, n ≤ 5 → (eatN b q u n).1 k = u.1 k
  | 0, _ => rfl
  | n + 1, hn => by rw [eatN, eat1_off (by omega) h0 hk, eatN_off h0 hk n (by omega)]
theorem eday_off {N : Nat → Nat} {T : Tv} {q : Int32} {s : Sv} {k : Nat} (hN : N 0 ≤ 5) (h0 : k ≠ 0) (h2 : k ≠ 2) (hk : k < 5 ∨ 15 ≤ k) : (edayF N T q s).1 k = s k := by
  show va_up _ _ _ k = _
  rw [va_up_ne _ _ h2, eatN_off h0 hk _ hN]
  exact va_up_ne _ _ h0
def payR (s : Sv) (c : Nat) (due : Int32) : Nat → Nat → Sv
  | 0, _ => va_up s (15 + c) (s (15 + c) + due)
  | r + 1, i => if due ≤ s (20 + i) then va_up (va_up s (20 + i) (s (20 + i) - due)) (24 + (c * 4 + i)) (s (24 + (c * 4 + i)) + due) else payR s c due r (i + 1)
def payN (N : Nat → Nat) (T : Tv) (s : Sv) : Nat → Sv
  | 0 => s
  | c + 1 => payR (payN N T s c) c (payN N T s c (5 + c) * T 0 c) (N 1) 0
def hunF (w x : Int32) : Int32 := if w = 0 then (if nI 0 < x - nI 1 then x - nI 1 else nI 0) else x + nI 1
def passF (N : Nat → Nat) (T : Tv) (q : Int32) (s : Sv) : Sv :=
  va_up (payN N T (edayF N T q s).1 (N 0)) 3 (hunF (edayF N T q s).2.1 (payN N T (edayF N T q s).1 (N 0) 3))
def rodF (more : Int32) (s : Sv) : Sv := va_up s 1 (if s 1 + more < nI 99 then s 1 + more else nI 99)
def wosF (T : Tv) (m rd : Nat) : Int32 := if rd = 0 then T 2 m else if rd = 1 then T 3 m else nI 1
def owF (T : Tv) (s : Sv) (c rd : Nat) : Nat → Int32
  | 0 => s (15 + c)
  | m + 1 => owF T s c rd m + s (24 + (c * 4 + m)) * wosF T m rd
def twb (h : HF) (t : Nat) (N : Nat → Nat) (T : Tv) : Prop := (∀ i, i < N 0 → h 27 t i = T 7 i) ∧ (∀ i, i < N 1 → h 30 t i = T 8 i) ∧ h 8 t 1 = T 9 0 ∧ h 8 t 2 = T 9 1
theorem twb.fr {S : Nat → Nat → Bool} {h h' : HF} {t : Nat} {N : Nat → Nat} {T : Tv} (f : Fr S h h') (hs : ∀ k, (k = 8 ∨ (27 ≤ k ∧ k ≤ 35)) → S k t = false) (c : twb h t N T) : twb h' t N T := by
  unfold twb
  rw [f 8 t (hs 8 (by omega)), f 27 t (hs 27 (by omega)), f 30 t (hs 30 (by omega))]
  exact c
def bgF (N : Nat → Nat) (T : Tv) : Sv := fun k => if k = 0 then T 9 0 else if k = 1 then T 9 1 else if 5 ≤ k ∧ k < 5 + N 0 then T 7 (k - 5) else if 20 ≤ k ∧ k < 20 + N 1 then T 8 (k - 20) else nI 0
end
section
def sP (j : Nat) : Nat → Nat → Bool := fun k j' => (k == 23 || k == 24 || k == 25) && j' == j
theorem sP_of {j k : Nat} (hk : k = 23 ∨ k = 24 ∨ k = 25) : sP j k j = true := by
  rcases hk with rfl | rfl | rfl <;> simp [sP]
theorem sP_sS {j : Nat} : ∀ k j', sP j k j' = true → sS j k j' = true := by
  intro k j' hh
  simp only [sP, sS, Bool.and_eq_true, Bool.or_eq_true] at hh ⊢
  refine ⟨?_, hh.2⟩
  rcases hh.1 with (z | z) | z <;> simp [z]
set_option maxRecDepth 100000 in
set_option maxHeartbeats 4000000 in
theorem c_campBegin {E : Ev} {a b j t : Nat} {h : HF} {N : Nat → Nat} {T : Tv} (hC : j < 29) (hT : t < 2) (ht : twn h t N T) (hb : twb h t N T) : Ct E 0 yX1_begin cX1_begin 3 none [aR 1 j, aR 8 t] 243 (Rs a b) h 243 (fun v R' h' => v = none ∧ R' = Rs a b ∧ cmp h' j (bgF N T) ∧ Fr (sC j) h h') := by
  refine Ct.of 1 (L0 := [some (aR 1 j), some (aR 8 t), none]) (by decide) ⟨Nat.le_refl _, Nat.le_refl _⟩ rfl rfl ?_
  intro G C hg hrt hnm
  have hN : gn G ≤ 243 ∧ 243 ≤ 243 ∧ 243 ≤ 243 := ⟨by omega, by decide, by decide⟩
  have hN0 := ht.2.2.2.2.2.2.2.2.2.1
  refine r_aload_n C dX1_begin_0 rfl ?_
  refine r_aload_n C dX1_begin_1 rfl ?_
  refine q_getV C flX1_32 dX1_begin_2 (Ok.full (by decide) hT) rfl hb.2.2.1 ?_
  refine r_putI C flX1_9 dX1_begin_5 (Ok.full (by decide) hC) rfl ⟨rfl, rfl⟩ ?_
  refine r_aload_n C dX1_begin_8 rfl ?_
  refine r_iconst (v := (nI 0)) C dX1_begin_9 (by decide) ?_
  refine r_putI C flX1_15 dX1_begin_10 (Ok.full (by decide) hC) rfl ⟨rfl, rfl⟩ ?_
  refine r_iconst (v := (nI 0)) C dX1_begin_13 (by decide) ?_
  refine r_istore_n C dX1_begin_14 st2 ?_
  have loop : ∀ k c hh, c + k = 5 → hh 1 j 0 = T 9 0 → hh 1 j 1 = nI 0 → (∀ i, i < c → hh 14 j i = bgF N T (5 + i) ∧ hh 15 j i = nI 0) → Fr (sC j) h hh → Wa E G 243 (Rs a b) hh (QQ E G 243 (fun v R' h' => v = none ∧ R' = Rs a b ∧ cmp h' j (bgF N T) ∧ Fr (sC j) h h')) 15 [some (aR 1 j), some (aR 8 t), some (aI (nI c))] [] := by
    intro k
    induction k with
    | zero =>
      intro c hh hk h0 h1 hr hf
      refine r_iload_n C dX1_begin_15 rfl ?_
      refine r_iconst (v := (nI 5)) C dX1_begin_16 (by decide) ?_
      refine r_icmpN_ge C dX1_begin_17 (by omega) (by omega) (fun _ => ?_) (fun cc => absurd cc (by omega))
      refine r_vret C hrt dX1_begin_57 ?_
      refine ⟨rfl, rfl, ⟨h0, h1, fun i hi => (hr i (by omega)).1, fun i hi => ?_⟩, hf⟩
      rw [(hr i (by omega)).2]
      simp only [bgF]
      rw [if_neg (by omega), if_neg (by omega), if_neg (by omega), if_neg (by omega)]
    | succ k ih =>
      intro c hh hk h0 h1 hr hf
      have htn := ht.fr hf sC_twn
      have hbn := hb.fr hf (fun k hk => by
        have : (k == 1) = false ∧ (k == 14) = false ∧ (k == 15) = false := ⟨by simp; omega, by simp; omega, by simp; omega⟩
        simp [sC, this])
      have fin : ∀ x, x = bgF N T (5 + c) → Wa E G 243 (Rs a b) hh (QQ E G 243 (fun v R' h' => v = none ∧ R' = Rs a b ∧ cmp h' j (bgF N T) ∧ Fr (sC j) h h')) 43 [some (aR 1 j), some (aR 8 t), some (aI (nI c))] [aI x, aI (nI c), aR 14 j] := by
        intro x hx
        refine q_iast (m := 5) C dX1_begin_43 (Ok.full (by decide) hC) rfl rfl (by omega) ?_
        refine r_aload_n C dX1_begin_44 rfl ?_
        refine r_getR C flX1_22 dX1_begin_45 (Ok.full (by decide) hC) rfl rfl ?_
        refine r_iload_n C dX1_begin_48 rfl ?_
        refine r_iconst (v := (nI 0)) C dX1_begin_49 (by decide) ?_
        refine q_iast (m := 5) C dX1_begin_50 (Ok.full (by decide) hC) rfl rfl (by omega) ?_
        first | refine r_iincN C dX1_begin_51 rfl st2 ?_ | refine r_iinc C dX1_begin_51 rfl rfl st2 ?_
        refine r_goto C dX1_begin_54 ?_
        refine ih (c + 1) _ (by omega) ?_ ?_ ?_ (Fr.put (Fr.put hf sC14) sC15)
        · exact h0
        · exact h1
        · intro i hi
          by_cases e : i = c
          · subst e
            refine ⟨?_, put_same⟩
            rw [put_k (by decide), put_same]
            exact hx
          · rw [put_k (by decide), put_i e, put_i e, put_k (by decide)]
            exact hr i (by omega)
      refine r_iload_n C dX1_begin_15 rfl ?_
      refine r_iconst (v := (nI 5)) C dX1_begin_16 (by decide) ?_
      refine r_icmpN_ge C dX1_begin_17 (by omega) (by omega) (fun cc => absurd cc (by omega)) (fun _ => ?_)
      refine r_aload_n C dX1_begin_20 rfl ?_
      refine r_getR C flX1_18 dX1_begin_21 (Ok.full (by decide) hC) rfl rfl ?_
      refine r_iload_n C dX1_begin_24 rfl ?_
      refine r_iload_n C dX1_begin_25 rfl ?_
      refine r_aload_n C dX1_begin_26 rfl ?_
      refine q_getV C flX1_35 dX1_begin_27 (Ok.full (by decide) hT) rfl htn.1 ?_
      refine r_icmpN_ge C dX1_begin_30 (by omega) (by omega) (fun c30 => ?_) (fun c30 => ?_)
      · refine r_iconst (v := (nI 0)) C dX1_begin_42 (by decide) ?_
        refine fin _ ?_
        simp only [bgF]
        rw [if_neg (by omega), if_neg (by omega), if_neg (by omega), if_neg (by omega)]
      · refine r_aload_n C dX1_begin_33 rfl ?_
        refine r_getR C flX1_38 dX1_begin_34 (Ok.full (by decide) hT) rfl rfl ?_
        refine r_iload_n C dX1_begin_37 rfl ?_
        refine q_ialdV (m := 5) C dX1_begin_38 (Ok.full (by decide) hT) rfl rfl (by omega) (hbn.1 c (by omega)) ?_
        refine r_goto C dX1_begin_39 ?_
        refine fin _ ?_
        simp only [bgF]
        rw [if_neg (by omega), if_neg (by omega), if_pos (by omega)]
        congr 1
        omega
  exact loop 5 0 _ rfl (by rw [put_i (by decide), put_same]) put_same (fun i hi => by omega) (Fr.put (Fr.put Fr.rf sC1) sC1)
set_option maxRecDepth 100000 in
set_option maxHeartbeats 4000000 in
theorem c_campBecome {E : Ev} {a b j i : Nat} {h : HF} {s : Sv} (hj : j < 29) (hi : i < 29) (hij : i ≠ j) (hs : cmp h i s) : Ct E 0 yX1_become cX1_become 3 none [aR 1 j, aR 1 i] 243 (Rs a b) h 243 (fun v R' h' => v = none ∧ R' = Rs a b ∧ cmp h' j s ∧ Fr (sC j) h h') := by
  refine Ct.of 1 (L0 := [some (aR 1 j), some (aR 1 i), none]) (by decide) ⟨Nat.le_refl _, Nat.le_refl _⟩ rfl rfl ?_
  intro G C hg hrt hnm
  have hN : gn G ≤ 243 ∧ 243 ≤ 243 ∧ 243 ≤ 243 := ⟨by omega, by decide, by decide⟩
  have hC : i < 29 := hi
  refine r_aload_n C dX1_become_0 rfl ?_
  refine r_aload_n C dX1_become_1 rfl ?_
  refine q_getV C flX1_9 dX1_become_2 (Ok.full (by decide) hC) rfl hs.1 ?_
  have hC : j < 29 := hj
  refine r_putI C flX1_9 dX1_become_5 (Ok.full (by decide) hC) rfl ⟨rfl, rfl⟩ ?_
  have hC : i < 29 := hi
  have hs1 : cmp (put h 1 j 0 (s 0)) i s := hs.fr (Fr.put (S := sC j) Fr.rf sC1) (sC_ne hij) (sC_ne hij) (sC_ne hij)
  refine r_aload_n C dX1_become_8 rfl ?_
  refine r_aload_n C dX1_become_9 rfl ?_
  refine q_getV C flX1_15 dX1_become_10 (Ok.full (by decide) hC) rfl hs1.2.1 ?_
  have hC : j < 29 := hj
  refine r_putI C flX1_15 dX1_become_13 (Ok.full (by decide) hC) rfl ⟨rfl, rfl⟩ ?_
  refine r_iconst (v := (nI 0)) C dX1_become_16 (by decide) ?_
  refine r_istore_n C dX1_become_17 st2 ?_
  have loop : ∀ k c hh, c + k = 5 → hh 1 j 0 = s 0 → hh 1 j 1 = s 2 → (∀ i, i < c → hh 14 j i = s (5 + i) ∧ hh 15 j i = s (10 + i)) → Fr (sC j) h hh → Wa E G 243 (Rs a b) hh (QQ E G 243 (fun v R' h' => v = none ∧ R' = Rs a b ∧ cmp h' j s ∧ Fr (sC j) h h')) 18 [some (aR 1 j), some (aR 1 i), some (aI (nI c))] [] := by
    intro k
    induction k with
    | zero =>
      intro c hh hk h0 h1 hr hf
      refine r_iload_n C dX1_become_18 rfl ?_
      refine r_iconst (v := (nI 5)) C dX1_become_19 (by decide) ?_
      refine r_icmpN_ge C dX1_become_20 (by omega) (by omega) (fun _ => ?_) (fun cc => absurd cc (by omega))
      refine r_vret C hrt dX1_become_53 ?_
      exact ⟨rfl, rfl, ⟨h0, h1, fun i hi => (hr i (by omega)).1, fun i hi => (hr i (by omega)).2⟩, hf⟩
    | succ k ih =>
      intro c hh hk h0 h1 hr hf
      have hsn := hs.fr hf (sC_ne hij) (sC_ne hij) (sC_ne hij)
      refine r_iload_n C dX1_become_18 rfl ?_
      refine r_iconst (v := (nI 5)) C dX1_become_19 (by decide) ?_
      refine r_icmpN_ge C dX1_become_20 (by omega) (by omega) (fun cc => absurd cc (by omega)) (fun _ => ?_)
      refine r_aload_n C dX1_become_23 rfl ?_
      refine r_getR C flX1_18 dX1_become_24 (Ok.full (by decide) hC) rfl rfl ?_
      refine r_iload_n C dX1_become_27 rfl ?_
      have hC : i < 29 := hi
      refine r_aload_n C dX1_become_28 rfl ?_
      refine r_getR C flX1_18 dX1_become_29 (Ok.full (by decide) hC) rfl rfl ?_
      refine r_iload_n C dX1_become_32 rfl ?_
      refine q_ialdV (m := 5) C dX1_become_33 (Ok.full (by decide) hC) rfl rfl (by omega) (hsn.2.2.1 c (by omega)) ?_
      have hC : j < 29 := hj
      refine q_iast (m := 5) C dX1_become_34 (Ok.full (by decide) hC) rfl rfl (by omega) ?_
      refine r_aload_n C dX1_become_35 rfl ?_
      refine r_getR C flX1_22 dX1_become_36 (Ok.full (by decide) hC) rfl rfl ?_
      refine r_iload_n C dX1_become_39 rfl ?_
      have hC : i < 29 := hi
      refine r_aload_n C dX1_become_40 rfl ?_
      refine r_getR C flX1_22 dX1_become_41 (Ok.full (by decide) hC) rfl rfl ?_
      refine r_iload_n C dX1_become_44 rfl ?_
      refine q_ialdV (m := 5) C dX1_become_45 (Ok.full (by decide) hC) rfl rfl (by omega) (hsn.2.2.2 c (by omega)) ?_
      have hC : j < 29 := hj
      refine q_iast (m := 5) C dX1_become_46 (Ok.full (by decide) hC) rfl rfl (by omega) ?_
      first | refine r_iincN C dX1_become_47 rfl st2 ?_ | refine r_iinc C dX1_become_47 rfl rfl st2 ?_
      refine r_goto C dX1_become_50 ?_
      refine ih (c + 1) _ (by omega) ?_ ?_ ?_ (Fr.put (Fr.put hf sC14) sC15)
      · exact h0
      · exact h1
      · intro i hi
        by_cases e : i = c
        · subst e
          refine ⟨?_, put_same⟩
          rw [put_k (by decide), put_same]
        · rw [put_k (by decide), put_i e, put_i e, put_k (by decide)]
          exact hr i (by omega)
  exact loop 5 0 _ rfl (by rw [put_i (by decide), put_same]) put_same (fun i hi => by omega) (Fr.put (Fr.put Fr.rf sC1) sC1)
set_option maxRecDepth 100000 in
set_option maxHeartbeats 4000000 in
theorem c_payCompany {E : Ev} {a b j c nk : Nat} {h : HF} {s : Sv} {due : Int32} (hS : j < 23) (hc : c < 5) (hk : nk ≤ 4) (hs : sgp h j s) : Ct E 0 yX6_payCompany cX6_payCompany 5 none [aR 6 j, aI (nI c), aI due, aI (nI nk)] 243 (Rs a b) h 243 (fun v R' h' => v = none ∧ R' = Rs a b ∧ sgp h' j (payR s c due nk 0) ∧ Fr (sP j) h h') := by
  refine Ct.of 1 (L0 := [some (aR 6 j), some (aI (nI c)), some (aI due), some (aI (nI nk)), none]) (by decide) ⟨Nat.le_refl _, Nat.le_refl _⟩ rfl rfl ?_
  intro G C hg hrt hnm
  have hN : gn G ≤ 243 ∧ 243 ≤ 243 ∧ 243 ≤ 243 := ⟨by omega, by decide, by decide⟩
  obtain ⟨a0, a1, a2, a3, a4, a5, a6⟩ := id hs
  refine r_iconst (v := (nI 0)) C dX6_payCompany_0 (by decide) ?_
  refine r_istore C dX6_payCompany_1 st4 ?_
  have loop : ∀ k m, m + k = nk → payR s c due k m = payR s c due nk 0 → Wa E G 243 (Rs a b) h (QQ E G 243 (fun v R' h' => v = none ∧ R' = Rs a b ∧ sgp h' j (payR s c due nk 0) ∧ Fr (sP j) h h')) 3 [some (aR 6 j), some (aI (nI c)), some (aI due), some (aI (nI nk)), some (aI (nI m))] [] := by
    intro k
    induction k with
    | zero =>
      intro m hm hp
      refine r_iload C dX6_payCompany_3 rfl ?_
      refine r_iload_n C dX6_payCompany_5 rfl ?_
      refine r_icmpN_ge C dX6_payCompany_6 (by omega) (by omega) (fun _ => ?_) (fun cc => absurd cc (by omega))
      refine r_aload_n C dX6_payCompany_53 rfl ?_
      refine r_getR C flX6_32 dX6_payCompany_54 (Ok.full (by decide) hS) rfl rfl ?_
      refine r_iload_n C dX6_payCompany_57 rfl ?_
      refine r_dup2 C dX6_payCompany_58 rfl rfl ?_
      refine q_ialdV (m := 5) C dX6_payCompany_59 (Ok.full (by decide) hS) rfl rfl (by omega) (a5 c hc) ?_
      refine r_iload_n C dX6_payCompany_60 rfl ?_
      first | refine r_iaddN C dX6_payCompany_61 ?_ | refine r_iadd C dX6_payCompany_61 ?_
      refine q_iast (m := 5) C dX6_payCompany_62 (Ok.full (by decide) hS) rfl rfl (by omega) ?_
      refine r_vret C hrt dX6_payCompany_63 ?_
      rw [payR] at hp
      rw [← hp]
      exact ⟨rfl, rfl, sgp_words hc hs, Fr.put Fr.rf (sP_of (by omega))⟩
    | succ k ih =>
      intro m hm hp
      rw [payR] at hp
      refine r_iload C dX6_payCompany_3 rfl ?_
      refine r_iload_n C dX6_payCompany_5 rfl ?_
      refine r_icmpN_ge C dX6_payCompany_6 (by omega) (by omega) (fun cc => absurd cc (by omega)) (fun _ => ?_)
      refine r_aload_n C dX6_payCompany_9 rfl ?_
      refine r_getR C flX6_28 dX6_payCompany_10 (Ok.full (by decide) hS) rfl rfl ?_
      refine r_iload C dX6_payCompany_13 rfl ?_
      refine q_ialdV (m := 4) C dX6_payCompany_15 (Ok.full (by decide) hS) rfl rfl (by omega) (a4 m (by omega)) ?_
      refine r_iload_n C dX6_payCompany_16 rfl ?_
      refine r_icmp_lt C dX6_payCompany_17 (fun c17 => ?_) (fun c17 => ?_)
      · rw [if_neg (Int32.not_le.mpr c17)] at hp
        first | refine r_iincN C dX6_payCompany_47 rfl st4 ?_ | refine r_iinc C dX6_payCompany_47 rfl rfl st4 ?_
        refine r_goto C dX6_payCompany_50 ?_
        exact ih (m + 1) (by omega) hp
      · rw [if_pos (Int32.not_lt.mp c17)] at hp
        refine r_aload_n C dX6_payCompany_20 rfl ?_
        refine r_getR C flX6_28 dX6_payCompany_21 (Ok.full (by decide) hS) rfl rfl ?_
        refine r_iload C dX6_payCompany_24 rfl ?_
        refine r_dup2 C dX6_payCompany_26 rfl rfl ?_
        refine q_ialdV (m := 4) C dX6_payCompany_27 (Ok.full (by decide) hS) rfl rfl (by omega) (a4 m (by omega)) ?_
        refine r_iload_n C dX6_payCompany_28 rfl ?_
        refine r_isub C dX6_payCompany_29 ?_
        refine q_iast (m := 4) C dX6_payCompany_30 (Ok.full (by decide) hS) rfl rfl (by omega) ?_
        refine r_aload_n C dX6_payCompany_31 rfl ?_
        refine r_getR C flX6_35 dX6_payCompany_32 (Ok.full (by decide) hS) rfl rfl ?_
        refine r_iload_n C dX6_payCompany_35 rfl ?_
        refine r_iconst (v := (nI 4)) C dX6_payCompany_36 (by decide) ?_
        first | refine r_imulN C dX6_payCompany_37 ?_ | refine r_imul C dX6_payCompany_37 ?_
        refine r_iload C dX6_payCompany_38 rfl ?_
        first | refine r_iaddN C dX6_payCompany_40 ?_ | refine r_iadd C dX6_payCompany_40 ?_
        refine r_dup2 C dX6_payCompany_41 rfl rfl ?_
        refine q_ialdV (m := 20) C dX6_payCompany_42 (Ok.full (by decide) hS) rfl rfl (by omega) (a6 (c * 4 + m) (by omega)) ?_
        refine r_iload_n C dX6_payCompany_43 rfl ?_
        first | refine r_iaddN C dX6_payCompany_44 ?_ | refine r_iadd C dX6_payCompany_44 ?_
        refine q_iast (m := 20) C dX6_payCompany_45 (Ok.full (by decide) hS) rfl rfl (by omega) ?_
        refine r_vret C hrt dX6_payCompany_46 ?_
        rw [← hp]
        exact ⟨rfl, rfl, sgp_paid (by omega) (sgp_left (by omega) hs), Fr.put (Fr.put Fr.rf (sP_of (by omega))) (sP_of (by omega))⟩
  exact loop nk 0 (by omega) rfl
set_option maxRecDepth 100000 in
set_option maxHeartbeats 4000000 in
theorem c_passDay {E : Ev} {a b j t : Nat} {h : HF} {N : Nat → Nat} {T : Tv} {s : Sv} {q : Int32} (hS : j < 23) (hT : t < 2) (ht : twn h t N T) (hs : sgp h j s) : Ct E 3 yX6_passDay cX6_passDay 4 none [aR 6 j, aR 8 t, aI q] 243 (Rs a b) h 243 (fun v R' h' => v = none ∧ R' = Rs a b ∧ sgp h' j (passF N T q s) ∧ Fr (sS j) h h') := by
  refine Ct.of 1 (L0 := [some (aR 6 j), some (aR 8 t), some (aI q), none]) (by decide) ⟨Nat.le_refl _, Nat.le_refl _⟩ rfl rfl ?_
  intro G C hg hrt hnm
  have hN : gn G ≤ 243 ∧ 243 ≤ 243 ∧ 243 ≤ 243 := ⟨by omega, by decide, by decide⟩
  have hC : j < 29 := by omega
  have hN0 := ht.2.2.2.2.2.2.2.2.2.1
  have hN1 := ht.2.2.2.2.2.2.2.2.2.2.1
  refine r_aload_n C dX6_passDay_0 rfl ?_
  refine r_getR C flX6_12 dX6_passDay_1 (Ok.full (by decide) hS) rfl rfl ?_
  refine r_aload_n C dX6_passDay_4 rfl ?_
  refine r_iload_n C dX6_passDay_5 rfl ?_
  refine r_callV C (c_eatADay hC hT ht hs.1) dX6_passDay_6 cw_X1_eatADay cvX6_55 (by omega) (Ok.full (by decide) hC) rfl hN rfl (Nat.le_of_ble_eq_true rfl) ?_
  rintro v R' h1 ⟨rfl, rfl, hc1, hf1⟩
  have ht1 := ht.fr hf1 sC_twn
  have hs1 : sgp h1 j (edayF N T q s).1 := hs.camp hf1 hc1.1 (fun k h0 h2 hk => eday_off hN0 h0 h2 hk)
  have f1 : Fr (sS j) h h1 := hf1.wk sC_sS
  have hw1 : h1 1 j 4 = (edayF N T q s).2.1 := hc1.2.1
  refine r_iconst (v := (nI 0)) C dX6_passDay_9 (by decide) ?_
  refine r_istore_n C dX6_passDay_10 st3 ?_
  have loop : ∀ k c hh, c + k = N 0 → sgp hh j (payN N T (edayF N T q s).1 c) → hh 1 j 4 = (edayF N T q s).2.1 → Fr (sS j) h hh →
      Wa E G 243 (Rs a b) hh (QQ E G 243 (fun v R' h' => v = none ∧ R' = Rs a b ∧ sgp h' j (passF N T q s) ∧ Fr (sS j) h h')) 11 [some (aR 6 j), some (aR 8 t), some (aI q), some (aI (nI c))] [] := by
    intro k
    induction k with
    | zero =>
      intro c hh hk hsg hw hf
      have htn := ht.fr hf sS_twn'
      have e : c = N 0 := by omega
      subst e
      refine r_iload_n C dX6_passDay_11 rfl ?_
      refine r_aload_n C dX6_passDay_12 rfl ?_
      refine q_getV C flX6_59 dX6_passDay_13 (Ok.full (by decide) hT) rfl htn.1 ?_
      refine r_icmpN_ge C dX6_passDay_16 (by omega) (by omega) (fun _ => ?_) (fun cc => absurd cc (by omega))
      refine r_aload_n C dX6_passDay_50 rfl ?_
      refine r_aload_n C dX6_passDay_51 rfl ?_
      refine r_getR C flX6_12 dX6_passDay_52 (Ok.full (by decide) hS) rfl rfl ?_
      refine q_getV C flX6_72 dX6_passDay_55 (Ok.full (by decide) hC) rfl hw ?_
      refine r_if_eq C dX6_passDay_58 (fun c58 => ?_) (fun c58 => ?_)
      · refine r_iconst (v := (nI 0)) C dX6_passDay_70 (by decide) ?_
        refine r_aload_n C dX6_passDay_71 rfl ?_
        refine q_getV C flX6_22 dX6_passDay_72 (Ok.full (by decide) hS) rfl hsg.2.2.1 ?_
        refine r_iconst (v := (nI 1)) C dX6_passDay_75 (by decide) ?_
        refine r_isub C dX6_passDay_76 ?_
        refine r_max C dX6_passDay_77 cmX6_76 (by omega) (Nat.le_of_ble_eq_true rfl) ⟨hN.1, hN.2.2⟩ ?_
        refine r_putI C flX6_22 dX6_passDay_80 (Ok.full (by decide) hS) rfl ⟨rfl, rfl⟩ ?_
        refine r_vret C hrt dX6_passDay_83 ?_
        refine ⟨rfl, rfl, ?_, Fr.put hf (sS_of (by omega))⟩
        rw [passF, hunF, if_pos c58]
        exact sgp_hunger hsg
      · refine r_aload_n C dX6_passDay_61 rfl ?_
        refine q_getV C flX6_22 dX6_passDay_62 (Ok.full (by decide) hS) rfl hsg.2.2.1 ?_
        refine r_iconst (v := (nI 1)) C dX6_passDay_65 (by decide) ?_
        first | refine r_iaddN C dX6_passDay_66 ?_ | refine r_iadd C dX6_passDay_66 ?_
        refine r_goto C dX6_passDay_67 ?_
        refine r_putI C flX6_22 dX6_passDay_80 (Ok.full (by decide) hS) rfl ⟨rfl, rfl⟩ ?_
        refine r_vret C hrt dX6_passDay_83 ?_
        refine ⟨rfl, rfl, ?_, Fr.put hf (sS_of (by omega))⟩
        rw [passF, hunF, if_neg c58]
        exact sgp_hunger hsg
    | succ k ih =>
      intro c hh hk hsg hw hf
      have htn := ht.fr hf sS_twn'
      refine r_iload_n C dX6_passDay_11 rfl ?_
      refine r_aload_n C dX6_passDay_12 rfl ?_
      refine q_getV C flX6_59 dX6_passDay_13 (Ok.full (by decide) hT) rfl htn.1 ?_
      refine r_icmpN_ge C dX6_passDay_16 (by omega) (by omega) (fun cc => absurd cc (by omega)) (fun _ => ?_)
      refine r_aload_n C dX6_passDay_19 rfl ?_
      refine r_iload_n C dX6_passDay_20 rfl ?_
      refine r_aload_n C dX6_passDay_21 rfl ?_
      refine r_getR C flX6_12 dX6_passDay_22 (Ok.full (by decide) hS) rfl rfl ?_
      refine r_getR C flX6_62 dX6_passDay_25 (Ok.full (by decide) hC) rfl rfl ?_
      refine r_iload_n C dX6_passDay_28 rfl ?_
      refine q_ialdV (m := 5) C dX6_passDay_29 (Ok.full (by decide) hC) rfl rfl (by omega) (hsg.1.2.2.1 c (by omega)) ?_
      refine r_aload_n C dX6_passDay_30 rfl ?_
      refine r_getR C flX6_65 dX6_passDay_31 (Ok.full (by decide) hT) rfl rfl ?_
      refine r_iload_n C dX6_passDay_34 rfl ?_
      refine q_ialdV (m := 5) C dX6_passDay_35 (Ok.full (by decide) hT) rfl rfl (by omega) ((htn.2.2.2.2.2.1 c (by omega)).1) ?_
      first | refine r_imulN C dX6_passDay_36 ?_ | refine r_imul C dX6_passDay_36 ?_
      refine r_aload_n C dX6_passDay_37 rfl ?_
      refine q_getV C flX6_45 dX6_passDay_38 (Ok.full (by decide) hT) rfl htn.2.1 ?_
      refine r_callV C (c_payCompany hS (by omega) hN1 hsg) dX6_passDay_41 cw_X6_payCompany cvX6_68 (by omega) (Ok.full (by decide) hS) rfl hN rfl (Nat.le_of_ble_eq_true rfl) ?_
      rintro v R' h2 ⟨rfl, rfl, hs2, hf2⟩
      first | refine r_iincN C dX6_passDay_44 rfl st3 ?_ | refine r_iinc C dX6_passDay_44 rfl rfl st3 ?_
      refine r_goto C dX6_passDay_47 ?_
      exact ih (c + 1) h2 (by omega) hs2 (by rw [hf2 1 j rfl]; exact hw) (hf.tr (hf2.wk sP_sS))
  exact loop (N 0) 0 h1 (by omega) hs1 hw1 f1
set_option maxRecDepth 100000 in
set_option maxHeartbeats 4000000 in
theorem c_siegeBegin {E : Ev} {a b j t : Nat} {h : HF} {N : Nat → Nat} {T : Tv} (hS : j < 23) (hT : t < 2) (ht : twn h t N T) (hb : twb h t N T) : Ct E 1 yX6_begin cX6_begin 3 none [aR 6 j, aR 8 t] 243 (Rs a b) h 243 (fun v R' h' => v = none ∧ R' = Rs a b ∧ sgp h' j (bgF N T) ∧ Fr (sS j) h h') := by
  refine Ct.of 1 (L0 := [some (aR 6 j), some (aR 8 t), none]) (by decide) ⟨Nat.le_refl _, Nat.le_refl _⟩ rfl rfl ?_
  intro G C hg hrt hnm
  have hN : gn G ≤ 243 ∧ 243 ≤ 243 ∧ 243 ≤ 243 := ⟨by omega, by decide, by decide⟩
  have hC : j < 29 := by omega
  have hN0 := ht.2.2.2.2.2.2.2.2.2.1
  have hN1 := ht.2.2.2.2.2.2.2.2.2.2.1
  refine r_aload_n C dX6_begin_0 rfl ?_
  refine r_getR C flX6_12 dX6_begin_1 (Ok.full (by decide) hS) rfl rfl ?_
  refine r_aload_n C dX6_begin_4 rfl ?_
  refine r_callV C (c_campBegin hC hT ht hb) dX6_begin_5 cw_X1_begin cvX6_38 (by omega) (Ok.full (by decide) hC) rfl hN rfl (Nat.le_of_ble_eq_true rfl) ?_
  rintro v R' h1 ⟨rfl, rfl, hc1, hf1⟩
  have f1 : Fr (sS j) h h1 := hf1.wk sC_sS
  have hb1 := hb.fr f1 sS_twn
  refine r_aload_n C dX6_begin_8 rfl ?_
  refine r_aload_n C dX6_begin_9 rfl ?_
  refine q_getV C flX6_42 dX6_begin_10 (Ok.full (by decide) hT) rfl hb1.2.2.2 ?_
  refine r_putI C flX6_18 dX6_begin_13 (Ok.full (by decide) hS) rfl ⟨rfl, rfl⟩ ?_
  refine r_aload_n C dX6_begin_16 rfl ?_
  refine r_iconst (v := (nI 0)) C dX6_begin_17 (by decide) ?_
  refine r_putI C flX6_22 dX6_begin_18 (Ok.full (by decide) hS) rfl ⟨rfl, rfl⟩ ?_
  refine r_aload_n C dX6_begin_21 rfl ?_
  refine r_iconst (v := (nI 0)) C dX6_begin_22 (by decide) ?_
  refine r_putI C flX6_25 dX6_begin_23 (Ok.full (by decide) hS) rfl ⟨rfl, rfl⟩ ?_
  refine r_iconst (v := (nI 0)) C dX6_begin_26 (by decide) ?_
  refine r_istore_n C dX6_begin_27 st2 ?_
  have z0 : ∀ k, (15 ≤ k ∧ k < 20) ∨ 24 ≤ k → bgF N T k = nI 0 := fun k hk => by
    simp only [bgF]
    rw [if_neg (by omega), if_neg (by omega), if_neg (by omega), if_neg (by omega)]
  have loop3 : ∀ k c hh, c + k = 20 → cmp hh j (bgF N T) → hh 6 j 1 = bgF N T 1 → hh 6 j 2 = nI 0 → hh 6 j 3 = nI 0 → (∀ i, i < 4 → hh 23 j i = bgF N T (20 + i)) → (∀ i, i < 5 → hh 24 j i = nI 0) → (∀ i, i < c → hh 25 j i = nI 0) → Fr (sS j) h hh →
      Wa E G 243 (Rs a b) hh (QQ E G 243 (fun v R' h' => v = none ∧ R' = Rs a b ∧ sgp h' j (bgF N T) ∧ Fr (sS j) h h')) 85 [some (aR 6 j), some (aR 8 t), some (aI (nI c))] [] := by
    intro k
    induction k with
    | zero =>
      intro c hh hk hcm g1 g2 g3 g4 g5 g6 hf
      refine r_iload_n C dX6_begin_85 rfl ?_
      refine r_bipush (v := (nI 20)) C dX6_begin_86 (by decide) ?_
      refine r_icmpN_ge C dX6_begin_88 (by omega) (by omega) (fun _ => ?_) (fun cc => absurd cc (by omega))
      refine r_vret C hrt dX6_begin_104 ?_
      refine ⟨rfl, rfl, ⟨hcm, g1, ?_, ?_, g4, fun i hi => ?_, fun i hi => ?_⟩, hf⟩
      · rw [g2]
        simp only [bgF]
        rw [if_neg (by omega), if_neg (by omega), if_neg (by omega), if_neg (by omega)]
      · rw [g3]
        simp only [bgF]
        rw [if_neg (by omega), if_neg (by omega), if_neg (by omega), if_neg (by omega)]
      · rw [g5 i hi, z0 _ (by omega)]
      · rw [g6 i (by omega), z0 _ (by omega)]
    | succ k ih =>
      intro c hh hk hcm g1 g2 g3 g4 g5 g6 hf
      refine r_iload_n C dX6_begin_85 rfl ?_
      refine r_bipush (v := (nI 20)) C dX6_begin_86 (by decide) ?_
      refine r_icmpN_ge C dX6_begin_88 (by omega) (by omega) (fun cc => absurd cc (by omega)) (fun _ => ?_)
      refine r_aload_n C dX6_begin_91 rfl ?_
      refine r_getR C flX6_35 dX6_begin_92 (Ok.full (by decide) hS) rfl rfl ?_
      refine r_iload_n C dX6_begin_95 rfl ?_
      refine r_iconst (v := (nI 0)) C dX6_begin_96 (by decide) ?_
      refine q_iast (m := 20) C dX6_begin_97 (Ok.full (by decide) hS) rfl rfl (by omega) ?_
      first | refine r_iincN C dX6_begin_98 rfl st2 ?_ | refine r_iinc C dX6_begin_98 rfl rfl st2 ?_
      refine r_goto C dX6_begin_101 ?_
      refine ih (c + 1) _ (by omega) (hcm.putk (by omega) (by omega) (by omega)) g1 g2 g3 ?_ ?_ ?_ (Fr.put hf (sS_of (by omega)))
      · rw [put_k (by decide)]; exact g4
      · rw [put_k (by decide)]; exact g5
      · intro i hi
        by_cases e : i = c
        · subst e; exact put_same
        · rw [put_i e]; exact g6 i (by omega)
  have loop2 : ∀ k c hh, c + k = 5 → cmp hh j (bgF N T) → hh 6 j 1 = bgF N T 1 → hh 6 j 2 = nI 0 → hh 6 j 3 = nI 0 → (∀ i, i < 4 → hh 23 j i = bgF N T (20 + i)) → (∀ i, i < c → hh 24 j i = nI 0) → Fr (sS j) h hh →
      Wa E G 243 (Rs a b) hh (QQ E G 243 (fun v R' h' => v = none ∧ R' = Rs a b ∧ sgp h' j (bgF N T) ∧ Fr (sS j) h h')) 65 [some (aR 6 j), some (aR 8 t), some (aI (nI c))] [] := by
    intro k
    induction k with
    | zero =>
      intro c hh hk hcm g1 g2 g3 g4 g5 hf
      refine r_iload_n C dX6_begin_65 rfl ?_
      refine r_iconst (v := (nI 5)) C dX6_begin_66 (by decide) ?_
      refine r_icmpN_ge C dX6_begin_67 (by omega) (by omega) (fun _ => ?_) (fun cc => absurd cc (by omega))
      refine r_iconst (v := (nI 0)) C dX6_begin_83 (by decide) ?_
      refine r_istore_n C dX6_begin_84 st2 ?_
      exact loop3 20 0 hh rfl hcm g1 g2 g3 g4 (fun i hi => g5 i (by omega)) (fun i hi => by omega) hf
    | succ k ih =>
      intro c hh hk hcm g1 g2 g3 g4 g5 hf
      refine r_iload_n C dX6_begin_65 rfl ?_
      refine r_iconst (v := (nI 5)) C dX6_begin_66 (by decide) ?_
      refine r_icmpN_ge C dX6_begin_67 (by omega) (by omega) (fun cc => absurd cc (by omega)) (fun _ => ?_)
      refine r_aload_n C dX6_begin_70 rfl ?_
      refine r_getR C flX6_32 dX6_begin_71 (Ok.full (by decide) hS) rfl rfl ?_
      refine r_iload_n C dX6_begin_74 rfl ?_
      refine r_iconst (v := (nI 0)) C dX6_begin_75 (by decide) ?_
      refine q_iast (m := 5) C dX6_begin_76 (Ok.full (by decide) hS) rfl rfl (by omega) ?_
      first | refine r_iincN C dX6_begin_77 rfl st2 ?_ | refine r_iinc C dX6_begin_77 rfl rfl st2 ?_
      refine r_goto C dX6_begin_80 ?_
      refine ih (c + 1) _ (by omega) (hcm.putk (by omega) (by omega) (by omega)) g1 g2 g3 ?_ ?_ (Fr.put hf (sS_of (by omega)))
      · rw [put_k (by decide)]; exact g4
      · intro i hi
        by_cases e : i = c
        · subst e; exact put_same
        · rw [put_i e]; exact g5 i (by omega)
  have loop1 : ∀ k c hh, c + k = 4 → cmp hh j (bgF N T) → hh 6 j 1 = bgF N T 1 → hh 6 j 2 = nI 0 → hh 6 j 3 = nI 0 → (∀ i, i < c → hh 23 j i = bgF N T (20 + i)) → Fr (sS j) h hh →
      Wa E G 243 (Rs a b) hh (QQ E G 243 (fun v R' h' => v = none ∧ R' = Rs a b ∧ sgp h' j (bgF N T) ∧ Fr (sS j) h h')) 28 [some (aR 6 j), some (aR 8 t), some (aI (nI c))] [] := by
    intro k
    induction k with
    | zero =>
      intro c hh hk hcm g1 g2 g3 g4 hf
      refine r_iload_n C dX6_begin_28 rfl ?_
      refine r_iconst (v := (nI 4)) C dX6_begin_29 (by decide) ?_
      refine r_icmpN_ge C dX6_begin_30 (by omega) (by omega) (fun _ => ?_) (fun cc => absurd cc (by omega))
      refine r_iconst (v := (nI 0)) C dX6_begin_63 (by decide) ?_
      refine r_istore_n C dX6_begin_64 st2 ?_
      exact loop2 5 0 hh rfl hcm g1 g2 g3 (fun i hi => g4 i (by omega)) (fun i hi => by omega) hf
    | succ k ih =>
      intro c hh hk hcm g1 g2 g3 g4 hf
      have htn := ht.fr hf sS_twn'
      have hbn := hb.fr hf sS_twn
      have fin : ∀ x, x = bgF N T (20 + c) → Wa E G 243 (Rs a b) hh (QQ E G 243 (fun v R' h' => v = none ∧ R' = Rs a b ∧ sgp h' j (bgF N T) ∧ Fr (sS j) h h')) 56 [some (aR 6 j), some (aR 8 t), some (aI (nI c))] [aI x, aI (nI c), aR 23 j] := by
        intro x hx
        refine q_iast (m := 4) C dX6_begin_56 (Ok.full (by decide) hS) rfl rfl (by omega) ?_
        first | refine r_iincN C dX6_begin_57 rfl st2 ?_ | refine r_iinc C dX6_begin_57 rfl rfl st2 ?_
        refine r_goto C dX6_begin_60 ?_
        refine ih (c + 1) _ (by omega) (hcm.putk (by omega) (by omega) (by omega)) g1 g2 g3 ?_ (Fr.put hf (sS_of (by omega)))
        intro i hi
        by_cases e : i = c
        · subst e; rw [put_same]; exact hx
        · rw [put_i e]; exact g4 i (by omega)
      refine r_iload_n C dX6_begin_28 rfl ?_
      refine r_iconst (v := (nI 4)) C dX6_begin_29 (by decide) ?_
      refine r_icmpN_ge C dX6_begin_30 (by omega) (by omega) (fun cc => absurd cc (by omega)) (fun _ => ?_)
      refine r_aload_n C dX6_begin_33 rfl ?_
      refine r_getR C flX6_28 dX6_begin_34 (Ok.full (by decide) hS) rfl rfl ?_
      refine r_iload_n C dX6_begin_37 rfl ?_
      refine r_iload_n C dX6_begin_38 rfl ?_
      refine r_aload_n C dX6_begin_39 rfl ?_
      refine q_getV C flX6_45 dX6_begin_40 (Ok.full (by decide) hT) rfl htn.2.1 ?_
      refine r_icmpN_ge C dX6_begin_43 (by omega) (by omega) (fun c43 => ?_) (fun c43 => ?_)
      · refine r_iconst (v := (nI 0)) C dX6_begin_55 (by decide) ?_
        refine fin _ ?_
        simp only [bgF]
        rw [if_neg (by omega), if_neg (by omega), if_neg (by omega), if_neg (by omega)]
      · refine r_aload_n C dX6_begin_46 rfl ?_
        refine r_getR C flX6_48 dX6_begin_47 (Ok.full (by decide) hT) rfl rfl ?_
        refine r_iload_n C dX6_begin_50 rfl ?_
        refine q_ialdV (m := 4) C dX6_begin_51 (Ok.full (by decide) hT) rfl rfl (by omega) (hbn.2.1 c (by omega)) ?_
        refine r_goto C dX6_begin_52 ?_
        refine fin _ ?_
        simp only [bgF]
        rw [if_neg (by omega), if_neg (by omega), if_neg (by omega), if_pos (by omega)]
        congr 1
        omega
  refine loop1 4 0 _ rfl (((hc1.putk (by omega) (by omega) (by omega)).putk (by omega) (by omega) (by omega)).putk (by omega) (by omega) (by omega)) ?_ ?_ put_same (fun i hi => by omega) (Fr.put (Fr.put (Fr.put f1 (sS_of (by omega))) (sS_of (by omega))) (sS_of (by omega)))
  · rw [put_i (by decide), put_i (by decide), put_same]
    simp only [bgF]
    rw [if_neg (by omega)]
    rfl
  · rw [put_i (by decide), put_same]
set_option maxRecDepth 100000 in
set_option maxHeartbeats 4000000 in
theorem c_siegeBecome {E : Ev} {a b j i : Nat} {h : HF} {s : Sv} (hj : j < 23) (hi : i < 23) (hij : i ≠ j) (hs : sgp h i s) : Ct E 1 yX6_become cX6_become 3 none [aR 6 j, aR 6 i] 243 (Rs a b) h 243 (fun v R' h' => v = none ∧ R' = Rs a b ∧ sgp h' j s ∧ Fr (sS j) h h') := by
  refine Ct.of 1 (L0 := [some (aR 6 j), some (aR 6 i), none]) (by decide) ⟨Nat.le_refl _, Nat.le_refl _⟩ rfl rfl ?_
  intro G C hg hrt hnm
  have hN : gn G ≤ 243 ∧ 243 ≤ 243 ∧ 243 ≤ 243 := ⟨by omega, by decide, by decide⟩
  have nb : ∀ hh, Fr (sS j) h hh → sgp hh i s := fun hh f => hs.fr f (fun k _ => sS_ne hij)
  have hS : j < 23 := hj
  refine r_aload_n C dX6_become_0 rfl ?_
  refine r_getR C flX6_12 dX6_become_1 (Ok.full (by decide) hS) rfl rfl ?_
  have hS : i < 23 := hi
  refine r_aload_n C dX6_become_4 rfl ?_
  refine r_getR C flX6_12 dX6_become_5 (Ok.full (by decide) hS) rfl rfl ?_
  have hC : j < 29 := by omega
  refine r_callV C (c_campBecome (by omega) (by omega) hij hs.1) dX6_become_8 cw_X1_become cvX6_51 (by omega) (Ok.full (by decide) hC) rfl hN rfl (Nat.le_of_ble_eq_true rfl) ?_
  rintro v R' h1 ⟨rfl, rfl, hc1, hf1⟩
  have f1 : Fr (sS j) h h1 := hf1.wk sC_sS
  refine r_aload_n C dX6_become_11 rfl ?_
  refine r_aload_n C dX6_become_12 rfl ?_
  refine q_getV C flX6_18 dX6_become_13 (Ok.full (by decide) hS) rfl (nb _ f1).2.1 ?_
  have hS : j < 23 := hj
  refine r_putI C flX6_18 dX6_become_16 (Ok.full (by decide) hS) rfl ⟨rfl, rfl⟩ ?_
  have f2 := Fr.put (i := 1) (v := s 1) f1 (sS_of (j := j) (k := 6) (by omega))
  have hS : i < 23 := hi
  refine r_aload_n C dX6_become_19 rfl ?_
  refine r_aload_n C dX6_become_20 rfl ?_
  refine q_getV C flX6_22 dX6_become_21 (Ok.full (by decide) hS) rfl (nb _ f2).2.2.1 ?_
  have hS : j < 23 := hj
  refine r_putI C flX6_22 dX6_become_24 (Ok.full (by decide) hS) rfl ⟨rfl, rfl⟩ ?_
  have f3 := Fr.put (i := 2) (v := s 3) f2 (sS_of (j := j) (k := 6) (by omega))
  have hS : i < 23 := hi
  refine r_aload_n C dX6_become_27 rfl ?_
  refine r_aload_n C dX6_become_28 rfl ?_
  refine q_getV C flX6_25 dX6_become_29 (Ok.full (by decide) hS) rfl (nb _ f3).2.2.2.1 ?_
  have hS : j < 23 := hj
  refine r_putI C flX6_25 dX6_become_32 (Ok.full (by decide) hS) rfl ⟨rfl, rfl⟩ ?_
  refine r_iconst (v := (nI 0)) C dX6_become_35 (by decide) ?_
  refine r_istore_n C dX6_become_36 st2 ?_
  have f4 := Fr.put (i := 3) (v := s 4) f3 (sS_of (j := j) (k := 6) (by omega))
  have loop3 : ∀ k c hh, c + k = 20 → cmp hh j s → hh 6 j 1 = s 1 → hh 6 j 2 = s 3 → hh 6 j 3 = s 4 → (∀ i, i < 4 → hh 23 j i = s (20 + i)) → (∀ i, i < 5 → hh 24 j i = s (15 + i)) → (∀ i, i < c → hh 25 j i = s (24 + i)) → Fr (sS j) h hh →
      Wa E G 243 (Rs a b) hh (QQ E G 243 (fun v R' h' => v = none ∧ R' = Rs a b ∧ sgp h' j s ∧ Fr (sS j) h h')) 87 [some (aR 6 j), some (aR 6 i), some (aI (nI c))] [] := by
    intro k
    induction k with
    | zero =>
      intro c hh hk hcm g1 g2 g3 g4 g5 g6 hf
      refine r_iload_n C dX6_become_87 rfl ?_
      refine r_bipush (v := (nI 20)) C dX6_become_88 (by decide) ?_
      refine r_icmpN_ge C dX6_become_90 (by omega) (by omega) (fun _ => ?_) (fun cc => absurd cc (by omega))
      refine r_vret C hrt dX6_become_111 ?_
      exact ⟨rfl, rfl, ⟨hcm, g1, g2, g3, g4, g5, fun i hi => g6 i (by omega)⟩, hf⟩
    | succ k ih =>
      intro c hh hk hcm g1 g2 g3 g4 g5 g6 hf
      have hsn := nb hh hf
      refine r_iload_n C dX6_become_87 rfl ?_
      refine r_bipush (v := (nI 20)) C dX6_become_88 (by decide) ?_
      refine r_icmpN_ge C dX6_become_90 (by omega) (by omega) (fun cc => absurd cc (by omega)) (fun _ => ?_)
      refine r_aload_n C dX6_become_93 rfl ?_
      refine r_getR C flX6_35 dX6_become_94 (Ok.full (by decide) hS) rfl rfl ?_
      refine r_iload_n C dX6_become_97 rfl ?_
      have hS : i < 23 := hi
      refine r_aload_n C dX6_become_98 rfl ?_
      refine r_getR C flX6_35 dX6_become_99 (Ok.full (by decide) hS) rfl rfl ?_
      refine r_iload_n C dX6_become_102 rfl ?_
      refine q_ialdV (m := 20) C dX6_become_103 (Ok.full (by decide) hS) rfl rfl (by omega) (hsn.2.2.2.2.2.2 c (by omega)) ?_
      have hS : j < 23 := hj
      refine q_iast (m := 20) C dX6_become_104 (Ok.full (by decide) hS) rfl rfl (by omega) ?_
      first | refine r_iincN C dX6_become_105 rfl st2 ?_ | refine r_iinc C dX6_become_105 rfl rfl st2 ?_
      refine r_goto C dX6_become_108 ?_
      refine ih (c + 1) _ (by omega) (hcm.putk (by omega) (by omega) (by omega)) g1 g2 g3 ?_ ?_ ?_ (Fr.put hf (sS_of (by omega)))
      · rw [put_k (by decide)]; exact g4
      · rw [put_k (by decide)]; exact g5
      · intro i hi
        by_cases e : i = c
        · subst e; exact put_same
        · rw [put_i e]; exact g6 i (by omega)
  have loop2 : ∀ k c hh, c + k = 5 → cmp hh j s → hh 6 j 1 = s 1 → hh 6 j 2 = s 3 → hh 6 j 3 = s 4 → (∀ i, i < 4 → hh 23 j i = s (20 + i)) → (∀ i, i < c → hh 24 j i = s (15 + i)) → Fr (sS j) h hh →
      Wa E G 243 (Rs a b) hh (QQ E G 243 (fun v R' h' => v = none ∧ R' = Rs a b ∧ sgp h' j s ∧ Fr (sS j) h h')) 62 [some (aR 6 j), some (aR 6 i), some (aI (nI c))] [] := by
    intro k
    induction k with
    | zero =>
      intro c hh hk hcm g1 g2 g3 g4 g5 hf
      refine r_iload_n C dX6_become_62 rfl ?_
      refine r_iconst (v := (nI 5)) C dX6_become_63 (by decide) ?_
      refine r_icmpN_ge C dX6_become_64 (by omega) (by omega) (fun _ => ?_) (fun cc => absurd cc (by omega))
      refine r_iconst (v := (nI 0)) C dX6_become_85 (by decide) ?_
      refine r_istore_n C dX6_become_86 st2 ?_
      exact loop3 20 0 hh rfl hcm g1 g2 g3 g4 (fun i hi => g5 i (by omega)) (fun i hi => by omega) hf
    | succ k ih =>
      intro c hh hk hcm g1 g2 g3 g4 g5 hf
      have hsn := nb hh hf
      refine r_iload_n C dX6_become_62 rfl ?_
      refine r_iconst (v := (nI 5)) C dX6_become_63 (by decide) ?_
      refine r_icmpN_ge C dX6_become_64 (by omega) (by omega) (fun cc => absurd cc (by omega)) (fun _ => ?_)
      refine r_aload_n C dX6_become_67 rfl ?_
      refine r_getR C flX6_32 dX6_become_68 (Ok.full (by decide) hS) rfl rfl ?_
      refine r_iload_n C dX6_become_71 rfl ?_
      have hS : i < 23 := hi
      refine r_aload_n C dX6_become_72 rfl ?_
      refine r_getR C flX6_32 dX6_become_73 (Ok.full (by decide) hS) rfl rfl ?_
      refine r_iload_n C dX6_become_76 rfl ?_
      refine q_ialdV (m := 5) C dX6_become_77 (Ok.full (by decide) hS) rfl rfl (by omega) (hsn.2.2.2.2.2.1 c (by omega)) ?_
      have hS : j < 23 := hj
      refine q_iast (m := 5) C dX6_become_78 (Ok.full (by decide) hS) rfl rfl (by omega) ?_
      first | refine r_iincN C dX6_become_79 rfl st2 ?_ | refine r_iinc C dX6_become_79 rfl rfl st2 ?_
      refine r_goto C dX6_become_82 ?_
      refine ih (c + 1) _ (by omega) (hcm.putk (by omega) (by omega) (by omega)) g1 g2 g3 ?_ ?_ (Fr.put hf (sS_of (by omega)))
      · rw [put_k (by decide)]; exact g4
      · intro i hi
        by_cases e : i = c
        · subst e; exact put_same
        · rw [put_i e]; exact g5 i (by omega)
  have loop1 : ∀ k c hh, c + k = 4 → cmp hh j s → hh 6 j 1 = s 1 → hh 6 j 2 = s 3 → hh 6 j 3 = s 4 → (∀ i, i < c → hh 23 j i = s (20 + i)) → Fr (sS j) h hh →
      Wa E G 243 (Rs a b) hh (QQ E G 243 (fun v R' h' => v = none ∧ R' = Rs a b ∧ sgp h' j s ∧ Fr (sS j) h h')) 37 [some (aR 6 j), some (aR 6 i), some (aI (nI c))] [] := by
    intro k
    induction k with
    | zero =>
      intro c hh hk hcm g1 g2 g3 g4 hf
      refine r_iload_n C dX6_become_37 rfl ?_
      refine r_iconst (v := (nI 4)) C dX6_become_38 (by decide) ?_
      refine r_icmpN_ge C dX6_become_39 (by omega) (by omega) (fun _ => ?_) (fun cc => absurd cc (by omega))
      refine r_iconst (v := (nI 0)) C dX6_become_60 (by decide) ?_
      refine r_istore_n C dX6_become_61 st2 ?_
      exact loop2 5 0 hh rfl hcm g1 g2 g3 (fun i hi => g4 i (by omega)) (fun i hi => by omega) hf
    | succ k ih =>
      intro c hh hk hcm g1 g2 g3 g4 hf
      have hsn := nb hh hf
      refine r_iload_n C dX6_become_37 rfl ?_
      refine r_iconst (v := (nI 4)) C dX6_become_38 (by decide) ?_
      refine r_icmpN_ge C dX6_become_39 (by omega) (by omega) (fun cc => absurd cc (by omega)) (fun _ => ?_)
      refine r_aload_n C dX6_become_42 rfl ?_
      refine r_getR C flX6_28 dX6_become_43 (Ok.full (by decide) hS) rfl rfl ?_
      refine r_iload_n C dX6_become_46 rfl ?_
      have hS : i < 23 := hi
      refine r_aload_n C dX6_become_47 rfl ?_
      refine r_getR C flX6_28 dX6_become_48 (Ok.full (by decide) hS) rfl rfl ?_
      refine r_iload_n C dX6_become_51 rfl ?_
      refine q_ialdV (m := 4) C dX6_become_52 (Ok.full (by decide) hS) rfl rfl (by omega) (hsn.2.2.2.2.1 c (by omega)) ?_
      have hS : j < 23 := hj
      refine q_iast (m := 4) C dX6_become_53 (Ok.full (by decide) hS) rfl rfl (by omega) ?_
      first | refine r_iincN C dX6_become_54 rfl st2 ?_ | refine r_iinc C dX6_become_54 rfl rfl st2 ?_
      refine r_goto C dX6_become_57 ?_
      refine ih (c + 1) _ (by omega) (hcm.putk (by omega) (by omega) (by omega)) g1 g2 g3 ?_ (Fr.put hf (sS_of (by omega)))
      intro i hi
      by_cases e : i = c
      · subst e; exact put_same
      · rw [put_i e]; exact g4 i (by omega)
  refine loop1 4 0 _ rfl (((hc1.putk (by omega) (by omega) (by omega)).putk (by omega) (by omega) (by omega)).putk (by omega) (by omega) (by omega)) ?_ ?_ put_same (fun i hi => by omega) f4
  · rw [put_i (by decide), put_i (by decide), put_same]
  · rw [put_i (by decide), put_same]
set_option maxRecDepth 100000 in
set_option maxHeartbeats 4000000 in
theorem c_raiseOdds {E : Ev} {a b j : Nat} {h : HF} {s : Sv} {more : Int32} (hS : j < 23) (hs : sgp h j s) : Ct E 1 yX6_raiseOdds cX6_raiseOdds 2 none [aR 6 j, aI more] 243 (Rs a b) h 243 (fun v R' h' => v = none ∧ R' = Rs a b ∧ sgp h' j (rodF more s) ∧ Fr (sS j) h h') := by
  refine Ct.of 0 (L0 := [some (aR 6 j), some (aI more)]) (by decide) ⟨Nat.le_refl _, Nat.le_refl _⟩ rfl rfl ?_
  intro G C hg hrt hnm
  have hN : gn G ≤ 243 ∧ 243 ≤ 243 ∧ 243 ≤ 243 := ⟨by omega, by decide, by decide⟩
  refine r_aload_n C dX6_raiseOdds_0 rfl ?_
  refine r_bipush (v := (nI 99)) C dX6_raiseOdds_1 (by decide) ?_
  refine r_aload_n C dX6_raiseOdds_3 rfl ?_
  refine q_getV C flX6_18 dX6_raiseOdds_4 (Ok.full (by decide) hS) rfl hs.2.1 ?_
  refine r_iload_n C dX6_raiseOdds_7 rfl ?_
  first | refine r_iaddN C dX6_raiseOdds_8 ?_ | refine r_iadd C dX6_raiseOdds_8 ?_
  refine r_min C dX6_raiseOdds_9 cmX6_96 (by omega) (Nat.le_of_ble_eq_true rfl) ⟨hN.1, hN.2.2⟩ ?_
  refine r_putI C flX6_18 dX6_raiseOdds_12 (Ok.full (by decide) hS) rfl ⟨rfl, rfl⟩ ?_
  refine r_vret C hrt dX6_raiseOdds_15 ?_
  exact ⟨rfl, rfl, sgp_odds hs, Fr.put Fr.rf (sS_of (by omega))⟩
set_option maxRecDepth 100000 in
set_option maxHeartbeats 4000000 in
theorem c_hearGun {E : Ev} {a b j : Nat} {h : HF} {s : Sv} (hS : j < 23) (hs : sgp h j s) : Ct E 2 yX6_hearGun cX6_hearGun 1 none [aR 6 j] 243 (Rs a b) h 243 (fun v R' h' => v = none ∧ R' = Rs a b ∧ sgp h' j (rodF (nI 5) s) ∧ Fr (sS j) h h') := by
  refine Ct.of 0 (L0 := [some (aR 6 j)]) (by decide) ⟨Nat.le_refl _, Nat.le_refl _⟩ rfl rfl ?_
  intro G C hg hrt hnm
  have hN : gn G ≤ 243 ∧ 243 ≤ 243 ∧ 243 ≤ 243 := ⟨by omega, by decide, by decide⟩
  refine r_aload_n C dX6_hearGun_0 rfl ?_
  refine r_iconst (v := (nI 5)) C dX6_hearGun_1 (by decide) ?_
  refine r_callV C (c_raiseOdds hS hs) dX6_hearGun_2 cw_X6_raiseOdds cvX6_92 (by omega) (Ok.full (by decide) hS) rfl hN rfl (Nat.le_of_ble_eq_true rfl) ?_
  rintro v R' h1 ⟨rfl, rfl, hc1, hf1⟩
  refine r_vret C hrt dX6_hearGun_5 ?_
  exact ⟨rfl, rfl, hc1, hf1⟩
set_option maxRecDepth 100000 in
set_option maxHeartbeats 4000000 in
theorem c_worthOfSquare {E : Ev} {a b t m rd : Nat} {h : HF} {N : Nat → Nat} {T : Tv} (hT : t < 2) (ht : twn h t N T) (hm : m < N 1) (hr : rd < 3) : Ct E 0 yX6_worthOfSquare cX6_worthOfSquare 3 (some .int) [aR 8 t, aI (nI m), aI (nI rd)] 243 (Rs a b) h 243 (fun v R' h' => v = some (aI (wosF T m rd)) ∧ R' = Rs a b ∧ h' = h) := by
  refine Ct.of 0 (L0 := [some (aR 8 t), some (aI (nI m)), some (aI (nI rd))]) (by decide) ⟨Nat.le_refl _, Nat.le_refl _⟩ rfl rfl ?_
  intro G C hg hrt hnm
  have hN : gn G ≤ 243 ∧ 243 ≤ 243 ∧ 243 ≤ 243 := ⟨by omega, by decide, by decide⟩
  have hN1 := ht.2.2.2.2.2.2.2.2.2.2.1
  have hrow := ht.2.2.2.2.2.2.1 m hm
  refine r_iload_n C dX6_worthOfSquare_0 rfl ?_
  rcases (show rd = 0 ∨ rd = 1 ∨ rd = 2 by omega) with rfl | rfl | rfl
  · refine r_look (off := 27) (tgt := 28) C ⟨dX6_worthOfSquare_1, rfl, by decide⟩ (by decide) (by decide) ?_
    refine r_aload_n C dX6_worthOfSquare_28 rfl ?_
    refine r_getR C flX6_86 dX6_worthOfSquare_29 (Ok.full (by decide) hT) rfl rfl ?_
    refine r_iload_n C dX6_worthOfSquare_32 rfl ?_
    refine q_ialdV (m := 4) C dX6_worthOfSquare_33 (Ok.full (by decide) hT) rfl rfl (by omega) hrow.1 ?_
    refine r_iret C hrt dX6_worthOfSquare_34 ?_
    exact ⟨rfl, rfl, rfl⟩
  · refine r_look (off := 34) (tgt := 35) C ⟨dX6_worthOfSquare_1, rfl, by decide⟩ (by decide) (by decide) ?_
    refine r_aload_n C dX6_worthOfSquare_35 rfl ?_
    refine r_getR C flX6_89 dX6_worthOfSquare_36 (Ok.full (by decide) hT) rfl rfl ?_
    refine r_iload_n C dX6_worthOfSquare_39 rfl ?_
    refine q_ialdV (m := 4) C dX6_worthOfSquare_40 (Ok.full (by decide) hT) rfl rfl (by omega) hrow.2 ?_
    refine r_iret C hrt dX6_worthOfSquare_41 ?_
    exact ⟨rfl, rfl, rfl⟩
  · refine r_look (off := 41) (tgt := 42) C ⟨dX6_worthOfSquare_1, rfl, by decide⟩ (by decide) (by decide) ?_
    refine r_iconst (v := (nI 1)) C dX6_worthOfSquare_42 (by decide) ?_
    refine r_iret C hrt dX6_worthOfSquare_43 ?_
    exact ⟨rfl, rfl, rfl⟩
set_option maxRecDepth 100000 in
set_option maxHeartbeats 4000000 in
theorem c_owedTo {E : Ev} {a b j t c rd : Nat} {h : HF} {N : Nat → Nat} {T : Tv} {s : Sv} (hS : j < 23) (hT : t < 2) (ht : twn h t N T) (hs : sgp h j s) (hc : c < 5) (hr : rd < 3) : Ct E 1 yX6_owedTo cX6_owedTo 6 (some .int) [aR 6 j, aR 8 t, aI (nI c), aI (nI rd)] 243 (Rs a b) h 243 (fun v R' h' => v = some (aI (owF T s c rd (N 1))) ∧ R' = Rs a b ∧ h' = h) := by
  refine Ct.of 2 (L0 := [some (aR 6 j), some (aR 8 t), some (aI (nI c)), some (aI (nI rd)), none, none]) (by decide) ⟨Nat.le_refl _, Nat.le_refl _⟩ rfl rfl ?_
  intro G C hg hrt hnm
  have hN : gn G ≤ 243 ∧ 243 ≤ 243 ∧ 243 ≤ 243 := ⟨by omega, by decide, by decide⟩
  have hN1 := ht.2.2.2.2.2.2.2.2.2.2.1
  refine r_aload_n C dX6_owedTo_0 rfl ?_
  refine r_getR C flX6_32 dX6_owedTo_1 (Ok.full (by decide) hS) rfl rfl ?_
  refine r_iload_n C dX6_owedTo_4 rfl ?_
  refine q_ialdV (m := 5) C dX6_owedTo_5 (Ok.full (by decide) hS) rfl rfl (by omega) (hs.2.2.2.2.2.1 c hc) ?_
  refine r_istore C dX6_owedTo_6 st4 ?_
  refine r_iconst (v := (nI 0)) C dX6_owedTo_8 (by decide) ?_
  refine r_istore C dX6_owedTo_9 st5 ?_
  have loop : ∀ k m, m + k = N 1 → Wa E G 243 (Rs a b) h (QQ E G 243 (fun v R' h' => v = some (aI (owF T s c rd (N 1))) ∧ R' = Rs a b ∧ h' = h)) 11 [some (aR 6 j), some (aR 8 t), some (aI (nI c)), some (aI (nI rd)), some (aI (owF T s c rd m)), some (aI (nI m))] [] := by
    intro k
    induction k with
    | zero =>
      intro m hm
      have e : m = N 1 := by omega
      subst e
      refine r_iload C dX6_owedTo_11 rfl ?_
      refine r_aload_n C dX6_owedTo_13 rfl ?_
      refine q_getV C flX6_45 dX6_owedTo_14 (Ok.full (by decide) hT) rfl ht.2.1 ?_
      refine r_icmpN_ge C dX6_owedTo_17 (by omega) (by omega) (fun _ => ?_) (fun cc => absurd cc (by omega))
      refine r_iload C dX6_owedTo_50 rfl ?_
      refine r_iret C hrt dX6_owedTo_52 ?_
      exact ⟨rfl, rfl, rfl⟩
    | succ k ih =>
      intro m hm
      refine r_iload C dX6_owedTo_11 rfl ?_
      refine r_aload_n C dX6_owedTo_13 rfl ?_
      refine q_getV C flX6_45 dX6_owedTo_14 (Ok.full (by decide) hT) rfl ht.2.1 ?_
      refine r_icmpN_ge C dX6_owedTo_17 (by omega) (by omega) (fun cc => absurd cc (by omega)) (fun _ => ?_)
      refine r_iload C dX6_owedTo_20 rfl ?_
      refine r_aload_n C dX6_owedTo_22 rfl ?_
      refine r_getR C flX6_35 dX6_owedTo_23 (Ok.full (by decide) hS) rfl rfl ?_
      refine r_iload_n C dX6_owedTo_26 rfl ?_
      refine r_iconst (v := (nI 4)) C dX6_owedTo_27 (by decide) ?_
      first | refine r_imulN C dX6_owedTo_28 ?_ | refine r_imul C dX6_owedTo_28 ?_
      refine r_iload C dX6_owedTo_29 rfl ?_
      first | refine r_iaddN C dX6_owedTo_31 ?_ | refine r_iadd C dX6_owedTo_31 ?_
      refine q_ialdV (m := 20) C dX6_owedTo_32 (Ok.full (by decide) hS) rfl rfl (by omega) (hs.2.2.2.2.2.2 (c * 4 + m) (by omega)) ?_
      refine r_aload_n C dX6_owedTo_33 rfl ?_
      refine r_iload C dX6_owedTo_34 rfl ?_
      refine r_iload_n C dX6_owedTo_36 rfl ?_
      refine r_callS C (c_worthOfSquare hT ht (by omega) hr) dX6_owedTo_37 cw_X6_worthOfSquare csX6_82 (by omega) rfl hN rfl (Nat.le_of_ble_eq_true rfl) ?_
      rintro v R' h1 ⟨rfl, rfl, rfl⟩
      refine r_imul C dX6_owedTo_40 ?_
      refine r_iadd C dX6_owedTo_41 ?_
      refine r_istore C dX6_owedTo_42 st4 ?_
      first | refine r_iincN C dX6_owedTo_44 rfl st5 ?_ | refine r_iinc C dX6_owedTo_44 rfl rfl st5 ?_
      refine r_goto C dX6_owedTo_47 ?_
      exact ih (m + 1) (by omega)
  exact loop (N 1) 0 (by omega)
end
section
/-! the log: U i is what was i-th (the oldest is 0), cn of them; the next goes to place nx -/
def logp (h : HF) (nx cn : Nat) (U : Nat → Sv) : Prop := h 3 0 1 = nI nx ∧ h 3 0 2 = nI cn ∧ nx < 20 ∧ cn ≤ 20 ∧ ∀ i, i < cn → sgp h ((nx + 20 - cn + i) % 20 + 1) (U i)
def pushN (cn : Nat) : Nat := if cn < 20 then cn + 1 else 20
def pushU (cn : Nat) (U : Nat → Sv) (s : Sv) : Nat → Sv := if cn < 20 then va_up U cn s else fun i => if i < 19 then U (i + 1) else s
def sgK (k : Nat) : Bool := k == 1 || k == 14 || k == 15 || k == 6 || k == 23 || k == 24 || k == 25
def sLg : Nat → Nat → Bool := fun k j => k == 3 || (sgK k && decide (1 ≤ j ∧ j ≤ 20))
def sUn : Nat → Nat → Bool := fun k j => k == 3 || (sgK k && j == 0)
theorem sS_sLg {i : Nat} (hi : i < 20) : ∀ k j, sS (i + 1) k j = true → sLg k j = true := by
  intro k j hh
  simp only [sS, Bool.and_eq_true, beq_iff_eq] at hh
  obtain ⟨h1, rfl⟩ := hh
  have h2 : sgK k = true := h1
  simp [sLg, h2]
  omega
theorem sS_sUn : ∀ k j, sS 0 k j = true → sUn k j = true := by
  intro k j hh
  simp only [sS, Bool.and_eq_true, beq_iff_eq] at hh
  obtain ⟨h1, rfl⟩ := hh
  have h2 : sgK k = true := h1
  simp [sUn, h2]
theorem logp.put3 {h : HF} {nx cn i : Nat} {U : Nat → Sv} {x : Int32} (hi : ∀ i, i < cn → sgp h ((nx + 20 - cn + i) % 20 + 1) (U i)) : ∀ j, j < cn → sgp (put h 3 0 i x) ((nx + 20 - cn + j) % 20 + 1) (U j) :=
  fun j hj => (hi j hj).fr (S := fun k _ => k == 3) (Fr.put Fr.rf rfl) (fun k hk => by
    rcases hk with rfl | rfl | rfl | rfl | rfl | rfl | rfl <;> rfl)
set_option maxRecDepth 100000 in
set_option maxHeartbeats 4000000 in
theorem c_logClear {E : Ev} {a b : Nat} {h : HF} : Ct E 0 yX3_clear cX3_clear 1 none [aR 3 0] 243 (Rs a b) h 243 (fun v R' h' => v = none ∧ R' = Rs a b ∧ h' = put h 3 0 2 (nI 0)) := by
  refine Ct.of 0 (L0 := [some (aR 3 0)]) (by decide) ⟨Nat.le_refl _, Nat.le_refl _⟩ rfl rfl ?_
  intro G C hg hrt hnm
  have hN : gn G ≤ 243 ∧ 243 ≤ 243 ∧ 243 ≤ 243 := ⟨by omega, by decide, by decide⟩
  refine r_aload_n C dX3_clear_0 rfl ?_
  refine r_iconst (v := (nI 0)) C dX3_clear_1 (by decide) ?_
  refine r_putI C flX3_21 dX3_clear_2 ok3 rfl ⟨rfl, rfl⟩ ?_
  refine r_vret C hrt dX3_clear_5 ?_
  exact ⟨rfl, rfl, rfl⟩
theorem sg3 {h : HF} {j i : Nat} {s : Sv} {x : Int32} (c : sgp h j s) : sgp (put h 3 0 i x) j s := c.fr (S := fun k _ => k == 3) (Fr.put Fr.rf rfl) (fun k hk => by
    rcases hk with rfl | rfl | rfl | rfl | rfl | rfl | rfl <;> rfl)
set_option maxRecDepth 100000 in
set_option maxHeartbeats 4000000 in
theorem c_push {E : Ev} {a b nx cn : Nat} {h : HF} {U : Nat → Sv} {s : Sv} (hl : logp h nx cn U) (hs : sgp h 0 s) : Ct E 2 yX3_push cX3_push 2 none [aR 3 0, aR 6 0] 243 (Rs a b) h 243 (fun v R' h' => v = none ∧ R' = Rs a b ∧ (∃ nx', logp h' nx' (pushN cn) (pushU cn U s)) ∧ Fr sLg h h') := by
  refine Ct.of 0 (L0 := [some (aR 3 0), some (aR 6 0)]) (by decide) ⟨Nat.le_refl _, Nat.le_refl _⟩ rfl rfl ?_
  intro G C hg hrt hnm
  have hN : gn G ≤ 243 ∧ 243 ≤ 243 ∧ 243 ≤ 243 := ⟨by omega, by decide, by decide⟩
  obtain ⟨l1, l2, l3, l4, l5⟩ := hl
  have hS : nx + 1 < 23 := by omega
  refine r_aload_n C dX3_push_0 rfl ?_
  refine r_getR C flX3_11 dX3_push_1 ok3 rfl rfl ?_
  refine r_aload_n C dX3_push_4 rfl ?_
  refine q_getV C flX3_17 dX3_push_5 ok3 rfl l1 ?_
  refine q_aald (m := 20) (t := 0) C dX3_push_8 ok16 rfl (by decide) rfl (by omega) rfl ?_
  refine r_aload_n C dX3_push_9 rfl ?_
  refine r_callV C (c_siegeBecome (by omega) (by omega) (by omega) hs) dX3_push_10 cw_X6_become cvX3_25 (by omega) (Ok.full (by decide) hS) rfl hN rfl (Nat.le_of_ble_eq_true rfl) ?_
  rintro v R' h1 ⟨rfl, rfl, hs1, hf1⟩
  have k1 : h1 3 0 1 = nI nx := by rw [hf1 3 0 rfl]; exact l1
  have k2 : h1 3 0 2 = nI cn := by rw [hf1 3 0 rfl]; exact l2
  refine r_aload_n C dX3_push_13 rfl ?_
  refine r_aload_n C dX3_push_14 rfl ?_
  refine q_getV C flX3_17 dX3_push_15 ok3 rfl k1 ?_
  refine r_iconst (v := (nI 1)) C dX3_push_18 (by decide) ?_
  first | refine r_iaddN C dX3_push_19 ?_ | refine r_iadd C dX3_push_19 ?_
  refine r_bipush (v := (nI 20)) C dX3_push_20 (by decide) ?_
  refine r_irem C dX3_push_22 (by decide) ?_
  rw [pk_rem (by omega) (by decide) (by decide)]
  refine r_putI C flX3_17 dX3_push_23 ok3 rfl ⟨rfl, rfl⟩ ?_
  refine r_aload_n C dX3_push_26 rfl ?_
  refine r_bipush (v := (nI 20)) C dX3_push_27 (by decide) ?_
  refine r_aload_n C dX3_push_29 rfl ?_
  refine q_getV C flX3_21 dX3_push_30 ok3 rfl k2 ?_
  refine r_iconst (v := (nI 1)) C dX3_push_33 (by decide) ?_
  first | refine r_iaddN C dX3_push_34 ?_ | refine r_iadd C dX3_push_34 ?_
  refine r_min C dX3_push_35 cmX3_29 (by omega) (Nat.le_of_ble_eq_true rfl) ⟨hN.1, hN.2.2⟩ ?_
  refine r_putI C flX3_21 dX3_push_38 ok3 rfl ⟨rfl, rfl⟩ ?_
  refine r_vret C hrt dX3_push_41 ?_
  refine ⟨rfl, rfl, ⟨(nx + 1) % 20, ?_, ?_, by omega, by unfold pushN; split <;> omega, ?_⟩, Fr.put (Fr.put (hf1.wk (sS_sLg l3)) rfl) rfl⟩
  · rw [put_i (by decide), put_same]
  · rw [put_same]
    by_cases hc : cn < 20
    · by_cases h19 : cn = 19
      · subst h19; rfl
      · rw [pushN, if_pos hc, if_pos (nI_lt (by omega) (by decide))]
    · have e : cn = 20 := by omega
      subst e
      rfl
  · intro i hi
    refine sg3 (sg3 ?_)
    by_cases hc : cn < 20
    · rw [pushN, if_pos hc] at hi ⊢
      rw [pushU, if_pos hc]
      by_cases e : i = cn
      · subst e
        rw [va_up_self, show ((nx + 1) % 20 + 20 - (i + 1) + i) % 20 + 1 = nx + 1 by omega]
        exact hs1
      · rw [va_up_ne _ _ e]
        have h2 := l5 i (by omega)
        rw [show ((nx + 1) % 20 + 20 - (cn + 1) + i) % 20 + 1 = (nx + 20 - cn + i) % 20 + 1 by omega]
        exact h2.fr hf1 (fun k _ => sS_ne (by omega))
    · have e : cn = 20 := by omega
      subst e
      rw [pushN, if_neg (by omega)] at hi ⊢
      rw [pushU, if_neg (by omega)]
      by_cases e : i < 19
      · show sgp _ _ (if i < 19 then _ else _)
        rw [if_pos e]
        have h2 := l5 (i + 1) (by omega)
        rw [show ((nx + 1) % 20 + 20 - 20 + i) % 20 + 1 = (nx + 20 - 20 + (i + 1)) % 20 + 1 by omega]
        exact h2.fr hf1 (fun k _ => sS_ne (by omega))
      · show sgp _ _ (if i < 19 then _ else _)
        rw [if_neg e, show ((nx + 1) % 20 + 20 - 20 + i) % 20 + 1 = nx + 1 by omega]
        exact hs1
set_option maxRecDepth 100000 in
set_option maxHeartbeats 4000000 in
theorem c_popInto {E : Ev} {a b nx cn : Nat} {h : HF} {U : Nat → Sv} (hl : logp h nx cn U) (hc : 0 < cn) : Ct E 2 yX3_popInto cX3_popInto 2 none [aR 3 0, aR 6 0] 243 (Rs a b) h 243 (fun v R' h' => v = none ∧ R' = Rs a b ∧ (∃ nx', logp h' nx' (cn - 1) U) ∧ sgp h' 0 (U (cn - 1)) ∧ Fr sUn h h') := by
  refine Ct.of 0 (L0 := [some (aR 3 0), some (aR 6 0)]) (by decide) ⟨Nat.le_refl _, Nat.le_refl _⟩ rfl rfl ?_
  intro G C hg hrt hnm
  have hN : gn G ≤ 243 ∧ 243 ≤ 243 ∧ 243 ≤ 243 := ⟨by omega, by decide, by decide⟩
  obtain ⟨l1, l2, l3, l4, l5⟩ := hl
  refine r_aload_n C dX3_popInto_0 rfl ?_
  refine q_getV C flX3_21 dX3_popInto_1 ok3 rfl l2 ?_
  refine r_if_le C dX3_popInto_4 (fun cc => absurd cc (nI_nle hc (by omega))) (fun _ => ?_)
  refine r_aload_n C dX3_popInto_7 rfl ?_
  refine r_dup C dX3_popInto_8 rfl ?_
  refine q_getV C flX3_21 dX3_popInto_9 ok3 rfl l2 ?_
  refine r_iconst (v := (nI 1)) C dX3_popInto_12 (by decide) ?_
  refine r_isubN C dX3_popInto_13 hc ?_
  refine r_putI C flX3_21 dX3_popInto_14 ok3 rfl ⟨rfl, rfl⟩ ?_
  refine r_aload_n C dX3_popInto_17 rfl ?_
  refine r_aload_n C dX3_popInto_18 rfl ?_
  refine q_getV C flX3_17 dX3_popInto_19 ok3 rfl (show _ = nI nx from l1) ?_
  refine r_bipush (v := (nI 20)) C dX3_popInto_22 (by decide) ?_
  first | refine r_iaddN C dX3_popInto_24 ?_ | refine r_iadd C dX3_popInto_24 ?_
  refine r_iconst (v := (nI 1)) C dX3_popInto_25 (by decide) ?_
  refine r_isubN C dX3_popInto_26 (by omega) ?_
  refine r_bipush (v := (nI 20)) C dX3_popInto_27 (by decide) ?_
  refine r_irem C dX3_popInto_29 (by decide) ?_
  rw [pk_rem (by omega) (by decide) (by decide)]
  refine r_putI C flX3_17 dX3_popInto_30 ok3 rfl ⟨rfl, rfl⟩ ?_
  refine r_aload_n C dX3_popInto_33 rfl ?_
  refine r_aload_n C dX3_popInto_34 rfl ?_
  refine r_getR C flX3_11 dX3_popInto_35 ok3 rfl rfl ?_
  refine r_aload_n C dX3_popInto_38 rfl ?_
  refine q_getV C flX3_17 dX3_popInto_39 ok3 rfl put_same ?_
  refine q_aald (m := 20) (t := 0) C dX3_popInto_42 ok16 rfl (by decide) rfl (by omega) rfl ?_
  have e1 : (nx + 20 - 1) % 20 + 1 = (nx + 20 - cn + (cn - 1)) % 20 + 1 := by omega
  have hs := sg3 (i := 1) (x := nI ((nx + 20 - 1) % 20)) (sg3 (i := 2) (x := nI (cn - 1)) (l5 (cn - 1) (by omega)))
  rw [← e1] at hs
  have hS : 0 < 23 := by decide
  refine r_callV C (c_siegeBecome (by decide) (by omega) (by omega) hs) dX3_popInto_43 cw_X6_become cvX3_25 (by omega) (Ok.full (by decide) hS) rfl hN rfl (Nat.le_of_ble_eq_true rfl) ?_
  rintro v R' h1 ⟨rfl, rfl, hs1, hf1⟩
  refine r_vret C hrt dX3_popInto_46 ?_
  refine ⟨rfl, rfl, ⟨(nx + 20 - 1) % 20, ?_, ?_, by omega, by omega, fun i hi => ?_⟩, hs1, (Fr.put (Fr.put Fr.rf rfl) rfl).tr (hf1.wk sS_sUn)⟩
  · rw [hf1 3 0 rfl, put_same]
  · rw [hf1 3 0 rfl, put_i (by decide), put_same]
  · have h2 := sg3 (i := 1) (x := nI ((nx + 20 - 1) % 20)) (sg3 (i := 2) (x := nI (cn - 1)) (l5 i (by omega)))
    rw [show ((nx + 20 - 1) % 20 + 20 - (cn - 1) + i) % 20 + 1 = (nx + 20 - cn + i) % 20 + 1 by omega]
    exact h2.fr hf1 (fun k _ => sS_ne (by omega))
end
section
def lsub : List (Option AV) → List (Option AV) → Prop
  | [], [] => True
  | none :: r', _ :: r => lsub r' r
  | some v :: r', w :: r => w = some v ∧ lsub r' r
  | _, _ => False
theorem lsub_at {E : Ev} : ∀ {L' L : List (Option AV)} {b : Nat} {q : Nat × Value}, lsub L' L → q ∈ lvl E b L' → q ∈ lvl E b L
  | [], [], _, _, _, h => h
  | none :: r', none :: r, b, q, hs, h => lsub_at (L' := r') (L := r) (b := b + 1) hs h
  | none :: r', some w :: r, b, q, hs, h => List.mem_cons_of_mem _ (lsub_at (L' := r') (L := r) (b := b + 1) hs h)
  | some v :: r', some w :: r, b, q, hs, h => by
    obtain ⟨e, hs⟩ := hs
    cases e
    rcases List.mem_cons.mp (show q ∈ (b, cv E v) :: lvl E (b + 1) r' from h) with z | z
    · rw [z]; exact List.mem_cons_self
    · exact List.mem_cons_of_mem _ (lsub_at (L' := r') (L := r) (b := b + 1) hs z)
  | some v :: r', none :: r, b, q, hs, h => by
    obtain ⟨e, hs⟩ := hs
    cases e
  | [], _ :: _, _, _, hs, _ => False.elim hs
  | none :: _, [], _, _, hs, _ => False.elim hs
  | some _ :: _, [], _, _, hs, _ => False.elim hs
theorem lsub_len : ∀ {L' L : List (Option AV)}, lsub L' L → L'.length = L.length
  | [], [], _ => rfl
  | none :: r', _ :: r, hs => by rw [List.length_cons, List.length_cons, lsub_len (L' := r') (L := r) hs]
  | some v :: r', w :: r, hs => by rw [List.length_cons, List.length_cons, lsub_len (L' := r') (L := r) hs.2]
  | [], _ :: _, hs => False.elim hs
  | none :: _, [], hs => False.elim hs
  | some _ :: _, [], hs => False.elim hs
/-- fewer locals are known -/
theorem wa_loc {E : Ev} {G : Gv} {n pc : Nat} {R : RF} {h : HF} {Q : State → Prop} {L L' : List (Option AV)} {st : List AV} (hs : lsub L' L) (kk : Wa E G n R h Q pc L' st) : Wa E G n R h Q pc L st :=
  fun H locs ls hP hS hl => kk H locs ls hP hS ⟨by rw [lsub_len hs]; exact hl.1, hl.2.1, hl.2.2.1, fun q hq => hl.2.2.2 q (lsub_at hs hq)⟩
end
section
/-! days that are tried -/
def dg (n row d : Nat) : Nat := row / 4 ^ (n - 1 - d) % 4
def rowS (N : Nat → Nat) (T : Tv) (n row : Nat) (s : Sv) : Nat → Sv
  | 0 => s
  | d + 1 => (edayF N T (nI (dg n row d)) (rowS N T n row s d)).1
def fdF (n row : Nat) : Nat → Nat
  | 0 => 0
  | d + 1 => if dg n row (d + 1) = 0 then fdF n row d else d + 1
theorem fdF_le (n row : Nat) : ∀ d, fdF n row d ≤ d
  | 0 => Nat.le_refl _
  | d + 1 => by
    unfold fdF
    split
    · exact Nat.le_succ_of_le (fdF_le n row d)
    · exact Nat.le_refl _
theorem dg_zero (n : Nat) : ∀ d, fdF n 0 d = 0
  | 0 => rfl
  | d + 1 => by
    unfold fdF
    rw [if_pos (by simp [dg]), dg_zero n d]
theorem dg_same : ∀ n, n < 6 → ∀ r, r < 4 ^ n → 0 < r → ∀ d, d < fdF n r (n - 1) → dg n r d = dg n (r - 1) d := by decide +kernel
theorem rowS_same {N : Nat → Nat} {T : Tv} {n r r' : Nat} {s : Sv} {f : Nat} (h : ∀ d, d < f → dg n r d = dg n r' d) : ∀ d, d ≤ f → rowS N T n r s d = rowS N T n r' s d
  | 0, _ => rfl
  | d + 1, hd => by rw [rowS, rowS, h d (by omega), rowS_same h d (by omega)]
theorem shr4 {row k : Nat} (hr : row < 2 ^ 31) (hk : k ≤ 4) : nI row >>> (nI (2 * k) &&& 31) = nI (row / 4 ^ k) := by
  rcases (show k = 0 ∨ k = 1 ∨ k = 2 ∨ k = 3 ∨ k = 4 by omega) with rfl | rfl | rfl | rfl | rfl
  · exact pk_shrN hr _ 0 (by decide)
  · exact pk_shrN hr _ 2 (by decide)
  · exact pk_shrN hr _ 4 (by decide)
  · exact pk_shrN hr _ 6 (by decide)
  · exact pk_shrN hr _ 8 (by decide)
theorem shl4 {n : Nat} (hn : n ≤ 5) : nI 1 <<< (nI (2 * n) &&& 31) = nI (4 ^ n) := by
  rcases (show n = 0 ∨ n = 1 ∨ n = 2 ∨ n = 3 ∨ n = 4 ∨ n = 5 by omega) with rfl | rfl | rfl | rfl | rfl | rfl <;> decide
theorem pow4 {n : Nat} (hn : n ≤ 5) : 4 ^ n ≤ 1024 := by
  rcases (show n = 0 ∨ n = 1 ∨ n = 2 ∨ n = 3 ∨ n = 4 ∨ n = 5 by omega) with rfl | rfl | rfl | rfl | rfl | rfl <;> decide
def cmpF (men food row : Int32) (b : Int32 × Int32 × Int32) : Int32 × Int32 × Int32 := if b.1 < men ∨ (men = b.1 ∧ b.2.2 < food) then (men, row, food) else b
def tb3 (h : HF) (b : Int32 × Int32 × Int32) : Prop := h 9 0 2 = b.1 ∧ h 9 0 3 = b.2.1 ∧ h 9 0 4 = b.2.2
def bstF (N : Nat → Nat) (T : Tv) (n : Nat) (s : Sv) (b : Int32 × Int32 × Int32) : Nat → Int32 × Int32 × Int32
  | 0 => b
  | r + 1 => cmpF (msum (rowS N T n r s n) 5) (rowS N T n r s n 0) (nI r) (bstF N T n s b r)
def s9 : Nat → Nat → Bool := fun k _ => k == 9
def sTr : Nat → Nat → Bool := fun k j => k == 9 || ((k == 1 || k == 14 || k == 15) && decide (23 ≤ j))
theorem s9_sTr : ∀ k j, s9 k j = true → sTr k j = true := by
  intro k j hh
  simp only [s9, beq_iff_eq] at hh
  simp [sTr, hh]
theorem sC_sTr {d : Nat} : ∀ k j, sC (23 + d) k j = true → sTr k j = true := by
  intro k j hh
  simp only [sC, Bool.and_eq_true, beq_iff_eq] at hh
  obtain ⟨h1, rfl⟩ := hh
  simp [sTr, h1]
theorem sTr_twn {t : Nat} : ∀ k, (k = 8 ∨ (28 ≤ k ∧ k ≤ 35)) → sTr k t = false := by
  intro k hk
  have : (k == 1) = false ∧ (k == 14) = false ∧ (k == 15) = false ∧ (k == 9) = false := ⟨by simp; omega, by simp; omega, by simp; omega, by simp; omega⟩
  simp [sTr, this]
set_option maxRecDepth 100000 in
set_option maxHeartbeats 4000000 in
theorem c_rationOf {E : Ev} {a b n row d : Nat} {h : HF} (hr : row < 2 ^ 31) (hn : n ≤ 5) (hd : d < n) : Ct E 0 yX9_rationOf cX9_rationOf 3 (some .int) [aI (nI row), aI (nI n), aI (nI d)] 243 (Rs a b) h 243 (fun v R' h' => v = some (aI (nI (dg n row d))) ∧ R' = Rs a b ∧ h' = h) := by
  refine Ct.of 0 (L0 := [some (aI (nI row)), some (aI (nI n)), some (aI (nI d))]) (by decide) ⟨Nat.le_refl _, Nat.le_refl _⟩ rfl rfl ?_
  intro G C hg hrt hnm
  have hN : gn G ≤ 243 ∧ 243 ≤ 243 ∧ 243 ≤ 243 := ⟨by omega, by decide, by decide⟩
  refine r_iload_n C dX9_rationOf_0 rfl ?_
  refine r_iconst (v := (nI 2)) C dX9_rationOf_1 (by decide) ?_
  refine r_iload_n C dX9_rationOf_2 rfl ?_
  refine r_iconst (v := (nI 1)) C dX9_rationOf_3 (by decide) ?_
  refine r_isubN C dX9_rationOf_4 (by omega) ?_
  refine r_iload_n C dX9_rationOf_5 rfl ?_
  refine r_isubN C dX9_rationOf_6 (by omega) ?_
  first | refine r_imulN C dX9_rationOf_7 ?_ | refine r_imul C dX9_rationOf_7 ?_
  refine r_ishr C dX9_rationOf_8 ?_
  rw [shr4 hr (by omega)]
  refine r_iconst (v := (nI 3)) C dX9_rationOf_9 (by decide) ?_
  refine r_iand C dX9_rationOf_10 ?_
  rw [pk_andN (Nat.lt_of_le_of_lt (Nat.div_le_self _ _) (by omega)) 2 (by decide)]
  refine r_iret C hrt dX9_rationOf_11 ?_
  exact ⟨rfl, rfl, rfl⟩
set_option maxRecDepth 100000 in
set_option maxHeartbeats 4000000 in
theorem c_firstDayToTry {E : Ev} {a b n row : Nat} {h : HF} (hr : row < 2 ^ 31) (hn : n ≤ 5) (hn1 : 1 ≤ n) : Ct E 1 yX9_firstDayToTry cX9_firstDayToTry 3 (some .int) [aI (nI row), aI (nI n)] 243 (Rs a b) h 243 (fun v R' h' => v = some (aI (nI (fdF n row (n - 1)))) ∧ R' = Rs a b ∧ h' = h) := by
  refine Ct.of 1 (L0 := [some (aI (nI row)), some (aI (nI n)), none]) (by decide) ⟨Nat.le_refl _, Nat.le_refl _⟩ rfl rfl ?_
  intro G C hg hrt hnm
  have hN : gn G ≤ 243 ∧ 243 ≤ 243 ∧ 243 ≤ 243 := ⟨by omega, by decide, by decide⟩
  refine r_iload_n C dX9_firstDayToTry_0 rfl ?_
  refine r_iconst (v := (nI 1)) C dX9_firstDayToTry_1 (by decide) ?_
  refine r_isubN C dX9_firstDayToTry_2 hn1 ?_
  refine r_istore_n C dX9_firstDayToTry_3 st2 ?_
  have loop : ∀ d, d < n → fdF n row d = fdF n row (n - 1) → Wa E G 243 (Rs a b) h (QQ E G 243 (fun v R' h' => v = some (aI (nI (fdF n row (n - 1)))) ∧ R' = Rs a b ∧ h' = h)) 4 [some (aI (nI row)), some (aI (nI n)), some (aI (nI d))] [] := by
    intro d
    induction d with
    | zero =>
      intro hd he
      refine r_iload_n C dX9_firstDayToTry_4 rfl ?_
      refine r_if_le C dX9_firstDayToTry_5 (fun _ => ?_) (fun cc => absurd cc (by decide))
      refine r_iload_n C dX9_firstDayToTry_23 rfl ?_
      refine r_iret C hrt dX9_firstDayToTry_24 ?_
      rw [← he]
      exact ⟨rfl, rfl, rfl⟩
    | succ d ih =>
      intro hd he
      rw [fdF] at he
      refine r_iload_n C dX9_firstDayToTry_4 rfl ?_
      refine r_if_le C dX9_firstDayToTry_5 (fun cc => absurd cc (nI_nle (by omega) (by omega))) (fun _ => ?_)
      refine r_iload_n C dX9_firstDayToTry_8 rfl ?_
      refine r_iload_n C dX9_firstDayToTry_9 rfl ?_
      refine r_iload_n C dX9_firstDayToTry_10 rfl ?_
      refine r_callS C (c_rationOf hr hn hd) dX9_firstDayToTry_11 cw_X9_rationOf csX9_45 (by omega) rfl hN rfl (Nat.le_of_ble_eq_true rfl) ?_
      rintro v R' h1 ⟨rfl, rfl, rfl⟩
      have hb : dg n row (d + 1) < 4 := Nat.mod_lt _ (by decide)
      by_cases hz : dg n row (d + 1) = 0
      · rw [if_pos hz] at he
        rw [hz]
        refine r_if_ne C dX9_firstDayToTry_14 (fun cc => absurd cc (by decide)) (fun _ => ?_)
        refine r_iinc (v := nI d) C dX9_firstDayToTry_17 rfl (pk_m1 d) st2 ?_
        refine r_goto C dX9_firstDayToTry_20 ?_
        exact ih (by omega) he
      · rw [if_neg hz] at he
        refine r_if_ne C dX9_firstDayToTry_14 (fun _ => ?_) (fun cc => absurd cc (by exact fun z => nI_ne0 (by omega) (by omega) z))
        refine r_iload_n C dX9_firstDayToTry_23 rfl ?_
        refine r_iret C hrt dX9_firstDayToTry_24 ?_
        rw [← he]
        exact ⟨rfl, rfl, rfl⟩
  exact loop (n - 1) (by omega) rfl
set_option maxRecDepth 100000 in
set_option maxHeartbeats 4000000 in
theorem c_compareRow {E : Ev} {a b j : Nat} {h : HF} {s : Sv} {row : Int32} {u : Int32 × Int32 × Int32} (hC : j < 29) (hc : cmp h j s) (hu : tb3 h u) : Ct E 1 yX9_compareRow cX9_compareRow 4 none [aR 9 0, aI row, aR 1 j] 243 (Rs a b) h 243 (fun v R' h' => v = none ∧ R' = Rs a b ∧ tb3 h' (cmpF (msum s 5) (s 0) row u) ∧ Fr s9 h h') := by
  refine Ct.of 1 (L0 := [some (aR 9 0), some (aI row), some (aR 1 j), none]) (by decide) ⟨Nat.le_refl _, Nat.le_refl _⟩ rfl rfl ?_
  intro G C hg hrt hnm
  have hN : gn G ≤ 243 ∧ 243 ≤ 243 ∧ 243 ≤ 243 := ⟨by omega, by decide, by decide⟩
  have fin : (u.1 < msum s 5 ∨ (msum s 5 = u.1 ∧ u.2.2 < s 0)) → Wa E G 243 (Rs a b) h (QQ E G 243 (fun v R' h' => v = none ∧ R' = Rs a b ∧ tb3 h' (cmpF (msum s 5) (s 0) row u) ∧ Fr s9 h h')) 32 [some (aR 9 0), some (aI row), some (aR 1 j), some (aI (msum s 5))] [] := by
    intro hb
    refine r_aload_n C dX9_compareRow_32 rfl ?_
    refine r_iload_n C dX9_compareRow_33 rfl ?_
    refine r_putI C flX9_21 dX9_compareRow_34 ok9 rfl ⟨rfl, rfl⟩ ?_
    refine r_aload_n C dX9_compareRow_37 rfl ?_
    refine r_aload_n C dX9_compareRow_38 rfl ?_
    refine q_getV C flX9_61 dX9_compareRow_39 (Ok.full (by decide) hC) rfl (show _ = s 0 from hc.1) ?_
    refine r_putI C flX9_28 dX9_compareRow_42 ok9 rfl ⟨rfl, rfl⟩ ?_
    refine r_aload_n C dX9_compareRow_45 rfl ?_
    refine r_iload_n C dX9_compareRow_46 rfl ?_
    refine r_putI C flX9_25 dX9_compareRow_47 ok9 rfl ⟨rfl, rfl⟩ ?_
    refine r_vret C hrt dX9_compareRow_50 ?_
    rw [cmpF, if_pos hb]
    refine ⟨rfl, rfl, ⟨?_, put_same, ?_⟩, Fr.put (Fr.put (Fr.put Fr.rf rfl) rfl) rfl⟩
    · rw [put_i (by decide), put_i (by decide), put_same]
    · rw [put_i (by decide), put_same]
  refine r_aload_n C dX9_compareRow_0 rfl ?_
  refine r_callV C (c_menOfAll hC hc) dX9_compareRow_1 cw_X1_menOfAll cvX9_57 (by omega) (Ok.full (by decide) hC) rfl hN rfl (Nat.le_of_ble_eq_true rfl) ?_
  rintro v R' h1 ⟨rfl, rfl, rfl⟩
  refine r_istore_n C dX9_compareRow_4 st3 ?_
  refine r_iload_n C dX9_compareRow_5 rfl ?_
  refine r_aload_n C dX9_compareRow_6 rfl ?_
  refine q_getV C flX9_21 dX9_compareRow_7 ok9 rfl hu.1 ?_
  refine r_icmp_gt C dX9_compareRow_10 (fun c10 => ?_) (fun c10 => ?_)
  · exact fin (Or.inl c10)
  · refine r_iload_n C dX9_compareRow_13 rfl ?_
    refine r_aload_n C dX9_compareRow_14 rfl ?_
    refine q_getV C flX9_21 dX9_compareRow_15 ok9 rfl hu.1 ?_
    refine r_icmp_ne C dX9_compareRow_18 (fun c18 => ?_) (fun c18 => ?_)
    · refine r_vret C hrt dX9_compareRow_50 ?_
      rw [cmpF, if_neg (fun z => z.elim c10 (fun z => c18 z.1))]
      exact ⟨rfl, rfl, hu, Fr.rf⟩
    · refine r_aload_n C dX9_compareRow_21 rfl ?_
      refine q_getV C flX9_61 dX9_compareRow_22 (Ok.full (by decide) hC) rfl hc.1 ?_
      refine r_aload_n C dX9_compareRow_25 rfl ?_
      refine q_getV C flX9_28 dX9_compareRow_26 ok9 rfl hu.2.2 ?_
      refine r_icmp_le C dX9_compareRow_29 (fun c29 => ?_) (fun c29 => ?_)
      · refine r_vret C hrt dX9_compareRow_50 ?_
        rw [cmpF, if_neg (fun z => z.elim c10 (fun z => absurd c29 (Int32.not_le.mpr z.2)))]
        exact ⟨rfl, rfl, hu, Fr.rf⟩
      · exact fin (Or.inr ⟨c18, Int32.not_le.mp c29⟩)
set_option maxRecDepth 100000 in
set_option maxHeartbeats 8000000 in
theorem c_tryAllRows {E : Ev} {a b t n : Nat} {h : HF} {N : Nat → Nat} {T : Tv} {s : Sv} (hT : t < 2) (ht : twn h t N T) (hc : cmp h 0 s) (hn1 : 1 ≤ n) (hn : n ≤ 5) : Ct E 3 yX9_tryAllRows cX9_tryAllRows 7 none [aR 9 0, aR 8 t, aR 1 0, aI (nI n)] 243 (Rs a b) h 243 (fun v R' h' => v = none ∧ R' = Rs a b ∧ tb3 h' (bstF N T n s (-1, h 9 0 3, h 9 0 4) (4 ^ n)) ∧ Fr sTr h h') := by
  refine Ct.of 3 (L0 := [some (aR 9 0), some (aR 8 t), some (aR 1 0), some (aI (nI n)), none, none, none]) (by decide) ⟨Nat.le_refl _, Nat.le_refl _⟩ rfl rfl ?_
  intro G C hg hrt hnm
  have hN : gn G ≤ 243 ∧ 243 ≤ 243 ∧ 243 ≤ 243 := ⟨by omega, by decide, by decide⟩
  have hp4 := pow4 hn
  refine r_iload_n C dX9_tryAllRows_0 rfl ?_
  refine r_iconst (v := (nI 5)) C dX9_tryAllRows_1 (by decide) ?_
  refine r_min C dX9_tryAllRows_2 cmX9_32 (by omega) (Nat.le_of_ble_eq_true rfl) ⟨hN.1, hN.2.2⟩ ?_
  rw [if_neg (nI_nlt (by omega) (by decide))]
  refine r_istore C dX9_tryAllRows_5 st4 ?_
  refine r_aload_n C dX9_tryAllRows_7 rfl ?_
  refine r_iconst (v := (-1)) C dX9_tryAllRows_8 (by decide) ?_
  refine r_putI C flX9_21 dX9_tryAllRows_9 ok9 rfl ⟨rfl, rfl⟩ ?_
  refine r_aload_n C dX9_tryAllRows_12 rfl ?_
  refine r_getR C flX9_11 dX9_tryAllRows_13 ok9 rfl rfl ?_
  refine r_iconst (v := (nI 0)) C dX9_tryAllRows_16 (by decide) ?_
  refine q_aald (m := 6) (t := 1) C dX9_tryAllRows_17 ok36 rfl (by decide) rfl (by omega) rfl ?_
  refine r_aload_n C dX9_tryAllRows_18 rfl ?_
  have hC : 23 + 0 < 29 := by decide
  have hc' : cmp (put h 9 0 2 (-1)) 0 s := hc.putk (by decide) (by decide) (by decide)
  refine r_callV C (c_campBecome (by decide) (by decide) (by decide) hc') dX9_tryAllRows_19 cw_X1_become cvX9_38 (by omega) (Ok.full (by decide) hC) rfl hN rfl (Nat.le_of_ble_eq_true rfl) ?_
  rintro v R' h0 ⟨rfl, rfl, hc0, hf0⟩
  have F0 : Fr sTr h h0 := (Fr.put (h := h) (i := 2) (v := (-1 : Int32)) Fr.rf (by rfl : sTr 9 0 = true)).tr (hf0.wk sC_sTr)
  have B0 : tb3 h0 (bstF N T n s (-1, h 9 0 3, h 9 0 4) 0) := by
    refine ⟨?_, ?_, ?_⟩
    · rw [hf0 9 0 rfl]; rfl
    · rw [hf0 9 0 rfl]; rfl
    · rw [hf0 9 0 rfl]; rfl
  refine r_iconst (v := (nI 0)) C dX9_tryAllRows_22 (by decide) ?_
  refine r_istore C dX9_tryAllRows_23 st5 ?_
  have outer : ∀ k r hh, r + k = 4 ^ n → cmp hh 23 s → (0 < r → ∀ d, d ≤ n → cmp hh (23 + d) (rowS N T n (r - 1) s d)) → tb3 hh (bstF N T n s (-1, h 9 0 3, h 9 0 4) r) → Fr sTr h hh →
      Wa E G 243 (Rs a b) hh (QQ E G 243 (fun v R' h' => v = none ∧ R' = Rs a b ∧ tb3 h' (bstF N T n s (-1, h 9 0 3, h 9 0 4) (4 ^ n)) ∧ Fr sTr h h')) 25 [some (aR 9 0), some (aR 8 t), some (aR 1 0), some (aI (nI n)), some (aI (nI n)), some (aI (nI r)), none] [] := by
    intro k
    induction k with
    | zero =>
      intro r hh hk hc23 hcs hb hf
      have e : r = 4 ^ n := by omega
      subst e
      refine r_iload C dX9_tryAllRows_25 rfl ?_
      refine r_iconst (v := (nI 1)) C dX9_tryAllRows_27 (by decide) ?_
      refine r_iconst (v := (nI 2)) C dX9_tryAllRows_28 (by decide) ?_
      refine r_iload C dX9_tryAllRows_29 rfl ?_
      first | refine r_imulN C dX9_tryAllRows_31 ?_ | refine r_imul C dX9_tryAllRows_31 ?_
      refine r_ishl C dX9_tryAllRows_32 ?_
      rw [shl4 hn]
      refine r_icmpN_ge C dX9_tryAllRows_33 (by omega) (by omega) (fun _ => ?_) (fun cc => absurd cc (by omega))
      refine r_vret C hrt dX9_tryAllRows_118 ?_
      exact ⟨rfl, rfl, hb, hf⟩
    | succ k ih =>
      intro r hh hk hc23 hcs hb hf
      refine r_iload C dX9_tryAllRows_25 rfl ?_
      refine r_iconst (v := (nI 1)) C dX9_tryAllRows_27 (by decide) ?_
      refine r_iconst (v := (nI 2)) C dX9_tryAllRows_28 (by decide) ?_
      refine r_iload C dX9_tryAllRows_29 rfl ?_
      first | refine r_imulN C dX9_tryAllRows_31 ?_ | refine r_imul C dX9_tryAllRows_31 ?_
      refine r_ishl C dX9_tryAllRows_32 ?_
      rw [shl4 hn]
      refine r_icmpN_ge C dX9_tryAllRows_33 (by omega) (by omega) (fun cc => absurd cc (by omega)) (fun _ => ?_)
      refine r_iload C dX9_tryAllRows_36 rfl ?_
      refine r_iload C dX9_tryAllRows_38 rfl ?_
      refine r_callS C (c_firstDayToTry (by omega) hn hn1) dX9_tryAllRows_40 cw_X9_firstDayToTry csX9_42 (by omega) rfl hN rfl (Nat.le_of_ble_eq_true rfl) ?_
      rintro v R' h1 ⟨rfl, rfl, rfl⟩
      refine r_istore C dX9_tryAllRows_43 st6 ?_
      have hfl := fdF_le n r (n - 1)
      have inner : ∀ k2 d h2, d + k2 = n → (∀ e, e ≤ d → cmp h2 (23 + e) (rowS N T n r s e)) → tb3 h2 (bstF N T n s (-1, h 9 0 3, h 9 0 4) r) → Fr sTr h h2 →
          Wa E G 243 (Rs a b) h2 (QQ E G 243 (fun v R' h' => v = none ∧ R' = Rs a b ∧ tb3 h' (bstF N T n s (-1, h 9 0 3, h 9 0 4) (4 ^ n)) ∧ Fr sTr h h')) 45 [some (aR 9 0), some (aR 8 t), some (aR 1 0), some (aI (nI n)), some (aI (nI n)), some (aI (nI r)), some (aI (nI d))] [] := by
        intro k2
        induction k2 with
        | zero =>
          intro d h2 hd hce hb2 hf2
          have e : d = n := by omega
          subst e
          refine r_iload C dX9_tryAllRows_45 rfl ?_
          refine r_iload C dX9_tryAllRows_47 rfl ?_
          refine r_icmpN_ge C dX9_tryAllRows_49 (by omega) (by omega) (fun _ => ?_) (fun cc => absurd cc (by omega))
          refine r_aload_n C dX9_tryAllRows_99 rfl ?_
          refine r_iload C dX9_tryAllRows_100 rfl ?_
          refine r_aload_n C dX9_tryAllRows_102 rfl ?_
          refine r_getR C flX9_11 dX9_tryAllRows_103 ok9 rfl rfl ?_
          refine r_iload C dX9_tryAllRows_106 rfl ?_
          refine q_aald (m := 6) (t := 1) C dX9_tryAllRows_108 ok36 rfl (by decide) rfl (by omega) rfl ?_
          have hC : 23 + d < 29 := by omega
          refine r_callV C (c_compareRow hC (hce d (Nat.le_refl _)) hb2) dX9_tryAllRows_109 cw_X9_compareRow cvX9_53 (by omega) ok9 rfl hN rfl (Nat.le_of_ble_eq_true rfl) ?_
          rintro v R' h3 ⟨rfl, rfl, hb3, hf3⟩
          first | refine r_iincN C dX9_tryAllRows_112 rfl st5 ?_ | refine r_iinc C dX9_tryAllRows_112 rfl rfl st5 ?_
          refine r_goto C dX9_tryAllRows_115 ?_
          refine wa_loc (L' := [some (aR 9 0), some (aR 8 t), some (aR 1 0), some (aI (nI d)), some (aI (nI d)), some (aI (nI (r + 1))), none]) (by simp [lsub]) ?_
          refine ih (r + 1) h3 (by omega) ?_ (fun _ e he => ?_) hb3 (hf2.tr (hf3.wk s9_sTr))
          · exact (hce 0 (by omega)).fr hf3 rfl rfl rfl
          · exact (hce e he).fr hf3 rfl rfl rfl
        | succ k2 ih2 =>
          intro d h2 hd hce hb2 hf2
          refine r_iload C dX9_tryAllRows_45 rfl ?_
          refine r_iload C dX9_tryAllRows_47 rfl ?_
          refine r_icmpN_ge C dX9_tryAllRows_49 (by omega) (by omega) (fun cc => absurd cc (by omega)) (fun _ => ?_)
          refine r_aload_n C dX9_tryAllRows_52 rfl ?_
          refine r_getR C flX9_11 dX9_tryAllRows_53 ok9 rfl rfl ?_
          refine r_iload C dX9_tryAllRows_56 rfl ?_
          refine r_iconst (v := (nI 1)) C dX9_tryAllRows_58 (by decide) ?_
          first | refine r_iaddN C dX9_tryAllRows_59 ?_ | refine r_iadd C dX9_tryAllRows_59 ?_
          refine q_aald (m := 6) (t := 1) C dX9_tryAllRows_60 ok36 rfl (by decide) rfl (by omega) rfl ?_
          refine r_aload_n C dX9_tryAllRows_61 rfl ?_
          refine r_getR C flX9_11 dX9_tryAllRows_62 ok9 rfl rfl ?_
          refine r_iload C dX9_tryAllRows_65 rfl ?_
          refine q_aald (m := 6) (t := 1) C dX9_tryAllRows_67 ok36 rfl (by decide) rfl (by omega) rfl ?_
          have hC : 23 + (d + 1) < 29 := by omega
          refine r_callV C (c_campBecome (by omega) (by omega) (by omega) (hce d (Nat.le_refl _))) dX9_tryAllRows_68 cw_X1_become cvX9_38 (by omega) (Ok.full (by decide) hC) rfl hN rfl (Nat.le_of_ble_eq_true rfl) ?_
          rintro v R' h3 ⟨rfl, rfl, hc3, hf3⟩
          refine r_aload_n C dX9_tryAllRows_71 rfl ?_
          refine r_getR C flX9_11 dX9_tryAllRows_72 ok9 rfl rfl ?_
          refine r_iload C dX9_tryAllRows_75 rfl ?_
          refine r_iconst (v := (nI 1)) C dX9_tryAllRows_77 (by decide) ?_
          first | refine r_iaddN C dX9_tryAllRows_78 ?_ | refine r_iadd C dX9_tryAllRows_78 ?_
          refine q_aald (m := 6) (t := 1) C dX9_tryAllRows_79 ok36 rfl (by decide) rfl (by omega) rfl ?_
          refine r_aload_n C dX9_tryAllRows_80 rfl ?_
          refine r_iload C dX9_tryAllRows_81 rfl ?_
          refine r_iload C dX9_tryAllRows_83 rfl ?_
          refine r_iload C dX9_tryAllRows_85 rfl ?_
          refine r_callS C (c_rationOf (by omega) hn (by omega)) dX9_tryAllRows_87 cw_X9_rationOf csX9_45 (by omega) rfl hN rfl (Nat.le_of_ble_eq_true rfl) ?_
          rintro v R' h4 ⟨rfl, rfl, rfl⟩
          have ht4 := ht.fr (hf2.tr (hf3.wk sC_sTr)) sTr_twn
          refine r_callV C (c_eatADay hC hT ht4 hc3) dX9_tryAllRows_90 cw_X1_eatADay cvX9_49 (by omega) (Ok.full (by decide) hC) rfl hN rfl (Nat.le_of_ble_eq_true rfl) ?_
          rintro v R' h5 ⟨rfl, rfl, hc5, hf5⟩
          have hff := hf3.tr hf5
          first | refine r_iincN C dX9_tryAllRows_93 rfl st6 ?_ | refine r_iinc C dX9_tryAllRows_93 rfl rfl st6 ?_
          refine r_goto C dX9_tryAllRows_96 ?_
          refine ih2 (d + 1) h5 (by omega) (fun e he => ?_) ?_ (hf2.tr (hff.wk sC_sTr))
          · by_cases e1 : e = d + 1
            · subst e1
              exact hc5.1
            · exact (hce e (by omega)).fr hff (sC_ne (by omega)) (sC_ne (by omega)) (sC_ne (by omega))
          · exact ⟨by rw [hff 9 0 rfl]; exact hb2.1, by rw [hff 9 0 rfl]; exact hb2.2.1, by rw [hff 9 0 rfl]; exact hb2.2.2⟩
      refine inner (n - fdF n r (n - 1)) (fdF n r (n - 1)) _ (by omega) (fun e he => ?_) hb hf
      by_cases hr0 : r = 0
      · subst hr0
        rw [dg_zero] at he
        have e0 : e = 0 := by omega
        subst e0
        exact hc23
      · have h2 := hcs (by omega) e (by omega)
        rw [← rowS_same (N := N) (T := T) (s := s) (fun d hd => dg_same n (by omega) r (by omega) (by omega) d hd) e he] at h2
        exact h2
  exact outer (4 ^ n) 0 h0 (by omega) hc0 (fun z => absurd z (by omega)) B0 F0
def fdsF (N : Nat → Nat) (T : Tv) (q : Int32) : Nat → Sv → Int32
  | 0, _ => -1
  | k + 1, s => if (edayF N T q s).2.2 = -1 then fdsF N T q k (edayF N T q s).1 else (edayF N T q s).2.2
def hdF (N : Nat → Nat) (T : Tv) (q : Int32) : Nat → Sv → Nat
  | 0, _ => 0
  | k + 1, s => if msum s 5 ≤ 0 then 0 else hdF N T q k (edayF N T q s).1 + 1
set_option maxRecDepth 100000 in
set_option maxHeartbeats 4000000 in
theorem c_firstDeserter {E : Ev} {a b t : Nat} {h : HF} {N : Nat → Nat} {T : Tv} {s : Sv} {q : Int32} (hT : t < 2) (ht : twn h t N T) (hc : cmp h 0 s) : Ct E 3 yX9_firstDeserter cX9_firstDeserter 6 (some .int) [aR 9 0, aR 8 t, aR 1 0, aI q] 243 (Rs a b) h 243 (fun v R' h' => v = some (aI (fdsF N T q 60 s)) ∧ R' = Rs a b ∧ Fr sTr h h') := by
  refine Ct.of 2 (L0 := [some (aR 9 0), some (aR 8 t), some (aR 1 0), some (aI q), none, none]) (by decide) ⟨Nat.le_refl _, Nat.le_refl _⟩ rfl rfl ?_
  intro G C hg hrt hnm
  have hN : gn G ≤ 243 ∧ 243 ≤ 243 ∧ 243 ≤ 243 := ⟨by omega, by decide, by decide⟩
  have hC : 23 + 0 < 29 := by decide
  refine r_aload_n C dX9_firstDeserter_0 rfl ?_
  refine r_getR C flX9_11 dX9_firstDeserter_1 ok9 rfl rfl ?_
  refine r_iconst (v := (nI 0)) C dX9_firstDeserter_4 (by decide) ?_
  refine q_aald (m := 6) (t := 1) C dX9_firstDeserter_5 ok36 rfl (by decide) rfl (by omega) rfl ?_
  refine r_astore C dX9_firstDeserter_6 st4 ?_
  refine r_aload C dX9_firstDeserter_8 rfl ?_
  refine r_aload_n C dX9_firstDeserter_10 rfl ?_
  refine r_callV C (c_campBecome (by decide) (by decide) (by decide) hc) dX9_firstDeserter_11 cw_X1_become cvX9_38 (by omega) (Ok.full (by decide) hC) rfl hN rfl (Nat.le_of_ble_eq_true rfl) ?_
  rintro v R' h0 ⟨rfl, rfl, hc0, hf0⟩
  refine r_iconst (v := (nI 0)) C dX9_firstDeserter_14 (by decide) ?_
  refine r_istore C dX9_firstDeserter_15 st5 ?_
  have loop : ∀ k i hh s', i + k = 60 → cmp hh (23 + 0) s' → fdsF N T q k s' = fdsF N T q 60 s → Fr sTr h hh →
      Wa E G 243 (Rs a b) hh (QQ E G 243 (fun v R' h' => v = some (aI (fdsF N T q 60 s)) ∧ R' = Rs a b ∧ Fr sTr h h')) 17 [some (aR 9 0), some (aR 8 t), some (aR 1 0), some (aI q), some (aR 1 (23 + 0)), some (aI (nI i))] [] := by
    intro k
    induction k with
    | zero =>
      intro i hh s' hi hcm he hf
      refine r_iload C dX9_firstDeserter_17 rfl ?_
      refine r_bipush (v := (nI 60)) C dX9_firstDeserter_19 (by decide) ?_
      refine r_icmpN_ge C dX9_firstDeserter_21 (by omega) (by omega) (fun _ => ?_) (fun cc => absurd cc (by omega))
      refine r_iconst (v := (-1)) C dX9_firstDeserter_52 (by decide) ?_
      refine r_iret C hrt dX9_firstDeserter_53 ?_
      rw [← he]
      exact ⟨rfl, rfl, hf⟩
    | succ k ih =>
      intro i hh s' hi hcm he hf
      rw [fdsF] at he
      refine r_iload C dX9_firstDeserter_17 rfl ?_
      refine r_bipush (v := (nI 60)) C dX9_firstDeserter_19 (by decide) ?_
      refine r_icmpN_ge C dX9_firstDeserter_21 (by omega) (by omega) (fun cc => absurd cc (by omega)) (fun _ => ?_)
      refine r_aload C dX9_firstDeserter_24 rfl ?_
      refine r_aload_n C dX9_firstDeserter_26 rfl ?_
      refine r_iload_n C dX9_firstDeserter_27 rfl ?_
      refine r_callV C (c_eatADay hC hT (ht.fr hf sTr_twn) hcm) dX9_firstDeserter_28 cw_X1_eatADay cvX9_49 (by omega) (Ok.full (by decide) hC) rfl hN rfl (Nat.le_of_ble_eq_true rfl) ?_
      rintro v R' h1 ⟨rfl, rfl, hc1, hf1⟩
      refine r_aload C dX9_firstDeserter_31 rfl ?_
      refine q_getV C flX9_64 dX9_firstDeserter_33 (Ok.full (by decide) hC) rfl hc1.2.2 ?_
      refine r_iconst (v := (-1)) C dX9_firstDeserter_36 (by decide) ?_
      refine r_icmp_eq C dX9_firstDeserter_37 (fun c37 => ?_) (fun c37 => ?_)
      · rw [if_pos c37] at he
        first | refine r_iincN C dX9_firstDeserter_46 rfl st5 ?_ | refine r_iinc C dX9_firstDeserter_46 rfl rfl st5 ?_
        refine r_goto C dX9_firstDeserter_49 ?_
        exact ih (i + 1) h1 _ (by omega) hc1.1 he (hf.tr (hf1.wk sC_sTr))
      · rw [if_neg c37] at he
        refine r_aload C dX9_firstDeserter_40 rfl ?_
        refine q_getV C flX9_64 dX9_firstDeserter_42 (Ok.full (by decide) hC) rfl hc1.2.2 ?_
        refine r_iret C hrt dX9_firstDeserter_45 ?_
        rw [← he]
        exact ⟨rfl, rfl, hf.tr (hf1.wk sC_sTr)⟩
  exact loop 60 0 h0 s (by omega) hc0 rfl (hf0.wk sC_sTr)
set_option maxRecDepth 100000 in
set_option maxHeartbeats 4000000 in
theorem c_daysWithMen {E : Ev} {a b t : Nat} {h : HF} {N : Nat → Nat} {T : Tv} {s : Sv} {q : Int32} (hT : t < 2) (ht : twn h t N T) (hc : cmp h 0 s) : Ct E 3 yX9_daysWithMen cX9_daysWithMen 6 (some .int) [aR 9 0, aR 8 t, aR 1 0, aI q] 243 (Rs a b) h 243 (fun v R' h' => v = some (aI (nI (hdF N T q 60 s))) ∧ R' = Rs a b ∧ Fr sTr h h') := by
  refine Ct.of 2 (L0 := [some (aR 9 0), some (aR 8 t), some (aR 1 0), some (aI q), none, none]) (by decide) ⟨Nat.le_refl _, Nat.le_refl _⟩ rfl rfl ?_
  intro G C hg hrt hnm
  have hN : gn G ≤ 243 ∧ 243 ≤ 243 ∧ 243 ≤ 243 := ⟨by omega, by decide, by decide⟩
  have hC : 23 + 0 < 29 := by decide
  refine r_aload_n C dX9_daysWithMen_0 rfl ?_
  refine r_getR C flX9_11 dX9_daysWithMen_1 ok9 rfl rfl ?_
  refine r_iconst (v := (nI 0)) C dX9_daysWithMen_4 (by decide) ?_
  refine q_aald (m := 6) (t := 1) C dX9_daysWithMen_5 ok36 rfl (by decide) rfl (by omega) rfl ?_
  refine r_astore C dX9_daysWithMen_6 st4 ?_
  refine r_aload C dX9_daysWithMen_8 rfl ?_
  refine r_aload_n C dX9_daysWithMen_10 rfl ?_
  refine r_callV C (c_campBecome (by decide) (by decide) (by decide) hc) dX9_daysWithMen_11 cw_X1_become cvX9_38 (by omega) (Ok.full (by decide) hC) rfl hN rfl (Nat.le_of_ble_eq_true rfl) ?_
  rintro v R' h0 ⟨rfl, rfl, hc0, hf0⟩
  refine r_iconst (v := (nI 0)) C dX9_daysWithMen_14 (by decide) ?_
  refine r_istore C dX9_daysWithMen_15 st5 ?_
  have loop : ∀ k i hh s', i + k = 60 → cmp hh (23 + 0) s' → i + hdF N T q k s' = hdF N T q 60 s → Fr sTr h hh →
      Wa E G 243 (Rs a b) hh (QQ E G 243 (fun v R' h' => v = some (aI (nI (hdF N T q 60 s))) ∧ R' = Rs a b ∧ Fr sTr h h')) 17 [some (aR 9 0), some (aR 8 t), some (aR 1 0), some (aI q), some (aR 1 (23 + 0)), some (aI (nI i))] [] := by
    intro k
    induction k with
    | zero =>
      intro i hh s' hi hcm he hf
      refine r_iload C dX9_daysWithMen_17 rfl ?_
      refine r_bipush (v := (nI 60)) C dX9_daysWithMen_19 (by decide) ?_
      refine r_icmpN_ge C dX9_daysWithMen_21 (by omega) (by omega) (fun _ => ?_) (fun cc => absurd cc (by omega))
      refine r_iload C dX9_daysWithMen_45 rfl ?_
      refine r_iret C hrt dX9_daysWithMen_47 ?_
      rw [← he]
      exact ⟨rfl, rfl, hf⟩
    | succ k ih =>
      intro i hh s' hi hcm he hf
      rw [hdF] at he
      refine r_iload C dX9_daysWithMen_17 rfl ?_
      refine r_bipush (v := (nI 60)) C dX9_daysWithMen_19 (by decide) ?_
      refine r_icmpN_ge C dX9_daysWithMen_21 (by omega) (by omega) (fun cc => absurd cc (by omega)) (fun _ => ?_)
      refine r_aload C dX9_daysWithMen_24 rfl ?_
      refine r_callV C (c_menOfAll hC hcm) dX9_daysWithMen_26 cw_X1_menOfAll cvX9_57 (by omega) (Ok.full (by decide) hC) rfl hN rfl (Nat.le_of_ble_eq_true rfl) ?_
      rintro v R' h1 ⟨rfl, rfl, rfl⟩
      refine r_if_le C dX9_daysWithMen_29 (fun c29 => ?_) (fun c29 => ?_)
      · rw [if_pos c29] at he
        refine r_iload C dX9_daysWithMen_45 rfl ?_
        refine r_iret C hrt dX9_daysWithMen_47 ?_
        rw [← he]
        exact ⟨rfl, rfl, hf⟩
      · rw [if_neg c29] at he
        refine r_aload C dX9_daysWithMen_32 rfl ?_
        refine r_aload_n C dX9_daysWithMen_34 rfl ?_
        refine r_iload_n C dX9_daysWithMen_35 rfl ?_
        refine r_callV C (c_eatADay hC hT (ht.fr hf sTr_twn) hcm) dX9_daysWithMen_36 cw_X1_eatADay cvX9_49 (by omega) (Ok.full (by decide) hC) rfl hN rfl (Nat.le_of_ble_eq_true rfl) ?_
        rintro v R' h2 ⟨rfl, rfl, hc2, hf2⟩
        first | refine r_iincN C dX9_daysWithMen_39 rfl st5 ?_ | refine r_iinc C dX9_daysWithMen_39 rfl rfl st5 ?_
        refine r_goto C dX9_daysWithMen_42 ?_
        exact ih (i + 1) h2 _ (by omega) hc2.1 (by omega) (hf.tr (hf2.wk sC_sTr))
  exact loop 60 0 h0 s (by omega) hc0 (by omega) (hf0.wk sC_sTr)
end
section
/-! debts -/
def giF (D : Nat → Int32) : Nat → Nat
  | 0 => 0
  | k + 1 => if D (giF D k) < D (k + 1) then k + 1 else giF D k
theorem giF_le (D : Nat → Int32) : ∀ k, giF D k ≤ k
  | 0 => Nat.le_refl _
  | k + 1 => by
    unfold giF
    split
    · exact Nat.le_refl _
    · exact Nat.le_succ_of_le (giF_le D k)
def stkV (nc : Nat) (D : Nat → Int32) : Int32 := if 0 < nc then D (giF D (nc - 1)) else nI 0
def stkD (nc : Nat) (D : Nat → Int32) : Nat → Int32 := va_up D (giF D (nc - 1)) (nI 0)
def lpF (nc : Nat) : Nat → (Nat → Int32) → Int32 → Int32
  | 0, _, sum => sum
  | k + 1, D, sum => lpF nc k (stkD nc D) (sum - stkV nc D)
def osum (T : Tv) (N : Nat → Nat) (s : Sv) (rd : Nat) : Nat → Int32
  | 0 => nI 0
  | c + 1 => osum T N s rd c + owF T s c rd (N 1)
def s37 : Nat → Nat → Bool := fun k _ => k == 37
set_option maxRecDepth 100000 in
set_option maxHeartbeats 4000000 in
theorem c_strike {E : Ev} {a b nc : Nat} {h : HF} {D : Nat → Int32} (hn : nc ≤ 5) (hD : ∀ i, i < 5 → h 37 0 i = D i) : Ct E 0 yX9_strikeGreatestDebt cX9_strikeGreatestDebt 4 (some .int) [aR 9 0, aI (nI nc)] 243 (Rs a b) h 243 (fun v R' h' => v = some (aI (stkV nc D)) ∧ R' = Rs a b ∧ (∀ i, i < 5 → h' 37 0 i = stkD nc D i) ∧ Fr s37 h h') := by
  refine Ct.of 2 (L0 := [some (aR 9 0), some (aI (nI nc)), none, none]) (by decide) ⟨Nat.le_refl _, Nat.le_refl _⟩ rfl rfl ?_
  intro G C hg hrt hnm
  have hN : gn G ≤ 243 ∧ 243 ≤ 243 ∧ 243 ≤ 243 := ⟨by omega, by decide, by decide⟩
  have post : ∀ g, g < 5 → g = giF D (nc - 1) → Wa E G 243 (Rs a b) h (QQ E G 243 (fun v R' h' => v = some (aI (stkV nc D)) ∧ R' = Rs a b ∧ (∀ i, i < 5 → h' 37 0 i = stkD nc D i) ∧ Fr s37 h h')) 46 [some (aR 9 0), some (aI (nI nc)), some (aI (nI g)), none] [aI (stkV nc D)] := by
    intro g hg he
    refine r_istore_n C dX9_strikeGreatestDebt_46 st3 ?_
    refine r_aload_n C dX9_strikeGreatestDebt_47 rfl ?_
    refine r_getR C flX9_17 dX9_strikeGreatestDebt_48 ok9 rfl rfl ?_
    refine r_iload_n C dX9_strikeGreatestDebt_51 rfl ?_
    refine r_iconst (v := (nI 0)) C dX9_strikeGreatestDebt_52 (by decide) ?_
    refine q_iast (m := 5) C dX9_strikeGreatestDebt_53 ok37 rfl rfl (by omega) ?_
    refine r_iload_n C dX9_strikeGreatestDebt_54 rfl ?_
    refine r_iret C hrt dX9_strikeGreatestDebt_55 ?_
    refine ⟨rfl, rfl, fun i hi => ?_, Fr.put Fr.rf rfl⟩
    rw [stkD, ← he]
    by_cases e : i = g
    · subst e; rw [put_same, va_up_self]
    · rw [put_i e, va_up_ne _ _ e]; exact hD i hi
  refine r_iconst (v := (nI 0)) C dX9_strikeGreatestDebt_0 (by decide) ?_
  refine r_istore_n C dX9_strikeGreatestDebt_1 st2 ?_
  refine r_iconst (v := (nI 1)) C dX9_strikeGreatestDebt_2 (by decide) ?_
  refine r_istore_n C dX9_strikeGreatestDebt_3 st3 ?_
  have loop : ∀ k c, c + 1 + k = max nc 1 → Wa E G 243 (Rs a b) h (QQ E G 243 (fun v R' h' => v = some (aI (stkV nc D)) ∧ R' = Rs a b ∧ (∀ i, i < 5 → h' 37 0 i = stkD nc D i) ∧ Fr s37 h h')) 4 [some (aR 9 0), some (aI (nI nc)), some (aI (nI (giF D c))), some (aI (nI (c + 1)))] [] := by
    intro k
    induction k with
    | zero =>
      intro c hc
      have hg := giF_le D c
      refine r_iload_n C dX9_strikeGreatestDebt_4 rfl ?_
      refine r_iload_n C dX9_strikeGreatestDebt_5 rfl ?_
      refine r_icmpN_ge C dX9_strikeGreatestDebt_6 (by omega) (by omega) (fun _ => ?_) (fun cc => absurd cc (by omega))
      refine r_iload_n C dX9_strikeGreatestDebt_32 rfl ?_
      by_cases h0 : nc = 0
      · subst h0
        refine r_if_le C dX9_strikeGreatestDebt_33 (fun _ => ?_) (fun cc => absurd cc (by decide))
        refine r_iconst (v := (nI 0)) C dX9_strikeGreatestDebt_45 (by decide) ?_
        refine wa_loc (L' := [some (aR 9 0), some (aI (nI 0)), some (aI (nI (giF D c))), none]) (by simp [lsub]) ?_
        exact post (giF D c) (by omega) (by congr 1; omega)
      · refine r_if_le C dX9_strikeGreatestDebt_33 (fun cc => absurd cc (nI_nle (by omega) (by omega))) (fun _ => ?_)
        refine r_aload_n C dX9_strikeGreatestDebt_36 rfl ?_
        refine r_getR C flX9_17 dX9_strikeGreatestDebt_37 ok9 rfl rfl ?_
        refine r_iload_n C dX9_strikeGreatestDebt_40 rfl ?_
        refine q_ialdV (m := 5) C dX9_strikeGreatestDebt_41 ok37 rfl rfl (by omega) (hD (giF D c) (by omega)) ?_
        refine r_goto C dX9_strikeGreatestDebt_42 ?_
        refine wa_loc (L' := [some (aR 9 0), some (aI (nI nc)), some (aI (nI (giF D c))), none]) (by simp [lsub]) ?_
        have e : c = nc - 1 := by omega
        have p2 := post (giF D c) (by omega) (by rw [e])
        rw [stkV, if_pos (by omega), ← e] at p2
        rw [stkV, if_pos (by omega), ← e]
        exact p2
    | succ k ih =>
      intro c hc
      have hg := giF_le D c
      have ih2 := ih (c + 1) (by omega)
      rw [giF] at ih2
      refine r_iload_n C dX9_strikeGreatestDebt_4 rfl ?_
      refine r_iload_n C dX9_strikeGreatestDebt_5 rfl ?_
      refine r_icmpN_ge C dX9_strikeGreatestDebt_6 (by omega) (by omega) (fun cc => absurd cc (by omega)) (fun _ => ?_)
      refine r_aload_n C dX9_strikeGreatestDebt_9 rfl ?_
      refine r_getR C flX9_17 dX9_strikeGreatestDebt_10 ok9 rfl rfl ?_
      refine r_iload_n C dX9_strikeGreatestDebt_13 rfl ?_
      refine q_ialdV (m := 5) C dX9_strikeGreatestDebt_14 ok37 rfl rfl (by omega) (hD (c + 1) (by omega)) ?_
      refine r_aload_n C dX9_strikeGreatestDebt_15 rfl ?_
      refine r_getR C flX9_17 dX9_strikeGreatestDebt_16 ok9 rfl rfl ?_
      refine r_iload_n C dX9_strikeGreatestDebt_19 rfl ?_
      refine q_ialdV (m := 5) C dX9_strikeGreatestDebt_20 ok37 rfl rfl (by omega) (hD (giF D c) (by omega)) ?_
      refine r_icmp_le C dX9_strikeGreatestDebt_21 (fun c21 => ?_) (fun c21 => ?_)
      · rw [if_neg (Int32.not_lt.mpr c21)] at ih2
        first | refine r_iincN C dX9_strikeGreatestDebt_26 rfl st3 ?_ | refine r_iinc C dX9_strikeGreatestDebt_26 rfl rfl st3 ?_
        refine r_goto C dX9_strikeGreatestDebt_29 ?_
        exact ih2
      · rw [if_pos (Int32.not_le.mp c21)] at ih2
        refine r_iload_n C dX9_strikeGreatestDebt_24 rfl ?_
        refine r_istore_n C dX9_strikeGreatestDebt_25 st2 ?_
        first | refine r_iincN C dX9_strikeGreatestDebt_26 rfl st3 ?_ | refine r_iinc C dX9_strikeGreatestDebt_26 rfl rfl st3 ?_
        refine r_goto C dX9_strikeGreatestDebt_29 ?_
        exact ih2
  exact loop (max nc 1 - 1) 0 (by omega)
set_option maxRecDepth 100000 in
set_option maxHeartbeats 4000000 in
theorem c_leastToPay {E : Ev} {a b t k rd : Nat} {h : HF} {N : Nat → Nat} {T : Tv} {s : Sv} (hT : t < 2) (ht : twn h t N T) (hs : sgp h 0 s) (hk : k ≤ 5) (hr : rd < 3) : Ct E 2 yX9_leastToPay cX9_leastToPay 7 (some .int) [aR 9 0, aR 8 t, aR 6 0, aI (nI k), aI (nI rd)] 243 (Rs a b) h 243 (fun v R' h' => v = some (aI (lpF (N 0) k (fun c => if c < N 0 then owF T s c rd (N 1) else h 37 0 c) (osum T N s rd (N 0)))) ∧ R' = Rs a b ∧ Fr s37 h h') := by
  refine Ct.of 2 (L0 := [some (aR 9 0), some (aR 8 t), some (aR 6 0), some (aI (nI k)), some (aI (nI rd)), none, none]) (by decide) ⟨Nat.le_refl _, Nat.le_refl _⟩ rfl rfl ?_
  intro G C hg hrt hnm
  have hN : gn G ≤ 243 ∧ 243 ≤ 243 ∧ 243 ≤ 243 := ⟨by omega, by decide, by decide⟩
  have hN0 := ht.2.2.2.2.2.2.2.2.2.1
  have hS : 0 < 23 := by decide
  have t37 : ∀ k, (k = 8 ∨ (28 ≤ k ∧ k ≤ 35)) → s37 k t = false := fun k hk => by simp [s37]; omega
  have g37 : ∀ k, (k = 1 ∨ k = 14 ∨ k = 15 ∨ k = 6 ∨ k = 23 ∨ k = 24 ∨ k = 25) → s37 k 0 = false := fun k hk => by simp [s37]; omega
  have loop2 : ∀ m i D sum hh, i + m = k → (∀ i, i < 5 → hh 37 0 i = D i) → lpF (N 0) m D sum = lpF (N 0) k (fun c => if c < N 0 then owF T s c rd (N 1) else h 37 0 c) (osum T N s rd (N 0)) → Fr s37 h hh →
      Wa E G 243 (Rs a b) hh (QQ E G 243 (fun v R' h' => v = some (aI (lpF (N 0) k (fun c => if c < N 0 then owF T s c rd (N 1) else h 37 0 c) (osum T N s rd (N 0)))) ∧ R' = Rs a b ∧ Fr s37 h h')) 52 [some (aR 9 0), some (aR 8 t), some (aR 6 0), some (aI (nI k)), some (aI (nI rd)), some (aI sum), some (aI (nI i))] [] := by
    intro m
    induction m with
    | zero =>
      intro i D sum hh hi hD he hf
      refine r_iload C dX9_leastToPay_52 rfl ?_
      refine r_iload_n C dX9_leastToPay_54 rfl ?_
      refine r_icmpN_ge C dX9_leastToPay_55 (by omega) (by omega) (fun _ => ?_) (fun cc => absurd cc (by omega))
      refine r_iload C dX9_leastToPay_77 rfl ?_
      refine r_iret C hrt dX9_leastToPay_79 ?_
      rw [← he]
      exact ⟨rfl, rfl, hf⟩
    | succ m ih =>
      intro i D sum hh hi hD he hf
      refine r_iload C dX9_leastToPay_52 rfl ?_
      refine r_iload_n C dX9_leastToPay_54 rfl ?_
      refine r_icmpN_ge C dX9_leastToPay_55 (by omega) (by omega) (fun cc => absurd cc (by omega)) (fun _ => ?_)
      refine r_iload C dX9_leastToPay_58 rfl ?_
      refine r_aload_n C dX9_leastToPay_60 rfl ?_
      refine r_aload_n C dX9_leastToPay_61 rfl ?_
      refine q_getV C flX9_67 dX9_leastToPay_62 (Ok.full (by decide) hT) rfl (ht.fr hf t37).1 ?_
      refine r_callV C (c_strike hN0 hD) dX9_leastToPay_65 cw_X9_strikeGreatestDebt cvX9_78 (by omega) ok9 rfl hN rfl (Nat.le_of_ble_eq_true rfl) ?_
      rintro v R' h1 ⟨rfl, rfl, hD1, hf1⟩
      refine r_isub C dX9_leastToPay_68 ?_
      refine r_istore C dX9_leastToPay_69 st5 ?_
      first | refine r_iincN C dX9_leastToPay_71 rfl st6 ?_ | refine r_iinc C dX9_leastToPay_71 rfl rfl st6 ?_
      refine r_goto C dX9_leastToPay_74 ?_
      exact ih (i + 1) _ _ h1 (by omega) hD1 he (hf.tr hf1)
  refine r_iconst (v := (nI 0)) C dX9_leastToPay_0 (by decide) ?_
  refine r_istore C dX9_leastToPay_1 st5 ?_
  refine r_iconst (v := (nI 0)) C dX9_leastToPay_3 (by decide) ?_
  refine r_istore C dX9_leastToPay_4 st6 ?_
  have loop1 : ∀ m c hh, c + m = N 0 → (∀ i, i < c → hh 37 0 i = owF T s i rd (N 1)) → (∀ i, c ≤ i → hh 37 0 i = h 37 0 i) → Fr s37 h hh →
      Wa E G 243 (Rs a b) hh (QQ E G 243 (fun v R' h' => v = some (aI (lpF (N 0) k (fun c => if c < N 0 then owF T s c rd (N 1) else h 37 0 c) (osum T N s rd (N 0)))) ∧ R' = Rs a b ∧ Fr s37 h h')) 6 [some (aR 9 0), some (aR 8 t), some (aR 6 0), some (aI (nI k)), some (aI (nI rd)), some (aI (osum T N s rd c)), some (aI (nI c))] [] := by
    intro m
    induction m with
    | zero =>
      intro c hh hc h1 h2 hf
      have e : c = N 0 := by omega
      subst e
      refine r_iload C dX9_leastToPay_6 rfl ?_
      refine r_aload_n C dX9_leastToPay_8 rfl ?_
      refine q_getV C flX9_67 dX9_leastToPay_9 (Ok.full (by decide) hT) rfl (ht.fr hf t37).1 ?_
      refine r_icmpN_ge C dX9_leastToPay_12 (by omega) (by omega) (fun _ => ?_) (fun cc => absurd cc (by omega))
      refine r_iconst (v := (nI 0)) C dX9_leastToPay_49 (by decide) ?_
      refine r_istore C dX9_leastToPay_50 st6 ?_
      refine loop2 k 0 _ _ hh (by omega) (fun i hi => ?_) rfl hf
      show hh 37 0 i = if i < N 0 then _ else _
      split
      · next z => exact h1 i z
      · next z => exact h2 i (by omega)
    | succ m ih =>
      intro c hh hc h1 h2 hf
      refine r_iload C dX9_leastToPay_6 rfl ?_
      refine r_aload_n C dX9_leastToPay_8 rfl ?_
      refine q_getV C flX9_67 dX9_leastToPay_9 (Ok.full (by decide) hT) rfl (ht.fr hf t37).1 ?_
      refine r_icmpN_ge C dX9_leastToPay_12 (by omega) (by omega) (fun cc => absurd cc (by omega)) (fun _ => ?_)
      refine r_aload_n C dX9_leastToPay_15 rfl ?_
      refine r_getR C flX9_17 dX9_leastToPay_16 ok9 rfl rfl ?_
      refine r_iload C dX9_leastToPay_19 rfl ?_
      refine r_aload_n C dX9_leastToPay_21 rfl ?_
      refine r_aload_n C dX9_leastToPay_22 rfl ?_
      refine r_iload C dX9_leastToPay_23 rfl ?_
      refine r_iload C dX9_leastToPay_25 rfl ?_
      refine r_callV C (c_owedTo hS hT (ht.fr hf t37) (hs.fr hf g37) (by omega) hr) dX9_leastToPay_27 cw_X6_owedTo cvX9_72 (by omega) (Ok.full (by decide) hS) rfl hN rfl (Nat.le_of_ble_eq_true rfl) ?_
      rintro v R' h3 ⟨rfl, rfl, rfl⟩
      refine q_iast (m := 5) C dX9_leastToPay_30 ok37 rfl rfl (by omega) ?_
      refine r_iload C dX9_leastToPay_31 rfl ?_
      refine r_aload_n C dX9_leastToPay_33 rfl ?_
      refine r_getR C flX9_17 dX9_leastToPay_34 ok9 rfl rfl ?_
      refine r_iload C dX9_leastToPay_37 rfl ?_
      refine q_ialdV (m := 5) C dX9_leastToPay_39 ok37 rfl rfl (by omega) put_same ?_
      refine r_iadd C dX9_leastToPay_40 ?_
      refine r_istore C dX9_leastToPay_41 st5 ?_
      first | refine r_iincN C dX9_leastToPay_43 rfl st6 ?_ | refine r_iinc C dX9_leastToPay_43 rfl rfl st6 ?_
      refine r_goto C dX9_leastToPay_46 ?_
      refine ih (c + 1) _ (by omega) (fun i hi => ?_) (fun i hi => ?_) (Fr.put hf rfl)
      · by_cases e : i = c
        · subst e; exact put_same
        · rw [put_i e]; exact h1 i (by omega)
      · rw [put_i (by omega)]; exact h2 i (by omega)
  exact loop1 (N 0) 0 h (by omega) (fun i hi => by omega) (fun i hi => rfl) Fr.rf
/-! the squares shown -/
def shp5 (h : HF) (n : Nat) (K : Nat → Nat) (D S W : Nat → Int32) : Prop := h 5 0 5 = nI n ∧ n ≤ 8 ∧ ∀ i, i < n → h 18 0 i = nI (K i) ∧ h 19 0 i = D i ∧ h 20 0 i = S i ∧ h 21 0 i = W i
def s5 : Nat → Nat → Bool := fun k _ => k == 5 || k == 18 || k == 19 || k == 20 || k == 21 || k == 22
def s22 : Nat → Nat → Bool := fun k _ => k == 22
set_option maxRecDepth 100000 in
set_option maxHeartbeats 4000000 in
theorem c_shownAdd {E : Ev} {a b n m : Nat} {h : HF} {K : Nat → Nat} {D S W : Nat → Int32} {d0 s0 w0 : Int32} (hs : shp5 h n K D S W) (hn : n < 8) : Ct E 0 yX5_add cX5_add 5 none [aR 5 0, aI (nI m), aI d0, aI s0, aI w0] 243 (Rs a b) h 243 (fun v R' h' => v = none ∧ R' = Rs a b ∧ shp5 h' (n + 1) (va_up K n m) (va_up D n d0) (va_up S n s0) (va_up W n w0) ∧ Fr s5 h h') := by
  refine Ct.of 0 (L0 := [some (aR 5 0), some (aI (nI m)), some (aI d0), some (aI s0), some (aI w0)]) (by decide) ⟨Nat.le_refl _, Nat.le_refl _⟩ rfl rfl ?_
  intro G C hg hrt hnm
  have hN : gn G ≤ 243 ∧ 243 ≤ 243 ∧ 243 ≤ 243 := ⟨by omega, by decide, by decide⟩
  refine r_aload_n C dX5_add_0 rfl ?_
  refine q_getV C flX5_27 dX5_add_1 ok5 rfl hs.1 ?_
  refine r_bipush (v := (nI 8)) C dX5_add_4 (by decide) ?_
  refine r_icmpN_ge C dX5_add_6 (by omega) (by omega) (fun cc => absurd cc (by omega)) (fun _ => ?_)
  refine r_aload_n C dX5_add_9 rfl ?_
  refine r_getR C flX5_9 dX5_add_10 ok5 rfl rfl ?_
  refine r_aload_n C dX5_add_13 rfl ?_
  refine q_getV C flX5_27 dX5_add_14 ok5 rfl hs.1 ?_
  refine r_iload_n C dX5_add_17 rfl ?_
  refine q_iast (m := 8) C dX5_add_18 ok18 rfl rfl (by omega) ?_
  refine r_aload_n C dX5_add_19 rfl ?_
  refine r_getR C flX5_15 dX5_add_20 ok5 rfl rfl ?_
  refine r_aload_n C dX5_add_23 rfl ?_
  refine q_getV C flX5_27 dX5_add_24 ok5 rfl hs.1 ?_
  refine r_iload_n C dX5_add_27 rfl ?_
  refine q_iast (m := 8) C dX5_add_28 ok19 rfl rfl (by omega) ?_
  refine r_aload_n C dX5_add_29 rfl ?_
  refine r_getR C flX5_18 dX5_add_30 ok5 rfl rfl ?_
  refine r_aload_n C dX5_add_33 rfl ?_
  refine q_getV C flX5_27 dX5_add_34 ok5 rfl hs.1 ?_
  refine r_iload_n C dX5_add_37 rfl ?_
  refine q_iast (m := 8) C dX5_add_38 ok20 rfl rfl (by omega) ?_
  refine r_aload_n C dX5_add_39 rfl ?_
  refine r_getR C flX5_21 dX5_add_40 ok5 rfl rfl ?_
  refine r_aload_n C dX5_add_43 rfl ?_
  refine q_getV C flX5_27 dX5_add_44 ok5 rfl hs.1 ?_
  refine r_iload C dX5_add_47 rfl ?_
  refine q_iast (m := 8) C dX5_add_49 ok21 rfl rfl (by omega) ?_
  refine r_aload_n C dX5_add_50 rfl ?_
  refine r_dup C dX5_add_51 rfl ?_
  refine q_getV C flX5_27 dX5_add_52 ok5 rfl hs.1 ?_
  refine r_iconst (v := (nI 1)) C dX5_add_55 (by decide) ?_
  first | refine r_iaddN C dX5_add_56 ?_ | refine r_iadd C dX5_add_56 ?_
  refine r_putI C flX5_27 dX5_add_57 ok5 rfl ⟨rfl, rfl⟩ ?_
  refine r_vret C hrt dX5_add_60 ?_
  refine ⟨rfl, rfl, ⟨put_same, by omega, fun i hi => ?_⟩, Fr.put (Fr.put (Fr.put (Fr.put (Fr.put Fr.rf rfl) rfl) rfl) rfl) rfl⟩
  by_cases e : i = n
  · subst e
    refine ⟨?_, ?_, ?_, ?_⟩
    · rw [va_up_self, put_k (by decide), put_k (by decide), put_k (by decide), put_k (by decide), put_same]
    · rw [va_up_self, put_k (by decide), put_k (by decide), put_k (by decide), put_same]
    · rw [va_up_self, put_k (by decide), put_k (by decide), put_same]
    · rw [va_up_self, put_k (by decide), put_same]
  · obtain ⟨g1, g2, g3, g4⟩ := hs.2.2 i (by omega)
    refine ⟨?_, ?_, ?_, ?_⟩
    · rw [va_up_ne _ _ e, put_k (by decide), put_k (by decide), put_k (by decide), put_k (by decide), put_i e]; exact g1
    · rw [va_up_ne _ _ e, put_k (by decide), put_k (by decide), put_k (by decide), put_i e, put_k (by decide)]; exact g2
    · rw [va_up_ne _ _ e, put_k (by decide), put_k (by decide), put_i e, put_k (by decide), put_k (by decide)]; exact g3
    · rw [va_up_ne _ _ e, put_k (by decide), put_i e, put_k (by decide), put_k (by decide), put_k (by decide)]; exact g4
set_option maxRecDepth 100000 in
set_option maxHeartbeats 4000000 in
theorem c_bearsStamp {E : Ev} {a b n i : Nat} {h : HF} {K : Nat → Nat} {D S W : Nat → Int32} (hs : shp5 h n K D S W) (hi : i < n) : Ct E 0 yX5_bearsStampOfDead cX5_bearsStampOfDead 2 (some .boolean) [aR 5 0, aI (nI i)] 243 (Rs a b) h 243 (fun v R' h' => v = some (aI (if S i ≤ D i then nI 0 else nI 1)) ∧ R' = Rs a b ∧ h' = h) := by
  refine Ct.of 0 (L0 := [some (aR 5 0), some (aI (nI i))]) (by decide) ⟨Nat.le_refl _, Nat.le_refl _⟩ rfl rfl ?_
  intro G C hg hrt hnm
  have hN : gn G ≤ 243 ∧ 243 ≤ 243 ∧ 243 ≤ 243 := ⟨by omega, by decide, by decide⟩
  obtain ⟨g1, g2, g3, g4⟩ := hs.2.2 i hi
  have hn := hs.2.1
  refine r_aload_n C dX5_bearsStampOfDead_0 rfl ?_
  refine r_getR C flX5_18 dX5_bearsStampOfDead_1 ok5 rfl rfl ?_
  refine r_iload_n C dX5_bearsStampOfDead_4 rfl ?_
  refine q_ialdV (m := 8) C dX5_bearsStampOfDead_5 ok20 rfl rfl (by omega) g3 ?_
  refine r_aload_n C dX5_bearsStampOfDead_6 rfl ?_
  refine r_getR C flX5_15 dX5_bearsStampOfDead_7 ok5 rfl rfl ?_
  refine r_iload_n C dX5_bearsStampOfDead_10 rfl ?_
  refine q_ialdV (m := 8) C dX5_bearsStampOfDead_11 ok19 rfl rfl (by omega) g2 ?_
  refine r_icmp_le C dX5_bearsStampOfDead_12 (fun c12 => ?_) (fun c12 => ?_)
  · refine r_iconst (v := (nI 0)) C dX5_bearsStampOfDead_19 (by decide) ?_
    refine r_zret C hrt dX5_bearsStampOfDead_20 (by decide) ?_
    rw [if_pos c12]
    exact ⟨rfl, rfl, rfl⟩
  · refine r_iconst (v := (nI 1)) C dX5_bearsStampOfDead_15 (by decide) ?_
    refine r_goto C dX5_bearsStampOfDead_16 ?_
    refine r_zret C hrt dX5_bearsStampOfDead_20 (by decide) ?_
    rw [if_neg c12]
    exact ⟨rfl, rfl, rfl⟩
def fgF (T : Tv) (K : Nat → Nat) (D S W : Nat → Int32) : Nat → Int32
  | 0 => nI 0
  | i + 1 => if S i ≤ D i ∧ T 3 (K i) ≤ W i then fgF T K D S W i else fgF T K D S W i ||| (nI 1 <<< (nI i &&& 31))
set_option maxRecDepth 100000 in
set_option maxHeartbeats 4000000 in
theorem c_forgedOnes {E : Ev} {a b t n : Nat} {h : HF} {N : Nat → Nat} {T : Tv} {K : Nat → Nat} {D S W : Nat → Int32} (hT : t < 2) (ht : twn h t N T) (hs : shp5 h n K D S W) (hK : ∀ i, i < n → K i < N 1) : Ct E 1 yX5_forgedOnes cX5_forgedOnes 4 (some .int) [aR 5 0, aR 8 t] 243 (Rs a b) h 243 (fun v R' h' => v = some (aI (fgF T K D S W n)) ∧ R' = Rs a b ∧ h' = h) := by
  refine Ct.of 2 (L0 := [some (aR 5 0), some (aR 8 t), none, none]) (by decide) ⟨Nat.le_refl _, Nat.le_refl _⟩ rfl rfl ?_
  intro G C hg hrt hnm
  have hN : gn G ≤ 243 ∧ 243 ≤ 243 ∧ 243 ≤ 243 := ⟨by omega, by decide, by decide⟩
  have hN1 := ht.2.2.2.2.2.2.2.2.2.2.1
  have hn := hs.2.1
  refine r_iconst (v := (nI 0)) C dX5_forgedOnes_0 (by decide) ?_
  refine r_istore_n C dX5_forgedOnes_1 st2 ?_
  refine r_iconst (v := (nI 0)) C dX5_forgedOnes_2 (by decide) ?_
  refine r_istore_n C dX5_forgedOnes_3 st3 ?_
  have loop : ∀ k i, i + k = n → Wa E G 243 (Rs a b) h (QQ E G 243 (fun v R' h' => v = some (aI (fgF T K D S W n)) ∧ R' = Rs a b ∧ h' = h)) 4 [some (aR 5 0), some (aR 8 t), some (aI (fgF T K D S W i)), some (aI (nI i))] [] := by
    intro k
    induction k with
    | zero =>
      intro i hi
      have e : i = n := by omega
      subst e
      refine r_iload_n C dX5_forgedOnes_4 rfl ?_
      refine r_aload_n C dX5_forgedOnes_5 rfl ?_
      refine q_getV C flX5_27 dX5_forgedOnes_6 ok5 rfl hs.1 ?_
      refine r_icmpN_ge C dX5_forgedOnes_9 (by omega) (by omega) (fun _ => ?_) (fun cc => absurd cc (by omega))
      refine r_iload_n C dX5_forgedOnes_52 rfl ?_
      refine r_iret C hrt dX5_forgedOnes_53 ?_
      exact ⟨rfl, rfl, rfl⟩
    | succ k ih =>
      intro i hi
      obtain ⟨g1, g2, g3, g4⟩ := hs.2.2 i (by omega)
      have hk := hK i (by omega)
      have ih2 := ih (i + 1) (by omega)
      rw [fgF] at ih2
      refine r_iload_n C dX5_forgedOnes_4 rfl ?_
      refine r_aload_n C dX5_forgedOnes_5 rfl ?_
      refine q_getV C flX5_27 dX5_forgedOnes_6 ok5 rfl hs.1 ?_
      refine r_icmpN_ge C dX5_forgedOnes_9 (by omega) (by omega) (fun cc => absurd cc (by omega)) (fun _ => ?_)
      refine r_aload_n C dX5_forgedOnes_12 rfl ?_
      refine r_iload_n C dX5_forgedOnes_13 rfl ?_
      refine r_callV C (c_bearsStamp hs (by omega)) dX5_forgedOnes_14 cw_X5_bearsStampOfDead cvX5_31 (by omega) ok5 rfl hN rfl (Nat.le_of_ble_eq_true rfl) ?_
      rintro v R' h1 ⟨rfl, rfl, rfl⟩
      by_cases hb : S i ≤ D i
      · rw [if_pos hb]
        refine r_if_ne C dX5_forgedOnes_17 (fun cc => absurd cc (by decide)) (fun _ => ?_)
        refine r_aload_n C dX5_forgedOnes_20 rfl ?_
        refine r_getR C flX5_21 dX5_forgedOnes_21 ok5 rfl rfl ?_
        refine r_iload_n C dX5_forgedOnes_24 rfl ?_
        refine q_ialdV (m := 8) C dX5_forgedOnes_25 ok21 rfl rfl (by omega) g4 ?_
        refine r_aload_n C dX5_forgedOnes_26 rfl ?_
        refine r_getR C flX5_35 dX5_forgedOnes_27 (Ok.full (by decide) hT) rfl rfl ?_
        refine r_aload_n C dX5_forgedOnes_30 rfl ?_
        refine r_getR C flX5_9 dX5_forgedOnes_31 ok5 rfl rfl ?_
        refine r_iload_n C dX5_forgedOnes_34 rfl ?_
        refine q_ialdV (m := 8) C dX5_forgedOnes_35 ok18 rfl rfl (by omega) g1 ?_
        refine q_ialdV (m := 4) C dX5_forgedOnes_36 (Ok.full (by decide) hT) rfl rfl (by omega) ((ht.2.2.2.2.2.2.1 (K i) hk).2) ?_
        refine r_icmp_ge C dX5_forgedOnes_37 (fun c37 => ?_) (fun c37 => ?_)
        · rw [if_pos ⟨hb, c37⟩] at ih2
          first | refine r_iincN C dX5_forgedOnes_46 rfl st3 ?_ | refine r_iinc C dX5_forgedOnes_46 rfl rfl st3 ?_
          refine r_goto C dX5_forgedOnes_49 ?_
          exact ih2
        · rw [if_neg (fun z => c37 z.2)] at ih2
          refine r_iload_n C dX5_forgedOnes_40 rfl ?_
          refine r_iconst (v := (nI 1)) C dX5_forgedOnes_41 (by decide) ?_
          refine r_iload_n C dX5_forgedOnes_42 rfl ?_
          refine r_ishl C dX5_forgedOnes_43 ?_
          refine r_ior C dX5_forgedOnes_44 ?_
          refine r_istore_n C dX5_forgedOnes_45 st2 ?_
          first | refine r_iincN C dX5_forgedOnes_46 rfl st3 ?_ | refine r_iinc C dX5_forgedOnes_46 rfl rfl st3 ?_
          refine r_goto C dX5_forgedOnes_49 ?_
          exact ih2
      · rw [if_neg hb]
        refine r_if_ne C dX5_forgedOnes_17 (fun _ => ?_) (fun cc => absurd cc (by decide))
        rw [if_neg (fun z => hb z.1)] at ih2
        refine r_iload_n C dX5_forgedOnes_40 rfl ?_
        refine r_iconst (v := (nI 1)) C dX5_forgedOnes_41 (by decide) ?_
        refine r_iload_n C dX5_forgedOnes_42 rfl ?_
        refine r_ishl C dX5_forgedOnes_43 ?_
        refine r_ior C dX5_forgedOnes_44 ?_
        refine r_istore_n C dX5_forgedOnes_45 st2 ?_
        first | refine r_iincN C dX5_forgedOnes_46 rfl st3 ?_ | refine r_iinc C dX5_forgedOnes_46 rfl rfl st3 ?_
        refine r_goto C dX5_forgedOnes_49 ?_
        exact ih2
  exact loop n 0 (by omega)
/-- how many of the first i are of kind m and not stamped behind -/
def wcF (K : Nat → Nat) (D S : Nat → Int32) (m : Nat) : Nat → Nat
  | 0 => 0
  | i + 1 => if S i ≤ D i ∧ K i = m then wcF K D S m i + 1 else wcF K D S m i
theorem wcF_le (K : Nat → Nat) (D S : Nat → Int32) (m : Nat) : ∀ i, wcF K D S m i ≤ i
  | 0 => Nat.le_refl _
  | i + 1 => by
    have := wcF_le K D S m i
    unfold wcF
    split <;> omega
/-- the first kind of which most are so; none: no kind -/
def wbV (c : Nat → Nat) : Option Nat → Nat
  | none => 0
  | some x => c x
def wbF (c : Nat → Nat) : Nat → Option Nat
  | 0 => none
  | m + 1 => if wbV c (wbF c m) < c m then some m else wbF c m
theorem nI_nem1 {x : Nat} (h : x < 2 ^ 31) : ¬ nI x = -1 := fun e => by
  have e2 := congrArg Int32.toInt e
  rw [nI_toInt h] at e2
  have e3 : (-1 : Int32).toInt = -1 := by decide
  rw [e3] at e2
  omega
theorem wbF_lt (c : Nat → Nat) : ∀ m x, wbF c m = some x → x < m
  | 0, x, h => by cases h
  | m + 1, x, h => by
    rw [wbF] at h
    by_cases z : wbV c (wbF c m) < c m
    · rw [if_pos z] at h
      cases h
      omega
    · rw [if_neg z] at h
      have := wbF_lt c m x h
      omega
def opI : Option Nat → Int32
  | none => -1
  | some x => nI x
set_option maxRecDepth 100000 in
set_option maxHeartbeats 4000000 in
theorem c_kindToWeigh {E : Ev} {a b t n : Nat} {h : HF} {N : Nat → Nat} {T : Tv} {K : Nat → Nat} {D S W : Nat → Int32} (hT : t < 2) (ht : twn h t N T) (hs : shp5 h n K D S W) (hK : ∀ i, i < n → K i < N 1) : Ct E 1 yX5_kindToWeigh cX5_kindToWeigh 4 (some .int) [aR 5 0, aR 8 t] 243 (Rs a b) h 243 (fun v R' h' => v = some (aI (opI (wbF (fun m => wcF K D S m n) (N 1)))) ∧ R' = Rs a b ∧ Fr s22 h h') := by
  refine Ct.of 2 (L0 := [some (aR 5 0), some (aR 8 t), none, none]) (by decide) ⟨Nat.le_refl _, Nat.le_refl _⟩ rfl rfl ?_
  intro G C hg hrt hnm
  have hN : gn G ≤ 243 ∧ 243 ≤ 243 ∧ 243 ≤ 243 := ⟨by omega, by decide, by decide⟩
  have hN1 := ht.2.2.2.2.2.2.2.2.2.2.1
  have hn := hs.2.1
  have t22 : ∀ k, (k = 8 ∨ (28 ≤ k ∧ k ≤ 35)) → s22 k t = false := fun k hk => by simp [s22]; omega
  have sfr : ∀ hh, Fr s22 h hh → shp5 hh n K D S W := fun hh f => by
    unfold shp5
    rw [f 5 0 rfl, f 18 0 rfl, f 19 0 rfl, f 20 0 rfl, f 21 0 rfl]
    exact hs
  have loop3 : ∀ k m hh, m + k = N 1 → (∀ i, i < 4 → hh 22 0 i = nI (wcF K D S i n)) → Fr s22 h hh →
      Wa E G 243 (Rs a b) hh (QQ E G 243 (fun v R' h' => v = some (aI (opI (wbF (fun m => wcF K D S m n) (N 1)))) ∧ R' = Rs a b ∧ Fr s22 h h')) 63 [some (aR 5 0), some (aR 8 t), some (aI (opI (wbF (fun m => wcF K D S m n) m))), some (aI (nI m))] [] := by
    intro k
    induction k with
    | zero =>
      intro m hh hm hw hf
      have e : m = N 1 := by omega
      subst e
      refine r_iload_n C dX5_kindToWeigh_63 rfl ?_
      refine r_aload_n C dX5_kindToWeigh_64 rfl ?_
      refine q_getV C flX5_40 dX5_kindToWeigh_65 (Ok.full (by decide) hT) rfl (ht.fr hf t22).2.1 ?_
      refine r_icmpN_ge C dX5_kindToWeigh_68 (by omega) (by omega) (fun _ => ?_) (fun cc => absurd cc (by omega))
      refine r_iload_n C dX5_kindToWeigh_103 rfl ?_
      refine r_iret C hrt dX5_kindToWeigh_104 ?_
      exact ⟨rfl, rfl, hf⟩
    | succ k ih =>
      intro m hh hm hw hf
      have ih2 := ih (m + 1) hh (by omega) hw hf
      rw [wbF] at ih2
      have hle := wcF_le K D S m n
      refine r_iload_n C dX5_kindToWeigh_63 rfl ?_
      refine r_aload_n C dX5_kindToWeigh_64 rfl ?_
      refine q_getV C flX5_40 dX5_kindToWeigh_65 (Ok.full (by decide) hT) rfl (ht.fr hf t22).2.1 ?_
      refine r_icmpN_ge C dX5_kindToWeigh_68 (by omega) (by omega) (fun cc => absurd cc (by omega)) (fun _ => ?_)
      refine r_aload_n C dX5_kindToWeigh_71 rfl ?_
      refine r_getR C flX5_24 dX5_kindToWeigh_72 ok5 rfl rfl ?_
      refine r_iload_n C dX5_kindToWeigh_75 rfl ?_
      refine q_ialdV (m := 4) C dX5_kindToWeigh_76 ok22 rfl rfl (by omega) (hw m (by omega)) ?_
      have tail : ∀ v, v ≤ 8 → v = wbV (fun m => wcF K D S m n) (wbF (fun m => wcF K D S m n) m) → Wa E G 243 (Rs a b) hh (QQ E G 243 (fun v R' h' => v = some (aI (opI (wbF (fun m => wcF K D S m n) (N 1)))) ∧ R' = Rs a b ∧ Fr s22 h h')) 92 [some (aR 5 0), some (aR 8 t), some (aI (opI (wbF (fun m => wcF K D S m n) m))), some (aI (nI m))] [aI (nI v), aI (nI (wcF K D S m n))] := by
        intro v hv8 hv
        refine r_icmpN_le C dX5_kindToWeigh_92 (by omega) (by omega) (fun c92 => ?_) (fun c92 => ?_)
        · rw [if_neg (by rw [← hv]; show ¬ (v < wcF K D S m n); omega)] at ih2
          first | refine r_iincN C dX5_kindToWeigh_97 rfl st3 ?_ | refine r_iinc C dX5_kindToWeigh_97 rfl rfl st3 ?_
          refine r_goto C dX5_kindToWeigh_100 ?_
          exact ih2
        · rw [if_pos (by rw [← hv]; exact c92)] at ih2
          refine r_iload_n C dX5_kindToWeigh_95 rfl ?_
          refine r_istore_n C dX5_kindToWeigh_96 st2 ?_
          first | refine r_iincN C dX5_kindToWeigh_97 rfl st3 ?_ | refine r_iinc C dX5_kindToWeigh_97 rfl rfl st3 ?_
          refine r_goto C dX5_kindToWeigh_100 ?_
          exact ih2
      cases hx : wbF (fun m => wcF K D S m n) m with
      | none =>
        rw [hx] at tail
        refine r_iload_n C dX5_kindToWeigh_77 rfl ?_
        refine r_iconst (v := (-1)) C dX5_kindToWeigh_78 (by decide) ?_
        refine r_icmp_ne C dX5_kindToWeigh_79 (fun cc => absurd cc (by exact fun z => z rfl)) (fun _ => ?_)
        refine r_iconst (v := (nI 0)) C dX5_kindToWeigh_82 (by decide) ?_
        refine r_goto C dX5_kindToWeigh_83 ?_
        exact tail 0 (by omega) rfl
      | some x =>
        rw [hx] at tail
        have hlt := wbF_lt _ m x hx
        have hlx := wcF_le K D S x n
        refine r_iload_n C dX5_kindToWeigh_77 rfl ?_
        refine r_iconst (v := (-1)) C dX5_kindToWeigh_78 (by decide) ?_
        refine r_icmp_ne C dX5_kindToWeigh_79 (fun _ => ?_) (fun cc => absurd cc (by exact fun z => nI_nem1 (by omega) (show nI x = -1 from z)))
        show Wa E G 243 (Rs a b) hh _ 86 [some (aR 5 0), some (aR 8 t), some (aI (nI x)), some (aI (nI m))] _
        refine r_aload_n C dX5_kindToWeigh_86 rfl ?_
        refine r_getR C flX5_24 dX5_kindToWeigh_87 ok5 rfl rfl ?_
        refine r_iload_n C dX5_kindToWeigh_90 rfl ?_
        refine q_ialdV (m := 4) C dX5_kindToWeigh_91 ok22 rfl rfl (by omega) (hw x (by omega)) ?_
        exact tail (wcF K D S x n) (by omega) rfl
  have loop2 : ∀ k i hh, i + k = n → (∀ m, m < 4 → hh 22 0 m = nI (wcF K D S m i)) → Fr s22 h hh →
      Wa E G 243 (Rs a b) hh (QQ E G 243 (fun v R' h' => v = some (aI (opI (wbF (fun m => wcF K D S m n) (N 1)))) ∧ R' = Rs a b ∧ Fr s22 h h')) 22 [some (aR 5 0), some (aR 8 t), some (aI (nI i)), none] [] := by
    intro k
    induction k with
    | zero =>
      intro i hh hi hw hf
      have e : i = n := by omega
      subst e
      refine r_iload_n C dX5_kindToWeigh_22 rfl ?_
      refine r_aload_n C dX5_kindToWeigh_23 rfl ?_
      refine q_getV C flX5_27 dX5_kindToWeigh_24 ok5 rfl (sfr hh hf).1 ?_
      refine r_icmpN_ge C dX5_kindToWeigh_27 (by omega) (by omega) (fun _ => ?_) (fun cc => absurd cc (by omega))
      refine r_iconst (v := (-1)) C dX5_kindToWeigh_59 (by decide) ?_
      refine r_istore_n C dX5_kindToWeigh_60 st2 ?_
      refine r_iconst (v := (nI 0)) C dX5_kindToWeigh_61 (by decide) ?_
      refine r_istore_n C dX5_kindToWeigh_62 st3 ?_
      exact loop3 (N 1) 0 hh (by omega) hw hf
    | succ k ih =>
      intro i hh hi hw hf
      have hs2 := sfr hh hf
      obtain ⟨g1, g2, g3, g4⟩ := hs2.2.2 i (by omega)
      have hk := hK i (by omega)
      refine r_iload_n C dX5_kindToWeigh_22 rfl ?_
      refine r_aload_n C dX5_kindToWeigh_23 rfl ?_
      refine q_getV C flX5_27 dX5_kindToWeigh_24 ok5 rfl hs2.1 ?_
      refine r_icmpN_ge C dX5_kindToWeigh_27 (by omega) (by omega) (fun cc => absurd cc (by omega)) (fun _ => ?_)
      refine r_aload_n C dX5_kindToWeigh_30 rfl ?_
      refine r_iload_n C dX5_kindToWeigh_31 rfl ?_
      refine r_callV C (c_bearsStamp hs2 (by omega)) dX5_kindToWeigh_32 cw_X5_bearsStampOfDead cvX5_31 (by omega) ok5 rfl hN rfl (Nat.le_of_ble_eq_true rfl) ?_
      rintro v R' h1 ⟨rfl, rfl, rfl⟩
      by_cases hb : S i ≤ D i
      · rw [if_pos hb]
        refine r_if_ne C dX5_kindToWeigh_35 (fun cc => absurd cc (by decide)) (fun _ => ?_)
        refine r_aload_n C dX5_kindToWeigh_38 rfl ?_
        refine r_getR C flX5_24 dX5_kindToWeigh_39 ok5 rfl rfl ?_
        refine r_aload_n C dX5_kindToWeigh_42 rfl ?_
        refine r_getR C flX5_9 dX5_kindToWeigh_43 ok5 rfl rfl ?_
        refine r_iload_n C dX5_kindToWeigh_46 rfl ?_
        refine q_ialdV (m := 8) C dX5_kindToWeigh_47 ok18 rfl rfl (by omega) g1 ?_
        refine r_dup2 C dX5_kindToWeigh_48 rfl rfl ?_
        refine q_ialdV (m := 4) C dX5_kindToWeigh_49 ok22 rfl rfl (by omega) (hw (K i) (by omega)) ?_
        refine r_iconst (v := (nI 1)) C dX5_kindToWeigh_50 (by decide) ?_
        first | refine r_iaddN C dX5_kindToWeigh_51 ?_ | refine r_iadd C dX5_kindToWeigh_51 ?_
        refine q_iast (m := 4) C dX5_kindToWeigh_52 ok22 rfl rfl (by omega) ?_
        first | refine r_iincN C dX5_kindToWeigh_53 rfl st2 ?_ | refine r_iinc C dX5_kindToWeigh_53 rfl rfl st2 ?_
        refine r_goto C dX5_kindToWeigh_56 ?_
        refine ih (i + 1) _ (by omega) (fun m hm => ?_) (Fr.put hf rfl)
        rw [wcF]
        by_cases e : m = K i
        · subst e
          rw [put_same, if_pos ⟨hb, rfl⟩]
        · rw [put_i e, if_neg (fun z => e z.2.symm)]
          exact hw m hm
      · rw [if_neg hb]
        refine r_if_ne C dX5_kindToWeigh_35 (fun _ => ?_) (fun cc => absurd cc (by decide))
        first | refine r_iincN C dX5_kindToWeigh_53 rfl st2 ?_ | refine r_iinc C dX5_kindToWeigh_53 rfl rfl st2 ?_
        refine r_goto C dX5_kindToWeigh_56 ?_
        refine ih (i + 1) _ (by omega) (fun m hm => ?_) hf
        rw [wcF, if_neg (fun z => hb z.1)]
        exact hw m hm
  refine r_iconst (v := (nI 0)) C dX5_kindToWeigh_0 (by decide) ?_
  refine r_istore_n C dX5_kindToWeigh_1 st2 ?_
  have loop1 : ∀ k m hh, m + k = 4 → (∀ i, i < m → hh 22 0 i = nI 0) → Fr s22 h hh →
      Wa E G 243 (Rs a b) hh (QQ E G 243 (fun v R' h' => v = some (aI (opI (wbF (fun m => wcF K D S m n) (N 1)))) ∧ R' = Rs a b ∧ Fr s22 h h')) 2 [some (aR 5 0), some (aR 8 t), some (aI (nI m)), none] [] := by
    intro k
    induction k with
    | zero =>
      intro m hh hm hw hf
      refine r_iload_n C dX5_kindToWeigh_2 rfl ?_
      refine r_iconst (v := (nI 4)) C dX5_kindToWeigh_3 (by decide) ?_
      refine r_icmpN_ge C dX5_kindToWeigh_4 (by omega) (by omega) (fun _ => ?_) (fun cc => absurd cc (by omega))
      refine r_iconst (v := (nI 0)) C dX5_kindToWeigh_20 (by decide) ?_
      refine r_istore_n C dX5_kindToWeigh_21 st2 ?_
      exact loop2 n 0 hh (by omega) (fun i hi => hw i (by omega)) hf
    | succ k ih =>
      intro m hh hm hw hf
      refine r_iload_n C dX5_kindToWeigh_2 rfl ?_
      refine r_iconst (v := (nI 4)) C dX5_kindToWeigh_3 (by decide) ?_
      refine r_icmpN_ge C dX5_kindToWeigh_4 (by omega) (by omega) (fun cc => absurd cc (by omega)) (fun _ => ?_)
      refine r_aload_n C dX5_kindToWeigh_7 rfl ?_
      refine r_getR C flX5_24 dX5_kindToWeigh_8 ok5 rfl rfl ?_
      refine r_iload_n C dX5_kindToWeigh_11 rfl ?_
      refine r_iconst (v := (nI 0)) C dX5_kindToWeigh_12 (by decide) ?_
      refine q_iast (m := 4) C dX5_kindToWeigh_13 ok22 rfl rfl (by omega) ?_
      first | refine r_iincN C dX5_kindToWeigh_14 rfl st2 ?_ | refine r_iinc C dX5_kindToWeigh_14 rfl rfl st2 ?_
      refine r_goto C dX5_kindToWeigh_17 ?_
      refine ih (m + 1) _ (by omega) (fun i hi => ?_) (Fr.put hf rfl)
      by_cases e : i = m
      · subst e; exact put_same
      · rw [put_i e]; exact hw i (by omega)
  exact loop1 4 0 h rfl (fun i hi => by omega) Fr.rf
/-! the book, the text -/
def bkp (h : HF) (n : Nat) (K : Nat → Nat) (M : Nat → Int32) : Prop := h 0 0 2 = nI n ∧ n ≤ 15 ∧ ∀ i, i < n → h 12 0 i = nI (K i) ∧ h 13 0 i = M i
def s0 : Nat → Nat → Bool := fun k _ => k == 0 || k == 12 || k == 13
def bwF (s : Sv) (K : Nat → Nat) (M : Nat → Int32) : Nat → Nat → Int32
  | 0, _ => -1
  | k + 1, i => if s (5 + K i) = M i then bwF s K M k (i + 1) else nI i
set_option maxRecDepth 100000 in
set_option maxHeartbeats 4000000 in
theorem c_bookAdd {E : Ev} {a b n c : Nat} {h : HF} {K : Nat → Nat} {M : Nat → Int32} {m0 : Int32} (hs : bkp h n K M) (hn : n < 15) : Ct E 0 yX0_add cX0_add 3 none [aR 0 0, aI (nI c), aI m0] 243 (Rs a b) h 243 (fun v R' h' => v = none ∧ R' = Rs a b ∧ bkp h' (n + 1) (va_up K n c) (va_up M n m0) ∧ Fr s0 h h') := by
  refine Ct.of 0 (L0 := [some (aR 0 0), some (aI (nI c)), some (aI m0)]) (by decide) ⟨Nat.le_refl _, Nat.le_refl _⟩ rfl rfl ?_
  intro G C hg hrt hnm
  have hN : gn G ≤ 243 ∧ 243 ≤ 243 ∧ 243 ≤ 243 := ⟨by omega, by decide, by decide⟩
  refine r_aload_n C dX0_add_0 rfl ?_
  refine q_getV C flX0_18 dX0_add_1 ok0 rfl hs.1 ?_
  refine r_bipush (v := (nI 15)) C dX0_add_4 (by decide) ?_
  refine r_icmpN_ge C dX0_add_6 (by omega) (by omega) (fun cc => absurd cc (by omega)) (fun _ => ?_)
  refine r_aload_n C dX0_add_9 rfl ?_
  refine r_getR C flX0_9 dX0_add_10 ok0 rfl rfl ?_
  refine r_aload_n C dX0_add_13 rfl ?_
  refine q_getV C flX0_18 dX0_add_14 ok0 rfl hs.1 ?_
  refine r_iload_n C dX0_add_17 rfl ?_
  refine q_iast (m := 15) C dX0_add_18 ok12 rfl rfl (by omega) ?_
  refine r_aload_n C dX0_add_19 rfl ?_
  refine r_getR C flX0_15 dX0_add_20 ok0 rfl rfl ?_
  refine r_aload_n C dX0_add_23 rfl ?_
  refine q_getV C flX0_18 dX0_add_24 ok0 rfl hs.1 ?_
  refine r_iload_n C dX0_add_27 rfl ?_
  refine q_iast (m := 15) C dX0_add_28 ok13 rfl rfl (by omega) ?_
  refine r_aload_n C dX0_add_29 rfl ?_
  refine r_dup C dX0_add_30 rfl ?_
  refine q_getV C flX0_18 dX0_add_31 ok0 rfl hs.1 ?_
  refine r_iconst (v := (nI 1)) C dX0_add_34 (by decide) ?_
  first | refine r_iaddN C dX0_add_35 ?_ | refine r_iadd C dX0_add_35 ?_
  refine r_putI C flX0_18 dX0_add_36 ok0 rfl ⟨rfl, rfl⟩ ?_
  refine r_vret C hrt dX0_add_39 ?_
  refine ⟨rfl, rfl, ⟨put_same, by omega, fun i hi => ?_⟩, Fr.put (Fr.put (Fr.put Fr.rf rfl) rfl) rfl⟩
  by_cases e : i = n
  · subst e
    refine ⟨?_, ?_⟩
    · rw [va_up_self, put_k (by decide), put_k (by decide), put_same]
    · rw [va_up_self, put_k (by decide), put_same]
  · obtain ⟨g1, g2⟩ := hs.2.2 i (by omega)
    refine ⟨?_, ?_⟩
    · rw [va_up_ne _ _ e, put_k (by decide), put_k (by decide), put_i e]; exact g1
    · rw [va_up_ne _ _ e, put_k (by decide), put_i e, put_k (by decide)]; exact g2
set_option maxRecDepth 100000 in
set_option maxHeartbeats 4000000 in
theorem c_firstWrong {E : Ev} {a b j n : Nat} {h : HF} {s : Sv} {K : Nat → Nat} {M : Nat → Int32} (hC : j < 29) (hc : cmp h j s) (hs : bkp h n K M) (hK : ∀ i, i < n → K i < 5) : Ct E 0 yX0_firstWrong cX0_firstWrong 3 (some .int) [aR 0 0, aR 1 j] 243 (Rs a b) h 243 (fun v R' h' => v = some (aI (bwF s K M n 0)) ∧ R' = Rs a b ∧ h' = h) := by
  refine Ct.of 1 (L0 := [some (aR 0 0), some (aR 1 j), none]) (by decide) ⟨Nat.le_refl _, Nat.le_refl _⟩ rfl rfl ?_
  intro G C hg hrt hnm
  have hN : gn G ≤ 243 ∧ 243 ≤ 243 ∧ 243 ≤ 243 := ⟨by omega, by decide, by decide⟩
  have hn := hs.2.1
  refine r_iconst (v := (nI 0)) C dX0_firstWrong_0 (by decide) ?_
  refine r_istore_n C dX0_firstWrong_1 st2 ?_
  have loop : ∀ k i, i + k = n → bwF s K M k i = bwF s K M n 0 → Wa E G 243 (Rs a b) h (QQ E G 243 (fun v R' h' => v = some (aI (bwF s K M n 0)) ∧ R' = Rs a b ∧ h' = h)) 2 [some (aR 0 0), some (aR 1 j), some (aI (nI i))] [] := by
    intro k
    induction k with
    | zero =>
      intro i hi he
      refine r_iload_n C dX0_firstWrong_2 rfl ?_
      refine r_aload_n C dX0_firstWrong_3 rfl ?_
      refine q_getV C flX0_18 dX0_firstWrong_4 ok0 rfl hs.1 ?_
      refine r_icmpN_ge C dX0_firstWrong_7 (by omega) (by omega) (fun _ => ?_) (fun cc => absurd cc (by omega))
      refine r_iconst (v := (-1)) C dX0_firstWrong_38 (by decide) ?_
      refine r_iret C hrt dX0_firstWrong_39 ?_
      rw [← he]
      exact ⟨rfl, rfl, rfl⟩
    | succ k ih =>
      intro i hi he
      obtain ⟨g1, g2⟩ := hs.2.2 i (by omega)
      have hk := hK i (by omega)
      rw [bwF] at he
      refine r_iload_n C dX0_firstWrong_2 rfl ?_
      refine r_aload_n C dX0_firstWrong_3 rfl ?_
      refine q_getV C flX0_18 dX0_firstWrong_4 ok0 rfl hs.1 ?_
      refine r_icmpN_ge C dX0_firstWrong_7 (by omega) (by omega) (fun cc => absurd cc (by omega)) (fun _ => ?_)
      refine r_aload_n C dX0_firstWrong_10 rfl ?_
      refine r_getR C flX0_22 dX0_firstWrong_11 (Ok.full (by decide) hC) rfl rfl ?_
      refine r_aload_n C dX0_firstWrong_14 rfl ?_
      refine r_getR C flX0_9 dX0_firstWrong_15 ok0 rfl rfl ?_
      refine r_iload_n C dX0_firstWrong_18 rfl ?_
      refine q_ialdV (m := 15) C dX0_firstWrong_19 ok12 rfl rfl (by omega) g1 ?_
      refine q_ialdV (m := 5) C dX0_firstWrong_20 (Ok.full (by decide) hC) rfl rfl (by omega) (hc.2.2.1 (K i) hk) ?_
      refine r_aload_n C dX0_firstWrong_21 rfl ?_
      refine r_getR C flX0_15 dX0_firstWrong_22 ok0 rfl rfl ?_
      refine r_iload_n C dX0_firstWrong_25 rfl ?_
      refine q_ialdV (m := 15) C dX0_firstWrong_26 ok13 rfl rfl (by omega) g2 ?_
      refine r_icmp_eq C dX0_firstWrong_27 (fun c27 => ?_) (fun c27 => ?_)
      · rw [if_pos c27] at he
        first | refine r_iincN C dX0_firstWrong_32 rfl st2 ?_ | refine r_iinc C dX0_firstWrong_32 rfl rfl st2 ?_
        refine r_goto C dX0_firstWrong_35 ?_
        exact ih (i + 1) (by omega) he
      · rw [if_neg c27] at he
        refine r_iload_n C dX0_firstWrong_30 rfl ?_
        refine r_iret C hrt dX0_firstWrong_31 ?_
        rw [← he]
        exact ⟨rfl, rfl, rfl⟩
  exact loop n 0 (by omega) rfl
def txp (h : HF) (n : Nat) (X : Nat → Int32) : Prop := h 7 0 1 = nI n ∧ n ≤ 240 ∧ ∀ i, i < n → h 26 0 i = X i
def s7 : Nat → Nat → Bool := fun k _ => k == 7 || k == 26
set_option maxRecDepth 100000 in
set_option maxHeartbeats 4000000 in
theorem c_append {E : Ev} {a b n : Nat} {h : HF} {X : Nat → Int32} {x : Int32} (hs : txp h n X) (hn : n < 240) : Ct E 0 yX7_append cX7_append 2 none [aR 7 0, aI x] 243 (Rs a b) h 243 (fun v R' h' => v = none ∧ R' = Rs a b ∧ txp h' (n + 1) (va_up X n x) ∧ Fr s7 h h') := by
  refine Ct.of 0 (L0 := [some (aR 7 0), some (aI x)]) (by decide) ⟨Nat.le_refl _, Nat.le_refl _⟩ rfl rfl ?_
  intro G C hg hrt hnm
  have hN : gn G ≤ 243 ∧ 243 ≤ 243 ∧ 243 ≤ 243 := ⟨by omega, by decide, by decide⟩
  refine r_aload_n C dX7_append_0 rfl ?_
  refine q_getV C flX7_15 dX7_append_1 ok7 rfl hs.1 ?_
  refine r_sipush (v := (nI 240)) C dX7_append_4 (by decide) ?_
  refine r_icmpN_ge C dX7_append_7 (by omega) (by omega) (fun cc => absurd cc (by omega)) (fun _ => ?_)
  refine r_aload_n C dX7_append_10 rfl ?_
  refine r_getR C flX7_9 dX7_append_11 ok7 rfl rfl ?_
  refine r_aload_n C dX7_append_14 rfl ?_
  refine q_getV C flX7_15 dX7_append_15 ok7 rfl hs.1 ?_
  refine r_iload_n C dX7_append_18 rfl ?_
  refine q_iast (m := 240) C dX7_append_19 ok26 rfl rfl (by omega) ?_
  refine r_aload_n C dX7_append_20 rfl ?_
  refine r_dup C dX7_append_21 rfl ?_
  refine q_getV C flX7_15 dX7_append_22 ok7 rfl hs.1 ?_
  refine r_iconst (v := (nI 1)) C dX7_append_25 (by decide) ?_
  first | refine r_iaddN C dX7_append_26 ?_ | refine r_iadd C dX7_append_26 ?_
  refine r_putI C flX7_15 dX7_append_27 ok7 rfl ⟨rfl, rfl⟩ ?_
  refine r_vret C hrt dX7_append_30 ?_
  refine ⟨rfl, rfl, ⟨put_same, by omega, fun i hi => ?_⟩, Fr.put (Fr.put Fr.rf rfl) rfl⟩
  by_cases e : i = n
  · subst e
    rw [va_up_self, put_k (by decide), put_same]
  · rw [va_up_ne _ _ e, put_k (by decide), put_i e]
    exact hs.2.2 i (by omega)
end
section
/-! THE TEXT, pure: letters X 0 .. X (n - 1) -/
def skF (X : Nat → Int32) : Nat → Nat → Nat
  | 0, p => p
  | r + 1, p => if X p = nI 32 then skF X r (p + 1) else p
theorem skF_b (X : Nat → Int32) : ∀ r p, p ≤ skF X r p ∧ skF X r p ≤ p + r
  | 0, p => ⟨Nat.le_refl _, Nat.le_refl _⟩
  | r + 1, p => by
    have := skF_b X r (p + 1)
    unfold skF
    split <;> omega
def skN (X : Nat → Int32) (n p : Nat) : Nat := skF X (n - p) p
theorem skN_b {X : Nat → Int32} {n p : Nat} (h : p ≤ n) : p ≤ skN X n p ∧ skN X n p ≤ n := by
  have := skF_b X (n - p) p
  unfold skN
  omega
def nmF (X : Nat → Int32) (st : Nat) : Nat → Nat → Int32 → Nat × Int32
  | 0, p, v => (p, v)
  | r + 1, p, v => if nI 48 ≤ X p ∧ X p ≤ nI 57 then nmF X st r (p + 1) (if p - st < 3 then v * nI 10 + X p - nI 48 else v) else (p, v)
theorem nmF_b (X : Nat → Int32) (st : Nat) : ∀ r p v, p ≤ (nmF X st r p v).1 ∧ (nmF X st r p v).1 ≤ p + r
  | 0, p, v => ⟨Nat.le_refl _, Nat.le_refl _⟩
  | r + 1, p, v => by
    rw [nmF]
    split
    · have := nmF_b X st r (p + 1) (if p - st < 3 then v * nI 10 + X p - nI 48 else v)
      omega
    · exact ⟨Nat.le_refl _, Nat.le_add_right _ _⟩
/-- a number read from p: (behind it, its value, its fault, the fault's place) -/
def rdn (X : Nat → Int32) (n p : Nat) (lo hi : Int32) : Nat × Int32 × Nat × Nat :=
  if (nmF X (skN X n p) (n - skN X n p) (skN X n p) (nI 0)).1 = skN X n p then (skN X n p, (nmF X (skN X n p) (n - skN X n p) (skN X n p) (nI 0)).2, 1, skN X n p)
  else if (nmF X (skN X n p) (n - skN X n p) (skN X n p) (nI 0)).1 - skN X n p ≤ 3 ∧ lo ≤ (nmF X (skN X n p) (n - skN X n p) (skN X n p) (nI 0)).2 ∧ (nmF X (skN X n p) (n - skN X n p) (skN X n p) (nI 0)).2 ≤ hi
  then ((nmF X (skN X n p) (n - skN X n p) (skN X n p) (nI 0)).1, (nmF X (skN X n p) (n - skN X n p) (skN X n p) (nI 0)).2, 0, 0)
  else ((nmF X (skN X n p) (n - skN X n p) (skN X n p) (nI 0)).1, (nmF X (skN X n p) (n - skN X n p) (skN X n p) (nI 0)).2, 2, skN X n p)
theorem rdn_b {X : Nat → Int32} {n p : Nat} {lo hi : Int32} (h : p ≤ n) : p ≤ (rdn X n p lo hi).1 ∧ (rdn X n p lo hi).1 ≤ n ∧ (rdn X n p lo hi).2.2.1 ≤ 2 ∧ ((rdn X n p lo hi).2.2.2 ≤ n) := by
  have h1 := skN_b (X := X) h
  have h2 := nmF_b X (skN X n p) (n - skN X n p) (skN X n p) (nI 0)
  unfold rdn
  split
  · exact ⟨h1.1, h1.2, (show (1 : Nat) ≤ 2 by decide), h1.2⟩
  · split
    · exact ⟨by show p ≤ (nmF _ _ _ _ _).1; omega, by show (nmF _ _ _ _ _).1 ≤ n; omega, (show (0 : Nat) ≤ 2 by decide), Nat.zero_le _⟩
    · exact ⟨by show p ≤ (nmF _ _ _ _ _).1; omega, by show (nmF _ _ _ _ _).1 ≤ n; omega, (show (2 : Nat) ≤ 2 by decide), h1.2⟩
/-- where i numbers of a clause end; what is read of the i-th -/
def rpF (X : Nat → Int32) (n cl p : Nat) : Nat → Nat
  | 0 => p
  | i + 1 => (rdn X n (rpF X n cl p i) (lowV.getD (cl * 3 + i) 0) (higV.getD (cl * 3 + i) 0)).1
def rrF (X : Nat → Int32) (n cl p i : Nat) : Nat × Int32 × Nat × Nat := rdn X n (rpF X n cl p i) (lowV.getD (cl * 3 + i) 0) (higV.getD (cl * 3 + i) 0)
theorem rpF_b {X : Nat → Int32} {n cl p : Nat} (h : p ≤ n) : ∀ i, p ≤ rpF X n cl p i ∧ rpF X n cl p i ≤ n
  | 0 => ⟨Nat.le_refl _, h⟩
  | i + 1 => by
    have h1 := rpF_b h (cl := cl) (X := X) i
    have h2 := rdn_b (X := X) (lo := lowV.getD (cl * 3 + i) 0) (hi := higV.getD (cl * 3 + i) 0) h1.2
    exact ⟨Nat.le_trans h1.1 h2.1, h2.2.1⟩
/-- the first fault of k numbers from the i-th on -/
def ffF (X : Nat → Int32) (n cl p : Nat) : Nat → Nat → Nat × Nat
  | 0, _ => (0, 0)
  | k + 1, i => if (rrF X n cl p i).2.2.1 = 0 then ffF X n cl p k (i + 1) else (rrF X n cl p i).2.2
def nosF (cl : Nat) : Nat := match cl with
  | 0 => 2
  | 1 => 3
  | 2 => 3
  | 3 => 1
  | _ => 2
def ccF (x : Int32) : Nat := if x = nI 116 then 0 else if x = nI 99 then 1 else if x = nI 109 then 2 else if x = nI 103 then 3 else if x = nI 104 then 4 else 5
def fulF (N : Nat → Nat) (cl : Nat) : Bool := match cl with
  | 0 => decide (N 4 ≠ 0)
  | 1 => decide (5 ≤ N 0)
  | 2 => decide (4 ≤ N 1)
  | 3 => decide (6 ≤ N 2)
  | _ => decide (4 ≤ N 3)
def tup (T : Tv) (r i : Nat) (x : Int32) : Tv := fun r' i' => if r' = r then (if i' = i then x else T r' i') else T r' i'
def addN (N : Nat → Nat) (cl : Nat) : Nat → Nat := match cl with
  | 0 => va_up N 4 1
  | 1 => va_up N 0 (N 0 + 1)
  | 2 => va_up N 1 (N 1 + 1)
  | 3 => va_up N 2 (N 2 + 1)
  | _ => va_up N 3 (N 3 + 1)
def addT (N : Nat → Nat) (T : Tv) (V : Nat → Int32) (cl : Nat) : Tv := match cl with
  | 0 => tup (tup T 9 0 (V 0)) 9 1 (V 1)
  | 1 => tup (tup (tup T 7 (N 0) (V 0)) 0 (N 0) (V 1)) 1 (N 0) (V 2)
  | 2 => tup (tup (tup T 8 (N 1) (V 0)) 2 (N 1) (V 1)) 3 (N 1) (V 2)
  | 3 => tup T 4 (N 2) (V 0)
  | _ => tup (tup T 5 (N 3) (V 0)) 6 (N 3) (V 1)
abbrev Pr : Type := Nat × (Nat → Nat) × Tv × Nat × Nat
/-- behind the numbers of a clause -/
def endF (X : Nat → Int32) (n cl p : Nat) : Nat := skN X n (rpF X n cl p (nosF cl))
def clsF (X : Nat → Int32) (n p : Nat) (N : Nat → Nat) (T : Tv) : Pr :=
  if ccF (X p) = 5 ∨ (N 4 = 0 ∧ ccF (X p) ≠ 0) then (p, N, T, 1, p)
  else if fulF N (ccF (X p)) = true then (p, N, T, 3, p)
  else if (ffF X n (ccF (X p)) (p + 1) (nosF (ccF (X p))) 0).1 ≠ 0 then (p, N, T, ffF X n (ccF (X p)) (p + 1) (nosF (ccF (X p))) 0)
  else if endF X n (ccF (X p)) (p + 1) < n ∧ X (endF X n (ccF (X p)) (p + 1)) = nI 59 then (endF X n (ccF (X p)) (p + 1) + 1, addN N (ccF (X p)), addT N T (fun i => (rrF X n (ccF (X p)) (p + 1) i).2.1) (ccF (X p)), 0, 0)
  else (p, N, T, 1, endF X n (ccF (X p)) (p + 1))
theorem clsF_b {X : Nat → Int32} {n p : Nat} {N : Nat → Nat} {T : Tv} (hp : p < n) (h0 : (clsF X n p N T).2.2.2.1 = 0) : p < (clsF X n p N T).1 ∧ (clsF X n p N T).1 ≤ n := by
  unfold clsF at h0 ⊢
  split at h0
  · exact absurd h0 (show ¬ (1 : Nat) = 0 by decide)
  · next c1 =>
    rw [if_neg c1]
    split at h0
    · exact absurd h0 (show ¬ (3 : Nat) = 0 by decide)
    · next c2 =>
      rw [if_neg c2]
      split at h0
      · next c3 => exact absurd h0 c3
      · next c3 =>
        rw [if_neg c3]
        split at h0
        · next c4 =>
          rw [if_pos c4]
          have h1 := rpF_b (X := X) (cl := ccF (X p)) (show p + 1 ≤ n by omega) (nosF (ccF (X p)))
          have h2 := skN_b (X := X) h1.2
          show p < endF X n (ccF (X p)) (p + 1) + 1 ∧ endF X n (ccF (X p)) (p + 1) + 1 ≤ n
          have h3 : endF X n (ccF (X p)) (p + 1) = skN X n (rpF X n (ccF (X p)) (p + 1) (nosF (ccF (X p)))) := rfl
          omega
        · exact absurd h0 (show ¬ (1 : Nat) = 0 by decide)
def prF (X : Nat → Int32) (n : Nat) : Nat → Nat → (Nat → Nat) → Tv → (Nat → Nat) × Tv × Nat × Nat
  | 0, _, N, T => (N, T, 0, 0)
  | f + 1, p, N, T => if p < n then (if (clsF X n p N T).2.2.2.1 = 0 then prF X n f (skN X n (clsF X n p N T).1) (clsF X n p N T).2.1 (clsF X n p N T).2.2.1 else (N, T, (clsF X n p N T).2.2.2)) else (N, T, 0, 0)
def parseF (X : Nat → Int32) (n : Nat) : (Nat → Nat) × Tv × Nat × Nat := prF X n 240 (skN X n 0) (fun _ => 0) (fun _ _ => nI 0)
/-! the class's reader -/
def rdp (h : HF) (p ft : Nat) (pl : Int32) : Prop := h 4 0 1 = nI p ∧ h 4 0 2 = nI ft ∧ h 4 0 3 = pl
def s4 : Nat → Nat → Bool := fun k _ => k == 4
theorem txp.fr {S : Nat → Nat → Bool} {h h' : HF} {n : Nat} {X : Nat → Int32} (f : Fr S h h') (h1 : S 7 0 = false) (h2 : S 26 0 = false) (c : txp h n X) : txp h' n X := by
  unfold txp
  rw [f 7 0 h1, f 26 0 h2]
  exact c
set_option maxRecDepth 100000 in
set_option maxHeartbeats 4000000 in
theorem c_isWithin {E : Ev} {a b : Nat} {h : HF} {x lo hi : Int32} : Ct E 0 yX10_isWithin cX10_isWithin 3 (some .boolean) [aI x, aI lo, aI hi] 243 (Rs a b) h 243 (fun v R' h' => v = some (aI (if lo ≤ x ∧ x ≤ hi then nI 1 else nI 0)) ∧ R' = Rs a b ∧ h' = h) := by
  refine Ct.of 0 (L0 := [some (aI x), some (aI lo), some (aI hi)]) (by decide) ⟨Nat.le_refl _, Nat.le_refl _⟩ rfl rfl ?_
  intro G C hg hrt hnm
  have hN : gn G ≤ 243 ∧ 243 ≤ 243 ∧ 243 ≤ 243 := ⟨by omega, by decide, by decide⟩
  refine r_iload_n C dX10_isWithin_0 rfl ?_
  refine r_iload_n C dX10_isWithin_1 rfl ?_
  refine r_icmp_gt C dX10_isWithin_2 (fun c2 => ?_) (fun c2 => ?_)
  · refine r_iconst (v := (nI 0)) C dX10_isWithin_14 (by decide) ?_
    refine r_zret C hrt dX10_isWithin_15 (by decide) ?_
    rw [if_neg (fun z => absurd c2 (Int32.not_lt.mpr z.1))]
    exact ⟨rfl, rfl, rfl⟩
  · refine r_iload_n C dX10_isWithin_5 rfl ?_
    refine r_iload_n C dX10_isWithin_6 rfl ?_
    refine r_icmp_gt C dX10_isWithin_7 (fun c7 => ?_) (fun c7 => ?_)
    · refine r_iconst (v := (nI 0)) C dX10_isWithin_14 (by decide) ?_
      refine r_zret C hrt dX10_isWithin_15 (by decide) ?_
      rw [if_neg (fun z => absurd c7 (Int32.not_lt.mpr z.2))]
      exact ⟨rfl, rfl, rfl⟩
    · refine r_iconst (v := (nI 1)) C dX10_isWithin_10 (by decide) ?_
      refine r_goto C dX10_isWithin_11 ?_
      refine r_zret C hrt dX10_isWithin_15 (by decide) ?_
      rw [if_pos ⟨Int32.not_lt.mp c2, Int32.not_lt.mp c7⟩]
      exact ⟨rfl, rfl, rfl⟩
set_option maxRecDepth 100000 in
set_option maxHeartbeats 4000000 in
theorem c_isFigure {E : Ev} {a b : Nat} {h : HF} {x : Int32} : Ct E 1 yX4_isFigure cX4_isFigure 1 (some .boolean) [aI x] 243 (Rs a b) h 243 (fun v R' h' => v = some (aI (if nI 48 ≤ x ∧ x ≤ nI 57 then nI 1 else nI 0)) ∧ R' = Rs a b ∧ h' = h) := by
  refine Ct.of 0 (L0 := [some (aI x)]) (by decide) ⟨Nat.le_refl _, Nat.le_refl _⟩ rfl rfl ?_
  intro G C hg hrt hnm
  have hN : gn G ≤ 243 ∧ 243 ≤ 243 ∧ 243 ≤ 243 := ⟨by omega, by decide, by decide⟩
  refine r_iload_n C dX4_isFigure_0 rfl ?_
  refine r_bipush (v := (nI 48)) C dX4_isFigure_1 (by decide) ?_
  refine r_bipush (v := (nI 57)) C dX4_isFigure_3 (by decide) ?_
  refine r_callSN C c_isWithin dX4_isFigure_5 cw_X10_isWithin cnX4_89 (by omega) rfl hN rfl (Nat.le_of_ble_eq_true rfl) ?_
  rintro v R' h1 ⟨rfl, rfl, rfl⟩
  refine r_zret C hrt dX4_isFigure_8 (by split <;> decide) ?_
  exact ⟨rfl, rfl, rfl⟩
set_option maxRecDepth 100000 in
set_option maxHeartbeats 4000000 in
theorem c_setFault {E : Ev} {a b p ft num whr : Nat} {h : HF} {pl : Int32} (hr : rdp h p ft pl) (hft : ft < 4) : Ct E 0 yX4_setFault cX4_setFault 3 none [aR 4 0, aI (nI num), aI (nI whr)] 243 (Rs a b) h 243 (fun v R' h' => v = none ∧ R' = Rs a b ∧ rdp h' p (if ft = 0 then num else ft) (if ft = 0 then nI whr else pl) ∧ Fr s4 h h') := by
  refine Ct.of 0 (L0 := [some (aR 4 0), some (aI (nI num)), some (aI (nI whr))]) (by decide) ⟨Nat.le_refl _, Nat.le_refl _⟩ rfl rfl ?_
  intro G C hg hrt hnm
  have hN : gn G ≤ 243 ∧ 243 ≤ 243 ∧ 243 ≤ 243 := ⟨by omega, by decide, by decide⟩
  refine r_aload_n C dX4_setFault_0 rfl ?_
  refine q_getV C flX4_19 dX4_setFault_1 ok4 rfl hr.2.1 ?_
  by_cases hz : ft = 0
  · subst hz
    refine r_if_ne C dX4_setFault_4 (fun cc => absurd cc (by decide)) (fun _ => ?_)
    refine r_aload_n C dX4_setFault_7 rfl ?_
    refine r_iload_n C dX4_setFault_8 rfl ?_
    refine r_putI C flX4_19 dX4_setFault_9 ok4 rfl ⟨rfl, rfl⟩ ?_
    refine r_aload_n C dX4_setFault_12 rfl ?_
    refine r_iload_n C dX4_setFault_13 rfl ?_
    refine r_putI C flX4_22 dX4_setFault_14 ok4 rfl ⟨rfl, rfl⟩ ?_
    refine r_vret C hrt dX4_setFault_17 ?_
    exact ⟨rfl, rfl, ⟨hr.1, by rw [put_i (by decide), put_same, if_pos rfl], by rw [put_same, if_pos rfl]⟩, Fr.put (Fr.put Fr.rf rfl) rfl⟩
  · refine r_if_ne C dX4_setFault_4 (fun _ => ?_) (fun cc => absurd cc (by exact fun z => nI_ne0 (by omega) (by omega) z))
    refine r_vret C hrt dX4_setFault_17 ?_
    rw [if_neg hz, if_neg hz]
    exact ⟨rfl, rfl, hr, Fr.rf⟩
set_option maxRecDepth 100000 in
set_option maxHeartbeats 4000000 in
theorem c_skipBlanks {E : Ev} {a b n p ft : Nat} {h : HF} {X : Nat → Int32} {pl : Int32} (hx : txp h n X) (hr : rdp h p ft pl) (hp : p ≤ n) : Ct E 0 yX4_skipBlanks cX4_skipBlanks 2 none [aR 4 0, aR 7 0] 243 (Rs a b) h 243 (fun v R' h' => v = none ∧ R' = Rs a b ∧ rdp h' (skN X n p) ft pl ∧ Fr s4 h h') := by
  refine Ct.of 0 (L0 := [some (aR 4 0), some (aR 7 0)]) (by decide) ⟨Nat.le_refl _, Nat.le_refl _⟩ rfl rfl ?_
  intro G C hg hrt hnm
  have hN : gn G ≤ 243 ∧ 243 ≤ 243 ∧ 243 ≤ 243 := ⟨by omega, by decide, by decide⟩
  have hn := hx.2.1
  have loop : ∀ k q hh, q + k = n → rdp hh q ft pl → skF X k q = skN X n p → Fr s4 h hh → Wa E G 243 (Rs a b) hh (QQ E G 243 (fun v R' h' => v = none ∧ R' = Rs a b ∧ rdp h' (skN X n p) ft pl ∧ Fr s4 h h')) 0 [some (aR 4 0), some (aR 7 0)] [] := by
    intro k
    induction k with
    | zero =>
      intro q hh hq hr he hf
      have hx2 := hx.fr hf rfl rfl
      refine r_aload_n C dX4_skipBlanks_0 rfl ?_
      refine q_getV C flX4_15 dX4_skipBlanks_1 ok4 rfl hr.1 ?_
      refine r_aload_n C dX4_skipBlanks_4 rfl ?_
      refine q_getV C flX4_34 dX4_skipBlanks_5 ok7 rfl hx2.1 ?_
      refine r_icmpN_ge C dX4_skipBlanks_8 (by omega) (by omega) (fun _ => ?_) (fun cc => absurd cc (by omega))
      refine r_vret C hrt dX4_skipBlanks_38 ?_
      rw [← he]
      exact ⟨rfl, rfl, hr, hf⟩
    | succ k ih =>
      intro q hh hq hr he hf
      have hx2 := hx.fr hf rfl rfl
      rw [skF] at he
      refine r_aload_n C dX4_skipBlanks_0 rfl ?_
      refine q_getV C flX4_15 dX4_skipBlanks_1 ok4 rfl hr.1 ?_
      refine r_aload_n C dX4_skipBlanks_4 rfl ?_
      refine q_getV C flX4_34 dX4_skipBlanks_5 ok7 rfl hx2.1 ?_
      refine r_icmpN_ge C dX4_skipBlanks_8 (by omega) (by omega) (fun cc => absurd cc (by omega)) (fun _ => ?_)
      refine r_aload_n C dX4_skipBlanks_11 rfl ?_
      refine r_getR C flX4_43 dX4_skipBlanks_12 ok7 rfl rfl ?_
      refine r_aload_n C dX4_skipBlanks_15 rfl ?_
      refine q_getV C flX4_15 dX4_skipBlanks_16 ok4 rfl hr.1 ?_
      refine q_ialdV (m := 240) C dX4_skipBlanks_19 ok26 rfl rfl (by omega) (hx2.2.2 q (by omega)) ?_
      refine r_bipush (v := (nI 32)) C dX4_skipBlanks_20 (by decide) ?_
      refine r_icmp_ne C dX4_skipBlanks_22 (fun c22 => ?_) (fun c22 => ?_)
      · rw [if_neg c22] at he
        refine r_vret C hrt dX4_skipBlanks_38 ?_
        rw [← he]
        exact ⟨rfl, rfl, hr, hf⟩
      · rw [if_pos c22] at he
        refine r_aload_n C dX4_skipBlanks_25 rfl ?_
        refine r_dup C dX4_skipBlanks_26 rfl ?_
        refine q_getV C flX4_15 dX4_skipBlanks_27 ok4 rfl hr.1 ?_
        refine r_iconst (v := (nI 1)) C dX4_skipBlanks_30 (by decide) ?_
        first | refine r_iaddN C dX4_skipBlanks_31 ?_ | refine r_iadd C dX4_skipBlanks_31 ?_
        refine r_putI C flX4_15 dX4_skipBlanks_32 ok4 rfl ⟨rfl, rfl⟩ ?_
        refine r_goto C dX4_skipBlanks_35 ?_
        exact ih (q + 1) _ (by omega) ⟨put_same, hr.2.1, hr.2.2⟩ he (Fr.put hf rfl)
  exact loop (n - p) p h (by omega) hr rfl Fr.rf
end
section
set_option maxRecDepth 100000 in
set_option maxHeartbeats 4000000 in
theorem c_clauseOf {E : Ev} {a b : Nat} {h : HF} {x : Int32} : Ct E 0 yX4_clauseOf cX4_clauseOf 1 (some .int) [aI x] 243 (Rs a b) h 243 (fun v R' h' => v = some (aI (if ccF x = 5 then -1 else nI (ccF x))) ∧ R' = Rs a b ∧ h' = h) := by
  refine Ct.of 0 (L0 := [some (aI x)]) (by decide) ⟨Nat.le_refl _, Nat.le_refl _⟩ rfl rfl ?_
  intro G C hg hrt hnm
  have hN : gn G ≤ 243 ∧ 243 ≤ 243 ∧ 243 ≤ 243 := ⟨by omega, by decide, by decide⟩
  refine r_iload_n C dX4_clauseOf_0 rfl ?_
  by_cases h1 : x = nI 116
  · subst h1
    refine r_look (off := 51) (tgt := 52) C ⟨dX4_clauseOf_1, rfl, by decide⟩ (by decide) (by decide) ?_
    refine r_iconst (v := (nI 0)) C dX4_clauseOf_52 (by decide) ?_
    refine r_iret C hrt dX4_clauseOf_53 ?_
    exact ⟨rfl, rfl, rfl⟩
  · by_cases h2 : x = nI 99
    · subst h2
      refine r_look (off := 53) (tgt := 54) C ⟨dX4_clauseOf_1, rfl, by decide⟩ (by decide) (by decide) ?_
      refine r_iconst (v := (nI 1)) C dX4_clauseOf_54 (by decide) ?_
      refine r_iret C hrt dX4_clauseOf_55 ?_
      exact ⟨rfl, rfl, rfl⟩
    · by_cases h3 : x = nI 109
      · subst h3
        refine r_look (off := 55) (tgt := 56) C ⟨dX4_clauseOf_1, rfl, by decide⟩ (by decide) (by decide) ?_
        refine r_iconst (v := (nI 2)) C dX4_clauseOf_56 (by decide) ?_
        refine r_iret C hrt dX4_clauseOf_57 ?_
        exact ⟨rfl, rfl, rfl⟩
      · by_cases h4 : x = nI 103
        · subst h4
          refine r_look (off := 57) (tgt := 58) C ⟨dX4_clauseOf_1, rfl, by decide⟩ (by decide) (by decide) ?_
          refine r_iconst (v := (nI 3)) C dX4_clauseOf_58 (by decide) ?_
          refine r_iret C hrt dX4_clauseOf_59 ?_
          exact ⟨rfl, rfl, rfl⟩
        · by_cases h5 : x = nI 104
          · subst h5
            refine r_look (off := 59) (tgt := 60) C ⟨dX4_clauseOf_1, rfl, by decide⟩ (by decide) (by decide) ?_
            refine r_iconst (v := (nI 4)) C dX4_clauseOf_60 (by decide) ?_
            refine r_iret C hrt dX4_clauseOf_61 ?_
            exact ⟨rfl, rfl, rfl⟩
          · refine r_look (off := 61) (tgt := 62) C ⟨dX4_clauseOf_1, rfl, by decide⟩ (by decide) ?_ ?_
            · exact (lv_osw (k := nI 99) h2 (by decide)).trans ((lv_osw (k := nI 103) h4 (by decide)).trans ((lv_osw (k := nI 104) h5 (by decide)).trans ((lv_osw (k := nI 109) h3 (by decide)).trans ((lv_osw (k := nI 116) h1 (by decide)).trans rfl))))
            refine r_iconst (v := (-1)) C dX4_clauseOf_62 (by decide) ?_
            refine r_iret C hrt dX4_clauseOf_63 ?_
            have e : ccF x = 5 := by simp [ccF, h1, h2, h3, h4, h5]
            rw [e]
            exact ⟨rfl, rfl, rfl⟩
set_option maxRecDepth 100000 in
set_option maxHeartbeats 4000000 in
theorem c_readNumber {E : Ev} {a b n p : Nat} {h : HF} {X : Nat → Int32} {pl lo hi : Int32} (hx : txp h n X) (hr : rdp h p 0 pl) (hp : p ≤ n) : Ct E 2 yX4_readNumber cX4_readNumber 6 (some .int) [aR 4 0, aR 7 0, aI lo, aI hi] 243 (Rs a b) h 243 (fun v R' h' => v = some (aI (rdn X n p lo hi).2.1) ∧ R' = Rs a b ∧ rdp h' (rdn X n p lo hi).1 (rdn X n p lo hi).2.2.1 (if (rdn X n p lo hi).2.2.1 = 0 then pl else nI (rdn X n p lo hi).2.2.2) ∧ Fr s4 h h') := by
  refine Ct.of 2 (L0 := [some (aR 4 0), some (aR 7 0), some (aI lo), some (aI hi), none, none]) (by decide) ⟨Nat.le_refl _, Nat.le_refl _⟩ rfl rfl ?_
  intro G C hg hrt hnm
  have hN : gn G ≤ 243 ∧ 243 ≤ 243 ∧ 243 ≤ 243 := ⟨by omega, by decide, by decide⟩
  have hn := hx.2.1
  refine r_aload_n C dX4_readNumber_0 rfl ?_
  refine r_aload_n C dX4_readNumber_1 rfl ?_
  refine r_callV C (c_skipBlanks hx hr hp) dX4_readNumber_2 cw_X4_skipBlanks cvX4_30 (by omega) ok4 rfl hN rfl (Nat.le_of_ble_eq_true rfl) ?_
  rintro v R' h1 ⟨rfl, rfl, hr1, hf1⟩
  have hsb := skN_b (X := X) hp
  refine r_aload_n C dX4_readNumber_5 rfl ?_
  refine q_getV C flX4_15 dX4_readNumber_6 ok4 rfl hr1.1 ?_
  refine r_istore C dX4_readNumber_9 st4 ?_
  refine r_iconst (v := (nI 0)) C dX4_readNumber_11 (by decide) ?_
  refine r_istore C dX4_readNumber_12 st5 ?_
  have loop : ∀ k q v hh, q + k = n → skN X n p ≤ q → rdp hh q 0 pl → nmF X (skN X n p) k q v = nmF X (skN X n p) (n - skN X n p) (skN X n p) (nI 0) → Fr s4 h hh →
      Wa E G 243 (Rs a b) hh (QQ E G 243 (fun v R' h' => v = some (aI (rdn X n p lo hi).2.1) ∧ R' = Rs a b ∧ rdp h' (rdn X n p lo hi).1 (rdn X n p lo hi).2.2.1 (if (rdn X n p lo hi).2.2.1 = 0 then pl else nI (rdn X n p lo hi).2.2.2) ∧ Fr s4 h h')) 14 [some (aR 4 0), some (aR 7 0), some (aI lo), some (aI hi), some (aI (nI (skN X n p))), some (aI v)] [] := by
    have fin : ∀ q v hh, q ≤ n → skN X n p ≤ q → rdp hh q 0 pl → (q, v) = nmF X (skN X n p) (n - skN X n p) (skN X n p) (nI 0) → Fr s4 h hh →
      Wa E G 243 (Rs a b) hh (QQ E G 243 (fun v R' h' => v = some (aI (rdn X n p lo hi).2.1) ∧ R' = Rs a b ∧ rdp h' (rdn X n p lo hi).1 (rdn X n p lo hi).2.2.1 (if (rdn X n p lo hi).2.2.1 = 0 then pl else nI (rdn X n p lo hi).2.2.2) ∧ Fr s4 h h')) 84 [some (aR 4 0), some (aR 7 0), some (aI lo), some (aI hi), some (aI (nI (skN X n p))), some (aI v)] [] := by
      intro q v hh hq hsq hr he hf
      have hrd : rdn X n p lo hi = if q = skN X n p then (skN X n p, v, 1, skN X n p) else if q - skN X n p ≤ 3 ∧ lo ≤ v ∧ v ≤ hi then (q, v, 0, 0) else (q, v, 2, skN X n p) := by
        unfold rdn
        rw [← he]
      refine r_aload_n C dX4_readNumber_84 rfl ?_
      refine q_getV C flX4_15 dX4_readNumber_85 ok4 rfl hr.1 ?_
      refine r_iload C dX4_readNumber_88 rfl ?_
      refine r_icmpN_ne C dX4_readNumber_90 (by omega) (by omega) (fun c90 => ?_) (fun c90 => ?_)
      · rw [if_neg c90] at hrd
        refine r_aload_n C dX4_readNumber_105 rfl ?_
        refine q_getV C flX4_15 dX4_readNumber_106 ok4 rfl hr.1 ?_
        refine r_iload C dX4_readNumber_109 rfl ?_
        refine r_isubN C dX4_readNumber_111 hsq ?_
        have bad : ¬ (q - skN X n p ≤ 3 ∧ lo ≤ v ∧ v ≤ hi) → Wa E G 243 (Rs a b) hh (QQ E G 243 (fun v R' h' => v = some (aI (rdn X n p lo hi).2.1) ∧ R' = Rs a b ∧ rdp h' (rdn X n p lo hi).1 (rdn X n p lo hi).2.2.1 (if (rdn X n p lo hi).2.2.1 = 0 then pl else nI (rdn X n p lo hi).2.2.2) ∧ Fr s4 h h')) 126 [some (aR 4 0), some (aR 7 0), some (aI lo), some (aI hi), some (aI (nI (skN X n p))), some (aI v)] [] := by
          intro hbad
          rw [if_neg hbad] at hrd
          refine r_aload_n C dX4_readNumber_126 rfl ?_
          refine r_iconst (v := (nI 2)) C dX4_readNumber_127 (by decide) ?_
          refine r_iload C dX4_readNumber_128 rfl ?_
          refine r_callV C (c_setFault hr (by decide)) dX4_readNumber_130 cw_X4_setFault cvX4_54 (by omega) ok4 rfl hN rfl (Nat.le_of_ble_eq_true rfl) ?_
          rintro v2 R' h2 ⟨rfl, rfl, hr2, hf2⟩
          refine r_iload C dX4_readNumber_133 rfl ?_
          refine r_iret C hrt dX4_readNumber_135 ?_
          rw [hrd]
          exact ⟨rfl, rfl, hr2, hf.tr hf2⟩
        refine r_iconst (v := (nI 3)) C dX4_readNumber_112 (by decide) ?_
        refine r_icmpN_gt C dX4_readNumber_113 (by omega) (by omega) (fun c113 => ?_) (fun c113 => ?_)
        · exact bad (fun z => by omega)
        · refine r_iload C dX4_readNumber_116 rfl ?_
          refine r_iload_n C dX4_readNumber_118 rfl ?_
          refine r_iload_n C dX4_readNumber_119 rfl ?_
          refine r_callSN C c_isWithin dX4_readNumber_120 cw_X10_isWithin cnX4_89 (by omega) rfl hN rfl (Nat.le_of_ble_eq_true rfl) ?_
          rintro v2 R' h2 ⟨rfl, rfl, rfl⟩
          by_cases hw : lo ≤ v ∧ v ≤ hi
          · rw [if_pos hw]
            refine r_if_ne C dX4_readNumber_123 (fun _ => ?_) (fun cc => absurd cc (by decide))
            refine r_iload C dX4_readNumber_133 rfl ?_
            refine r_iret C hrt dX4_readNumber_135 ?_
            rw [if_pos ⟨c113, hw⟩] at hrd
            rw [hrd]
            exact ⟨rfl, rfl, hr, hf⟩
          · rw [if_neg hw]
            refine r_if_ne C dX4_readNumber_123 (fun cc => absurd cc (by decide)) (fun _ => ?_)
            exact bad (fun z => hw z.2)
      · rw [if_pos c90] at hrd
        subst c90
        refine r_aload_n C dX4_readNumber_93 rfl ?_
        refine r_iconst (v := (nI 1)) C dX4_readNumber_94 (by decide) ?_
        refine r_aload_n C dX4_readNumber_95 rfl ?_
        refine q_getV C flX4_15 dX4_readNumber_96 ok4 rfl hr.1 ?_
        refine r_callV C (c_setFault hr (by decide)) dX4_readNumber_99 cw_X4_setFault cvX4_54 (by omega) ok4 rfl hN rfl (Nat.le_of_ble_eq_true rfl) ?_
        rintro v2 R' h2 ⟨rfl, rfl, hr2, hf2⟩
        refine r_goto C dX4_readNumber_102 ?_
        refine r_iload C dX4_readNumber_133 rfl ?_
        refine r_iret C hrt dX4_readNumber_135 ?_
        rw [hrd]
        exact ⟨rfl, rfl, hr2, hf.tr hf2⟩
    intro k
    induction k with
    | zero =>
      intro q v hh hq hsq hr he hf
      have hx2 := hx.fr hf rfl rfl
      refine r_aload_n C dX4_readNumber_14 rfl ?_
      refine q_getV C flX4_15 dX4_readNumber_15 ok4 rfl hr.1 ?_
      refine r_aload_n C dX4_readNumber_18 rfl ?_
      refine q_getV C flX4_34 dX4_readNumber_19 ok7 rfl hx2.1 ?_
      refine r_icmpN_ge C dX4_readNumber_22 (by omega) (by omega) (fun _ => ?_) (fun cc => absurd cc (by omega))
      exact fin q v hh (by omega) hsq hr he hf
    | succ k ih =>
      intro q v hh hq hsq hr he hf
      have hx2 := hx.fr hf rfl rfl
      rw [nmF] at he
      refine r_aload_n C dX4_readNumber_14 rfl ?_
      refine q_getV C flX4_15 dX4_readNumber_15 ok4 rfl hr.1 ?_
      refine r_aload_n C dX4_readNumber_18 rfl ?_
      refine q_getV C flX4_34 dX4_readNumber_19 ok7 rfl hx2.1 ?_
      refine r_icmpN_ge C dX4_readNumber_22 (by omega) (by omega) (fun cc => absurd cc (by omega)) (fun _ => ?_)
      refine r_aload_n C dX4_readNumber_25 rfl ?_
      refine r_getR C flX4_43 dX4_readNumber_26 ok7 rfl rfl ?_
      refine r_aload_n C dX4_readNumber_29 rfl ?_
      refine q_getV C flX4_15 dX4_readNumber_30 ok4 rfl hr.1 ?_
      refine q_ialdV (m := 240) C dX4_readNumber_33 ok26 rfl rfl (by omega) (hx2.2.2 q (by omega)) ?_
      refine r_callS C c_isFigure dX4_readNumber_34 cw_X4_isFigure csX4_86 (by omega) rfl hN rfl (Nat.le_of_ble_eq_true rfl) ?_
      rintro v2 R' h2 ⟨rfl, rfl, rfl⟩
      by_cases hfg : nI 48 ≤ X q ∧ X q ≤ nI 57
      · rw [if_pos hfg] at he
        rw [if_pos hfg]
        refine r_if_eq C dX4_readNumber_37 (fun cc => absurd cc (by decide)) (fun _ => ?_)
        refine r_aload_n C dX4_readNumber_40 rfl ?_
        refine q_getV C flX4_15 dX4_readNumber_41 ok4 rfl hr.1 ?_
        refine r_iload C dX4_readNumber_44 rfl ?_
        refine r_isubN C dX4_readNumber_46 hsq ?_
        refine r_iconst (v := (nI 3)) C dX4_readNumber_47 (by decide) ?_
        refine r_icmpN_ge C dX4_readNumber_48 (by omega) (by omega) (fun c48 => ?_) (fun c48 => ?_)
        · rw [if_neg (by omega)] at he
          refine r_aload_n C dX4_readNumber_71 rfl ?_
          refine r_dup C dX4_readNumber_72 rfl ?_
          refine q_getV C flX4_15 dX4_readNumber_73 ok4 rfl hr.1 ?_
          refine r_iconst (v := (nI 1)) C dX4_readNumber_76 (by decide) ?_
          first | refine r_iaddN C dX4_readNumber_77 ?_ | refine r_iadd C dX4_readNumber_77 ?_
          refine r_putI C flX4_15 dX4_readNumber_78 ok4 rfl ⟨rfl, rfl⟩ ?_
          refine r_goto C dX4_readNumber_81 ?_
          exact ih (q + 1) v _ (by omega) (by omega) ⟨put_same, hr.2.1, hr.2.2⟩ he (Fr.put hf rfl)
        · rw [if_pos c48] at he
          refine r_iload C dX4_readNumber_51 rfl ?_
          refine r_bipush (v := (nI 10)) C dX4_readNumber_53 (by decide) ?_
          first | refine r_imulN C dX4_readNumber_55 ?_ | refine r_imul C dX4_readNumber_55 ?_
          refine r_aload_n C dX4_readNumber_56 rfl ?_
          refine r_getR C flX4_43 dX4_readNumber_57 ok7 rfl rfl ?_
          refine r_aload_n C dX4_readNumber_60 rfl ?_
          refine q_getV C flX4_15 dX4_readNumber_61 ok4 rfl hr.1 ?_
          refine q_ialdV (m := 240) C dX4_readNumber_64 ok26 rfl rfl (by omega) (hx2.2.2 q (by omega)) ?_
          first | refine r_iaddN C dX4_readNumber_65 ?_ | refine r_iadd C dX4_readNumber_65 ?_
          refine r_bipush (v := (nI 48)) C dX4_readNumber_66 (by decide) ?_
          refine r_isub C dX4_readNumber_68 ?_
          refine r_istore C dX4_readNumber_69 st5 ?_
          refine r_aload_n C dX4_readNumber_71 rfl ?_
          refine r_dup C dX4_readNumber_72 rfl ?_
          refine q_getV C flX4_15 dX4_readNumber_73 ok4 rfl hr.1 ?_
          refine r_iconst (v := (nI 1)) C dX4_readNumber_76 (by decide) ?_
          first | refine r_iaddN C dX4_readNumber_77 ?_ | refine r_iadd C dX4_readNumber_77 ?_
          refine r_putI C flX4_15 dX4_readNumber_78 ok4 rfl ⟨rfl, rfl⟩ ?_
          refine r_goto C dX4_readNumber_81 ?_
          exact ih (q + 1) _ _ (by omega) (by omega) ⟨put_same, hr.2.1, hr.2.2⟩ he (Fr.put hf rfl)
      · rw [if_neg hfg] at he
        rw [if_neg hfg]
        refine r_if_eq C dX4_readNumber_37 (fun _ => ?_) (fun cc => absurd cc (by decide))
        exact fin q v _ (by omega) hsq hr he hf
  exact loop (n - skN X n p) (skN X n p) (nI 0) h1 (by omega) (Nat.le_refl _) hr1 rfl hf1
def s417 : Nat → Nat → Bool := fun k _ => k == 4 || k == 17
theorem s4_s417 : ∀ k j, s4 k j = true → s417 k j = true := by
  intro k j hh
  simp only [s4, beq_iff_eq] at hh
  simp [s417, hh]
theorem nos_num : ∀ cl, cl < 5 → numV.getD cl 0 = nI (nosF cl) ∧ nosF cl ≤ 3 := by decide
set_option maxRecDepth 100000 in
set_option maxHeartbeats 4000000 in
theorem c_readNumbers {E : Ev} {a b n p cl : Nat} {h : HF} {X : Nat → Int32} {pl : Int32} (hx : txp h n X) (hr : rdp h p 0 pl) (hp : p ≤ n) (hcl : cl < 5) : Ct E 3 yX4_readNumbers cX4_readNumbers 5 none [aR 4 0, aR 7 0, aI (nI cl)] 243 (Rs a b) h 243 (fun v R' h' => v = none ∧ R' = Rs a b ∧ ((ffF X n cl p (nosF cl) 0).1 = 0 → rdp h' (rpF X n cl p (nosF cl)) 0 pl ∧ ∀ i, i < nosF cl → h' 17 0 i = (rrF X n cl p i).2.1) ∧ ((ffF X n cl p (nosF cl) 0).1 ≠ 0 → ∃ p', p' ≤ n ∧ rdp h' p' (ffF X n cl p (nosF cl) 0).1 (nI (ffF X n cl p (nosF cl) 0).2)) ∧ Fr s417 h h') := by
  refine Ct.of 2 (L0 := [some (aR 4 0), some (aR 7 0), some (aI (nI cl)), none, none]) (by decide) ⟨Nat.le_refl _, Nat.le_refl _⟩ rfl rfl ?_
  intro G C hg hrt hnm
  have hN : gn G ≤ 243 ∧ 243 ≤ 243 ∧ 243 ≤ 243 := ⟨by omega, by decide, by decide⟩
  obtain ⟨hnum, hnos⟩ := nos_num cl hcl
  have hlen : numV.length = 5 := rfl
  refine r_iconst (v := (nI 0)) C dX4_readNumbers_0 (by decide) ?_
  refine r_istore_n C dX4_readNumbers_1 st3 ?_
  have loop : ∀ k i hh L4, i + k = nosF cl → rdp hh (rpF X n cl p i) 0 pl → (∀ i', i' < i → hh 17 0 i' = (rrF X n cl p i').2.1) → ffF X n cl p k i = ffF X n cl p (nosF cl) 0 → Fr s417 h hh →
      Wa E G 243 (Rs a b) hh (QQ E G 243 (fun v R' h' => v = none ∧ R' = Rs a b ∧ ((ffF X n cl p (nosF cl) 0).1 = 0 → rdp h' (rpF X n cl p (nosF cl)) 0 pl ∧ ∀ i, i < nosF cl → h' 17 0 i = (rrF X n cl p i).2.1) ∧ ((ffF X n cl p (nosF cl) 0).1 ≠ 0 → ∃ p', p' ≤ n ∧ rdp h' p' (ffF X n cl p (nosF cl) 0).1 (nI (ffF X n cl p (nosF cl) 0).2)) ∧ Fr s417 h h')) 2 [some (aR 4 0), some (aR 7 0), some (aI (nI cl)), some (aI (nI i)), L4] [] := by
    intro k
    induction k with
    | zero =>
      intro i hh L4 hi hr hv he hf
      have e : i = nosF cl := by omega
      subst e
      refine r_iload_n C dX4_readNumbers_2 rfl ?_
      refine r_gets C dX4_readNumbers_3 C.2.2.2.2.1.2.2.2.1 (by decide) gsX4_73 ?_
      refine r_iload_n C dX4_readNumbers_6 rfl ?_
      refine r_sti C dX4_readNumbers_7 C.2.2.2.2.1.2.2.2.1 (by decide) rfl (by omega) (by decide) ?_
      rw [hnum]
      refine r_icmpN_ge C dX4_readNumbers_8 (by omega) (by omega) (fun _ => ?_) (fun cc => absurd cc (by omega))
      refine r_vret C hrt dX4_readNumbers_54 ?_
      have e0 : (ffF X n cl p (nosF cl) 0).1 = 0 := by rw [← he]; rfl
      exact ⟨rfl, rfl, fun _ => ⟨hr, hv⟩, fun z => absurd e0 z, hf⟩
    | succ k ih =>
      intro i hh L4 hi hr hv he hf
      have hx2 := hx.fr hf rfl rfl
      have hpb := rpF_b (X := X) (cl := cl) hp i
      rw [ffF] at he
      refine r_iload_n C dX4_readNumbers_2 rfl ?_
      refine r_gets C dX4_readNumbers_3 C.2.2.2.2.1.2.2.2.1 (by decide) gsX4_73 ?_
      refine r_iload_n C dX4_readNumbers_6 rfl ?_
      refine r_sti C dX4_readNumbers_7 C.2.2.2.2.1.2.2.2.1 (by decide) rfl (by omega) (by decide) ?_
      rw [hnum]
      refine r_icmpN_ge C dX4_readNumbers_8 (by omega) (by omega) (fun cc => absurd cc (by omega)) (fun _ => ?_)
      refine r_aload_n C dX4_readNumbers_11 rfl ?_
      refine q_getV C flX4_19 dX4_readNumbers_12 ok4 rfl hr.2.1 ?_
      refine r_if_ne C dX4_readNumbers_15 (fun cc => absurd cc (by decide)) (fun _ => ?_)
      have hlo : lowV.length = 15 := rfl
      have hhi : higV.length = 15 := rfl
      have hci : cl * 3 + i < 15 := by omega
      refine r_iload_n C dX4_readNumbers_18 rfl ?_
      refine r_iconst (v := (nI 3)) C dX4_readNumbers_19 (by decide) ?_
      first | refine r_imulN C dX4_readNumbers_20 ?_ | refine r_imul C dX4_readNumbers_20 ?_
      refine r_iload_n C dX4_readNumbers_21 rfl ?_
      first | refine r_iaddN C dX4_readNumbers_22 ?_ | refine r_iadd C dX4_readNumbers_22 ?_
      refine r_istore C dX4_readNumbers_23 st4 ?_
      refine r_aload_n C dX4_readNumbers_25 rfl ?_
      refine r_getR C flX4_11 dX4_readNumbers_26 ok4 rfl rfl ?_
      refine r_iload_n C dX4_readNumbers_29 rfl ?_
      refine r_aload_n C dX4_readNumbers_30 rfl ?_
      refine r_aload_n C dX4_readNumbers_31 rfl ?_
      refine r_gets C dX4_readNumbers_32 C.2.2.2.2.1.2.2.2.2.1 (by decide) gsX4_76 ?_
      refine r_iload C dX4_readNumbers_35 rfl ?_
      refine r_sti C dX4_readNumbers_37 C.2.2.2.2.1.2.2.2.2.1 (by decide) rfl (by omega) (by decide) ?_
      refine r_gets C dX4_readNumbers_38 C.2.2.2.2.1.2.2.2.2.2 (by decide) gsX4_79 ?_
      refine r_iload C dX4_readNumbers_41 rfl ?_
      refine r_sti C dX4_readNumbers_43 C.2.2.2.2.1.2.2.2.2.2 (by decide) rfl (by omega) (by decide) ?_
      refine r_callV C (c_readNumber hx2 hr hpb.2) dX4_readNumbers_44 cw_X4_readNumber cvX4_82 (by omega) ok4 rfl hN rfl (Nat.le_of_ble_eq_true rfl) ?_
      rintro v R' h2 ⟨rfl, rfl, hr2, hf2⟩
      have hff := hf.tr (hf2.wk s4_s417)
      refine q_iast (m := 3) C dX4_readNumbers_47 ok17 rfl rfl (by omega) ?_
      first | refine r_iincN C dX4_readNumbers_48 rfl st3 ?_ | refine r_iinc C dX4_readNumbers_48 rfl rfl st3 ?_
      refine r_goto C dX4_readNumbers_51 ?_
      by_cases hz : (rrF X n cl p i).2.2.1 = 0
      · rw [if_pos hz] at he
        have hz' : (rdn X n (rpF X n cl p i) (lowV.getD (cl * 3 + i) 0) (higV.getD (cl * 3 + i) 0)).2.2.1 = 0 := hz
        rw [if_pos hz', hz'] at hr2
        refine ih (i + 1) _ _ (by omega) hr2 (fun i' hi' => ?_) he (Fr.put hff rfl)
        by_cases e : i' = i
        · subst e; exact put_same
        · rw [put_i e, hf2 17 0 rfl]; exact hv i' (by omega)
      · rw [if_neg hz] at he
        have hz' : ¬ (rdn X n (rpF X n cl p i) (lowV.getD (cl * 3 + i) 0) (higV.getD (cl * 3 + i) 0)).2.2.1 = 0 := hz
        rw [if_neg hz'] at hr2
        have hb2 := rdn_b (X := X) (lo := lowV.getD (cl * 3 + i) 0) (hi := higV.getD (cl * 3 + i) 0) hpb.2
        have fin : (ffF X n cl p (nosF cl) 0).1 ≠ 0 := by rw [← he]; exact hz
        have endd : ∀ L3 L4, Wa E G 243 (Rs a b) (put h2 17 0 i (rdn X n (rpF X n cl p i) (lowV.getD (cl * 3 + i) 0) (higV.getD (cl * 3 + i) 0)).2.1) (QQ E G 243 (fun v R' h' => v = none ∧ R' = Rs a b ∧ ((ffF X n cl p (nosF cl) 0).1 = 0 → rdp h' (rpF X n cl p (nosF cl)) 0 pl ∧ ∀ i, i < nosF cl → h' 17 0 i = (rrF X n cl p i).2.1) ∧ ((ffF X n cl p (nosF cl) 0).1 ≠ 0 → ∃ p', p' ≤ n ∧ rdp h' p' (ffF X n cl p (nosF cl) 0).1 (nI (ffF X n cl p (nosF cl) 0).2)) ∧ Fr s417 h h')) 54 [some (aR 4 0), some (aR 7 0), some (aI (nI cl)), L3, L4] [] := by
          intro L3 L4
          refine r_vret C hrt dX4_readNumbers_54 ?_
          refine ⟨rfl, rfl, fun z => absurd z fin, fun _ => ⟨_, hb2.2.1, ?_⟩, Fr.put hff rfl⟩
          rw [← he]
          exact hr2
        refine r_iload_n C dX4_readNumbers_2 rfl ?_
        refine r_gets C dX4_readNumbers_3 C.2.2.2.2.1.2.2.2.1 (by decide) gsX4_73 ?_
        refine r_iload_n C dX4_readNumbers_6 rfl ?_
        refine r_sti C dX4_readNumbers_7 C.2.2.2.2.1.2.2.2.1 (by decide) rfl (by omega) (by decide) ?_
        rw [hnum]
        refine r_icmpN_ge C dX4_readNumbers_8 (by omega) (by omega) (fun c8 => ?_) (fun c8 => ?_)
        · exact endd _ _
        · refine r_aload_n C dX4_readNumbers_11 rfl ?_
          refine q_getV C flX4_19 dX4_readNumbers_12 ok4 rfl (show _ = nI _ from hr2.2.1) ?_
          refine r_if_ne C dX4_readNumbers_15 (fun _ => ?_) (fun cc => absurd cc (by exact fun z => nI_ne0 (by omega) (by omega) z))
          exact endd _ _
  exact loop (nosF cl) 0 h none (by omega) hr (fun i hi => by omega) rfl Fr.rf
end
