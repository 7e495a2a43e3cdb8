section
-- ===== PART A: goes FIRST, ahead of the names: the tables' words, and 'selects' of the private methods out of them =====
/-- a private method of a class that the tables say can be made, by its rows of tables_1 -/
def lw_okq (q : MethodName × Nat) : Prop := (q.1.cls ≠ "java/lang/invoke/MethodHandle" ∧ q.1.cls ≠ "java/lang/invoke/VarHandle") ∧ Cond.instantiable q.1.cls q.2 ∈ tables_1 ∧ Cond.privateMethod q.1 ∈ tables_1 ∧ Cond.instanceMethod q.1 ∈ tables_1
theorem lw_p0 : lw_okq (⟨"SiegePlate$Reader", "skipBlanks", "(LSiegePlate$Text;)V"⟩, 4) := ⟨⟨by decide +kernel, by decide +kernel⟩, List.mem_of_getElem? (i := 40) (by decide +kernel), List.mem_of_getElem? (i := 383) (by decide +kernel), List.mem_of_getElem? (i := 384) (by decide +kernel)⟩
theorem lw_p1 : lw_okq (⟨"SiegePlate$Reader", "readClause", "(LSiegePlate$Text;LSiegePlate$Town;)V"⟩, 4) := ⟨⟨by decide +kernel, by decide +kernel⟩, List.mem_of_getElem? (i := 40) (by decide +kernel), List.mem_of_getElem? (i := 387) (by decide +kernel), List.mem_of_getElem? (i := 388) (by decide +kernel)⟩
theorem lw_p2 : lw_okq (⟨"SiegePlate$Reader", "setFault", "(II)V"⟩, 4) := ⟨⟨by decide +kernel, by decide +kernel⟩, List.mem_of_getElem? (i := 40) (by decide +kernel), List.mem_of_getElem? (i := 394) (by decide +kernel), List.mem_of_getElem? (i := 395) (by decide +kernel)⟩
theorem lw_p3 : lw_okq (⟨"SiegePlate$Reader", "readNumbers", "(LSiegePlate$Text;I)V"⟩, 4) := ⟨⟨by decide +kernel, by decide +kernel⟩, List.mem_of_getElem? (i := 40) (by decide +kernel), List.mem_of_getElem? (i := 402) (by decide +kernel), List.mem_of_getElem? (i := 403) (by decide +kernel)⟩
theorem lw_p4 : lw_okq (⟨"SiegePlate$Reader", "readNumber", "(LSiegePlate$Text;II)I"⟩, 4) := ⟨⟨by decide +kernel, by decide +kernel⟩, List.mem_of_getElem? (i := 40) (by decide +kernel), List.mem_of_getElem? (i := 412) (by decide +kernel), List.mem_of_getElem? (i := 413) (by decide +kernel)⟩
theorem lw_p5 : lw_okq (⟨"SiegePlate$Reader", "readEnd", "(LSiegePlate$Text;)V"⟩, 4) := ⟨⟨by decide +kernel, by decide +kernel⟩, List.mem_of_getElem? (i := 40) (by decide +kernel), List.mem_of_getElem? (i := 420) (by decide +kernel), List.mem_of_getElem? (i := 421) (by decide +kernel)⟩
theorem lw_p6 : lw_okq (⟨"SiegePlate$Town", "addStores", "(II)V"⟩, 16) := ⟨⟨by decide +kernel, by decide +kernel⟩, List.mem_of_getElem? (i := 61) (by decide +kernel), List.mem_of_getElem? (i := 429) (by decide +kernel), List.mem_of_getElem? (i := 430) (by decide +kernel)⟩
theorem lw_p7 : lw_okq (⟨"SiegePlate$Town", "addCompany", "(III)V"⟩, 16) := ⟨⟨by decide +kernel, by decide +kernel⟩, List.mem_of_getElem? (i := 61) (by decide +kernel), List.mem_of_getElem? (i := 433) (by decide +kernel), List.mem_of_getElem? (i := 434) (by decide +kernel)⟩
theorem lw_p8 : lw_okq (⟨"SiegePlate$Town", "addMoney", "(III)V"⟩, 16) := ⟨⟨by decide +kernel, by decide +kernel⟩, List.mem_of_getElem? (i := 61) (by decide +kernel), List.mem_of_getElem? (i := 437) (by decide +kernel), List.mem_of_getElem? (i := 438) (by decide +kernel)⟩
theorem lw_p9 : lw_okq (⟨"SiegePlate$Town", "addGood", "(I)V"⟩, 16) := ⟨⟨by decide +kernel, by decide +kernel⟩, List.mem_of_getElem? (i := 61) (by decide +kernel), List.mem_of_getElem? (i := 441) (by decide +kernel), List.mem_of_getElem? (i := 442) (by decide +kernel)⟩
theorem lw_p10 : lw_okq (⟨"SiegePlate$Town", "addHorse", "(II)V"⟩, 16) := ⟨⟨by decide +kernel, by decide +kernel⟩, List.mem_of_getElem? (i := 61) (by decide +kernel), List.mem_of_getElem? (i := 445) (by decide +kernel), List.mem_of_getElem? (i := 446) (by decide +kernel)⟩
theorem lw_p11 : lw_okq (⟨"SiegePlate", "beginSiege", "()V"⟩, 12) := ⟨⟨by decide +kernel, by decide +kernel⟩, List.mem_of_getElem? (i := 15) (by decide +kernel), List.mem_of_getElem? (i := 449) (by decide +kernel), List.mem_of_getElem? (i := 450) (by decide +kernel)⟩
theorem lw_p12 : lw_okq (⟨"SiegePlate", "isCompany", "(I)Z"⟩, 12) := ⟨⟨by decide +kernel, by decide +kernel⟩, List.mem_of_getElem? (i := 15) (by decide +kernel), List.mem_of_getElem? (i := 481) (by decide +kernel), List.mem_of_getElem? (i := 482) (by decide +kernel)⟩
theorem lw_p13 : lw_okq (⟨"SiegePlate", "isMoney", "(I)Z"⟩, 12) := ⟨⟨by decide +kernel, by decide +kernel⟩, List.mem_of_getElem? (i := 15) (by decide +kernel), List.mem_of_getElem? (i := 490) (by decide +kernel), List.mem_of_getElem? (i := 491) (by decide +kernel)⟩
theorem lw_p14 : lw_okq (⟨"SiegePlate", "refusalOfDays", "(II)I"⟩, 12) := ⟨⟨by decide +kernel, by decide +kernel⟩, List.mem_of_getElem? (i := 15) (by decide +kernel), List.mem_of_getElem? (i := 498) (by decide +kernel), List.mem_of_getElem? (i := 499) (by decide +kernel)⟩
theorem lw_p15 : lw_okq (⟨"SiegePlate", "isBesieged", "()Z"⟩, 12) := ⟨⟨by decide +kernel, by decide +kernel⟩, List.mem_of_getElem? (i := 15) (by decide +kernel), List.mem_of_getElem? (i := 505) (by decide +kernel), List.mem_of_getElem? (i := 506) (by decide +kernel)⟩
def lw_privs_1 : List (MethodName × Nat) := [(⟨"SiegePlate$Reader", "skipBlanks", "(LSiegePlate$Text;)V"⟩, 4), (⟨"SiegePlate$Reader", "readClause", "(LSiegePlate$Text;LSiegePlate$Town;)V"⟩, 4), (⟨"SiegePlate$Reader", "setFault", "(II)V"⟩, 4), (⟨"SiegePlate$Reader", "readNumbers", "(LSiegePlate$Text;I)V"⟩, 4), (⟨"SiegePlate$Reader", "readNumber", "(LSiegePlate$Text;II)I"⟩, 4), (⟨"SiegePlate$Reader", "readEnd", "(LSiegePlate$Text;)V"⟩, 4), (⟨"SiegePlate$Town", "addStores", "(II)V"⟩, 16), (⟨"SiegePlate$Town", "addCompany", "(III)V"⟩, 16), (⟨"SiegePlate$Town", "addMoney", "(III)V"⟩, 16), (⟨"SiegePlate$Town", "addGood", "(I)V"⟩, 16), (⟨"SiegePlate$Town", "addHorse", "(II)V"⟩, 16), (⟨"SiegePlate", "beginSiege", "()V"⟩, 12), (⟨"SiegePlate", "isCompany", "(I)Z"⟩, 12), (⟨"SiegePlate", "isMoney", "(I)Z"⟩, 12), (⟨"SiegePlate", "refusalOfDays", "(II)I"⟩, 12), (⟨"SiegePlate", "isBesieged", "()Z"⟩, 12)]
theorem lw_r1 : ∀ q ∈ lw_privs_1, lw_okq q := List.forall_mem_cons.mpr ⟨lw_p0, List.forall_mem_cons.mpr ⟨lw_p1, List.forall_mem_cons.mpr ⟨lw_p2, List.forall_mem_cons.mpr ⟨lw_p3, List.forall_mem_cons.mpr ⟨lw_p4, List.forall_mem_cons.mpr ⟨lw_p5, List.forall_mem_cons.mpr ⟨lw_p6, List.forall_mem_cons.mpr ⟨lw_p7, List.forall_mem_cons.mpr ⟨lw_p8, List.forall_mem_cons.mpr ⟨lw_p9, List.forall_mem_cons.mpr ⟨lw_p10, List.forall_mem_cons.mpr ⟨lw_p11, List.forall_mem_cons.mpr ⟨lw_p12, List.forall_mem_cons.mpr ⟨lw_p13, List.forall_mem_cons.mpr ⟨lw_p14, List.forall_mem_cons.mpr ⟨lw_p15, fun _ h => absurd h List.not_mem_nil⟩⟩⟩⟩⟩⟩⟩⟩⟩⟩⟩⟩⟩⟩⟩⟩
theorem lw_p16 : lw_okq (⟨"SiegePlate$Camp", "isFed", "(II)Z"⟩, 6) := ⟨⟨by decide +kernel, by decide +kernel⟩, List.mem_of_getElem? (i := 147) (by decide +kernel), List.mem_of_getElem? (i := 537) (by decide +kernel), List.mem_of_getElem? (i := 538) (by decide +kernel)⟩
theorem lw_p17 : lw_okq (⟨"SiegePlate$Camp", "starve", "(II)V"⟩, 6) := ⟨⟨by decide +kernel, by decide +kernel⟩, List.mem_of_getElem? (i := 147) (by decide +kernel), List.mem_of_getElem? (i := 541) (by decide +kernel), List.mem_of_getElem? (i := 542) (by decide +kernel)⟩
theorem lw_p18 : lw_okq (⟨"SiegePlate$Siege", "payCompany", "(III)V"⟩, 7) := ⟨⟨by decide +kernel, by decide +kernel⟩, List.mem_of_getElem? (i := 141) (by decide +kernel), List.mem_of_getElem? (i := 546) (by decide +kernel), List.mem_of_getElem? (i := 547) (by decide +kernel)⟩
theorem lw_p19 : lw_okq (⟨"SiegePlate", "passDayByDraws", "(I)V"⟩, 12) := ⟨⟨by decide +kernel, by decide +kernel⟩, List.mem_of_getElem? (i := 15) (by decide +kernel), List.mem_of_getElem? (i := 579) (by decide +kernel), List.mem_of_getElem? (i := 580) (by decide +kernel)⟩
theorem lw_p20 : lw_okq (⟨"SiegePlate", "nextDraw", "()I"⟩, 12) := ⟨⟨by decide +kernel, by decide +kernel⟩, List.mem_of_getElem? (i := 15) (by decide +kernel), List.mem_of_getElem? (i := 583) (by decide +kernel), List.mem_of_getElem? (i := 584) (by decide +kernel)⟩
theorem lw_p21 : lw_okq (⟨"SiegePlate", "isGood", "(I)Z"⟩, 12) := ⟨⟨by decide +kernel, by decide +kernel⟩, List.mem_of_getElem? (i := 15) (by decide +kernel), List.mem_of_getElem? (i := 602) (by decide +kernel), List.mem_of_getElem? (i := 603) (by decide +kernel)⟩
theorem lw_p22 : lw_okq (⟨"SiegePlate", "worthWithin", "(II)I"⟩, 12) := ⟨⟨by decide +kernel, by decide +kernel⟩, List.mem_of_getElem? (i := 15) (by decide +kernel), List.mem_of_getElem? (i := 613) (by decide +kernel), List.mem_of_getElem? (i := 614) (by decide +kernel)⟩
theorem lw_p23 : lw_okq (⟨"SiegePlate$Trials", "compareRow", "(ILSiegePlate$Camp;)V"⟩, 5) := ⟨⟨by decide +kernel, by decide +kernel⟩, List.mem_of_getElem? (i := 231) (by decide +kernel), List.mem_of_getElem? (i := 635) (by decide +kernel), List.mem_of_getElem? (i := 636) (by decide +kernel)⟩
theorem lw_p24 : lw_okq (⟨"SiegePlate$Trials", "strikeGreatestDebt", "(I)I"⟩, 5) := ⟨⟨by decide +kernel, by decide +kernel⟩, List.mem_of_getElem? (i := 231) (by decide +kernel), List.mem_of_getElem? (i := 680) (by decide +kernel), List.mem_of_getElem? (i := 681) (by decide +kernel)⟩
theorem lw_p25 : lw_okq (⟨"SiegePlate$Shown", "bearsStampOfDead", "(I)Z"⟩, 6) := ⟨⟨by decide +kernel, by decide +kernel⟩, List.mem_of_getElem? (i := 258) (by decide +kernel), List.mem_of_getElem? (i := 712) (by decide +kernel), List.mem_of_getElem? (i := 713) (by decide +kernel)⟩
theorem lw_p26 : lw_okq (⟨"SiegePlateModel", "here", "()I"⟩, 41) := ⟨⟨by decide +kernel, by decide +kernel⟩, List.mem_of_getElem? (i := 757) (by decide +kernel), List.mem_of_getElem? (i := 902) (by decide +kernel), List.mem_of_getElem? (i := 903) (by decide +kernel)⟩
theorem lw_p27 : lw_okq (⟨"SiegePlateModel", "letterAt", "(I)I"⟩, 41) := ⟨⟨by decide +kernel, by decide +kernel⟩, List.mem_of_getElem? (i := 757) (by decide +kernel), List.mem_of_getElem? (i := 906) (by decide +kernel), List.mem_of_getElem? (i := 907) (by decide +kernel)⟩
theorem lw_p28 : lw_okq (⟨"SiegePlateModel", "takesClause", "()Z"⟩, 41) := ⟨⟨by decide +kernel, by decide +kernel⟩, List.mem_of_getElem? (i := 757) (by decide +kernel), List.mem_of_getElem? (i := 910) (by decide +kernel), List.mem_of_getElem? (i := 911) (by decide +kernel)⟩
theorem lw_p29 : lw_okq (⟨"SiegePlateModel", "fails", "(II)Z"⟩, 41) := ⟨⟨by decide +kernel, by decide +kernel⟩, List.mem_of_getElem? (i := 757) (by decide +kernel), List.mem_of_getElem? (i := 914) (by decide +kernel), List.mem_of_getElem? (i := 915) (by decide +kernel)⟩
theorem lw_p30 : lw_okq (⟨"SiegePlateModel", "takesWords", "(I)Z"⟩, 41) := ⟨⟨by decide +kernel, by decide +kernel⟩, List.mem_of_getElem? (i := 757) (by decide +kernel), List.mem_of_getElem? (i := 918) (by decide +kernel), List.mem_of_getElem? (i := 919) (by decide +kernel)⟩
theorem lw_p31 : lw_okq (⟨"SiegePlateModel", "takesTown", "()Z"⟩, 41) := ⟨⟨by decide +kernel, by decide +kernel⟩, List.mem_of_getElem? (i := 757) (by decide +kernel), List.mem_of_getElem? (i := 922) (by decide +kernel), List.mem_of_getElem? (i := 923) (by decide +kernel)⟩
def lw_privs_2 : List (MethodName × Nat) := [(⟨"SiegePlate$Camp", "isFed", "(II)Z"⟩, 6), (⟨"SiegePlate$Camp", "starve", "(II)V"⟩, 6), (⟨"SiegePlate$Siege", "payCompany", "(III)V"⟩, 7), (⟨"SiegePlate", "passDayByDraws", "(I)V"⟩, 12), (⟨"SiegePlate", "nextDraw", "()I"⟩, 12), (⟨"SiegePlate", "isGood", "(I)Z"⟩, 12), (⟨"SiegePlate", "worthWithin", "(II)I"⟩, 12), (⟨"SiegePlate$Trials", "compareRow", "(ILSiegePlate$Camp;)V"⟩, 5), (⟨"SiegePlate$Trials", "strikeGreatestDebt", "(I)I"⟩, 5), (⟨"SiegePlate$Shown", "bearsStampOfDead", "(I)Z"⟩, 6), (⟨"SiegePlateModel", "here", "()I"⟩, 41), (⟨"SiegePlateModel", "letterAt", "(I)I"⟩, 41), (⟨"SiegePlateModel", "takesClause", "()Z"⟩, 41), (⟨"SiegePlateModel", "fails", "(II)Z"⟩, 41), (⟨"SiegePlateModel", "takesWords", "(I)Z"⟩, 41), (⟨"SiegePlateModel", "takesTown", "()Z"⟩, 41)]
theorem lw_r2 : ∀ q ∈ lw_privs_2, lw_okq q := List.forall_mem_cons.mpr ⟨lw_p16, List.forall_mem_cons.mpr ⟨lw_p17, List.forall_mem_cons.mpr ⟨lw_p18, List.forall_mem_cons.mpr ⟨lw_p19, List.forall_mem_cons.mpr ⟨lw_p20, List.forall_mem_cons.mpr ⟨lw_p21, List.forall_mem_cons.mpr ⟨lw_p22, List.forall_mem_cons.mpr ⟨lw_p23, List.forall_mem_cons.mpr ⟨lw_p24, List.forall_mem_cons.mpr ⟨lw_p25, List.forall_mem_cons.mpr ⟨lw_p26, List.forall_mem_cons.mpr ⟨lw_p27, List.forall_mem_cons.mpr ⟨lw_p28, List.forall_mem_cons.mpr ⟨lw_p29, List.forall_mem_cons.mpr ⟨lw_p30, List.forall_mem_cons.mpr ⟨lw_p31, fun _ h => absurd h List.not_mem_nil⟩⟩⟩⟩⟩⟩⟩⟩⟩⟩⟩⟩⟩⟩⟩⟩
theorem lw_p32 : lw_okq (⟨"SiegePlateModel", "takesNumber", "(II)Z"⟩, 41) := ⟨⟨by decide +kernel, by decide +kernel⟩, List.mem_of_getElem? (i := 757) (by decide +kernel), List.mem_of_getElem? (i := 926) (by decide +kernel), List.mem_of_getElem? (i := 927) (by decide +kernel)⟩
theorem lw_p33 : lw_okq (⟨"SiegePlateModel", "takesCompany", "()Z"⟩, 41) := ⟨⟨by decide +kernel, by decide +kernel⟩, List.mem_of_getElem? (i := 757) (by decide +kernel), List.mem_of_getElem? (i := 932) (by decide +kernel), List.mem_of_getElem? (i := 933) (by decide +kernel)⟩
theorem lw_p34 : lw_okq (⟨"SiegePlateModel", "takesKind", "()Z"⟩, 41) := ⟨⟨by decide +kernel, by decide +kernel⟩, List.mem_of_getElem? (i := 757) (by decide +kernel), List.mem_of_getElem? (i := 936) (by decide +kernel), List.mem_of_getElem? (i := 937) (by decide +kernel)⟩
theorem lw_p35 : lw_okq (⟨"SiegePlateModel", "takesGood", "()Z"⟩, 41) := ⟨⟨by decide +kernel, by decide +kernel⟩, List.mem_of_getElem? (i := 757) (by decide +kernel), List.mem_of_getElem? (i := 940) (by decide +kernel), List.mem_of_getElem? (i := 941) (by decide +kernel)⟩
theorem lw_p36 : lw_okq (⟨"SiegePlateModel", "takesHorse", "()Z"⟩, 41) := ⟨⟨by decide +kernel, by decide +kernel⟩, List.mem_of_getElem? (i := 757) (by decide +kernel), List.mem_of_getElem? (i := 944) (by decide +kernel), List.mem_of_getElem? (i := 945) (by decide +kernel)⟩
theorem lw_p37 : lw_okq (⟨"SiegePlateModel", "takes", "(I)Z"⟩, 41) := ⟨⟨by decide +kernel, by decide +kernel⟩, List.mem_of_getElem? (i := 757) (by decide +kernel), List.mem_of_getElem? (i := 948) (by decide +kernel), List.mem_of_getElem? (i := 949) (by decide +kernel)⟩
theorem lw_p38 : lw_okq (⟨"SiegePlateModel", "menIn", "(I)I"⟩, 41) := ⟨⟨by decide +kernel, by decide +kernel⟩, List.mem_of_getElem? (i := 757) (by decide +kernel), List.mem_of_getElem? (i := 960) (by decide +kernel), List.mem_of_getElem? (i := 961) (by decide +kernel)⟩
theorem lw_p39 : lw_okq (⟨"SiegePlateModel", "isCompany", "(I)Z"⟩, 41) := ⟨⟨by decide +kernel, by decide +kernel⟩, List.mem_of_getElem? (i := 757) (by decide +kernel), List.mem_of_getElem? (i := 968) (by decide +kernel), List.mem_of_getElem? (i := 969) (by decide +kernel)⟩
theorem lw_p40 : lw_okq (⟨"SiegePlateModel", "isMoney", "(I)Z"⟩, 41) := ⟨⟨by decide +kernel, by decide +kernel⟩, List.mem_of_getElem? (i := 757) (by decide +kernel), List.mem_of_getElem? (i := 977) (by decide +kernel), List.mem_of_getElem? (i := 978) (by decide +kernel)⟩
theorem lw_p41 : lw_okq (⟨"SiegePlateModel", "copy", "(II)V"⟩, 41) := ⟨⟨by decide +kernel, by decide +kernel⟩, List.mem_of_getElem? (i := 757) (by decide +kernel), List.mem_of_getElem? (i := 986) (by decide +kernel), List.mem_of_getElem? (i := 987) (by decide +kernel)⟩
theorem lw_p42 : lw_okq (⟨"SiegePlateModel", "isOver", "()Z"⟩, 41) := ⟨⟨by decide +kernel, by decide +kernel⟩, List.mem_of_getElem? (i := 757) (by decide +kernel), List.mem_of_getElem? (i := 999) (by decide +kernel), List.mem_of_getElem? (i := 1000) (by decide +kernel)⟩
theorem lw_p43 : lw_okq (⟨"SiegePlateModel", "minds", "()V"⟩, 41) := ⟨⟨by decide +kernel, by decide +kernel⟩, List.mem_of_getElem? (i := 757) (by decide +kernel), List.mem_of_getElem? (i := 1003) (by decide +kernel), List.mem_of_getElem? (i := 1004) (by decide +kernel)⟩
theorem lw_p44 : lw_okq (⟨"SiegePlateModel", "passes", "(II)V"⟩, 41) := ⟨⟨by decide +kernel, by decide +kernel⟩, List.mem_of_getElem? (i := 757) (by decide +kernel), List.mem_of_getElem? (i := 1007) (by decide +kernel), List.mem_of_getElem? (i := 1008) (by decide +kernel)⟩
theorem lw_p45 : lw_okq (⟨"SiegePlateModel", "eats", "(III)Z"⟩, 41) := ⟨⟨by decide +kernel, by decide +kernel⟩, List.mem_of_getElem? (i := 757) (by decide +kernel), List.mem_of_getElem? (i := 1011) (by decide +kernel), List.mem_of_getElem? (i := 1012) (by decide +kernel)⟩
theorem lw_p46 : lw_okq (⟨"SiegePlateModel", "isPaid", "(II)V"⟩, 41) := ⟨⟨by decide +kernel, by decide +kernel⟩, List.mem_of_getElem? (i := 757) (by decide +kernel), List.mem_of_getElem? (i := 1015) (by decide +kernel), List.mem_of_getElem? (i := 1016) (by decide +kernel)⟩
theorem lw_p47 : lw_okq (⟨"SiegePlateModel", "hears", "(I)V"⟩, 41) := ⟨⟨by decide +kernel, by decide +kernel⟩, List.mem_of_getElem? (i := 757) (by decide +kernel), List.mem_of_getElem? (i := 1023) (by decide +kernel), List.mem_of_getElem? (i := 1024) (by decide +kernel)⟩
def lw_privs_3 : List (MethodName × Nat) := [(⟨"SiegePlateModel", "takesNumber", "(II)Z"⟩, 41), (⟨"SiegePlateModel", "takesCompany", "()Z"⟩, 41), (⟨"SiegePlateModel", "takesKind", "()Z"⟩, 41), (⟨"SiegePlateModel", "takesGood", "()Z"⟩, 41), (⟨"SiegePlateModel", "takesHorse", "()Z"⟩, 41), (⟨"SiegePlateModel", "takes", "(I)Z"⟩, 41), (⟨"SiegePlateModel", "menIn", "(I)I"⟩, 41), (⟨"SiegePlateModel", "isCompany", "(I)Z"⟩, 41), (⟨"SiegePlateModel", "isMoney", "(I)Z"⟩, 41), (⟨"SiegePlateModel", "copy", "(II)V"⟩, 41), (⟨"SiegePlateModel", "isOver", "()Z"⟩, 41), (⟨"SiegePlateModel", "minds", "()V"⟩, 41), (⟨"SiegePlateModel", "passes", "(II)V"⟩, 41), (⟨"SiegePlateModel", "eats", "(III)Z"⟩, 41), (⟨"SiegePlateModel", "isPaid", "(II)V"⟩, 41), (⟨"SiegePlateModel", "hears", "(I)V"⟩, 41)]
theorem lw_r3 : ∀ q ∈ lw_privs_3, lw_okq q := List.forall_mem_cons.mpr ⟨lw_p32, List.forall_mem_cons.mpr ⟨lw_p33, List.forall_mem_cons.mpr ⟨lw_p34, List.forall_mem_cons.mpr ⟨lw_p35, List.forall_mem_cons.mpr ⟨lw_p36, List.forall_mem_cons.mpr ⟨lw_p37, List.forall_mem_cons.mpr ⟨lw_p38, List.forall_mem_cons.mpr ⟨lw_p39, List.forall_mem_cons.mpr ⟨lw_p40, List.forall_mem_cons.mpr ⟨lw_p41, List.forall_mem_cons.mpr ⟨lw_p42, List.forall_mem_cons.mpr ⟨lw_p43, List.forall_mem_cons.mpr ⟨lw_p44, List.forall_mem_cons.mpr ⟨lw_p45, List.forall_mem_cons.mpr ⟨lw_p46, List.forall_mem_cons.mpr ⟨lw_p47, fun _ h => absurd h List.not_mem_nil⟩⟩⟩⟩⟩⟩⟩⟩⟩⟩⟩⟩⟩⟩⟩⟩
theorem lw_p48 : lw_okq (⟨"SiegePlateModel", "draw", "(I)I"⟩, 41) := ⟨⟨by decide +kernel, by decide +kernel⟩, List.mem_of_getElem? (i := 757) (by decide +kernel), List.mem_of_getElem? (i := 1040) (by decide +kernel), List.mem_of_getElem? (i := 1041) (by decide +kernel)⟩
theorem lw_p49 : lw_okq (⟨"SiegePlateModel", "isGood", "(I)Z"⟩, 41) := ⟨⟨by decide +kernel, by decide +kernel⟩, List.mem_of_getElem? (i := 757) (by decide +kernel), List.mem_of_getElem? (i := 1052) (by decide +kernel), List.mem_of_getElem? (i := 1053) (by decide +kernel)⟩
theorem lw_p50 : lw_okq (⟨"SiegePlateModel", "costsBy", "(II)I"⟩, 41) := ⟨⟨by decide +kernel, by decide +kernel⟩, List.mem_of_getElem? (i := 757) (by decide +kernel), List.mem_of_getElem? (i := 1056) (by decide +kernel), List.mem_of_getElem? (i := 1057) (by decide +kernel)⟩
theorem lw_p51 : lw_okq (⟨"SiegePlateModel", "worthOf", "(II)I"⟩, 41) := ⟨⟨by decide +kernel, by decide +kernel⟩, List.mem_of_getElem? (i := 757) (by decide +kernel), List.mem_of_getElem? (i := 1065) (by decide +kernel), List.mem_of_getElem? (i := 1066) (by decide +kernel)⟩
theorem lw_p52 : lw_okq (⟨"SiegePlateModel", "owedTo", "(II)I"⟩, 41) := ⟨⟨by decide +kernel, by decide +kernel⟩, List.mem_of_getElem? (i := 757) (by decide +kernel), List.mem_of_getElem? (i := 1090) (by decide +kernel), List.mem_of_getElem? (i := 1091) (by decide +kernel)⟩
theorem lw_p53 : lw_okq (⟨"SiegePlateModel", "hungerFor", "(II)I"⟩, 41) := ⟨⟨by decide +kernel, by decide +kernel⟩, List.mem_of_getElem? (i := 757) (by decide +kernel), List.mem_of_getElem? (i := 1102) (by decide +kernel), List.mem_of_getElem? (i := 1103) (by decide +kernel)⟩
theorem lw_p54 : lw_okq (⟨"SiegePlateModel", "isBehind", "(I)Z"⟩, 41) := ⟨⟨by decide +kernel, by decide +kernel⟩, List.mem_of_getElem? (i := 757) (by decide +kernel), List.mem_of_getElem? (i := 1120) (by decide +kernel), List.mem_of_getElem? (i := 1121) (by decide +kernel)⟩
def lw_privs_4 : List (MethodName × Nat) := [(⟨"SiegePlateModel", "draw", "(I)I"⟩, 41), (⟨"SiegePlateModel", "isGood", "(I)Z"⟩, 41), (⟨"SiegePlateModel", "costsBy", "(II)I"⟩, 41), (⟨"SiegePlateModel", "worthOf", "(II)I"⟩, 41), (⟨"SiegePlateModel", "owedTo", "(II)I"⟩, 41), (⟨"SiegePlateModel", "hungerFor", "(II)I"⟩, 41), (⟨"SiegePlateModel", "isBehind", "(I)Z"⟩, 41)]
theorem lw_r4 : ∀ q ∈ lw_privs_4, lw_okq q := List.forall_mem_cons.mpr ⟨lw_p48, List.forall_mem_cons.mpr ⟨lw_p49, List.forall_mem_cons.mpr ⟨lw_p50, List.forall_mem_cons.mpr ⟨lw_p51, List.forall_mem_cons.mpr ⟨lw_p52, List.forall_mem_cons.mpr ⟨lw_p53, List.forall_mem_cons.mpr ⟨lw_p54, fun _ h => absurd h List.not_mem_nil⟩⟩⟩⟩⟩⟩⟩
def lw_privs : List (MethodName × Nat) := lw_privs_1 ++ (lw_privs_2 ++ (lw_privs_3 ++ (lw_privs_4)))
def lw_tbl : List Cond := k2_sels lw_privs ++ tables_1
theorem lw_privs_ok : ∀ q ∈ lw_privs, lw_okq q := by
  show ∀ q ∈ lw_privs_1 ++ (lw_privs_2 ++ (lw_privs_3 ++ (lw_privs_4))), lw_okq q
  exact List.forall_mem_append.mpr ⟨lw_r1, List.forall_mem_append.mpr ⟨lw_r2, List.forall_mem_append.mpr ⟨lw_r3, lw_r4⟩⟩⟩
-- ===== end of PART A; then your names; then what follows =====
def RX0 : String := "SiegePlate$Book"
def TX0 : u_T := fun k => match k with
  | 0 => ("SiegePlate$Book", "companies", "[I", true)
  | 1 => ("SiegePlate$Book", "men", "[I", true)
  | _ => ("SiegePlate$Book", "count", "I", false)
def tyX0 : Nat → FieldType := fun k => match k with
  | 0 => .array .int
  | 1 => .array .int
  | _ => .int
theorem nmX0 : ∀ a, a < 3 → ∀ b, b < 3 → a ≠ b → (TX0 a).2.1 ≠ (TX0 b).2.1 := by decide +kernel
theorem tyX0_ok : ∀ k, k < 3 → parseFieldDescriptor (TX0 k).2.2.1 = some (tyX0 k) := by decide +kernel
abbrev cX0_init : ByteArray := prog_2_method_1_code
def yX0_init : MethodName := ⟨RX0, "<init>", "()V"⟩
abbrev cX0_add : ByteArray := prog_2_method_2_code
def yX0_add : MethodName := ⟨RX0, "add", "(II)V"⟩
abbrev cX0_firstWrong : ByteArray := prog_2_method_3_code
def yX0_firstWrong : MethodName := ⟨RX0, "firstWrong", "(LSiegePlate$Camp;)I"⟩
def RX1 : String := "SiegePlate$Camp"
def TX1 : u_T := fun k => match k with
  | 0 => ("SiegePlate$Camp", "food", "I", false)
  | 1 => ("SiegePlate$Camp", "days", "I", false)
  | 2 => ("SiegePlate$Camp", "men", "[I", true)
  | 3 => ("SiegePlate$Camp", "hungryDays", "[I", true)
  | 4 => ("SiegePlate$Camp", "wasHungry", "Z", false)
  | _ => ("SiegePlate$Camp", "deserted", "I", false)
def tyX1 : Nat → FieldType := fun k => match k with
  | 0 => .int
  | 1 => .int
  | 2 => .array .int
  | 3 => .array .int
  | 4 => .boolean
  | _ => .int
theorem nmX1 : ∀ a, a < 6 → ∀ b, b < 6 → a ≠ b → (TX1 a).2.1 ≠ (TX1 b).2.1 := by decide +kernel
theorem tyX1_ok : ∀ k, k < 6 → parseFieldDescriptor (TX1 k).2.2.1 = some (tyX1 k) := by decide +kernel
abbrev cX1_init : ByteArray := prog_3_method_1_code
def yX1_init : MethodName := ⟨RX1, "<init>", "()V"⟩
abbrev cX1_begin : ByteArray := prog_3_method_2_code
def yX1_begin : MethodName := ⟨RX1, "begin", "(LSiegePlate$Town;)V"⟩
abbrev cX1_become : ByteArray := prog_3_method_3_code
def yX1_become : MethodName := ⟨RX1, "become", "(LSiegePlate$Camp;)V"⟩
abbrev cX1_menOfAll : ByteArray := prog_3_method_4_code
def yX1_menOfAll : MethodName := ⟨RX1, "menOfAll", "()I"⟩
abbrev cX1_eatADay : ByteArray := prog_3_method_5_code
def yX1_eatADay : MethodName := ⟨RX1, "eatADay", "(LSiegePlate$Town;I)V"⟩
abbrev cX1_isFed : ByteArray := prog_3_method_6_code
def yX1_isFed : MethodName := ⟨RX1, "isFed", "(II)Z"⟩
abbrev cX1_starve : ByteArray := prog_3_method_7_code
def yX1_starve : MethodName := ⟨RX1, "starve", "(II)V"⟩
def RX2 : String := "SiegePlate$Image"
def TX2 : u_T := fun k => match k with
  | 0 => ("SiegePlate$Image", "siege", "LSiegePlate$Siege;", true)
  | 1 => ("SiegePlate$Image", "seed", "I", false)
  | _ => ("SiegePlate$Image", "isKept", "Z", false)
def tyX2 : Nat → FieldType := fun k => match k with
  | 0 => .object "SiegePlate$Siege"
  | 1 => .int
  | _ => .boolean
theorem nmX2 : ∀ a, a < 3 → ∀ b, b < 3 → a ≠ b → (TX2 a).2.1 ≠ (TX2 b).2.1 := by decide +kernel
theorem tyX2_ok : ∀ k, k < 3 → parseFieldDescriptor (TX2 k).2.2.1 = some (tyX2 k) := by decide +kernel
abbrev cX2_init : ByteArray := prog_4_method_1_code
def yX2_init : MethodName := ⟨RX2, "<init>", "()V"⟩
def RX3 : String := "SiegePlate$Log"
def TX3 : u_T := fun k => match k with
  | 0 => ("SiegePlate$Log", "sieges", "[LSiegePlate$Siege;", true)
  | 1 => ("SiegePlate$Log", "next", "I", false)
  | _ => ("SiegePlate$Log", "count", "I", false)
def tyX3 : Nat → FieldType := fun k => match k with
  | 0 => .array (.object "SiegePlate$Siege")
  | 1 => .int
  | _ => .int
theorem nmX3 : ∀ a, a < 3 → ∀ b, b < 3 → a ≠ b → (TX3 a).2.1 ≠ (TX3 b).2.1 := by decide +kernel
theorem tyX3_ok : ∀ k, k < 3 → parseFieldDescriptor (TX3 k).2.2.1 = some (tyX3 k) := by decide +kernel
abbrev cX3_init : ByteArray := prog_5_method_1_code
def yX3_init : MethodName := ⟨RX3, "<init>", "()V"⟩
abbrev cX3_clear : ByteArray := prog_5_method_2_code
def yX3_clear : MethodName := ⟨RX3, "clear", "()V"⟩
abbrev cX3_push : ByteArray := prog_5_method_3_code
def yX3_push : MethodName := ⟨RX3, "push", "(LSiegePlate$Siege;)V"⟩
abbrev cX3_popInto : ByteArray := prog_5_method_4_code
def yX3_popInto : MethodName := ⟨RX3, "popInto", "(LSiegePlate$Siege;)V"⟩
def RX4 : String := "SiegePlate$Reader"
def TX4 : u_T := fun k => match k with
  | 0 => ("SiegePlate$Reader", "values", "[I", true)
  | 1 => ("SiegePlate$Reader", "at", "I", false)
  | 2 => ("SiegePlate$Reader", "fault", "I", false)
  | _ => ("SiegePlate$Reader", "place", "I", false)
def tyX4 : Nat → FieldType := fun k => match k with
  | 0 => .array .int
  | 1 => .int
  | 2 => .int
  | _ => .int
theorem nmX4 : ∀ a, a < 4 → ∀ b, b < 4 → a ≠ b → (TX4 a).2.1 ≠ (TX4 b).2.1 := by decide +kernel
theorem tyX4_ok : ∀ k, k < 4 → parseFieldDescriptor (TX4 k).2.2.1 = some (tyX4 k) := by decide +kernel
abbrev cX4_init : ByteArray := prog_6_method_1_code
def yX4_init : MethodName := ⟨RX4, "<init>", "()V"⟩
abbrev cX4_readTown : ByteArray := prog_6_method_2_code
def yX4_readTown : MethodName := ⟨RX4, "readTown", "(LSiegePlate$Text;LSiegePlate$Town;)V"⟩
abbrev cX4_readClause : ByteArray := prog_6_method_3_code
def yX4_readClause : MethodName := ⟨RX4, "readClause", "(LSiegePlate$Text;LSiegePlate$Town;)V"⟩
abbrev cX4_readNumbers : ByteArray := prog_6_method_4_code
def yX4_readNumbers : MethodName := ⟨RX4, "readNumbers", "(LSiegePlate$Text;I)V"⟩
abbrev cX4_readNumber : ByteArray := prog_6_method_5_code
def yX4_readNumber : MethodName := ⟨RX4, "readNumber", "(LSiegePlate$Text;II)I"⟩
abbrev cX4_readEnd : ByteArray := prog_6_method_6_code
def yX4_readEnd : MethodName := ⟨RX4, "readEnd", "(LSiegePlate$Text;)V"⟩
abbrev cX4_skipBlanks : ByteArray := prog_6_method_7_code
def yX4_skipBlanks : MethodName := ⟨RX4, "skipBlanks", "(LSiegePlate$Text;)V"⟩
abbrev cX4_setFault : ByteArray := prog_6_method_8_code
def yX4_setFault : MethodName := ⟨RX4, "setFault", "(II)V"⟩
abbrev cX4_isFigure : ByteArray := prog_6_method_9_code
def yX4_isFigure : MethodName := ⟨RX4, "isFigure", "(I)Z"⟩
abbrev cX4_clauseOf : ByteArray := prog_6_method_10_code
def yX4_clauseOf : MethodName := ⟨RX4, "clauseOf", "(I)I"⟩
def RX5 : String := "SiegePlate$Shown"
def TX5 : u_T := fun k => match k with
  | 0 => ("SiegePlate$Shown", "kind", "[I", true)
  | 1 => ("SiegePlate$Shown", "died", "[I", true)
  | 2 => ("SiegePlate$Shown", "stamped", "[I", true)
  | 3 => ("SiegePlate$Shown", "weighs", "[I", true)
  | 4 => ("SiegePlate$Shown", "toWeigh", "[I", true)
  | _ => ("SiegePlate$Shown", "count", "I", false)
def tyX5 : Nat → FieldType := fun k => match k with
  | 0 => .array .int
  | 1 => .array .int
  | 2 => .array .int
  | 3 => .array .int
  | 4 => .array .int
  | _ => .int
theorem nmX5 : ∀ a, a < 6 → ∀ b, b < 6 → a ≠ b → (TX5 a).2.1 ≠ (TX5 b).2.1 := by decide +kernel
theorem tyX5_ok : ∀ k, k < 6 → parseFieldDescriptor (TX5 k).2.2.1 = some (tyX5 k) := by decide +kernel
abbrev cX5_init : ByteArray := prog_7_method_1_code
def yX5_init : MethodName := ⟨RX5, "<init>", "()V"⟩
abbrev cX5_add : ByteArray := prog_7_method_2_code
def yX5_add : MethodName := ⟨RX5, "add", "(IIII)V"⟩
abbrev cX5_forgedOnes : ByteArray := prog_7_method_3_code
def yX5_forgedOnes : MethodName := ⟨RX5, "forgedOnes", "(LSiegePlate$Town;)I"⟩
abbrev cX5_kindToWeigh : ByteArray := prog_7_method_4_code
def yX5_kindToWeigh : MethodName := ⟨RX5, "kindToWeigh", "(LSiegePlate$Town;)I"⟩
abbrev cX5_bearsStampOfDead : ByteArray := prog_7_method_5_code
def yX5_bearsStampOfDead : MethodName := ⟨RX5, "bearsStampOfDead", "(I)Z"⟩
def RX6 : String := "SiegePlate$Siege"
def TX6 : u_T := fun k => match k with
  | 0 => ("SiegePlate$Siege", "camp", "LSiegePlate$Camp;", true)
  | 1 => ("SiegePlate$Siege", "odds", "I", false)
  | 2 => ("SiegePlate$Siege", "hunger", "I", false)
  | 3 => ("SiegePlate$Siege", "outcome", "I", false)
  | 4 => ("SiegePlate$Siege", "squaresLeft", "[I", true)
  | 5 => ("SiegePlate$Siege", "words", "[I", true)
  | _ => ("SiegePlate$Siege", "paid", "[I", true)
def tyX6 : Nat → FieldType := fun k => match k with
  | 0 => .object "SiegePlate$Camp"
  | 1 => .int
  | 2 => .int
  | 3 => .int
  | 4 => .array .int
  | 5 => .array .int
  | _ => .array .int
theorem nmX6 : ∀ a, a < 7 → ∀ b, b < 7 → a ≠ b → (TX6 a).2.1 ≠ (TX6 b).2.1 := by decide +kernel
theorem tyX6_ok : ∀ k, k < 7 → parseFieldDescriptor (TX6 k).2.2.1 = some (tyX6 k) := by decide +kernel
abbrev cX6_init : ByteArray := prog_8_method_1_code
def yX6_init : MethodName := ⟨RX6, "<init>", "()V"⟩
abbrev cX6_begin : ByteArray := prog_8_method_2_code
def yX6_begin : MethodName := ⟨RX6, "begin", "(LSiegePlate$Town;)V"⟩
abbrev cX6_become : ByteArray := prog_8_method_3_code
def yX6_become : MethodName := ⟨RX6, "become", "(LSiegePlate$Siege;)V"⟩
abbrev cX6_passDay : ByteArray := prog_8_method_4_code
def yX6_passDay : MethodName := ⟨RX6, "passDay", "(LSiegePlate$Town;I)V"⟩
abbrev cX6_payCompany : ByteArray := prog_8_method_5_code
def yX6_payCompany : MethodName := ⟨RX6, "payCompany", "(III)V"⟩
abbrev cX6_owedTo : ByteArray := prog_8_method_6_code
def yX6_owedTo : MethodName := ⟨RX6, "owedTo", "(LSiegePlate$Town;II)I"⟩
abbrev cX6_worthOfSquare : ByteArray := prog_8_method_7_code
def yX6_worthOfSquare : MethodName := ⟨RX6, "worthOfSquare", "(LSiegePlate$Town;II)I"⟩
abbrev cX6_hearGun : ByteArray := prog_8_method_8_code
def yX6_hearGun : MethodName := ⟨RX6, "hearGun", "()V"⟩
abbrev cX6_raiseOdds : ByteArray := prog_8_method_9_code
def yX6_raiseOdds : MethodName := ⟨RX6, "raiseOdds", "(I)V"⟩
def RX7 : String := "SiegePlate$Text"
def TX7 : u_T := fun k => match k with
  | 0 => ("SiegePlate$Text", "letters", "[I", true)
  | _ => ("SiegePlate$Text", "length", "I", false)
def tyX7 : Nat → FieldType := fun k => match k with
  | 0 => .array .int
  | _ => .int
theorem nmX7 : ∀ a, a < 2 → ∀ b, b < 2 → a ≠ b → (TX7 a).2.1 ≠ (TX7 b).2.1 := by decide +kernel
theorem tyX7_ok : ∀ k, k < 2 → parseFieldDescriptor (TX7 k).2.2.1 = some (tyX7 k) := by decide +kernel
abbrev cX7_init : ByteArray := prog_9_method_1_code
def yX7_init : MethodName := ⟨RX7, "<init>", "()V"⟩
abbrev cX7_append : ByteArray := prog_9_method_2_code
def yX7_append : MethodName := ⟨RX7, "append", "(I)V"⟩
def RX8 : String := "SiegePlate$Town"
def TX8 : u_T := fun k => match k with
  | 0 => ("SiegePlate$Town", "stands", "Z", false)
  | 1 => ("SiegePlate$Town", "food", "I", false)
  | 2 => ("SiegePlate$Town", "odds", "I", false)
  | 3 => ("SiegePlate$Town", "companies", "I", false)
  | 4 => ("SiegePlate$Town", "kinds", "I", false)
  | 5 => ("SiegePlate$Town", "goods", "I", false)
  | 6 => ("SiegePlate$Town", "horses", "I", false)
  | 7 => ("SiegePlate$Town", "men", "[I", true)
  | 8 => ("SiegePlate$Town", "pay", "[I", true)
  | 9 => ("SiegePlate$Town", "bears", "[I", true)
  | 10 => ("SiegePlate$Town", "squares", "[I", true)
  | 11 => ("SiegePlate$Town", "stamp", "[I", true)
  | 12 => ("SiegePlate$Town", "weight", "[I", true)
  | 13 => ("SiegePlate$Town", "cost", "[I", true)
  | 14 => ("SiegePlate$Town", "horseDay", "[I", true)
  | _ => ("SiegePlate$Town", "horseFood", "[I", true)
def tyX8 : Nat → FieldType := fun k => match k with
  | 0 => .boolean
  | 1 => .int
  | 2 => .int
  | 3 => .int
  | 4 => .int
  | 5 => .int
  | 6 => .int
  | 7 => .array .int
  | 8 => .array .int
  | 9 => .array .int
  | 10 => .array .int
  | 11 => .array .int
  | 12 => .array .int
  | 13 => .array .int
  | 14 => .array .int
  | _ => .array .int
theorem nmX8 : ∀ a, a < 16 → ∀ b, b < 16 → a ≠ b → (TX8 a).2.1 ≠ (TX8 b).2.1 := by decide +kernel
theorem tyX8_ok : ∀ k, k < 16 → parseFieldDescriptor (TX8 k).2.2.1 = some (tyX8 k) := by decide +kernel
abbrev cX8_init : ByteArray := prog_10_method_1_code
def yX8_init : MethodName := ⟨RX8, "<init>", "()V"⟩
abbrev cX8_clear : ByteArray := prog_10_method_2_code
def yX8_clear : MethodName := ⟨RX8, "clear", "()V"⟩
abbrev cX8_hasRoomFor : ByteArray := prog_10_method_3_code
def yX8_hasRoomFor : MethodName := ⟨RX8, "hasRoomFor", "(I)Z"⟩
abbrev cX8_add : ByteArray := prog_10_method_4_code
def yX8_add : MethodName := ⟨RX8, "add", "(IIII)V"⟩
abbrev cX8_addStores : ByteArray := prog_10_method_5_code
def yX8_addStores : MethodName := ⟨RX8, "addStores", "(II)V"⟩
abbrev cX8_addCompany : ByteArray := prog_10_method_6_code
def yX8_addCompany : MethodName := ⟨RX8, "addCompany", "(III)V"⟩
abbrev cX8_addMoney : ByteArray := prog_10_method_7_code
def yX8_addMoney : MethodName := ⟨RX8, "addMoney", "(III)V"⟩
abbrev cX8_addGood : ByteArray := prog_10_method_8_code
def yX8_addGood : MethodName := ⟨RX8, "addGood", "(I)V"⟩
abbrev cX8_addHorse : ByteArray := prog_10_method_9_code
def yX8_addHorse : MethodName := ⟨RX8, "addHorse", "(II)V"⟩
abbrev cX8_foodOfHorses : ByteArray := prog_10_method_10_code
def yX8_foodOfHorses : MethodName := ⟨RX8, "foodOfHorses", "(I)I"⟩
def RX9 : String := "SiegePlate$Trials"
def TX9 : u_T := fun k => match k with
  | 0 => ("SiegePlate$Trials", "camps", "[LSiegePlate$Camp;", true)
  | 1 => ("SiegePlate$Trials", "debts", "[I", true)
  | 2 => ("SiegePlate$Trials", "bestMen", "I", false)
  | 3 => ("SiegePlate$Trials", "bestRow", "I", false)
  | _ => ("SiegePlate$Trials", "bestFood", "I", false)
def tyX9 : Nat → FieldType := fun k => match k with
  | 0 => .array (.object "SiegePlate$Camp")
  | 1 => .array .int
  | 2 => .int
  | 3 => .int
  | _ => .int
theorem nmX9 : ∀ a, a < 5 → ∀ b, b < 5 → a ≠ b → (TX9 a).2.1 ≠ (TX9 b).2.1 := by decide +kernel
theorem tyX9_ok : ∀ k, k < 5 → parseFieldDescriptor (TX9 k).2.2.1 = some (tyX9 k) := by decide +kernel
abbrev cX9_init : ByteArray := prog_11_method_1_code
def yX9_init : MethodName := ⟨RX9, "<init>", "()V"⟩
abbrev cX9_tryAllRows : ByteArray := prog_11_method_2_code
def yX9_tryAllRows : MethodName := ⟨RX9, "tryAllRows", "(LSiegePlate$Town;LSiegePlate$Camp;I)V"⟩
abbrev cX9_firstDayToTry : ByteArray := prog_11_method_3_code
def yX9_firstDayToTry : MethodName := ⟨RX9, "firstDayToTry", "(II)I"⟩
abbrev cX9_compareRow : ByteArray := prog_11_method_4_code
def yX9_compareRow : MethodName := ⟨RX9, "compareRow", "(ILSiegePlate$Camp;)V"⟩
abbrev cX9_rationOf : ByteArray := prog_11_method_5_code
def yX9_rationOf : MethodName := ⟨RX9, "rationOf", "(III)I"⟩
abbrev cX9_firstDeserter : ByteArray := prog_11_method_6_code
def yX9_firstDeserter : MethodName := ⟨RX9, "firstDeserter", "(LSiegePlate$Town;LSiegePlate$Camp;I)I"⟩
abbrev cX9_daysWithMen : ByteArray := prog_11_method_7_code
def yX9_daysWithMen : MethodName := ⟨RX9, "daysWithMen", "(LSiegePlate$Town;LSiegePlate$Camp;I)I"⟩
abbrev cX9_leastToPay : ByteArray := prog_11_method_8_code
def yX9_leastToPay : MethodName := ⟨RX9, "leastToPay", "(LSiegePlate$Town;LSiegePlate$Siege;II)I"⟩
abbrev cX9_strikeGreatestDebt : ByteArray := prog_11_method_9_code
def yX9_strikeGreatestDebt : MethodName := ⟨RX9, "strikeGreatestDebt", "(I)I"⟩
def RX10 : String := "SiegePlate"
def TX10 : u_T := fun k => match k with
  | 0 => ("SiegePlate", "text", "LSiegePlate$Text;", true)
  | 1 => ("SiegePlate", "reader", "LSiegePlate$Reader;", true)
  | 2 => ("SiegePlate", "theTown", "LSiegePlate$Town;", false)
  | 3 => ("SiegePlate", "draft", "LSiegePlate$Town;", false)
  | 4 => ("SiegePlate", "now", "LSiegePlate$Siege;", true)
  | 5 => ("SiegePlate", "log", "LSiegePlate$Log;", true)
  | 6 => ("SiegePlate", "images", "[LSiegePlate$Image;", true)
  | 7 => ("SiegePlate", "trials", "LSiegePlate$Trials;", true)
  | 8 => ("SiegePlate", "shown", "LSiegePlate$Shown;", true)
  | 9 => ("SiegePlate", "book", "LSiegePlate$Book;", true)
  | 10 => ("SiegePlate", "seedNow", "I", false)
  | _ => ("SiegePlate", "faultPlace", "I", false)
def tyX10 : Nat → FieldType := fun k => match k with
  | 0 => .object "SiegePlate$Text"
  | 1 => .object "SiegePlate$Reader"
  | 2 => .object "SiegePlate$Town"
  | 3 => .object "SiegePlate$Town"
  | 4 => .object "SiegePlate$Siege"
  | 5 => .object "SiegePlate$Log"
  | 6 => .array (.object "SiegePlate$Image")
  | 7 => .object "SiegePlate$Trials"
  | 8 => .object "SiegePlate$Shown"
  | 9 => .object "SiegePlate$Book"
  | 10 => .int
  | _ => .int
theorem nmX10 : ∀ a, a < 12 → ∀ b, b < 12 → a ≠ b → (TX10 a).2.1 ≠ (TX10 b).2.1 := by decide +kernel
theorem tyX10_ok : ∀ k, k < 12 → parseFieldDescriptor (TX10 k).2.2.1 = some (tyX10 k) := by decide +kernel
abbrev cX10_init : ByteArray := prog_1_method_1_code
def yX10_init : MethodName := ⟨RX10, "<init>", "()V"⟩
abbrev cX10_feed : ByteArray := prog_1_method_2_code
def yX10_feed : MethodName := ⟨RX10, "feed", "(I)I"⟩
abbrev cX10_town : ByteArray := prog_1_method_3_code
def yX10_town : MethodName := ⟨RX10, "town", "()I"⟩
abbrev cX10_beginSiege : ByteArray := prog_1_method_4_code
def yX10_beginSiege : MethodName := ⟨RX10, "beginSiege", "()V"⟩
abbrev cX10_fault : ByteArray := prog_1_method_5_code
def yX10_fault : MethodName := ⟨RX10, "fault", "()I"⟩
abbrev cX10_told : ByteArray := prog_1_method_6_code
def yX10_told : MethodName := ⟨RX10, "told", "(I)I"⟩
abbrev cX10_company : ByteArray := prog_1_method_7_code
def yX10_company : MethodName := ⟨RX10, "company", "(II)I"⟩
abbrev cX10_money : ByteArray := prog_1_method_8_code
def yX10_money : MethodName := ⟨RX10, "money", "(II)I"⟩
abbrev cX10_day : ByteArray := prog_1_method_9_code
def yX10_day : MethodName := ⟨RX10, "day", "(II)I"⟩
abbrev cX10_gun : ByteArray := prog_1_method_10_code
def yX10_gun : MethodName := ⟨RX10, "gun", "()I"⟩
abbrev cX10_sally : ByteArray := prog_1_method_11_code
def yX10_sally : MethodName := ⟨RX10, "sally", "(II)I"⟩
abbrev cX10_relief : ByteArray := prog_1_method_12_code
def yX10_relief : MethodName := ⟨RX10, "relief", "(Z)I"⟩
abbrev cX10_drift : ByteArray := prog_1_method_13_code
def yX10_drift : MethodName := ⟨RX10, "drift", "(II)I"⟩
abbrev cX10_passDayByDraws : ByteArray := prog_1_method_14_code
def yX10_passDayByDraws : MethodName := ⟨RX10, "passDayByDraws", "(I)V"⟩
abbrev cX10_nextDraw : ByteArray := prog_1_method_15_code
def yX10_nextDraw : MethodName := ⟨RX10, "nextDraw", "()I"⟩
abbrev cX10_undo : ByteArray := prog_1_method_16_code
def yX10_undo : MethodName := ⟨RX10, "undo", "()I"⟩
abbrev cX10_refusalOfDays : ByteArray := prog_1_method_17_code
def yX10_refusalOfDays : MethodName := ⟨RX10, "refusalOfDays", "(II)I"⟩
abbrev cX10_costs : ByteArray := prog_1_method_18_code
def yX10_costs : MethodName := ⟨RX10, "costs", "(I)I"⟩
abbrev cX10_promise : ByteArray := prog_1_method_19_code
def yX10_promise : MethodName := ⟨RX10, "promise", "(II)I"⟩
abbrev cX10_worthWithin : ByteArray := prog_1_method_20_code
def yX10_worthWithin : MethodName := ⟨RX10, "worthWithin", "(II)I"⟩
abbrev cX10_rations : ByteArray := prog_1_method_21_code
def yX10_rations : MethodName := ⟨RX10, "rations", "(II)I"⟩
abbrev cX10_firstToDesert : ByteArray := prog_1_method_22_code
def yX10_firstToDesert : MethodName := ⟨RX10, "firstToDesert", "(I)I"⟩
abbrev cX10_holds : ByteArray := prog_1_method_23_code
def yX10_holds : MethodName := ⟨RX10, "holds", "(I)I"⟩
abbrev cX10_owed : ByteArray := prog_1_method_24_code
def yX10_owed : MethodName := ⟨RX10, "owed", "(II)I"⟩
abbrev cX10_least : ByteArray := prog_1_method_25_code
def yX10_least : MethodName := ⟨RX10, "least", "(II)I"⟩
abbrev cX10_bought : ByteArray := prog_1_method_26_code
def yX10_bought : MethodName := ⟨RX10, "bought", "(II)I"⟩
abbrev cX10_leastHungerAt : ByteArray := prog_1_method_27_code
def yX10_leastHungerAt : MethodName := ⟨RX10, "leastHungerAt", "(II)I"⟩
abbrev cX10_priceAt : ByteArray := prog_1_method_28_code
def yX10_priceAt : MethodName := ⟨RX10, "priceAt", "(II)I"⟩
abbrev cX10_offer : ByteArray := prog_1_method_29_code
def yX10_offer : MethodName := ⟨RX10, "offer", "(II)I"⟩
abbrev cX10_show : ByteArray := prog_1_method_30_code
def yX10_show : MethodName := ⟨RX10, "show", "(IIII)I"⟩
abbrev cX10_forged : ByteArray := prog_1_method_31_code
def yX10_forged : MethodName := ⟨RX10, "forged", "()I"⟩
abbrev cX10_weighFirst : ByteArray := prog_1_method_32_code
def yX10_weighFirst : MethodName := ⟨RX10, "weighFirst", "()I"⟩
abbrev cX10_write : ByteArray := prog_1_method_33_code
def yX10_write : MethodName := ⟨RX10, "write", "(II)I"⟩
abbrev cX10_tear : ByteArray := prog_1_method_34_code
def yX10_tear : MethodName := ⟨RX10, "tear", "()I"⟩
abbrev cX10_judge : ByteArray := prog_1_method_35_code
def yX10_judge : MethodName := ⟨RX10, "judge", "()I"⟩
abbrev cX10_seed : ByteArray := prog_1_method_36_code
def yX10_seed : MethodName := ⟨RX10, "seed", "(I)I"⟩
abbrev cX10_keep : ByteArray := prog_1_method_37_code
def yX10_keep : MethodName := ⟨RX10, "keep", "(I)I"⟩
abbrev cX10_goBack : ByteArray := prog_1_method_38_code
def yX10_goBack : MethodName := ⟨RX10, "goBack", "(I)I"⟩
abbrev cX10_isCompany : ByteArray := prog_1_method_39_code
def yX10_isCompany : MethodName := ⟨RX10, "isCompany", "(I)Z"⟩
abbrev cX10_isMoney : ByteArray := prog_1_method_40_code
def yX10_isMoney : MethodName := ⟨RX10, "isMoney", "(I)Z"⟩
abbrev cX10_isGood : ByteArray := prog_1_method_41_code
def yX10_isGood : MethodName := ⟨RX10, "isGood", "(I)Z"⟩
abbrev cX10_isBesieged : ByteArray := prog_1_method_42_code
def yX10_isBesieged : MethodName := ⟨RX10, "isBesieged", "()Z"⟩
abbrev cX10_isRation : ByteArray := prog_1_method_43_code
def yX10_isRation : MethodName := ⟨RX10, "isRation", "(I)Z"⟩
abbrev cX10_isReading : ByteArray := prog_1_method_44_code
def yX10_isReading : MethodName := ⟨RX10, "isReading", "(I)Z"⟩
abbrev cX10_isWithin : ByteArray := prog_1_method_45_code
def yX10_isWithin : MethodName := ⟨RX10, "isWithin", "(III)Z"⟩
def RX11 : String := "SiegePlateModel"
def TX11 : u_T := fun k => match k with
  | 0 => ("SiegePlateModel", "w", "[I", true)
  | 1 => ("SiegePlateModel", "isKept", "[Z", true)
  | 2 => ("SiegePlateModel", "undoes", "I", false)
  | 3 => ("SiegePlateModel", "isTown", "Z", false)
  | 4 => ("SiegePlateModel", "companies", "I", false)
  | 5 => ("SiegePlateModel", "pay", "[I", true)
  | 6 => ("SiegePlateModel", "bears", "[I", true)
  | 7 => ("SiegePlateModel", "kinds", "I", false)
  | 8 => ("SiegePlateModel", "stamp", "[I", true)
  | 9 => ("SiegePlateModel", "weight", "[I", true)
  | 10 => ("SiegePlateModel", "goods", "I", false)
  | 11 => ("SiegePlateModel", "cost", "[I", true)
  | 12 => ("SiegePlateModel", "horses", "I", false)
  | 13 => ("SiegePlateModel", "onDay", "[I", true)
  | 14 => ("SiegePlateModel", "becomes", "[I", true)
  | 15 => ("SiegePlateModel", "text", "[I", true)
  | 16 => ("SiegePlateModel", "texted", "I", false)
  | 17 => ("SiegePlateModel", "at", "I", false)
  | 18 => ("SiegePlateModel", "start", "I", false)
  | 19 => ("SiegePlateModel", "number", "I", false)
  | 20 => ("SiegePlateModel", "faulty", "I", false)
  | 21 => ("SiegePlateModel", "faultAt", "I", false)
  | 22 => ("SiegePlateModel", "hasTown", "Z", false)
  | 23 => ("SiegePlateModel", "readTown", "[I", true)
  | 24 => ("SiegePlateModel", "readCompanies", "I", false)
  | 25 => ("SiegePlateModel", "readCompany", "[I", true)
  | 26 => ("SiegePlateModel", "readKinds", "I", false)
  | 27 => ("SiegePlateModel", "readKind", "[I", true)
  | 28 => ("SiegePlateModel", "readGoods", "I", false)
  | 29 => ("SiegePlateModel", "readGood", "[I", true)
  | 30 => ("SiegePlateModel", "readHorses", "I", false)
  | 31 => ("SiegePlateModel", "readHorse", "[I", true)
  | 32 => ("SiegePlateModel", "deserted", "I", false)
  | 33 => ("SiegePlateModel", "shown", "I", false)
  | 34 => ("SiegePlateModel", "shownKind", "[I", true)
  | 35 => ("SiegePlateModel", "shownDied", "[I", true)
  | 36 => ("SiegePlateModel", "shownDay", "[I", true)
  | 37 => ("SiegePlateModel", "shownWeight", "[I", true)
  | 38 => ("SiegePlateModel", "booked", "I", false)
  | 39 => ("SiegePlateModel", "bookOf", "[I", true)
  | _ => ("SiegePlateModel", "bookMen", "[I", true)
def tyX11 : Nat → FieldType := fun k => match k with
  | 0 => .array .int
  | 1 => .array .boolean
  | 2 => .int
  | 3 => .boolean
  | 4 => .int
  | 5 => .array .int
  | 6 => .array .int
  | 7 => .int
  | 8 => .array .int
  | 9 => .array .int
  | 10 => .int
  | 11 => .array .int
  | 12 => .int
  | 13 => .array .int
  | 14 => .array .int
  | 15 => .array .int
  | 16 => .int
  | 17 => .int
  | 18 => .int
  | 19 => .int
  | 20 => .int
  | 21 => .int
  | 22 => .boolean
  | 23 => .array .int
  | 24 => .int
  | 25 => .array .int
  | 26 => .int
  | 27 => .array .int
  | 28 => .int
  | 29 => .array .int
  | 30 => .int
  | 31 => .array .int
  | 32 => .int
  | 33 => .int
  | 34 => .array .int
  | 35 => .array .int
  | 36 => .array .int
  | 37 => .array .int
  | 38 => .int
  | 39 => .array .int
  | _ => .array .int
theorem nmX11 : ∀ a, a < 41 → ∀ b, b < 41 → a ≠ b → (TX11 a).2.1 ≠ (TX11 b).2.1 := by decide +kernel
theorem tyX11_ok : ∀ k, k < 41 → parseFieldDescriptor (TX11 k).2.2.1 = some (tyX11 k) := by decide +kernel
abbrev cX11_init : ByteArray := prog_13_method_1_code
def yX11_init : MethodName := ⟨RX11, "<init>", "()V"⟩
abbrev cX11_in : ByteArray := prog_13_method_3_code
def yX11_in : MethodName := ⟨RX11, "in", "(JJJ)Z"⟩
abbrev cX11_copy : ByteArray := prog_13_method_4_code
def yX11_copy : MethodName := ⟨RX11, "copy", "(II)V"⟩
abbrev cX11_isCompany : ByteArray := prog_13_method_5_code
def yX11_isCompany : MethodName := ⟨RX11, "isCompany", "(I)Z"⟩
abbrev cX11_isMoney : ByteArray := prog_13_method_6_code
def yX11_isMoney : MethodName := ⟨RX11, "isMoney", "(I)Z"⟩
abbrev cX11_isGood : ByteArray := prog_13_method_7_code
def yX11_isGood : MethodName := ⟨RX11, "isGood", "(I)Z"⟩
abbrev cX11_isRation : ByteArray := prog_13_method_8_code
def yX11_isRation : MethodName := ⟨RX11, "isRation", "(I)Z"⟩
abbrev cX11_feed : ByteArray := prog_13_method_9_code
def yX11_feed : MethodName := ⟨RX11, "feed", "(I)I"⟩
abbrev cX11_letterAt : ByteArray := prog_13_method_10_code
def yX11_letterAt : MethodName := ⟨RX11, "letterAt", "(I)I"⟩
abbrev cX11_here : ByteArray := prog_13_method_11_code
def yX11_here : MethodName := ⟨RX11, "here", "()I"⟩
abbrev cX11_fails : ByteArray := prog_13_method_12_code
def yX11_fails : MethodName := ⟨RX11, "fails", "(II)Z"⟩
abbrev cX11_takes : ByteArray := prog_13_method_13_code
def yX11_takes : MethodName := ⟨RX11, "takes", "(I)Z"⟩
abbrev cX11_takesNumber : ByteArray := prog_13_method_14_code
def yX11_takesNumber : MethodName := ⟨RX11, "takesNumber", "(II)Z"⟩
abbrev cX11_takesTown : ByteArray := prog_13_method_15_code
def yX11_takesTown : MethodName := ⟨RX11, "takesTown", "()Z"⟩
abbrev cX11_takesCompany : ByteArray := prog_13_method_16_code
def yX11_takesCompany : MethodName := ⟨RX11, "takesCompany", "()Z"⟩
abbrev cX11_takesKind : ByteArray := prog_13_method_17_code
def yX11_takesKind : MethodName := ⟨RX11, "takesKind", "()Z"⟩
abbrev cX11_takesGood : ByteArray := prog_13_method_18_code
def yX11_takesGood : MethodName := ⟨RX11, "takesGood", "()Z"⟩
abbrev cX11_takesHorse : ByteArray := prog_13_method_19_code
def yX11_takesHorse : MethodName := ⟨RX11, "takesHorse", "()Z"⟩
abbrev cX11_takesWords : ByteArray := prog_13_method_20_code
def yX11_takesWords : MethodName := ⟨RX11, "takesWords", "(I)Z"⟩
abbrev cX11_takesClause : ByteArray := prog_13_method_21_code
def yX11_takesClause : MethodName := ⟨RX11, "takesClause", "()Z"⟩
abbrev cX11_town : ByteArray := prog_13_method_22_code
def yX11_town : MethodName := ⟨RX11, "town", "()I"⟩
abbrev cX11_fault : ByteArray := prog_13_method_23_code
def yX11_fault : MethodName := ⟨RX11, "fault", "()I"⟩
abbrev cX11_menIn : ByteArray := prog_13_method_24_code
def yX11_menIn : MethodName := ⟨RX11, "menIn", "(I)I"⟩
abbrev cX11_told : ByteArray := prog_13_method_25_code
def yX11_told : MethodName := ⟨RX11, "told", "(I)I"⟩
abbrev cX11_company : ByteArray := prog_13_method_26_code
def yX11_company : MethodName := ⟨RX11, "company", "(II)I"⟩
abbrev cX11_money : ByteArray := prog_13_method_27_code
def yX11_money : MethodName := ⟨RX11, "money", "(II)I"⟩
abbrev cX11_eats : ByteArray := prog_13_method_28_code
def yX11_eats : MethodName := ⟨RX11, "eats", "(III)Z"⟩
abbrev cX11_isPaid : ByteArray := prog_13_method_29_code
def yX11_isPaid : MethodName := ⟨RX11, "isPaid", "(II)V"⟩
abbrev cX11_passes : ByteArray := prog_13_method_30_code
def yX11_passes : MethodName := ⟨RX11, "passes", "(II)V"⟩
abbrev cX11_minds : ByteArray := prog_13_method_31_code
def yX11_minds : MethodName := ⟨RX11, "minds", "()V"⟩
abbrev cX11_undo : ByteArray := prog_13_method_32_code
def yX11_undo : MethodName := ⟨RX11, "undo", "()I"⟩
abbrev cX11_isOver : ByteArray := prog_13_method_33_code
def yX11_isOver : MethodName := ⟨RX11, "isOver", "()Z"⟩
abbrev cX11_day : ByteArray := prog_13_method_34_code
def yX11_day : MethodName := ⟨RX11, "day", "(II)I"⟩
abbrev cX11_hears : ByteArray := prog_13_method_35_code
def yX11_hears : MethodName := ⟨RX11, "hears", "(I)V"⟩
abbrev cX11_gun : ByteArray := prog_13_method_36_code
def yX11_gun : MethodName := ⟨RX11, "gun", "()I"⟩
abbrev cX11_sally : ByteArray := prog_13_method_37_code
def yX11_sally : MethodName := ⟨RX11, "sally", "(II)I"⟩
abbrev cX11_relief : ByteArray := prog_13_method_38_code
def yX11_relief : MethodName := ⟨RX11, "relief", "(Z)I"⟩
abbrev cX11_draw : ByteArray := prog_13_method_39_code
def yX11_draw : MethodName := ⟨RX11, "draw", "(I)I"⟩
abbrev cX11_drift : ByteArray := prog_13_method_40_code
def yX11_drift : MethodName := ⟨RX11, "drift", "(II)I"⟩
abbrev cX11_costsBy : ByteArray := prog_13_method_41_code
def yX11_costsBy : MethodName := ⟨RX11, "costsBy", "(II)I"⟩
abbrev cX11_costs : ByteArray := prog_13_method_42_code
def yX11_costs : MethodName := ⟨RX11, "costs", "(I)I"⟩
abbrev cX11_worthOf : ByteArray := prog_13_method_43_code
def yX11_worthOf : MethodName := ⟨RX11, "worthOf", "(II)I"⟩
abbrev cX11_promise : ByteArray := prog_13_method_44_code
def yX11_promise : MethodName := ⟨RX11, "promise", "(II)I"⟩
abbrev cX11_rations : ByteArray := prog_13_method_45_code
def yX11_rations : MethodName := ⟨RX11, "rations", "(II)I"⟩
abbrev cX11_firstToDesert : ByteArray := prog_13_method_46_code
def yX11_firstToDesert : MethodName := ⟨RX11, "firstToDesert", "(I)I"⟩
abbrev cX11_holds : ByteArray := prog_13_method_47_code
def yX11_holds : MethodName := ⟨RX11, "holds", "(I)I"⟩
abbrev cX11_owedTo : ByteArray := prog_13_method_48_code
def yX11_owedTo : MethodName := ⟨RX11, "owedTo", "(II)I"⟩
abbrev cX11_owed : ByteArray := prog_13_method_49_code
def yX11_owed : MethodName := ⟨RX11, "owed", "(II)I"⟩
abbrev cX11_least : ByteArray := prog_13_method_50_code
def yX11_least : MethodName := ⟨RX11, "least", "(II)I"⟩
abbrev cX11_hungerFor : ByteArray := prog_13_method_51_code
def yX11_hungerFor : MethodName := ⟨RX11, "hungerFor", "(II)I"⟩
abbrev cX11_bought : ByteArray := prog_13_method_52_code
def yX11_bought : MethodName := ⟨RX11, "bought", "(II)I"⟩
abbrev cX11_offer : ByteArray := prog_13_method_53_code
def yX11_offer : MethodName := ⟨RX11, "offer", "(II)I"⟩
abbrev cX11_show : ByteArray := prog_13_method_54_code
def yX11_show : MethodName := ⟨RX11, "show", "(IIII)I"⟩
abbrev cX11_isBehind : ByteArray := prog_13_method_55_code
def yX11_isBehind : MethodName := ⟨RX11, "isBehind", "(I)Z"⟩
abbrev cX11_forged : ByteArray := prog_13_method_56_code
def yX11_forged : MethodName := ⟨RX11, "forged", "()I"⟩
abbrev cX11_weighFirst : ByteArray := prog_13_method_57_code
def yX11_weighFirst : MethodName := ⟨RX11, "weighFirst", "()I"⟩
abbrev cX11_write : ByteArray := prog_13_method_58_code
def yX11_write : MethodName := ⟨RX11, "write", "(II)I"⟩
abbrev cX11_tear : ByteArray := prog_13_method_59_code
def yX11_tear : MethodName := ⟨RX11, "tear", "()I"⟩
abbrev cX11_judge : ByteArray := prog_13_method_60_code
def yX11_judge : MethodName := ⟨RX11, "judge", "()I"⟩
abbrev cX11_seed : ByteArray := prog_13_method_61_code
def yX11_seed : MethodName := ⟨RX11, "seed", "(I)I"⟩
abbrev cX11_keep : ByteArray := prog_13_method_62_code
def yX11_keep : MethodName := ⟨RX11, "keep", "(I)I"⟩
abbrev cX11_goBack : ByteArray := prog_13_method_63_code
def yX11_goBack : MethodName := ⟨RX11, "goBack", "(I)I"⟩
def RJ9 : String := "java/lang/Math"
def TJ9 : u_T := fun k => match k with
  | _ => ("", "", "", false)
def tyJ9 : Nat → FieldType := fun k => match k with
  | _ => .int
theorem nmJ9 : ∀ a, a < 0 → ∀ b, b < 0 → a ≠ b → (TJ9 a).2.1 ≠ (TJ9 b).2.1 := by decide +kernel
theorem tyJ9_ok : ∀ k, k < 0 → parseFieldDescriptor (TJ9 k).2.2.1 = some (tyJ9 k) := by decide +kernel
abbrev cJ9_max_7cf53 : ByteArray := prog_14_method_65_code
def yJ9_max_7cf53 : MethodName := ⟨RJ9, "max", "(II)I"⟩
abbrev cJ9_min_7cf53 : ByteArray := prog_14_method_69_code
def yJ9_min_7cf53 : MethodName := ⟨RJ9, "min", "(II)I"⟩
def RL : String := "SiegePlateLaw"
abbrev cL_law : ByteArray := code
def yL_law : MethodName := ⟨RL, "law", "([I)Z"⟩
abbrev vwCl : List vw_C := [(RX0, TX0, 3), (RX1, TX1, 6), (RX2, TX2, 3), (RX3, TX3, 3), (RX4, TX4, 4), (RX5, TX5, 6), (RX6, TX6, 7), (RX7, TX7, 2), (RX8, TX8, 16), (RX9, TX9, 5), (RX10, TX10, 12), (RX11, TX11, 41)]
end
section
-- kinds of cells 0..11: objects of class k of vwCl; 12..59: rows (arrays), one kind for each field that holds one
abbrev AV : Type := Int32 ⊕ (Int64 ⊕ Option (Nat × Nat))
abbrev RF : Type := Nat → Nat → Nat → Option (Nat × Nat)
abbrev HF : Type := Nat → Nat → Nat → Int32
abbrev aI (x : Int32) : AV := Sum.inl x
abbrev aL (x : Int64) : AV := Sum.inr (Sum.inl x)
abbrev aR (k j : Nat) : AV := Sum.inr (Sum.inr (some (k, j)))
abbrev aN : AV := Sum.inr (Sum.inr none)
/-- the cells in the order in which the constructors make them -/
def ids : List (Nat × Nat) := [(10, 0), (7, 0), (26, 0), (4, 0), (17, 0), (8, 0), (27, 0), (28, 0), (29, 0), (30, 0), (31, 0), (32, 0), (33, 0), (34, 0), (35, 0), (8, 1), (27, 1), (28, 1), (29, 1), (30, 1), (31, 1), (32, 1), (33, 1), (34, 1), (35, 1), (6, 0), (1, 0), (14, 0), (15, 0), (23, 0), (24, 0), (25, 0), (3, 0), (16, 0), (6, 1), (1, 1), (14, 1), (15, 1), (23, 1), (24, 1), (25, 1), (6, 2), (1, 2), (14, 2), (15, 2), (23, 2), (24, 2), (25, 2), (6, 3), (1, 3), (14, 3), (15, 3), (23, 3), (24, 3), (25, 3), (6, 4), (1, 4), (14, 4), (15, 4), (23, 4), (24, 4), (25, 4), (6, 5), (1, 5), (14, 5), (15, 5), (23, 5), (24, 5), (25, 5), (6, 6), (1, 6), (14, 6), (15, 6), (23, 6), (24, 6), (25, 6), (6, 7), (1, 7), (14, 7), (15, 7), (23, 7), (24, 7), (25, 7), (6, 8), (1, 8), (14, 8), (15, 8), (23, 8), (24, 8), (25, 8), (6, 9), (1, 9), (14, 9), (15, 9), (23, 9), (24, 9), (25, 9), (6, 10), (1, 10), (14, 10), (15, 10), (23, 10), (24, 10), (25, 10), (6, 11), (1, 11), (14, 11), (15, 11), (23, 11), (24, 11), (25, 11), (6, 12), (1, 12), (14, 12), (15, 12), (23, 12), (24, 12), (25, 12), (6, 13), (1, 13), (14, 13), (15, 13), (23, 13), (24, 13), (25, 13), (6, 14), (1, 14), (14, 14), (15, 14), (23, 14), (24, 14), (25, 14), (6, 15), (1, 15), (14, 15), (15, 15), (23, 15), (24, 15), (25, 15), (6, 16), (1, 16), (14, 16), (15, 16), (23, 16), (24, 16), (25, 16), (6, 17), (1, 17), (14, 17), (15, 17), (23, 17), (24, 17), (25, 17), (6, 18), (1, 18), (14, 18), (15, 18), (23, 18), (24, 18), (25, 18), (6, 19), (1, 19), (14, 19), (15, 19), (23, 19), (24, 19), (25, 19), (6, 20), (1, 20), (14, 20), (15, 20), (23, 20), (24, 20), (25, 20), (38, 0), (9, 0), (36, 0), (37, 0), (1, 23), (14, 23), (15, 23), (1, 24), (14, 24), (15, 24), (1, 25), (14, 25), (15, 25), (1, 26), (14, 26), (15, 26), (1, 27), (14, 27), (15, 27), (1, 28), (14, 28), (15, 28), (5, 0), (18, 0), (19, 0), (20, 0), (21, 0), (22, 0), (0, 0), (12, 0), (13, 0), (2, 0), (6, 21), (1, 21), (14, 21), (15, 21), (23, 21), (24, 21), (25, 21), (2, 1), (6, 22), (1, 22), (14, 22), (15, 22), (23, 22), (24, 22), (25, 22), (11, 0), (39, 0), (40, 0), (41, 0), (42, 0), (43, 0), (44, 0), (45, 0), (46, 0), (47, 0), (48, 0), (49, 0), (50, 0), (51, 0), (52, 0), (53, 0), (54, 0), (55, 0), (56, 0), (57, 0), (58, 0), (59, 0)]
/-- fields of an object, places of a row -/
def nf : Nat → Nat := fun k => match k with
  | 0 => 3
  | 1 => 6
  | 2 => 3
  | 3 => 3
  | 4 => 4
  | 5 => 6
  | 6 => 7
  | 7 => 2
  | 8 => 16
  | 9 => 5
  | 10 => 12
  | 11 => 41
  | 12 => 15
  | 13 => 15
  | 14 => 5
  | 15 => 5
  | 16 => 20
  | 17 => 3
  | 18 => 8
  | 19 => 8
  | 20 => 8
  | 21 => 8
  | 22 => 4
  | 23 => 4
  | 24 => 5
  | 25 => 20
  | 26 => 240
  | 27 => 5
  | 28 => 5
  | 29 => 5
  | 30 => 4
  | 31 => 4
  | 32 => 4
  | 33 => 6
  | 34 => 4
  | 35 => 4
  | 36 => 6
  | 37 => 5
  | 38 => 2
  | 39 => 1080
  | 40 => 2
  | 41 => 5
  | 42 => 5
  | 43 => 4
  | 44 => 4
  | 45 => 6
  | 46 => 4
  | 47 => 4
  | 48 => 240
  | 49 => 2
  | 50 => 15
  | 51 => 12
  | 52 => 6
  | 53 => 8
  | 54 => 8
  | 55 => 8
  | 56 => 8
  | 57 => 8
  | 58 => 15
  | 59 => 15
  | _ => 0
/-- how many there are of a kind -/
def cnt : Nat → Nat := fun k => match k with
  | 0 => 1
  | 1 => 29
  | 2 => 2
  | 3 => 1
  | 4 => 1
  | 5 => 1
  | 6 => 23
  | 7 => 1
  | 8 => 2
  | 9 => 1
  | 10 => 1
  | 11 => 1
  | 12 => 1
  | 13 => 1
  | 14 => 29
  | 15 => 29
  | 16 => 1
  | 17 => 1
  | 18 => 1
  | 19 => 1
  | 20 => 1
  | 21 => 1
  | 22 => 1
  | 23 => 23
  | 24 => 23
  | 25 => 23
  | 26 => 1
  | 27 => 2
  | 28 => 2
  | 29 => 2
  | 30 => 2
  | 31 => 2
  | 32 => 2
  | 33 => 2
  | 34 => 2
  | 35 => 2
  | 36 => 1
  | 37 => 1
  | 38 => 1
  | 39 => 1
  | 40 => 1
  | 41 => 1
  | 42 => 1
  | 43 => 1
  | 44 => 1
  | 45 => 1
  | 46 => 1
  | 47 => 1
  | 48 => 1
  | 49 => 1
  | 50 => 1
  | 51 => 1
  | 52 => 1
  | 53 => 1
  | 54 => 1
  | 55 => 1
  | 56 => 1
  | 57 => 1
  | 58 => 1
  | 59 => 1
  | _ => 0
/-- 0 object, 1 ints, 2 booleans, 3 Sieges, 4 Camps, 5 Images -/
def shp : Nat → Nat := fun k => match k with
  | 0 => 0
  | 1 => 0
  | 2 => 0
  | 3 => 0
  | 4 => 0
  | 5 => 0
  | 6 => 0
  | 7 => 0
  | 8 => 0
  | 9 => 0
  | 10 => 0
  | 11 => 0
  | 16 => 3
  | 36 => 4
  | 38 => 5
  | 40 => 2
  | _ => 1
/-- the type of a field -/
def fty : Nat → (Nat → FieldType) := fun k => match k with
  | 0 => tyX0
  | 1 => tyX1
  | 2 => tyX2
  | 3 => tyX3
  | 4 => tyX4
  | 5 => tyX5
  | 6 => tyX6
  | 7 => tyX7
  | 8 => tyX8
  | 9 => tyX9
  | 10 => tyX10
  | 11 => tyX11
  | _ => fun _ => .int
/-- which fields are references -/
def isr : Nat → (Nat → Bool) := fun k => match k with
  | 0 => fun i => match i with | 0 => true | 1 => true | _ => false
  | 1 => fun i => match i with | 2 => true | 3 => true | _ => false
  | 2 => fun i => match i with | 0 => true | _ => false
  | 3 => fun i => match i with | 0 => true | _ => false
  | 4 => fun i => match i with | 0 => true | _ => false
  | 5 => fun i => match i with | 0 => true | 1 => true | 2 => true | 3 => true | 4 => true | _ => false
  | 6 => fun i => match i with | 0 => true | 4 => true | 5 => true | 6 => true | _ => false
  | 7 => fun i => match i with | 0 => true | _ => false
  | 8 => fun i => match i with | 7 => true | 8 => true | 9 => true | 10 => true | 11 => true | 12 => true | 13 => true | 14 => true | 15 => true | _ => false
  | 9 => fun i => match i with | 0 => true | 1 => true | _ => false
  | 10 => fun i => match i with | 0 => true | 1 => true | 2 => true | 3 => true | 4 => true | 5 => true | 6 => true | 7 => true | 8 => true | 9 => true | _ => false
  | 11 => fun i => match i with | 0 => true | 1 => true | 5 => true | 6 => true | 8 => true | 9 => true | 11 => true | 13 => true | 14 => true | 15 => true | 23 => true | 25 => true | 27 => true | 29 => true | 31 => true | 34 => true | 35 => true | 36 => true | 37 => true | 39 => true | 40 => true | _ => false
  | _ => fun _ => false
/-- which cell a reference leads to, once all is made: theTown is town a, draft town b -/
def Rs (a b : Nat) : RF := fun k j i => match k with
  | 0 => (match i with | 0 => some (12, 0) | 1 => some (13, 0) | _ => none)
  | 1 => (match i with | 2 => some (14, j) | 3 => some (15, j) | _ => none)
  | 2 => (match i with | 0 => some (6, 21 + j) | _ => none)
  | 3 => (match i with | 0 => some (16, 0) | _ => none)
  | 4 => (match i with | 0 => some (17, 0) | _ => none)
  | 5 => (match i with | 0 => some (18, 0) | 1 => some (19, 0) | 2 => some (20, 0) | 3 => some (21, 0) | 4 => some (22, 0) | _ => none)
  | 6 => (match i with | 0 => some (1, j) | 4 => some (23, j) | 5 => some (24, j) | 6 => some (25, j) | _ => none)
  | 7 => (match i with | 0 => some (26, 0) | _ => none)
  | 8 => (match i with | 7 => some (27, j) | 8 => some (28, j) | 9 => some (29, j) | 10 => some (30, j) | 11 => some (31, j) | 12 => some (32, j) | 13 => some (33, j) | 14 => some (34, j) | 15 => some (35, j) | _ => none)
  | 9 => (match i with | 0 => some (36, 0) | 1 => some (37, 0) | _ => none)
  | 10 => (match i with | 0 => some (7, 0) | 1 => some (4, 0) | 2 => some (8, a) | 3 => some (8, b) | 4 => some (6, 0) | 5 => some (3, 0) | 6 => some (38, 0) | 7 => some (9, 0) | 8 => some (5, 0) | 9 => some (0, 0) | _ => none)
  | 11 => (match i with | 0 => some (39, 0) | 1 => some (40, 0) | 5 => some (41, 0) | 6 => some (42, 0) | 8 => some (43, 0) | 9 => some (44, 0) | 11 => some (45, 0) | 13 => some (46, 0) | 14 => some (47, 0) | 15 => some (48, 0) | 23 => some (49, 0) | 25 => some (50, 0) | 27 => some (51, 0) | 29 => some (52, 0) | 31 => some (53, 0) | 34 => some (54, 0) | 35 => some (55, 0) | 36 => some (56, 0) | 37 => some (57, 0) | 39 => some (58, 0) | 40 => some (59, 0) | _ => none)
  | 16 => some (6, i + 1)
  | 36 => some (1, 23 + i)
  | 38 => some (2, i)
  | _ => none
/-- the launch, the first cell's address, slots and classes, the classes of rows, the addresses of the given rows (60 .. 63), the script -/
abbrev Ev : Type := Launch × Nat × va_G × (Nat → ClassId) × (Nat → Nat) × Nat × (Nat → Int32)
def ixq : List (Nat × Nat) → Nat × Nat → Nat
  | [], _ => 0
  | q :: r, p => if q = p then 0 else ixq r p + 1
def pos (k j : Nat) : Nat := ixq ids (k, j)
def idq (i : Nat) : Nat × Nat := ids.getD i (0, 0)
def lcq (E : Ev) (q : Nat × Nat) : Nat := if q.1 < 60 then E.2.1 + pos q.1 q.2 else E.2.2.2.2.1 q.1
def cv (E : Ev) : AV → Value
  | .inl x => .int x
  | .inr (.inl x) => .long x
  | .inr (.inr none) => .null
  | .inr (.inr (some q)) => .ref (lcq E q)
def ca (E : Ev) (t : Nat) : ClassId := E.2.2.2.1 t
/-- what a cell holds: of its row of references and its row of ints -/
def ent (E : Ev) (k : Nat) (Rr : Nat → Option (Nat × Nat)) (hr : Nat → Int32) : va_E := match shp k with
  | 0 => .inr (k, (List.range (nf k)).map (fun i => if isr k i = true then va_rf ((Rr i).map (lcq E)) else .int (hr i)))
  | 1 => .inl (ca E 0, nf k, .inl hr)
  | 2 => .inl (ca E 1, nf k, .inl hr)
  | t + 3 => .inl (ca E (t + 2), nf k, .inr (.inr (.inr (.inr (fun i => (Rr i).map (lcq E))))))
def wsl (E : Ev) (n : Nat) (R : RF) (h : HF) : va_W := (List.range n).map (fun i => (E.2.1 + i, ent E (idq i).1 (R (idq i).1 (idq i).2) (h (idq i).1 (idq i).2)))
def Rp (E : Ev) (n : Nat) (R : RF) (h : HF) (H : Heap) : Prop := va_P E.2.2.1 vwCl (wsl E n R h) H
def fA (E : Ev) : Nat → Prop := fun q => E.2.1 ≤ q
theorem pos_all : ∀ k, k < 60 → ∀ j, j < cnt k → pos k j < 243 ∧ idq (pos k j) = (k, j) := by decide +kernel
theorem pos_idq : ∀ i, i < 243 → pos (idq i).1 (idq i).2 = i ∧ (idq i).1 < 60 := by decide +kernel
theorem wsl_get {E : Ev} {n i : Nat} {R : RF} {h : HF} (hi : i < n) : (wsl E n R h)[i]? = some (E.2.1 + i, ent E (idq i).1 (R (idq i).1 (idq i).2) (h (idq i).1 (idq i).2)) := by
  simp [wsl, hi]
theorem wsl_lt {E : Ev} {n i : Nat} {R : RF} {h : HF} {q : Nat × va_E} (hq : (wsl E n R h)[i]? = some q) : i < n ∧ q.1 = E.2.1 + i := by
  have hi : i < n := by
    have h1 := (List.getElem?_eq_some_iff.mp hq).1
    simpa [wsl] using h1
  rw [wsl_get hi] at hq
  cases hq
  exact ⟨hi, rfl⟩
theorem wsl_D {E : Ev} {n : Nat} {R : RF} {h : HF} : va_D (fA E) (wsl E n R h) := by
  refine ⟨fun i j p q hp hq e => ?_, fun k q hq => ?_⟩
  · have a := (wsl_lt hp).2
    have b := (wsl_lt hq).2
    omega
  · show E.2.1 ≤ q.1
    rw [(wsl_lt hq).2]
    omega
/-- a cell that there is, at its place -/
theorem wsl_at {E : Ev} {n k j : Nat} {R : RF} {h : HF} (hk : k < 60) (hj : j < cnt k) (hn : pos k j < n) : (wsl E n R h)[pos k j]? = some (lcq E (k, j), ent E k (R k j) (h k j)) := by
  rw [wsl_get hn, (pos_all k hk j hj).2]
  simp [lcq, hk]
theorem wsl_set {E : Ev} {n k j : Nat} {R R' : RF} {h h' : HF} (hk : k < 60) (hj : j < cnt k) (hn : pos k j < n) (hN : n ≤ 243) (ho : ∀ k' j', ¬ (k' = k ∧ j' = j) → R' k' j' = R k' j' ∧ h' k' j' = h k' j') :
    (wsl E n R h).set (pos k j) (lcq E (k, j), ent E k (R' k j) (h' k j)) = wsl E n R' h' := by
  apply List.ext_getElem?
  intro i
  by_cases hi : i < n
  · by_cases e : i = pos k j
    · subst e
      rw [List.getElem?_set_self (by simpa [wsl] using hi), wsl_at hk hj hn]
    · rw [List.getElem?_set_ne (fun z => e z.symm), wsl_get hi, wsl_get hi]
      have hne : ¬ ((idq i).1 = k ∧ (idq i).2 = j) := fun z => e (by rw [← (pos_idq i (by omega)).1, z.1, z.2])
      rw [(ho _ _ hne).1, (ho _ _ hne).2]
  · rw [List.getElem?_eq_none (by simp [wsl]; omega), List.getElem?_eq_none (by simp [wsl]; omega)]
/-- how many slots the first n cells have -/
def sl : Nat → Nat
  | 0 => 0
  | n + 1 => sl n + nf (idq n).1
theorem sl_mono {a b : Nat} (h : a ≤ b) : sl a ≤ sl b := by
  induction h with
  | refl => exact Nat.le_refl _
  | step _ ih => exact Nat.le_trans ih (Nat.le_add_right _ _)
def put (h : HF) (k j i : Nat) (v : Int32) : HF := fun k' j' i' => if k' = k then (if i' = i then (if j' = j then v else h k' j' i') else h k' j' i') else h k' j' i'
def putR (R : RF) (k j i : Nat) (v : Option (Nat × Nat)) : RF := fun k' j' i' => if k' = k then (if i' = i then (if j' = j then v else R k' j' i') else R k' j' i') else R k' j' i'
theorem put_off {h : HF} {k j i k' j' : Nat} {v : Int32} (hn : ¬ (k' = k ∧ j' = j)) : put h k j i v k' j' = h k' j' := by
  funext i'
  simp only [put]
  by_cases a : k' = k
  · have b : ¬ j' = j := fun z => hn ⟨a, z⟩
    simp [a, b]
  · simp [a]
theorem put_on {h : HF} {k j i : Nat} {v : Int32} : put h k j i v k j = upd (h k j) i v := by
  funext i'
  simp only [put, upd]
  by_cases a : i' = i <;> simp [a]
theorem putR_off {R : RF} {k j i k' j' : Nat} {v : Option (Nat × Nat)} (hn : ¬ (k' = k ∧ j' = j)) : putR R k j i v k' j' = R k' j' := by
  funext i'
  simp only [putR]
  by_cases a : k' = k
  · have b : ¬ j' = j := fun z => hn ⟨a, z⟩
    simp [a, b]
  · simp [a]
theorem putR_on {R : RF} {k j i : Nat} {v : Option (Nat × Nat)} : putR R k j i v k j = va_up (R k j) i v := by
  funext i'
  simp only [putR, va_up]
  by_cases a : i' = i <;> simp [a]
/-- the words that hold however far the tables are warm -/
def tb : List Cond := lw_tbl.filter goodWord
theorem tb_good : ∀ w ∈ tb, (w.onTables && w.keeps) = true ∨ ∃ ty, w = .arrayClass ty := fun w h => good_of_word (List.mem_filter.mp h).2
/-- links of private constructors, and the rows of objects: they are carried beside -/
def nestW : List Cond := tables_1.filter (fun w => match w with | .methodLinkNest _ _ _ _ => true | _ => false)
def numV : List Int32 := [2, 3, 3, 1, 2]
def lowV : List Int32 := [0, 0, 0, 0, 0, 0, 0, 1, 0, 1, 0, 0, 0, 1, 0]
def higV : List Int32 := [999, 99, 0, 99, 9, 9, 999, 99, 99, 99, 0, 0, 99, 99, 0]
def tys (E : Ev) : List (ClassId × FieldType) := [(ca E 0, .int), (ca E 1, .boolean), (ca E 2, .object "SiegePlate$Siege"), (ca E 3, .object "SiegePlate$Camp"), (ca E 4, .object "SiegePlate$Image")]
/-- a given row of ints: a static's, which is a reference to it -/
def Gr (E : Ev) (nm : String) (k : Nat) (xs : List Int32) (U : State) (H : Heap) : Prop := va_Z "SiegePlate$Reader" nm "[I" (.ref (E.2.2.2.2.1 k)) (fA E) U H ∧ va_T .int (E.2.2.2.2.1 k) xs.length (fun j => .int (xs.getD j 0)) (fA E) U H
/-- what holds of the tables and of the given rows, wherever a method begins -/
def En (E : Ev) (U : State) (H : Heap) : Prop := va_K E.2.2.1 vwCl (tys E) U ∧ (∀ w ∈ nestW, va_Nw w U) ∧ (va_AO "SiegePlate$Siege" U ∧ va_AO "SiegePlate$Camp" U ∧ va_AO "SiegePlate$Image" U) ∧ Gr E "NUMBERS" 60 numV U H ∧ Gr E "LOWEST" 61 lowV U H ∧ Gr E "HIGHEST" 62 higV U H
theorem nest_is {w : Cond} (h : w ∈ nestW) : ∃ a i x b, w = .methodLinkNest a i x b := by
  have h2 := (List.mem_filter.mp h).2
  cases w <;> first | exact ⟨_, _, _, _, rfl⟩ | cases h2
theorem Gr.go {E : Ev} {nm : String} {k : Nat} {xs : List Int32} {u U : State} {H H1 : Heap} (hvm : u.vm.Alike U.vm) (hq : ∀ a : Nat, a < H.size → ¬ fA E a → H1[a]? = H[a]?) (h : Gr E nm k xs u H) : Gr E nm k xs U H1 := ⟨(h.1.kept hq).moved hvm, (h.2.kept hq).moved hvm⟩
theorem En.warm {E : Ev} {u U : State} {H H1 : Heap} (hW : u.WarmedH U.vm) (hq : ∀ a : Nat, a < H.size → ¬ fA E a → H1[a]? = H[a]?) (h : En E u H) : En E U H1 := by
  obtain ⟨h1, h2, ⟨h3, h4, h5⟩, h6, h7, h8⟩ := h
  have hA := hW.alike
  refine ⟨h1.moved hA, fun w hw => ?_, ⟨h3.moved hA, h4.moved hA, h5.moved hA⟩, h6.go hA hq, h7.go hA hq, h8.go hA hq⟩
  obtain ⟨a, i, x, b, rfl⟩ := nest_is hw
  exact va_Nw.warmM hW (h2 _ hw)
theorem En.same {E : Ev} {u U : State} {H : Heap} (hv : u.vm = U.vm) (h : En E u H) : En E U H := by
  obtain ⟨h1, h2, ⟨h3, h4, h5⟩, h6, h7, h8⟩ := h
  have hA : u.vm.Alike U.vm := by rw [hv]; exact Vm.Alike.refl _
  refine ⟨h1.moved hA, fun w hw => ?_, ⟨h3.moved hA, h4.moved hA, h5.moved hA⟩, h6.go hA (fun _ _ _ => rfl), h7.go hA (fun _ _ _ => rfl), h8.go hA (fun _ _ _ => rfl)⟩
  obtain ⟨a, i, x, b, rfl⟩ := nest_is hw
  exact va_Nw.same rfl hv (h2 _ hw)
end
section
/-- program, env, room, start, method, arguments, below, method's record, code, cells that stood at the start -/
abbrev Gv : Type := Program × Env × Room × State × MethodId × Array Value × List Frame × Method × Code × Nat
abbrev gp (G : Gv) : Program := G.1
abbrev ge (G : Gv) : Env := G.2.1
abbrev gR (G : Gv) : Room := G.2.2.1
abbrev gs (G : Gv) : State := G.2.2.2.1
abbrev gm (G : Gv) : MethodId := G.2.2.2.2.1
abbrev ga (G : Gv) : Array Value := G.2.2.2.2.2.1
abbrev gb (G : Gv) : List Frame := G.2.2.2.2.2.2.1
abbrev gme (G : Gv) : Method := G.2.2.2.2.2.2.2.1
abbrev gc (G : Gv) : Code := G.2.2.2.2.2.2.2.2.1
abbrev gn (G : Gv) : Nat := G.2.2.2.2.2.2.2.2.2
def lvl (E : Ev) : Nat → List (Option AV) → List (Nat × Value)
  | _, [] => []
  | i, none :: r => lvl E (i + 1) r
  | i, some v :: r => (i, cv E v) :: lvl E (i + 1) r
theorem lvl_mem {E : Ev} {q : Nat × Value} : ∀ {b : Nat} {L : List (Option AV)}, q ∈ lvl E b L ↔ ∃ i v, L[i]? = some (some v) ∧ q = (b + i, cv E v)
  | b, [] => by simp [lvl]
  | b, none :: r => by
    rw [lvl, lvl_mem (b := b + 1) (L := r)]
    constructor
    · rintro ⟨i, v, h1, h2⟩
      exact ⟨i + 1, v, by simpa using h1, by rw [h2]; congr 1; omega⟩
    · rintro ⟨i, v, h1, h2⟩
      cases i with
      | zero => simp at h1
      | succ i => exact ⟨i, v, by simpa using h1, by rw [h2]; congr 1; omega⟩
  | b, some w :: r => by
    rw [lvl, List.mem_cons, lvl_mem (b := b + 1) (L := r)]
    constructor
    · rintro (h | ⟨i, v, h1, h2⟩)
      · exact ⟨0, w, by simp, by rw [h]; rfl⟩
      · exact ⟨i + 1, v, by simpa using h1, by rw [h2]; congr 1; omega⟩
    · rintro ⟨i, v, h1, h2⟩
      cases i with
      | zero =>
        left
        have e : w = v := by simpa using h1
        rw [h2, e]; rfl
      | succ i => exact Or.inr ⟨i, v, by simpa using h1, by rw [h2]; congr 1; omega⟩
def lok (E : Ev) (c : Code) (ls : Array Slot) (L : List (Option AV)) : Prop := L.length ≤ c.maxLocals ∧ lv_has ls c.maxLocals (lvl E 0 L)
theorem lok_at {E : Ev} {c : Code} {ls : Array Slot} {L : List (Option AV)} {i : Nat} {v : AV} (h : lok E c ls L) (hv : L[i]? = some (some v)) : ls[i]? = some (.val (cv E v)) :=
  h.2.2.2 (i, cv E v) (lvl_mem.mpr ⟨i, v, hv, by rw [Nat.zero_add]⟩)
/-- L' is L with v at i, which kills no long ahead of it -/
def SL (L : List (Option AV)) (i : Nat) (v : AV) (L' : List (Option AV)) : Prop := L' = L.set i (some v) ∧ i < L.length ∧ ∀ w j, i = j + 1 → L[j]? = some (some w) → ∀ y, w ≠ aL y
/-- L' is L with the long v at i -/
def SL2 (L : List (Option AV)) (i : Nat) (v : AV) (L' : List (Option AV)) : Prop := L' = (L.set i (some v)).set (i + 1) none ∧ i + 1 < L.length ∧ ∀ w j, i = j + 1 → L[j]? = some (some w) → ∀ y, w ≠ aL y
def nlg : Option AV → Bool
  | some (.inr (.inl _)) => false
  | _ => true
theorem nlg_ne {w : AV} (h : nlg (some w) = true) (y : Int64) : w ≠ aL y := by
  intro e
  subst e
  cases h
theorem cv_cat {E : Ev} {v : AV} (h : ∀ y, v ≠ aL y) : (cv E v).category = 1 := by
  match v, h with
  | .inl x, _ => rfl
  | .inr (.inl x), h => exact absurd rfl (h x)
  | .inr (.inr none), _ => rfl
  | .inr (.inr (some q)), _ => rfl
theorem lok_set {E : Ev} {c : Code} {ls : Array Slot} {L L' : List (Option AV)} {i : Nat} {v : AV} (h : lok E c ls L) (hs : SL L i v L') (hv : ∀ y, v ≠ aL y) : ∃ ls', storeLocals ls i (cv E v) = some ls' ∧ lok E c ls' L' := by
  obtain ⟨e, hi, hn⟩ := hs
  obtain ⟨ls', a, b⟩ := lv_store1 (v := cv E v) h.2 (Nat.lt_of_lt_of_le hi h.1) (cv_cat hv)
  refine ⟨ls', a, by rw [e, List.length_set]; exact h.1, b.1, b.2.1, fun q hq => b.2.2 q ?_⟩
  obtain ⟨j, w, h1, h2⟩ := lvl_mem.mp hq
  rw [Nat.zero_add] at h2
  subst h2
  rw [e] at h1
  by_cases hj : j = i
  · subst hj
    rw [List.getElem?_set_self hi] at h1
    cases h1
    exact List.mem_cons_self
  · rw [List.getElem?_set_ne (fun z => hj z.symm)] at h1
    refine List.mem_cons_of_mem _ (List.mem_filter.mpr ⟨lvl_mem.mpr ⟨j, w, h1, by rw [Nat.zero_add]⟩, ?_⟩)
    simp only [Bool.and_eq_true, Bool.not_eq_true', beq_eq_false_iff_ne, ne_eq, Bool.and_eq_false_iff]
    refine ⟨hj, ?_⟩
    by_cases hz : j + 1 = i
    · right
      rw [cv_cat (hn w j hz.symm h1)]
      omega
    · left
      exact hz
theorem lok_set2 {E : Ev} {c : Code} {ls : Array Slot} {L L' : List (Option AV)} {i : Nat} {x : Int64} (h : lok E c ls L) (hs : SL2 L i (aL x) L') : ∃ ls', storeLocals ls i (.long x) = some ls' ∧ lok E c ls' L' := by
  obtain ⟨e, hi, hn⟩ := hs
  obtain ⟨ls', a, b⟩ := lv_store2 (v := .long x) h.2 (Nat.lt_of_lt_of_le hi h.1) rfl
  refine ⟨ls', a, by rw [e, List.length_set, List.length_set]; exact h.1, b.1, b.2.1, fun q hq => b.2.2 q ?_⟩
  obtain ⟨j, w, h1, h2⟩ := lvl_mem.mp hq
  rw [Nat.zero_add] at h2
  subst h2
  rw [e] at h1
  by_cases hj1 : j = i + 1
  · subst hj1
    rw [List.getElem?_set_self (by rw [List.length_set]; exact hi)] at h1
    cases h1
  · rw [List.getElem?_set_ne (fun z => hj1 z.symm)] at h1
    by_cases hj : j = i
    · subst hj
      rw [List.getElem?_set_self (by omega)] at h1
      cases h1
      exact List.mem_cons_self
    · rw [List.getElem?_set_ne (fun z => hj z.symm)] at h1
      refine List.mem_cons_of_mem _ (List.mem_filter.mpr ⟨lvl_mem.mpr ⟨j, w, h1, by rw [Nat.zero_add]⟩, ?_⟩)
      simp only [Bool.and_eq_true, Bool.not_eq_true', beq_eq_false_iff_ne, ne_eq, Bool.and_eq_false_iff]
      refine ⟨hj, hj1, ?_⟩
      by_cases hz : j + 1 = i
      · right
        rw [cv_cat (hn w j hz.symm h1)]
        omega
      · left
        exact hz
theorem st0 {a0 : Option AV} {r : List (Option AV)} {v : AV} : SL (a0 :: r) 0 v (some v :: r) := ⟨rfl, Nat.zero_lt_succ _, fun _ _ h => by cases h⟩
theorem st1 {a0 a1 : Option AV} {r : List (Option AV)} {v : AV} (hn : nlg a0 = true := by rfl) : SL (a0 :: a1 :: r) 1 v (a0 :: some v :: r) := ⟨rfl, by simp, fun w j h h1 => by
  have e : j = 0 := by omega
  subst e
  have e2 : a0 = some w := by simpa using h1
  subst e2
  exact nlg_ne hn⟩
theorem st2 {a0 a1 a2 : Option AV} {r : List (Option AV)} {v : AV} (hn : nlg a1 = true := by rfl) : SL (a0 :: a1 :: a2 :: r) 2 v (a0 :: a1 :: some v :: r) := ⟨rfl, by simp, fun w j h h1 => by
  have e : j = 1 := by omega
  subst e
  have e2 : a1 = some w := by simpa using h1
  subst e2
  exact nlg_ne hn⟩
theorem st3 {a0 a1 a2 a3 : Option AV} {r : List (Option AV)} {v : AV} (hn : nlg a2 = true := by rfl) : SL (a0 :: a1 :: a2 :: a3 :: r) 3 v (a0 :: a1 :: a2 :: some v :: r) := ⟨rfl, by simp, fun w j h h1 => by
  have e : j = 2 := by omega
  subst e
  have e2 : a2 = some w := by simpa using h1
  subst e2
  exact nlg_ne hn⟩
theorem st4 {a0 a1 a2 a3 a4 : Option AV} {r : List (Option AV)} {v : AV} (hn : nlg a3 = true := by rfl) : SL (a0 :: a1 :: a2 :: a3 :: a4 :: r) 4 v (a0 :: a1 :: a2 :: a3 :: some v :: r) := ⟨rfl, by simp, fun w j h h1 => by
  have e : j = 3 := by omega
  subst e
  have e2 : a3 = some w := by simpa using h1
  subst e2
  exact nlg_ne hn⟩
theorem st5 {a0 a1 a2 a3 a4 a5 : Option AV} {r : List (Option AV)} {v : AV} (hn : nlg a4 = true := by rfl) : SL (a0 :: a1 :: a2 :: a3 :: a4 :: a5 :: r) 5 v (a0 :: a1 :: a2 :: a3 :: a4 :: some v :: r) := ⟨rfl, by simp, fun w j h h1 => by
  have e : j = 4 := by omega
  subst e
  have e2 : a4 = some w := by simpa using h1
  subst e2
  exact nlg_ne hn⟩
theorem st6 {a0 a1 a2 a3 a4 a5 a6 : Option AV} {r : List (Option AV)} {v : AV} (hn : nlg a5 = true := by rfl) : SL (a0 :: a1 :: a2 :: a3 :: a4 :: a5 :: a6 :: r) 6 v (a0 :: a1 :: a2 :: a3 :: a4 :: a5 :: some v :: r) := ⟨rfl, by simp, fun w j h h1 => by
  have e : j = 5 := by omega
  subst e
  have e2 : a5 = some w := by simpa using h1
  subst e2
  exact nlg_ne hn⟩
theorem st7 {a0 a1 a2 a3 a4 a5 a6 a7 : Option AV} {r : List (Option AV)} {v : AV} (hn : nlg a6 = true := by rfl) : SL (a0 :: a1 :: a2 :: a3 :: a4 :: a5 :: a6 :: a7 :: r) 7 v (a0 :: a1 :: a2 :: a3 :: a4 :: a5 :: a6 :: some v :: r) := ⟨rfl, by simp, fun w j h h1 => by
  have e : j = 6 := by omega
  subst e
  have e2 : a6 = some w := by simpa using h1
  subst e2
  exact nlg_ne hn⟩
theorem st8 {a0 a1 a2 a3 a4 a5 a6 a7 a8 : Option AV} {r : List (Option AV)} {v : AV} (hn : nlg a7 = true := by rfl) : SL (a0 :: a1 :: a2 :: a3 :: a4 :: a5 :: a6 :: a7 :: a8 :: r) 8 v (a0 :: a1 :: a2 :: a3 :: a4 :: a5 :: a6 :: a7 :: some v :: r) := ⟨rfl, by simp, fun w j h h1 => by
  have e : j = 7 := by omega
  subst e
  have e2 : a7 = some w := by simpa using h1
  subst e2
  exact nlg_ne hn⟩
theorem st9 {a0 a1 a2 a3 a4 a5 a6 a7 a8 a9 : Option AV} {r : List (Option AV)} {v : AV} (hn : nlg a8 = true := by rfl) : SL (a0 :: a1 :: a2 :: a3 :: a4 :: a5 :: a6 :: a7 :: a8 :: a9 :: r) 9 v (a0 :: a1 :: a2 :: a3 :: a4 :: a5 :: a6 :: a7 :: a8 :: some v :: r) := ⟨rfl, by simp, fun w j h h1 => by
  have e : j = 8 := by omega
  subst e
  have e2 : a8 = some w := by simpa using h1
  subst e2
  exact nlg_ne hn⟩
theorem sl0 {a0 a1 : Option AV} {r : List (Option AV)} {v : AV} : SL2 (a0 :: a1 :: r) 0 v (some v :: none :: r) := ⟨rfl, by simp, fun _ _ h => by cases h⟩
theorem sl1 {a0 a1 a2 : Option AV} {r : List (Option AV)} {v : AV} (hn : nlg a0 = true := by rfl) : SL2 (a0 :: a1 :: a2 :: r) 1 v (a0 :: some v :: none :: r) := ⟨rfl, by simp, fun w j h h1 => by
  have e : j = 0 := by omega
  subst e
  have e2 : a0 = some w := by simpa using h1
  subst e2
  exact nlg_ne hn⟩
theorem sl2 {a0 a1 a2 a3 : Option AV} {r : List (Option AV)} {v : AV} (hn : nlg a1 = true := by rfl) : SL2 (a0 :: a1 :: a2 :: a3 :: r) 2 v (a0 :: a1 :: some v :: none :: r) := ⟨rfl, by simp, fun w j h h1 => by
  have e : j = 1 := by omega
  subst e
  have e2 : a1 = some w := by simpa using h1
  subst e2
  exact nlg_ne hn⟩
theorem sl3 {a0 a1 a2 a3 a4 : Option AV} {r : List (Option AV)} {v : AV} (hn : nlg a2 = true := by rfl) : SL2 (a0 :: a1 :: a2 :: a3 :: a4 :: r) 3 v (a0 :: a1 :: a2 :: some v :: none :: r) := ⟨rfl, by simp, fun w j h h1 => by
  have e : j = 2 := by omega
  subst e
  have e2 : a2 = some w := by simpa using h1
  subst e2
  exact nlg_ne hn⟩
theorem sl4 {a0 a1 a2 a3 a4 a5 : Option AV} {r : List (Option AV)} {v : AV} (hn : nlg a3 = true := by rfl) : SL2 (a0 :: a1 :: a2 :: a3 :: a4 :: a5 :: r) 4 v (a0 :: a1 :: a2 :: a3 :: some v :: none :: r) := ⟨rfl, by simp, fun w j h h1 => by
  have e : j = 3 := by omega
  subst e
  have e2 : a3 = some w := by simpa using h1
  subst e2
  exact nlg_ne hn⟩
theorem sl5 {a0 a1 a2 a3 a4 a5 a6 : Option AV} {r : List (Option AV)} {v : AV} (hn : nlg a4 = true := by rfl) : SL2 (a0 :: a1 :: a2 :: a3 :: a4 :: a5 :: a6 :: r) 5 v (a0 :: a1 :: a2 :: a3 :: a4 :: some v :: none :: r) := ⟨rfl, by simp, fun w j h h1 => by
  have e : j = 4 := by omega
  subst e
  have e2 : a4 = some w := by simpa using h1
  subst e2
  exact nlg_ne hn⟩
theorem sl6 {a0 a1 a2 a3 a4 a5 a6 a7 : Option AV} {r : List (Option AV)} {v : AV} (hn : nlg a5 = true := by rfl) : SL2 (a0 :: a1 :: a2 :: a3 :: a4 :: a5 :: a6 :: a7 :: r) 6 v (a0 :: a1 :: a2 :: a3 :: a4 :: a5 :: some v :: none :: r) := ⟨rfl, by simp, fun w j h h1 => by
  have e : j = 5 := by omega
  subst e
  have e2 : a5 = some w := by simpa using h1
  subst e2
  exact nlg_ne hn⟩
theorem sl7 {a0 a1 a2 a3 a4 a5 a6 a7 a8 : Option AV} {r : List (Option AV)} {v : AV} (hn : nlg a6 = true := by rfl) : SL2 (a0 :: a1 :: a2 :: a3 :: a4 :: a5 :: a6 :: a7 :: a8 :: r) 7 v (a0 :: a1 :: a2 :: a3 :: a4 :: a5 :: a6 :: some v :: none :: r) := ⟨rfl, by simp, fun w j h h1 => by
  have e : j = 6 := by omega
  subst e
  have e2 : a6 = some w := by simpa using h1
  subst e2
  exact nlg_ne hn⟩
theorem sl8 {a0 a1 a2 a3 a4 a5 a6 a7 a8 a9 : Option AV} {r : List (Option AV)} {v : AV} (hn : nlg a7 = true := by rfl) : SL2 (a0 :: a1 :: a2 :: a3 :: a4 :: a5 :: a6 :: a7 :: a8 :: a9 :: r) 8 v (a0 :: a1 :: a2 :: a3 :: a4 :: a5 :: a6 :: a7 :: some v :: none :: r) := ⟨rfl, by simp, fun w j h h1 => by
  have e : j = 7 := by omega
  subst e
  have e2 : a7 = some w := by simpa using h1
  subst e2
  exact nlg_ne hn⟩
/-- at pc, with these locals, this stack, n cells made, references R and ints h: the machine comes to Q -/
def Wa (E : Ev) (G : Gv) (n : Nat) (R : RF) (h : HF) (Q : State → Prop) (pc : Nat) (L : List (Option AV)) (st : List AV) : Prop :=
  ∀ (H : Heap) (locs : List Loc) (ls : Array Slot), Rp E n R h H → va_S (fA E) (gs G).heap H locs → lok E (gc G) ls L →
    W (gp G) E.1 (ge G) (gR G) (gs G) (gm G) (ga G) (gb G) (gme G) (gc G) H locs (n - gn G) (sl n - sl (gn G)) Q (F0 (gm G) pc ls (st.map (cv E)))
/-- what a method's walk may use -/
def Cx (E : Ev) (G : Gv) (d : Nat) (cc : ByteArray) (own : String) (nm : Nat) : Prop :=
  (gp G).tables.exec = Jvm.exec ∧ (gc G).code = cc ∧ (gs G).vm.findClass own = some (gm G).cls ∧ (∀ w ∈ tb, w.before (ga G) (gs G) = true) ∧ En E (gs G) (gs G).heap ∧ (gs G).heap.size = E.2.1 + gn G ∧
  (d ≤ (gR G).frames ∧ 30 * d ≤ (gR G).locals) ∧ (nm - gn G ≤ (gR G).cells ∧ sl nm - sl (gn G) ≤ (gR G).slots) ∧ (gn G ≤ nm ∧ nm ≤ 243) ∧ (gme G).locks = false
def Dc (cc : ByteArray) (pc : Nat) (i : Instr) (len pc' : Nat) : Prop := decode cc pc = .ok (i, len) ∧ pc + len = pc'
def Dj (cc : ByteArray) (pc : Nat) (i : Instr) (len pc' : Nat) (off : Int) (tgt : Nat) : Prop := decode cc pc = .ok (i, len) ∧ pc + len = pc' ∧ (pc : Int) + off = (tgt : Int)
section RW1
variable {E : Ev} {G : Gv} {n d nm pc pc' : Nat} {R : RF} {h : HF} {Q : State → Prop} {L L' : List (Option AV)} {st : List AV} {cc : ByteArray} {own : String}
theorem r_iload_n (C : Cx E G d cc own nm) {k : Fin 4} {x : Int32} (hd : Dc cc pc (.iload_n k) 1 pc') (hv : L[(k : Nat)]? = some (some (aI x))) (kk : Wa E G n R h Q pc' L (aI x :: st)) : Wa E G n R h Q pc L (st) := by
  obtain ⟨hd, rfl⟩ := hd
  intro H locs ls hP hS hl
  exact lv_iload_n C.1 C.2.1 hd rfl (lok_at hl hv) (kk H locs ls hP hS hl)
theorem r_iload (C : Cx E G d cc own nm) {i : Nat} {x : Int32} (hd : Dc cc pc (.iload i) 2 pc') (hv : L[i]? = some (some (aI x))) (kk : Wa E G n R h Q pc' L (aI x :: st)) : Wa E G n R h Q pc L (st) := by
  obtain ⟨hd, rfl⟩ := hd
  intro H locs ls hP hS hl
  exact lv_iload C.1 C.2.1 hd (lok_at hl hv) (kk H locs ls hP hS hl)
theorem r_lload_n (C : Cx E G d cc own nm) {k : Fin 4} {x : Int64} (hd : Dc cc pc (.lload_n k) 1 pc') (hv : L[(k : Nat)]? = some (some (aL x))) (kk : Wa E G n R h Q pc' L (aL x :: st)) : Wa E G n R h Q pc L (st) := by
  obtain ⟨hd, rfl⟩ := hd
  intro H locs ls hP hS hl
  exact lv_lload_n C.1 C.2.1 hd rfl (lok_at hl hv) (kk H locs ls hP hS hl)
theorem r_lload (C : Cx E G d cc own nm) {i : Nat} {x : Int64} (hd : Dc cc pc (.lload i) 2 pc') (hv : L[i]? = some (some (aL x))) (kk : Wa E G n R h Q pc' L (aL x :: st)) : Wa E G n R h Q pc L (st) := by
  obtain ⟨hd, rfl⟩ := hd
  intro H locs ls hP hS hl
  exact lv_lload C.1 C.2.1 hd (lok_at hl hv) (kk H locs ls hP hS hl)
theorem r_aload_n (C : Cx E G d cc own nm) {k : Fin 4} {a b : Nat} (hd : Dc cc pc (.aload_n k) 1 pc') (hv : L[(k : Nat)]? = some (some (aR a b))) (kk : Wa E G n R h Q pc' L (aR a b :: st)) : Wa E G n R h Q pc L (st) := by
  obtain ⟨hd, rfl⟩ := hd
  intro H locs ls hP hS hl
  exact lv_aload_n C.1 C.2.1 hd rfl (lok_at hl hv) (kk H locs ls hP hS hl)
theorem r_aload (C : Cx E G d cc own nm) {i a b : Nat} (hd : Dc cc pc (.aload i) 2 pc') (hv : L[i]? = some (some (aR a b))) (kk : Wa E G n R h Q pc' L (aR a b :: st)) : Wa E G n R h Q pc L (st) := by
  obtain ⟨hd, rfl⟩ := hd
  intro H locs ls hP hS hl
  exact lv_aload C.1 C.2.1 hd (lok_at hl hv) (kk H locs ls hP hS hl)
theorem r_iconst (C : Cx E G d cc own nm) {i : Int} {v : Int32} (hd : Dc cc pc (.iconst i) 1 pc') (hv : Int32.ofInt i = v) (kk : Wa E G n R h Q pc' L (aI v :: st)) : Wa E G n R h Q pc L (st) := by
  obtain ⟨hd, rfl⟩ := hd
  intro H locs ls hP hS hl
  exact lv_iconst C.1 C.2.1 hd hv (kk H locs ls hP hS hl)
theorem r_bipush (C : Cx E G d cc own nm) {i : Int} {v : Int32} (hd : Dc cc pc (.bipush i) 2 pc') (hv : (Int8.ofInt i).toInt32 = v) (kk : Wa E G n R h Q pc' L (aI v :: st)) : Wa E G n R h Q pc L (st) := by
  obtain ⟨hd, rfl⟩ := hd
  intro H locs ls hP hS hl
  exact lv_bipush C.1 C.2.1 hd hv (kk H locs ls hP hS hl)
theorem r_sipush (C : Cx E G d cc own nm) {i : Int} {v : Int32} (hd : Dc cc pc (.sipush i) 3 pc') (hv : (Int16.ofInt i).toInt32 = v) (kk : Wa E G n R h Q pc' L (aI v :: st)) : Wa E G n R h Q pc L (st) := by
  obtain ⟨hd, rfl⟩ := hd
  intro H locs ls hP hS hl
  exact lv_sipush C.1 C.2.1 hd hv (kk H locs ls hP hS hl)
theorem r_lconst (C : Cx E G d cc own nm) {i : Fin 2} {v : Int64} (hd : Dc cc pc (.lconst i) 1 pc') (hv : Int64.ofNat (i : Nat) = v) (kk : Wa E G n R h Q pc' L (aL v :: st)) : Wa E G n R h Q pc L (st) := by
  obtain ⟨hd, rfl⟩ := hd
  intro H locs ls hP hS hl
  exact lv_lconst C.1 C.2.1 hd hv (kk H locs ls hP hS hl)
theorem r_ldc (C : Cx E G d cc own nm) {i : Nat} {v : Int32} (hd : Dc cc pc (.ldc i) 2 pc') (hv : Cond.constant own i v ∈ tb) (kk : Wa E G n R h Q pc' L (aI v :: st)) : Wa E G n R h Q pc L (st) := by
  obtain ⟨hd, rfl⟩ := hd
  intro H locs ls hP hS hl
  exact lv_ldc C.1 C.2.1 C.2.2.1 (C.2.2.2.1 _ hv) hd (kk H locs ls hP hS hl)
theorem r_ldcw (C : Cx E G d cc own nm) {i : Nat} {v : Int32} (hd : Dc cc pc (.ldc_w i) 3 pc') (hv : Cond.constant own i v ∈ tb) (kk : Wa E G n R h Q pc' L (aI v :: st)) : Wa E G n R h Q pc L (st) := by
  obtain ⟨hd, rfl⟩ := hd
  intro H locs ls hP hS hl
  exact lv_ldcw C.1 C.2.1 C.2.2.1 (C.2.2.2.1 _ hv) hd (kk H locs ls hP hS hl)
theorem r_ldc2 (C : Cx E G d cc own nm) {i : Nat} {v : Int64} (hd : Dc cc pc (.ldc2_w i) 3 pc') (hv : Cond.constantLong own i v ∈ tb) (kk : Wa E G n R h Q pc' L (aL v :: st)) : Wa E G n R h Q pc L (st) := by
  obtain ⟨hd, rfl⟩ := hd
  intro H locs ls hP hS hl
  exact lv_ldc2 C.1 C.2.1 C.2.2.1 (C.2.2.2.1 _ hv) hd (kk H locs ls hP hS hl)
theorem r_iadd (C : Cx E G d cc own nm) {x y : Int32} (hd : Dc cc pc (.iadd) 1 pc')  (kk : Wa E G n R h Q pc' L (aI (x + y) :: st)) : Wa E G n R h Q pc L (aI y :: aI x :: st) := by
  obtain ⟨hd, rfl⟩ := hd
  intro H locs ls hP hS hl
  exact lv_iadd C.1 C.2.1 hd (kk H locs ls hP hS hl)
theorem r_isub (C : Cx E G d cc own nm) {x y : Int32} (hd : Dc cc pc (.isub) 1 pc')  (kk : Wa E G n R h Q pc' L (aI (x - y) :: st)) : Wa E G n R h Q pc L (aI y :: aI x :: st) := by
  obtain ⟨hd, rfl⟩ := hd
  intro H locs ls hP hS hl
  exact lv_isub C.1 C.2.1 hd (kk H locs ls hP hS hl)
theorem r_imul (C : Cx E G d cc own nm) {x y : Int32} (hd : Dc cc pc (.imul) 1 pc')  (kk : Wa E G n R h Q pc' L (aI (x * y) :: st)) : Wa E G n R h Q pc L (aI y :: aI x :: st) := by
  obtain ⟨hd, rfl⟩ := hd
  intro H locs ls hP hS hl
  exact lv_imul C.1 C.2.1 hd (kk H locs ls hP hS hl)
theorem r_iand (C : Cx E G d cc own nm) {x y : Int32} (hd : Dc cc pc (.iand) 1 pc')  (kk : Wa E G n R h Q pc' L (aI (x &&& y) :: st)) : Wa E G n R h Q pc L (aI y :: aI x :: st) := by
  obtain ⟨hd, rfl⟩ := hd
  intro H locs ls hP hS hl
  exact lv_iand C.1 C.2.1 hd (kk H locs ls hP hS hl)
theorem r_ior (C : Cx E G d cc own nm) {x y : Int32} (hd : Dc cc pc (.ior) 1 pc')  (kk : Wa E G n R h Q pc' L (aI (x ||| y) :: st)) : Wa E G n R h Q pc L (aI y :: aI x :: st) := by
  obtain ⟨hd, rfl⟩ := hd
  intro H locs ls hP hS hl
  exact lv_ior C.1 C.2.1 hd (kk H locs ls hP hS hl)
theorem r_ishl (C : Cx E G d cc own nm) {x y : Int32} (hd : Dc cc pc (.ishl) 1 pc')  (kk : Wa E G n R h Q pc' L (aI (x <<< (y &&& 31)) :: st)) : Wa E G n R h Q pc L (aI y :: aI x :: st) := by
  obtain ⟨hd, rfl⟩ := hd
  intro H locs ls hP hS hl
  exact lv_ishl C.1 C.2.1 hd (kk H locs ls hP hS hl)
theorem r_ishr (C : Cx E G d cc own nm) {x y : Int32} (hd : Dc cc pc (.ishr) 1 pc')  (kk : Wa E G n R h Q pc' L (aI (x >>> (y &&& 31)) :: st)) : Wa E G n R h Q pc L (aI y :: aI x :: st) := by
  obtain ⟨hd, rfl⟩ := hd
  intro H locs ls hP hS hl
  exact lv_ishr C.1 C.2.1 hd (kk H locs ls hP hS hl)
theorem r_idiv (C : Cx E G d cc own nm) {x y : Int32} (hd : Dc cc pc (.idiv) 1 pc') (hy : ¬ y = 0) (kk : Wa E G n R h Q pc' L (aI (x / y) :: st)) : Wa E G n R h Q pc L (aI y :: aI x :: st) := by
  obtain ⟨hd, rfl⟩ := hd
  intro H locs ls hP hS hl
  exact lv_idiv C.1 C.2.1 hd hy (kk H locs ls hP hS hl)
theorem r_irem (C : Cx E G d cc own nm) {x y : Int32} (hd : Dc cc pc (.irem) 1 pc') (hy : ¬ y = 0) (kk : Wa E G n R h Q pc' L (aI (x - x / y * y) :: st)) : Wa E G n R h Q pc L (aI y :: aI x :: st) := by
  obtain ⟨hd, rfl⟩ := hd
  intro H locs ls hP hS hl
  exact lv_irem C.1 C.2.1 hd hy (kk H locs ls hP hS hl)
theorem r_ladd (C : Cx E G d cc own nm) {x y : Int64} (hd : Dc cc pc (.ladd) 1 pc')  (kk : Wa E G n R h Q pc' L (aL (x + y) :: st)) : Wa E G n R h Q pc L (aL y :: aL x :: st) := by
  obtain ⟨hd, rfl⟩ := hd
  intro H locs ls hP hS hl
  exact lv_ladd C.1 C.2.1 hd (kk H locs ls hP hS hl)
theorem r_lsub (C : Cx E G d cc own nm) {x y : Int64} (hd : Dc cc pc (.lsub) 1 pc')  (kk : Wa E G n R h Q pc' L (aL (x - y) :: st)) : Wa E G n R h Q pc L (aL y :: aL x :: st) := by
  obtain ⟨hd, rfl⟩ := hd
  intro H locs ls hP hS hl
  exact lv_lsub C.1 C.2.1 hd (kk H locs ls hP hS hl)
theorem r_lmul (C : Cx E G d cc own nm) {x y : Int64} (hd : Dc cc pc (.lmul) 1 pc')  (kk : Wa E G n R h Q pc' L (aL (x * y) :: st)) : Wa E G n R h Q pc L (aL y :: aL x :: st) := by
  obtain ⟨hd, rfl⟩ := hd
  intro H locs ls hP hS hl
  exact lv_lmul C.1 C.2.1 hd (kk H locs ls hP hS hl)
theorem r_ldiv (C : Cx E G d cc own nm) {x y : Int64} (hd : Dc cc pc (.ldiv) 1 pc') (hy : ¬ y = 0) (kk : Wa E G n R h Q pc' L (aL (x / y) :: st)) : Wa E G n R h Q pc L (aL y :: aL x :: st) := by
  obtain ⟨hd, rfl⟩ := hd
  intro H locs ls hP hS hl
  exact lv_ldiv C.1 C.2.1 hd hy (kk H locs ls hP hS hl)
theorem r_lrem (C : Cx E G d cc own nm) {x y : Int64} (hd : Dc cc pc (.lrem) 1 pc') (hy : ¬ y = 0) (kk : Wa E G n R h Q pc' L (aL (x - x / y * y) :: st)) : Wa E G n R h Q pc L (aL y :: aL x :: st) := by
  obtain ⟨hd, rfl⟩ := hd
  intro H locs ls hP hS hl
  exact lv_lrem C.1 C.2.1 hd hy (kk H locs ls hP hS hl)
theorem r_i2l (C : Cx E G d cc own nm) {x : Int32} (hd : Dc cc pc (.i2l) 1 pc')  (kk : Wa E G n R h Q pc' L (aL x.toInt64 :: st)) : Wa E G n R h Q pc L (aI x :: st) := by
  obtain ⟨hd, rfl⟩ := hd
  intro H locs ls hP hS hl
  exact lv_i2l C.1 C.2.1 hd rfl (kk H locs ls hP hS hl)
theorem r_l2i (C : Cx E G d cc own nm) {x : Int64} (hd : Dc cc pc (.l2i) 1 pc')  (kk : Wa E G n R h Q pc' L (aI x.toInt32 :: st)) : Wa E G n R h Q pc L (aL x :: st) := by
  obtain ⟨hd, rfl⟩ := hd
  intro H locs ls hP hS hl
  exact lv_l2i C.1 C.2.1 hd rfl (kk H locs ls hP hS hl)
theorem r_lcmp (C : Cx E G d cc own nm) {x y : Int64} (hd : Dc cc pc (.lcmp) 1 pc')  (kk : Wa E G n R h Q pc' L (aI (lg_cmp x y) :: st)) : Wa E G n R h Q pc L (aL y :: aL x :: st) := by
  obtain ⟨hd, rfl⟩ := hd
  intro H locs ls hP hS hl
  exact W.lcmp C.1 C.2.1 hd (kk H locs ls hP hS hl)
theorem r_dup (C : Cx E G d cc own nm) {v : AV} (hd : Dc cc pc (.dup) 1 pc') (hv : nlg (some v) = true) (kk : Wa E G n R h Q pc' L (v :: v :: st)) : Wa E G n R h Q pc L (v :: st) := by
  obtain ⟨hd, rfl⟩ := hd
  intro H locs ls hP hS hl
  exact lv_dup C.1 C.2.1 hd (cv_cat (nlg_ne hv)) (kk H locs ls hP hS hl)
theorem r_dup2 (C : Cx E G d cc own nm) {v w : AV} (hd : Dc cc pc (.dup2) 1 pc') (hv : nlg (some v) = true) (hw : nlg (some w) = true) (kk : Wa E G n R h Q pc' L (v :: w :: v :: w :: st)) : Wa E G n R h Q pc L (v :: w :: st) := by
  obtain ⟨hd, rfl⟩ := hd
  intro H locs ls hP hS hl
  exact lv_dup2_11 C.1 C.2.1 hd (cv_cat (nlg_ne hv)) (cv_cat (nlg_ne hw)) (kk H locs ls hP hS hl)
theorem r_top {v w : AV} (e : v = w) (kk : Wa E G n R h Q pc L (w :: st)) : Wa E G n R h Q pc L (v :: st) := e ▸ kk
theorem r_iaddN (C : Cx E G d cc own nm) {a b : Nat} (hd : Dc cc pc .iadd 1 pc') (kk : Wa E G n R h Q pc' L (aI (nI (a + b)) :: st)) : Wa E G n R h Q pc L (aI (nI b) :: aI (nI a) :: st) := r_iadd C hd (by rw [nI_add]; exact kk)
theorem r_imulN (C : Cx E G d cc own nm) {a b : Nat} (hd : Dc cc pc .imul 1 pc') (kk : Wa E G n R h Q pc' L (aI (nI (a * b)) :: st)) : Wa E G n R h Q pc L (aI (nI b) :: aI (nI a) :: st) := r_imul C hd (by rw [pk_mul]; exact kk)
theorem r_isubN (C : Cx E G d cc own nm) {a b : Nat} (hd : Dc cc pc .isub 1 pc') (hb : b ≤ a) (kk : Wa E G n R h Q pc' L (aI (nI (a - b)) :: st)) : Wa E G n R h Q pc L (aI (nI b) :: aI (nI a) :: st) := r_isub C hd (by rw [pk_sub hb]; exact kk)
theorem r_istore_n (C : Cx E G d cc own nm) {k : Fin 4} {x : Int32} (hd : Dc cc pc (.istore_n k) 1 pc') (hs : SL L (k : Nat) (aI x) L') (kk : Wa E G n R h Q pc' L' st) : Wa E G n R h Q pc L (aI x :: st) := by
  obtain ⟨hd, rfl⟩ := hd
  intro H locs ls hP hS hl
  obtain ⟨ls', e, hl'⟩ := lok_set hl hs (fun y z => by cases z)
  intro T hT X
  obtain ⟨t, a1, b1⟩ := kk H locs ls' hP hS hl' T hT X
  refine ⟨t, ?_, b1⟩
  replace e : storeLocals ls (k : Nat) _ = some ls' := e
  simp only [cv] at e
  simp only [List.map_cons, cv]
  jvm_step X.here [X.here.top, ↓top_set X.here.top, C.1, C.2.1, hd, e, Value.isRef]
  exact a1
theorem r_istore (C : Cx E G d cc own nm) {i : Nat} {x : Int32} (hd : Dc cc pc (.istore i) 2 pc') (hs : SL L i (aI x) L') (kk : Wa E G n R h Q pc' L' st) : Wa E G n R h Q pc L (aI x :: st) := by
  obtain ⟨hd, rfl⟩ := hd
  intro H locs ls hP hS hl
  obtain ⟨ls', e, hl'⟩ := lok_set hl hs (fun y z => by cases z)
  intro T hT X
  obtain ⟨t, a1, b1⟩ := kk H locs ls' hP hS hl' T hT X
  refine ⟨t, ?_, b1⟩
  simp only [cv] at e
  simp only [List.map_cons, cv]
  jvm_step X.here [X.here.top, ↓top_set X.here.top, C.1, C.2.1, hd, e, Value.isRef]
  exact a1
theorem r_astore_n (C : Cx E G d cc own nm) {k : Fin 4} {a b : Nat} (hd : Dc cc pc (.astore_n k) 1 pc') (hs : SL L (k : Nat) (aR a b) L') (kk : Wa E G n R h Q pc' L' st) : Wa E G n R h Q pc L (aR a b :: st) := by
  obtain ⟨hd, rfl⟩ := hd
  intro H locs ls hP hS hl
  obtain ⟨ls', e, hl'⟩ := lok_set hl hs (fun y z => by cases z)
  intro T hT X
  obtain ⟨t, a1, b1⟩ := kk H locs ls' hP hS hl' T hT X
  refine ⟨t, ?_, b1⟩
  replace e : storeLocals ls (k : Nat) _ = some ls' := e
  simp only [cv] at e
  simp only [List.map_cons, cv]
  jvm_step X.here [X.here.top, ↓top_set X.here.top, C.1, C.2.1, hd, e, Value.isRef]
  exact a1
theorem r_astore (C : Cx E G d cc own nm) {i : Nat} {a b : Nat} (hd : Dc cc pc (.astore i) 2 pc') (hs : SL L i (aR a b) L') (kk : Wa E G n R h Q pc' L' st) : Wa E G n R h Q pc L (aR a b :: st) := by
  obtain ⟨hd, rfl⟩ := hd
  intro H locs ls hP hS hl
  obtain ⟨ls', e, hl'⟩ := lok_set hl hs (fun y z => by cases z)
  intro T hT X
  obtain ⟨t, a1, b1⟩ := kk H locs ls' hP hS hl' T hT X
  refine ⟨t, ?_, b1⟩
  simp only [cv] at e
  simp only [List.map_cons, cv]
  jvm_step X.here [X.here.top, ↓top_set X.here.top, C.1, C.2.1, hd, e, Value.isRef]
  exact a1
theorem r_lstore_n (C : Cx E G d cc own nm) {k : Fin 4} {x : Int64} (hd : Dc cc pc (.lstore_n k) 1 pc') (hs : SL2 L (k : Nat) (aL x) L') (kk : Wa E G n R h Q pc' L' st) : Wa E G n R h Q pc L (aL x :: st) := by
  obtain ⟨hd, rfl⟩ := hd
  intro H locs ls hP hS hl
  obtain ⟨ls', e, hl'⟩ := lok_set2 hl hs
  intro T hT X
  obtain ⟨t, a1, b1⟩ := kk H locs ls' hP hS hl' T hT X
  refine ⟨t, ?_, b1⟩
  simp only [List.map_cons, cv]
  jvm_step X.here [X.here.top, ↓top_set X.here.top, C.1, C.2.1, hd, e]
  exact a1
theorem r_iinc (C : Cx E G d cc own nm) {i : Nat} {m : Int} {x v : Int32} (hd : Dc cc pc (.iinc i m) 3 pc') (hx : L[i]? = some (some (aI x))) (hv : x + Int32.ofInt m = v) (hs : SL L i (aI v) L') (kk : Wa E G n R h Q pc' L' st) : Wa E G n R h Q pc L st := by
  obtain ⟨hd, rfl⟩ := hd
  subst hv
  intro H locs ls hP hS hl
  have hg := lok_at hl hx
  obtain ⟨ls', e, hl'⟩ := lok_set hl hs (fun y z => by cases z)
  intro T hT X
  obtain ⟨t, a1, b1⟩ := kk H locs ls' hP hS hl' T hT X
  refine ⟨t, ?_, b1⟩
  simp only [cv] at e hg
  jvm_step X.here [X.here.top, ↓top_set X.here.top, C.1, C.2.1, hd, hg, e]
  exact a1
theorem r_iincN (C : Cx E G d cc own nm) {i a : Nat} (hd : Dc cc pc (.iinc i 1) 3 pc') (hx : L[i]? = some (some (aI (nI a)))) (hs : SL L i (aI (nI (a + 1))) L') (kk : Wa E G n R h Q pc' L' st) : Wa E G n R h Q pc L st := r_iinc C hd hx (v := nI (a + 1)) (by rw [← nI_1]; rfl) hs kk
theorem r_if_eq (C : Cx E G d cc own nm) {x : Int32} {off : Int} {tgt : Nat} (hd : Dj cc pc (.ifCond .eq off) 3 pc' off tgt) (kt : x = 0 → Wa E G n R h Q tgt L st) (kf : ¬ x = 0 → Wa E G n R h Q pc' L st) : Wa E G n R h Q pc L (aI x :: st) := by
  obtain ⟨hd, rfl, ht⟩ := hd
  intro H locs ls hP hS hl
  exact lv_if_eq C.1 C.2.1 hd ht (fun c => kt c H locs ls hP hS hl) (fun c => kf c H locs ls hP hS hl)
theorem r_if_ne (C : Cx E G d cc own nm) {x : Int32} {off : Int} {tgt : Nat} (hd : Dj cc pc (.ifCond .ne off) 3 pc' off tgt) (kt : ¬ x = 0 → Wa E G n R h Q tgt L st) (kf : x = 0 → Wa E G n R h Q pc' L st) : Wa E G n R h Q pc L (aI x :: st) := by
  obtain ⟨hd, rfl, ht⟩ := hd
  intro H locs ls hP hS hl
  exact lv_if_ne C.1 C.2.1 hd ht (fun c => kt c H locs ls hP hS hl) (fun c => kf c H locs ls hP hS hl)
theorem r_if_lt (C : Cx E G d cc own nm) {x : Int32} {off : Int} {tgt : Nat} (hd : Dj cc pc (.ifCond .lt off) 3 pc' off tgt) (kt : x < 0 → Wa E G n R h Q tgt L st) (kf : ¬ x < 0 → Wa E G n R h Q pc' L st) : Wa E G n R h Q pc L (aI x :: st) := by
  obtain ⟨hd, rfl, ht⟩ := hd
  intro H locs ls hP hS hl
  exact lv_if_lt C.1 C.2.1 hd ht (fun c => kt c H locs ls hP hS hl) (fun c => kf c H locs ls hP hS hl)
theorem r_if_ge (C : Cx E G d cc own nm) {x : Int32} {off : Int} {tgt : Nat} (hd : Dj cc pc (.ifCond .ge off) 3 pc' off tgt) (kt : 0 ≤ x → Wa E G n R h Q tgt L st) (kf : ¬ 0 ≤ x → Wa E G n R h Q pc' L st) : Wa E G n R h Q pc L (aI x :: st) := by
  obtain ⟨hd, rfl, ht⟩ := hd
  intro H locs ls hP hS hl
  exact lv_if_ge C.1 C.2.1 hd ht (fun c => kt c H locs ls hP hS hl) (fun c => kf c H locs ls hP hS hl)
theorem r_if_gt (C : Cx E G d cc own nm) {x : Int32} {off : Int} {tgt : Nat} (hd : Dj cc pc (.ifCond .gt off) 3 pc' off tgt) (kt : 0 < x → Wa E G n R h Q tgt L st) (kf : ¬ 0 < x → Wa E G n R h Q pc' L st) : Wa E G n R h Q pc L (aI x :: st) := by
  obtain ⟨hd, rfl, ht⟩ := hd
  intro H locs ls hP hS hl
  exact lv_if_gt C.1 C.2.1 hd ht (fun c => kt c H locs ls hP hS hl) (fun c => kf c H locs ls hP hS hl)
theorem r_if_le (C : Cx E G d cc own nm) {x : Int32} {off : Int} {tgt : Nat} (hd : Dj cc pc (.ifCond .le off) 3 pc' off tgt) (kt : x ≤ 0 → Wa E G n R h Q tgt L st) (kf : ¬ x ≤ 0 → Wa E G n R h Q pc' L st) : Wa E G n R h Q pc L (aI x :: st) := by
  obtain ⟨hd, rfl, ht⟩ := hd
  intro H locs ls hP hS hl
  exact lv_if_le C.1 C.2.1 hd ht (fun c => kt c H locs ls hP hS hl) (fun c => kf c H locs ls hP hS hl)
theorem r_icmp_eq (C : Cx E G d cc own nm) {x y : Int32} {off : Int} {tgt : Nat} (hd : Dj cc pc (.if_icmp .eq off) 3 pc' off tgt) (kt : x = y → Wa E G n R h Q tgt L st) (kf : ¬ x = y → Wa E G n R h Q pc' L st) : Wa E G n R h Q pc L (aI y :: aI x :: st) := by
  obtain ⟨hd, rfl, ht⟩ := hd
  intro H locs ls hP hS hl
  exact lv_icmp_eq C.1 C.2.1 hd ht (fun c => kt c H locs ls hP hS hl) (fun c => kf c H locs ls hP hS hl)
theorem r_icmp_ne (C : Cx E G d cc own nm) {x y : Int32} {off : Int} {tgt : Nat} (hd : Dj cc pc (.if_icmp .ne off) 3 pc' off tgt) (kt : ¬ x = y → Wa E G n R h Q tgt L st) (kf : x = y → Wa E G n R h Q pc' L st) : Wa E G n R h Q pc L (aI y :: aI x :: st) := by
  obtain ⟨hd, rfl, ht⟩ := hd
  intro H locs ls hP hS hl
  exact lv_icmp_ne C.1 C.2.1 hd ht (fun c => kt c H locs ls hP hS hl) (fun c => kf c H locs ls hP hS hl)
theorem r_icmp_lt (C : Cx E G d cc own nm) {x y : Int32} {off : Int} {tgt : Nat} (hd : Dj cc pc (.if_icmp .lt off) 3 pc' off tgt) (kt : x < y → Wa E G n R h Q tgt L st) (kf : ¬ x < y → Wa E G n R h Q pc' L st) : Wa E G n R h Q pc L (aI y :: aI x :: st) := by
  obtain ⟨hd, rfl, ht⟩ := hd
  intro H locs ls hP hS hl
  exact lv_icmp_lt C.1 C.2.1 hd ht (fun c => kt c H locs ls hP hS hl) (fun c => kf c H locs ls hP hS hl)
theorem r_icmp_ge (C : Cx E G d cc own nm) {x y : Int32} {off : Int} {tgt : Nat} (hd : Dj cc pc (.if_icmp .ge off) 3 pc' off tgt) (kt : y ≤ x → Wa E G n R h Q tgt L st) (kf : ¬ y ≤ x → Wa E G n R h Q pc' L st) : Wa E G n R h Q pc L (aI y :: aI x :: st) := by
  obtain ⟨hd, rfl, ht⟩ := hd
  intro H locs ls hP hS hl
  exact lv_icmp_ge C.1 C.2.1 hd ht (fun c => kt c H locs ls hP hS hl) (fun c => kf c H locs ls hP hS hl)
theorem r_icmp_gt (C : Cx E G d cc own nm) {x y : Int32} {off : Int} {tgt : Nat} (hd : Dj cc pc (.if_icmp .gt off) 3 pc' off tgt) (kt : y < x → Wa E G n R h Q tgt L st) (kf : ¬ y < x → Wa E G n R h Q pc' L st) : Wa E G n R h Q pc L (aI y :: aI x :: st) := by
  obtain ⟨hd, rfl, ht⟩ := hd
  intro H locs ls hP hS hl
  exact lv_icmp_gt C.1 C.2.1 hd ht (fun c => kt c H locs ls hP hS hl) (fun c => kf c H locs ls hP hS hl)
theorem r_icmp_le (C : Cx E G d cc own nm) {x y : Int32} {off : Int} {tgt : Nat} (hd : Dj cc pc (.if_icmp .le off) 3 pc' off tgt) (kt : x ≤ y → Wa E G n R h Q tgt L st) (kf : ¬ x ≤ y → Wa E G n R h Q pc' L st) : Wa E G n R h Q pc L (aI y :: aI x :: st) := by
  obtain ⟨hd, rfl, ht⟩ := hd
  intro H locs ls hP hS hl
  exact lv_icmp_le C.1 C.2.1 hd ht (fun c => kt c H locs ls hP hS hl) (fun c => kf c H locs ls hP hS hl)
theorem r_icmpN_eq (C : Cx E G d cc own nm) {a b : Nat} {off : Int} {tgt : Nat} (hd : Dj cc pc (.if_icmp .eq off) 3 pc' off tgt) (ha : a < 2 ^ 31) (hb : b < 2 ^ 31) (kt : a = b → Wa E G n R h Q tgt L st) (kf : a ≠ b → Wa E G n R h Q pc' L st) : Wa E G n R h Q pc L (aI (nI b) :: aI (nI a) :: st) :=
  r_icmp_eq C hd (fun c => kt (by rw [nI_eq ha hb] at c; omega)) (fun c => kf (by rw [nI_eq ha hb] at c; omega))
theorem r_icmpN_ne (C : Cx E G d cc own nm) {a b : Nat} {off : Int} {tgt : Nat} (hd : Dj cc pc (.if_icmp .ne off) 3 pc' off tgt) (ha : a < 2 ^ 31) (hb : b < 2 ^ 31) (kt : a ≠ b → Wa E G n R h Q tgt L st) (kf : a = b → Wa E G n R h Q pc' L st) : Wa E G n R h Q pc L (aI (nI b) :: aI (nI a) :: st) :=
  r_icmp_ne C hd (fun c => kt (by rw [nI_eq ha hb] at c; omega)) (fun c => kf (by rw [nI_eq ha hb] at c; omega))
theorem r_icmpN_lt (C : Cx E G d cc own nm) {a b : Nat} {off : Int} {tgt : Nat} (hd : Dj cc pc (.if_icmp .lt off) 3 pc' off tgt) (ha : a < 2 ^ 31) (hb : b < 2 ^ 31) (kt : a < b → Wa E G n R h Q tgt L st) (kf : b ≤ a → Wa E G n R h Q pc' L st) : Wa E G n R h Q pc L (aI (nI b) :: aI (nI a) :: st) :=
  r_icmp_lt C hd (fun c => kt (by rw [nI_ltI ha hb] at c; omega)) (fun c => kf (by rw [nI_ltI ha hb] at c; omega))
theorem r_icmpN_ge (C : Cx E G d cc own nm) {a b : Nat} {off : Int} {tgt : Nat} (hd : Dj cc pc (.if_icmp .ge off) 3 pc' off tgt) (ha : a < 2 ^ 31) (hb : b < 2 ^ 31) (kt : b ≤ a → Wa E G n R h Q tgt L st) (kf : a < b → Wa E G n R h Q pc' L st) : Wa E G n R h Q pc L (aI (nI b) :: aI (nI a) :: st) :=
  r_icmp_ge C hd (fun c => kt (by rw [nI_leI hb ha] at c; omega)) (fun c => kf (by rw [nI_leI hb ha] at c; omega))
theorem r_icmpN_gt (C : Cx E G d cc own nm) {a b : Nat} {off : Int} {tgt : Nat} (hd : Dj cc pc (.if_icmp .gt off) 3 pc' off tgt) (ha : a < 2 ^ 31) (hb : b < 2 ^ 31) (kt : b < a → Wa E G n R h Q tgt L st) (kf : a ≤ b → Wa E G n R h Q pc' L st) : Wa E G n R h Q pc L (aI (nI b) :: aI (nI a) :: st) :=
  r_icmp_gt C hd (fun c => kt (by rw [nI_ltI hb ha] at c; omega)) (fun c => kf (by rw [nI_ltI hb ha] at c; omega))
theorem r_icmpN_le (C : Cx E G d cc own nm) {a b : Nat} {off : Int} {tgt : Nat} (hd : Dj cc pc (.if_icmp .le off) 3 pc' off tgt) (ha : a < 2 ^ 31) (hb : b < 2 ^ 31) (kt : a ≤ b → Wa E G n R h Q tgt L st) (kf : b < a → Wa E G n R h Q pc' L st) : Wa E G n R h Q pc L (aI (nI b) :: aI (nI a) :: st) :=
  r_icmp_le C hd (fun c => kt (by rw [nI_leI ha hb] at c; omega)) (fun c => kf (by rw [nI_leI ha hb] at c; omega))
theorem r_goto (C : Cx E G d cc own nm) {off : Int} {tgt : Nat} (hd : Dj cc pc (.goto off) 3 pc' off tgt) (kk : Wa E G n R h Q tgt L st) : Wa E G n R h Q pc L st := by
  obtain ⟨hd, rfl, ht⟩ := hd
  intro H locs ls hP hS hl
  exact lv_goto C.1 C.2.1 hd ht (kk H locs ls hP hS hl)
theorem r_tabOut (C : Cx E G d cc own nm) {x : Int32} {dflt lo hi : Int} {offs : Array Int} {len tgt : Nat} (hd : Dj cc pc (.tableswitch dflt lo hi offs) len pc' dflt tgt) (hx : x.toInt < lo ∨ hi < x.toInt) (kk : Wa E G n R h Q tgt L st) : Wa E G n R h Q pc L (aI x :: st) := by
  obtain ⟨hd, rfl, ht⟩ := hd
  intro H locs ls hP hS hl
  exact lv_tableOut C.1 C.2.1 hd hx ht (kk H locs ls hP hS hl)
theorem r_tabIn (C : Cx E G d cc own nm) {x : Int32} {dflt lo hi off : Int} {offs : Array Int} {len tgt : Nat} (hd : Dj cc pc (.tableswitch dflt lo hi offs) len pc' off tgt) (h1 : ¬ x.toInt < lo) (h2 : ¬ hi < x.toInt) (ho : offs[(x.toInt - lo).toNat]? = some off) (kk : Wa E G n R h Q tgt L st) : Wa E G n R h Q pc L (aI x :: st) := by
  obtain ⟨hd, rfl, ht⟩ := hd
  intro H locs ls hP hS hl
  exact lv_tableIn C.1 C.2.1 hd h1 h2 ho ht (kk H locs ls hP hS hl)
theorem r_look (C : Cx E G d cc own nm) {x : Int32} {dflt off : Int} {ps : Array (Int × Int)} {len tgt : Nat} (hd : Dj cc pc (.lookupswitch dflt ps) len pc' off tgt) (hp : (ps.toList.zip (ps.toList.drop 1)).all (fun (a, next) => a.1 < next.1) = true) (ho : Op.lookupswitch.offset ps.toList dflt x.toInt = off) (kk : Wa E G n R h Q tgt L st) : Wa E G n R h Q pc L (aI x :: st) := by
  obtain ⟨hd, rfl, ht⟩ := hd
  intro H locs ls hP hS hl
  exact lv_lookup C.1 C.2.1 hd hp ho ht (kk H locs ls hP hS hl)
end RW1
end
section
/-- the facts of a class: its fields as the tables lay them -/
def CF (k : Nat) (Cn : String) (T : u_T) (N : Nat) : Prop := vwCl[k]? = some (Cn, T, N) ∧ nf k = N ∧ (∀ w ∈ u_ws Cn T N, w ∈ tb) ∧ (∀ i, i < N → parseFieldDescriptor (T i).2.2.1 = some (fty k i)) ∧ (∀ a, a < N → ∀ b, b < N → a ≠ b → (T a).2.1 ≠ (T b).2.1) ∧ (∀ i, i < N → (T i).1 = Cn) ∧ shp k = 0 ∧ k < 12
/-- entry idx of class own is field i of class k -/
def FL (own : String) (idx k i : Nat) (fin : Bool) : Prop := ∃ Cn T N, CF k Cn T N ∧ i < N ∧ Cond.fieldLink own idx Cn (T i).2.1 (T i).2.2.1 ∈ tb ∧ (T i).2.2.2 = fin
/-- the cell is made: of n -/
def Ok (n k j : Nat) : Prop := k < 60 ∧ j < cnt k ∧ pos k j < n ∧ n ≤ 243
theorem Ok.full {k j : Nat} (hk : k < 60) (hj : j < cnt k) : Ok 243 k j := ⟨hk, hj, (pos_all k hk j hj).1, Nat.le_refl _⟩
theorem Ok.lit {n k j : Nat} (h : (decide (k < 60) && decide (j < cnt k) && decide (pos k j < n) && decide (n ≤ 243)) = true) : Ok n k j := by
  simp only [Bool.and_eq_true, decide_eq_true_eq] at h
  exact ⟨h.1.1.1, h.1.1.2, h.1.2, h.2⟩
theorem ent_obj {E : Ev} {k : Nat} {Rr : Nat → Option (Nat × Nat)} {hr : Nat → Int32} (h : shp k = 0) : ent E k Rr hr = .inr (k, (List.range (nf k)).map (fun i => if isr k i = true then va_rf ((Rr i).map (lcq E)) else .int (hr i))) := by
  simp [ent, h]
theorem ent_int {E : Ev} {k : Nat} {Rr : Nat → Option (Nat × Nat)} {hr : Nat → Int32} (h : shp k = 1) : ent E k Rr hr = .inl (ca E 0, nf k, .inl hr) := by
  simp [ent, h]
theorem ent_bool {E : Ev} {k : Nat} {Rr : Nat → Option (Nat × Nat)} {hr : Nat → Int32} (h : shp k = 2) : ent E k Rr hr = .inl (ca E 1, nf k, .inl hr) := by
  simp [ent, h]
theorem ent_ref {E : Ev} {k t : Nat} {Rr : Nat → Option (Nat × Nat)} {hr : Nat → Int32} (h : shp k = t + 3) : ent E k Rr hr = .inl (ca E (t + 2), nf k, .inr (.inr (.inr (.inr (fun i => (Rr i).map (lcq E)))))) := by
  simp [ent, h]
section RW2
variable {E : Ev} {G : Gv} {n d nm pc pc' : Nat} {R : RF} {h : HF} {Q : State → Prop} {L L' : List (Option AV)} {st : List AV} {cc : ByteArray} {own : String} {k j i idx : Nat}
theorem r_getI (C : Cx E G d cc own nm) {fin : Bool} (hf : FL own idx k i fin) (hd : Dc cc pc (.getfield idx) 3 pc') (ho : Ok n k j) (hr : isr k i = false) (kk : Wa E G n R h Q pc' L (aI (h k j i) :: st)) : Wa E G n R h Q pc L (aR k j :: st) := by
  obtain ⟨hd, rfl⟩ := hd
  obtain ⟨Cn, T, N, ⟨hc, hN, hin, -, -, hcl, hsh, -⟩, hi, hlink, -⟩ := hf
  intro H locs ls hP hS hl
  have he : (wsl E n R h)[pos k j]? = some (lcq E (k, j), .inr (k, (List.range (nf k)).map (fun i => if isr k i = true then va_rf ((R k j i).map (lcq E)) else .int (h k j i)))) := by rw [wsl_at ho.1 ho.2.1 ho.2.2.1, ent_obj hsh]
  exact va_get C.1 C.2.1 C.2.2.2.1 hin C.2.2.1 C.2.2.2.2.1.1 hP (pos k j) he hc i hi (C.2.2.2.1 _ hlink) (fun x hx => by rw [hcl i hi] at hx; exact hx) (v := .int (h k j i)) (by simp [hN, hi, hr]) hd (kk H locs ls hP hS hl)
theorem r_getR (C : Cx E G d cc own nm) {fin : Bool} (hf : FL own idx k i fin) (hd : Dc cc pc (.getfield idx) 3 pc') (ho : Ok n k j) (hr : isr k i = true) {a b : Nat} (hR : R k j i = some (a, b)) (kk : Wa E G n R h Q pc' L (aR a b :: st)) : Wa E G n R h Q pc L (aR k j :: st) := by
  obtain ⟨hd, rfl⟩ := hd
  obtain ⟨Cn, T, N, ⟨hc, hN, hin, -, -, hcl, hsh, -⟩, hi, hlink, -⟩ := hf
  intro H locs ls hP hS hl
  have he : (wsl E n R h)[pos k j]? = some (lcq E (k, j), .inr (k, (List.range (nf k)).map (fun i => if isr k i = true then va_rf ((R k j i).map (lcq E)) else .int (h k j i)))) := by rw [wsl_at ho.1 ho.2.1 ho.2.2.1, ent_obj hsh]
  exact va_get C.1 C.2.1 C.2.2.2.1 hin C.2.2.1 C.2.2.2.2.1.1 hP (pos k j) he hc i hi (C.2.2.2.1 _ hlink) (fun x hx => by rw [hcl i hi] at hx; exact hx) (v := .ref (lcq E (a, b))) (by simp [hN, hi, hr, hR, va_rf]) hd (kk H locs ls hP hS hl)
/-- writing one field: the list of cells behind it -/
theorem wsl_put {E : Ev} {n k j i : Nat} {R R' : RF} {h h' : HF} {v : Value} (ho : Ok n k j) (hsh : shp k = 0) (hi : i < nf k) (hoff : ∀ k' j', ¬ (k' = k ∧ j' = j) → R' k' j' = R k' j' ∧ h' k' j' = h k' j')
    (hrow : ∀ a, (if isr k a = true then va_rf ((R' k j a).map (lcq E)) else Value.int (h' k j a)) = if a = i then v else (if isr k a = true then va_rf ((R k j a).map (lcq E)) else Value.int (h k j a))) :
    (wsl E n R h).set (pos k j) (lcq E (k, j), .inr (k, ((List.range (nf k)).map (fun i => if isr k i = true then va_rf ((R k j i).map (lcq E)) else .int (h k j i))).set i v)) = wsl E n R' h' := by
  rw [← wsl_set ho.1 ho.2.1 ho.2.2.1 ho.2.2.2 hoff, ent_obj hsh]
  refine congrArg (fun z => List.set (wsl E n R h) (pos k j) (lcq E (k, j), (.inr (k, z) : va_E))) ?_
  apply List.ext_getElem?
  intro a
  by_cases ha : a < nf k
  · by_cases e : a = i
    · subst e
      rw [List.getElem?_set_self (by simpa using ha)]
      simp [ha, hrow]
    · rw [List.getElem?_set_ne (fun z => e z.symm)]
      simp [ha, hrow, e]
  · rw [List.getElem?_eq_none (by simp; omega), List.getElem?_eq_none (by simp; omega)]
theorem r_putI (C : Cx E G d cc own nm) (hf : FL own idx k i false) (hd : Dc cc pc (.putfield idx) 3 pc') (ho : Ok n k j) (hr : isr k i = false) {x : Int32} (hn : narrow (fty k i) (.int x) = .int x ∧ fits (fty k i) (.int x) = true) (kk : Wa E G n R (put h k j i x) Q pc' L st) : Wa E G n R h Q pc L (aI x :: aR k j :: st) := by
  obtain ⟨hd, rfl⟩ := hd
  obtain ⟨Cn, T, N, ⟨hc, hN, hin, hty, hnm, hcl, hsh, -⟩, hi, hlink, hfin⟩ := hf
  intro H locs ls hP hS hl
  have he : (wsl E n R h)[pos k j]? = some (lcq E (k, j), .inr (k, (List.range (nf k)).map (fun i => if isr k i = true then va_rf ((R k j i).map (lcq E)) else .int (h k j i)))) := by rw [wsl_at ho.1 ho.2.1 ho.2.2.1, ent_obj hsh]
  refine va_put C.1 C.2.1 C.2.2.2.1 hin (fty k) hty hnm C.2.2.1 C.2.2.2.2.1.1 hP wsl_D hS (pos k j) he hc i hi (C.2.2.2.1 _ hlink) (fun x hx => by rw [hcl i hi] at hx; exact hx) hfin (hty i hi) hn.1 hn.2 (by simp [hN, hi]) hd (fun H1 locs1 hP1 hD1 hS1 => ?_)
  rw [wsl_put (R' := R) (h' := put h k j i x) ho hsh (by rw [hN]; exact hi) (fun k' j' hne => ⟨rfl, put_off hne⟩) (fun a => by
    by_cases e : a = i
    · subst e
      simp [hr, put, cv]
    · simp [put, e])] at hP1
  exact kk H1 locs1 ls hP1 hS1 hl
theorem r_putR (C : Cx E G d cc own nm) (hf : FL own idx k i false) (hd : Dc cc pc (.putfield idx) 3 pc') (ho : Ok n k j) (hr : isr k i = true) {a b : Nat} (hn : ∀ q, narrow (fty k i) (.ref q) = .ref q ∧ fits (fty k i) (.ref q) = true) (kk : Wa E G n (putR R k j i (some (a, b))) h Q pc' L st) : Wa E G n R h Q pc L (aR a b :: aR k j :: st) := by
  obtain ⟨hd, rfl⟩ := hd
  obtain ⟨Cn, T, N, ⟨hc, hN, hin, hty, hnm, hcl, hsh, -⟩, hi, hlink, hfin⟩ := hf
  intro H locs ls hP hS hl
  have he : (wsl E n R h)[pos k j]? = some (lcq E (k, j), .inr (k, (List.range (nf k)).map (fun i => if isr k i = true then va_rf ((R k j i).map (lcq E)) else .int (h k j i)))) := by rw [wsl_at ho.1 ho.2.1 ho.2.2.1, ent_obj hsh]
  refine va_put C.1 C.2.1 C.2.2.2.1 hin (fty k) hty hnm C.2.2.1 C.2.2.2.2.1.1 hP wsl_D hS (pos k j) he hc i hi (C.2.2.2.1 _ hlink) (fun x hx => by rw [hcl i hi] at hx; exact hx) hfin (hty i hi) (hn (lcq E (a, b))).1 (hn (lcq E (a, b))).2 (by simp [hN, hi]) hd (fun H1 locs1 hP1 hD1 hS1 => ?_)
  rw [wsl_put (R' := putR R k j i (some (a, b))) (h' := h) ho hsh (by rw [hN]; exact hi) (fun k' j' hne => ⟨putR_off hne, rfl⟩) (fun a => by
    by_cases e : a = i
    · subst e
      simp [hr, putR, va_rf, cv]
    · simp [putR, e])] at hP1
  exact kk H1 locs1 ls hP1 hS1 hl
theorem r_putF (C : Cx E G d cc own nm) (hm : (gme G).name = "<init>") (hf : FL own idx k i true) (hw : vwCl[k]?.map (fun q => q.1) = some own) (hd : Dc cc pc (.putfield idx) 3 pc') (ho : Ok n k j) (hr : isr k i = true) {a b : Nat} (hn : ∀ q, narrow (fty k i) (.ref q) = .ref q ∧ fits (fty k i) (.ref q) = true) (kk : Wa E G n (putR R k j i (some (a, b))) h Q pc' L st) : Wa E G n R h Q pc L (aR a b :: aR k j :: st) := by
  obtain ⟨hd, rfl⟩ := hd
  obtain ⟨Cn, T, N, ⟨hc, hN, hin, hty, hnm, hcl, hsh, -⟩, hi, hlink, hfin⟩ := hf
  have hown : Cn = own := by rw [hc] at hw; exact Option.some.inj hw
  intro H locs ls hP hS hl
  have he : (wsl E n R h)[pos k j]? = some (lcq E (k, j), .inr (k, (List.range (nf k)).map (fun i => if isr k i = true then va_rf ((R k j i).map (lcq E)) else .int (h k j i)))) := by rw [wsl_at ho.1 ho.2.1 ho.2.2.1, ent_obj hsh]
  refine va_putF C.1 C.2.1 C.2.2.2.1 hin (fty k) hty hnm C.2.2.1 C.2.2.2.2.1.1 hP wsl_D hS (pos k j) he hc i hi (C.2.2.2.1 _ hlink) (fun x hx => by rw [hcl i hi] at hx; exact hx) hfin hm ((hcl i hi).trans hown) (hty i hi) (hn (lcq E (a, b))).1 (hn (lcq E (a, b))).2 (by simp [hN, hi]) hd (fun H1 locs1 hP1 hD1 hS1 => ?_)
  rw [wsl_put (R' := putR R k j i (some (a, b))) (h' := h) ho hsh (by rw [hN]; exact hi) (fun k' j' hne => ⟨putR_off hne, rfl⟩) (fun a => by
    by_cases e : a = i
    · subst e
      simp [hr, putR, va_rf, cv]
    · simp [putR, e])] at hP1
  exact kk H1 locs1 ls hP1 hS1 hl
theorem r_iald (C : Cx E G d cc own nm) {x : Nat} {v : Int32} (hd : Dc cc pc .iaload 1 pc') (ho : Ok n k j) (hs : shp k = 1) (hv : v = nI x) (hx : x < nf k) (hb : nf k < 2 ^ 31) (kk : Wa E G n R h Q pc' L (aI (h k j x) :: st)) : Wa E G n R h Q pc L (aI v :: aR k j :: st) := by
  obtain ⟨hd, rfl⟩ := hd
  subst hv
  intro H locs ls hP hS hl
  have he : (wsl E n R h)[pos k j]? = some (lcq E (k, j), .inl (ca E 0, nf k, .inl (h k j))) := by rw [wsl_at ho.1 ho.2.1 ho.2.2.1, ent_int hs]
  have e := nI_clamp (n := x) (by omega)
  refine va_iald C.1 C.2.1 C.2.2.2.2.1.1 hP (pos k j) 0 he rfl (vp_in_nI hx hb) hd ?_
  rw [e]
  exact kk H locs ls hP hS hl
theorem r_zald (C : Cx E G d cc own nm) {x : Nat} {v : Int32} (hd : Dc cc pc .baload 1 pc') (ho : Ok n k j) (hs : shp k = 2) (hv : v = nI x) (hx : x < nf k) (hb : nf k < 2 ^ 31) (kk : Wa E G n R h Q pc' L (aI (h k j x) :: st)) : Wa E G n R h Q pc L (aI v :: aR k j :: st) := by
  obtain ⟨hd, rfl⟩ := hd
  subst hv
  intro H locs ls hP hS hl
  have he : (wsl E n R h)[pos k j]? = some (lcq E (k, j), .inl (ca E 1, nf k, .inl (h k j))) := by rw [wsl_at ho.1 ho.2.1 ho.2.2.1, ent_bool hs]
  have e := nI_clamp (n := x) (by omega)
  refine va_zald C.1 C.2.1 C.2.2.2.2.1.1 hP (pos k j) 1 he rfl (vp_in_nI hx hb) hd ?_
  rw [e]
  exact kk H locs ls hP hS hl
theorem r_aald (C : Cx E G d cc own nm) {x t a b : Nat} {v : Int32} (hd : Dc cc pc .aaload 1 pc') (ho : Ok n k j) (hs : shp k = t + 3) (ht : t < 3) (hv : v = nI x) (hx : x < nf k) (hb : nf k < 2 ^ 31) (hR : R k j x = some (a, b)) (kk : Wa E G n R h Q pc' L (aR a b :: st)) : Wa E G n R h Q pc L (aI v :: aR k j :: st) := by
  obtain ⟨hd, rfl⟩ := hd
  subst hv
  intro H locs ls hP hS hl
  have he : (wsl E n R h)[pos k j]? = some (lcq E (k, j), .inl (ca E (t + 2), nf k, .inr (.inr (.inr (.inr (fun i => (R k j i).map (lcq E))))))) := by rw [wsl_at ho.1 ho.2.1 ho.2.2.1, ent_ref hs]
  have e := nI_clamp (n := x) (by omega)
  have hty : ∃ Cn, (tys E)[t + 2]? = some (ca E (t + 2), .object Cn) := by
    rcases (show t = 0 ∨ t = 1 ∨ t = 2 by omega) with rfl | rfl | rfl <;> exact ⟨_, rfl⟩
  obtain ⟨Cn, hty⟩ := hty
  refine va_aldq C.1 C.2.1 C.2.2.2.2.1.1 hP (pos k j) (t + 2) he hty (vp_in_nI hx hb) hd ?_
  rw [e, hR]
  exact kk H locs ls hP hS hl
theorem wsl_row {E : Ev} {n k j : Nat} {R : RF} {h h' : HF} {e : va_E} (ho : Ok n k j) (hoff : ∀ k' j', ¬ (k' = k ∧ j' = j) → h' k' j' = h k' j') (he : ent E k (R k j) (h' k j) = e) : (wsl E n R h).set (pos k j) (lcq E (k, j), e) = wsl E n R h' := by
  rw [← wsl_set (R := R) (R' := R) ho.1 ho.2.1 ho.2.2.1 ho.2.2.2 (fun k' j' hne => ⟨rfl, hoff k' j' hne⟩), he]
theorem r_iast (C : Cx E G d cc own nm) {x : Nat} {v y : Int32} (hd : Dc cc pc .iastore 1 pc') (ho : Ok n k j) (hs : shp k = 1) (hv : v = nI x) (hx : x < nf k) (hb : nf k < 2 ^ 31) (kk : Wa E G n R (put h k j x y) Q pc' L st) : Wa E G n R h Q pc L (aI y :: aI v :: aR k j :: st) := by
  obtain ⟨hd, rfl⟩ := hd
  subst hv
  intro H locs ls hP hS hl
  have he : (wsl E n R h)[pos k j]? = some (lcq E (k, j), .inl (ca E 0, nf k, .inl (h k j))) := by rw [wsl_at ho.1 ho.2.1 ho.2.2.1, ent_int hs]
  have e := nI_clamp (n := x) (by omega)
  refine va_iast C.1 C.2.1 C.2.2.2.2.1.1 hP wsl_D hS (pos k j) 0 he rfl (vp_in_nI hx hb) hd (fun H1 locs1 hP1 hD1 hS1 => ?_)
  rw [e, wsl_row (h' := put h k j x y) ho (fun k' j' hne => put_off hne) (by rw [ent_int hs, put_on])] at hP1
  exact kk H1 locs1 ls hP1 hS1 hl
theorem r_zast (C : Cx E G d cc own nm) {x : Nat} {v y : Int32} (hd : Dc cc pc .bastore 1 pc') (ho : Ok n k j) (hs : shp k = 2) (hv : v = nI x) (hx : x < nf k) (hb : nf k < 2 ^ 31) (hy : vp_nar .boolean y = y) (kk : Wa E G n R (put h k j x y) Q pc' L st) : Wa E G n R h Q pc L (aI y :: aI v :: aR k j :: st) := by
  obtain ⟨hd, rfl⟩ := hd
  subst hv
  intro H locs ls hP hS hl
  have he : (wsl E n R h)[pos k j]? = some (lcq E (k, j), .inl (ca E 1, nf k, .inl (h k j))) := by rw [wsl_at ho.1 ho.2.1 ho.2.2.1, ent_bool hs]
  have e := nI_clamp (n := x) (by omega)
  refine va_zast C.1 C.2.1 C.2.2.2.2.1.1 hP wsl_D hS (pos k j) 1 he rfl (vp_in_nI hx hb) hd (fun H1 locs1 hP1 hD1 hS1 => ?_)
  rw [e, hy, wsl_row (h' := put h k j x y) ho (fun k' j' hne => put_off hne) (by rw [ent_bool hs, put_on])] at hP1
  exact kk H1 locs1 ls hP1 hS1 hl
theorem r_aast (C : Cx E G d cc own nm) {x t a b : Nat} {v : Int32} {q : vw_C} (hd : Dc cc pc .aastore 1 pc') (ho : Ok n k j) (hs : shp k = t + 3) (hv : v = nI x) (hx : x < nf k) (hb : nf k < 2 ^ 31) (hq : vwCl[a]? = some q) (ht : (tys E)[t + 2]? = some (ca E (t + 2), .object q.1)) (ho2 : Ok n a b) (hs2 : shp a = 0) (kk : Wa E G n (putR R k j x (some (a, b))) h Q pc' L st) : Wa E G n R h Q pc L (aR a b :: aI v :: aR k j :: st) := by
  obtain ⟨hd, rfl⟩ := hd
  subst hv
  intro H locs ls hP hS hl
  have he : (wsl E n R h)[pos k j]? = some (lcq E (k, j), .inl (ca E (t + 2), nf k, .inr (.inr (.inr (.inr (fun i => (R k j i).map (lcq E))))))) := by rw [wsl_at ho.1 ho.2.1 ho.2.2.1, ent_ref hs]
  have he2 : (wsl E n R h)[pos a b]? = some (lcq E (a, b), .inr (a, (List.range (nf a)).map (fun i => if isr a i = true then va_rf ((R a b i).map (lcq E)) else .int (h a b i)))) := by rw [wsl_at ho2.1 ho2.2.1 ho2.2.2.1, ent_obj hs2]
  have e := nI_clamp (n := x) (by omega)
  refine va_astq C.1 C.2.1 C.2.2.2.2.1.1 hP wsl_D hS (pos k j) (t + 2) (pos a b) a he ht he2 hq (vp_in_nI hx hb) hd (fun H1 locs1 hP1 hD1 hS1 => ?_)
  rw [e] at hP1
  have hset := wsl_set (E := E) (R := R) (R' := putR R k j x (some (a, b))) (h := h) (h' := h) ho.1 ho.2.1 ho.2.2.1 ho.2.2.2 (fun k' j' hne => ⟨putR_off hne, rfl⟩)
  rw [ent_ref hs, putR_on] at hset
  have hfun : (fun i => (va_up (R k j) x (some (a, b)) i).map (lcq E)) = va_up (fun i => (R k j i).map (lcq E)) x (some (lcq E (a, b))) := by
    funext i
    by_cases z : i = x <;> simp [va_up, z]
  rw [hfun] at hset
  rw [hset] at hP1
  exact kk H1 locs1 ls hP1 hS1 hl
end RW2
end
section
def CL (own : String) (idx k : Nat) : Prop := ∃ Cn T N, CF k Cn T N ∧ Cond.classLink own idx Cn ∈ tb ∧ Cond.instantiable Cn N ∈ tb ∧ Cond.initialized Cn ∈ tb ∧ ∀ i, i < N → defaultValue (fty k i) = if isr k i = true then .null else .int 0
theorem rp_size {E : Ev} {G : Gv} {n d nm : Nat} {R : RF} {h : HF} {cc : ByteArray} {own : String} {T : State} {H : Heap} {locs : List Loc} (C : Cx E G d cc own nm) (hP : Rp E n R h H) (hS : va_S (fA E) (gs G).heap H locs) (hT : T.heap = H) (hn : gn G ≤ n)
    (X : Stand (gp G) E.1 (ge G) (gR G) (gs G) (gm G) (ga G) (gb G) (gme G) (gc G) T locs (n - gn G) (sl n - sl (gn G))) : H.size = E.2.1 + n := by
  have h1 := X.heapSize
  have h2 := C.2.2.2.2.2.1
  rw [hT] at h1
  by_cases h0 : n = 0
  · subst h0
    have := hS.1
    omega
  · have h3 := (hP (n - 1) _ (wsl_get (by omega))).lt
    have h4 : E.2.1 + (n - 1) < H.size := h3
    omega
theorem wsl_succ {E : Ev} {n : Nat} {R : RF} {h : HF} : wsl E (n + 1) R h = wsl E n R h ++ [(E.2.1 + n, ent E (idq n).1 (R (idq n).1 (idq n).2) (h (idq n).1 (idq n).2))] := by
  simp [wsl, List.range_succ]
theorem rp_push {E : Ev} {n : Nat} {R : RF} {h : HF} {H H1 : Heap} (hP : Rp E n R h H) (hz : H.size = E.2.1 + n) (ho : ∀ q, q < E.2.1 + n → H1[q]? = H[q]?) (hn : va_at E.2.2.1 vwCl (E.2.1 + n, ent E (idq n).1 (R (idq n).1 (idq n).2) (h (idq n).1 (idq n).2)) H1) : Rp E (n + 1) R h H1 := by
  unfold Rp
  rw [wsl_succ]
  refine va_P.app (va_P.kept hP (fun k q hk => ho q.1 ?_)) (fun k q hk => ?_)
  · rw [(wsl_lt hk).2]
    have := (wsl_lt hk).1
    omega
  · have hz : k < 1 := (List.getElem?_eq_some_iff.mp hk).1
    rw [show k = 0 by omega] at hk
    cases hk
    exact hn
section RW3
variable {E : Ev} {G : Gv} {n d nm pc pc' : Nat} {R : RF} {h : HF} {Q : State → Prop} {L L' : List (Option AV)} {st : List AV} {cc : ByteArray} {own : String} {k j i idx : Nat}
theorem r_new (C : Cx E G d cc own nm) (hf : CL own idx k) (hd : Dc cc pc (.new idx) 3 pc') (hq : idq n = (k, j)) (hnm : gn G ≤ n ∧ n < nm) (hR : ∀ i, R k j i = none) (hh : ∀ i, h k j i = 0) (kk : Wa E G (n + 1) R h Q pc' L (aR k j :: st)) : Wa E G n R h Q pc L st := by
  obtain ⟨hd, rfl⟩ := hd
  obtain ⟨Cn, T0, N, ⟨hc, hN, hin, hty, hnms, hcl, hsh, hk12⟩, hlink, hinst, hini, hdef⟩ := hf
  intro H locs ls hP hS hl T hT X
  have hsz := rp_size C hP hS hT hnm.1 X
  have hKn := C.2.2.2.2.1.1.1 k _ hc
  have hsl : sl (n + 1) = sl n + N := by show sl n + nf (idq n).1 = _; rw [hq, hN]
  have hm := sl_mono hnm.1
  have hm2 := sl_mono (show n + 1 ≤ nm by omega)
  have hcs := C.2.2.2.2.2.2.2.1
  have hpos : pos k j = n := by
    have h1 := (pos_idq n (by have := C.2.2.2.2.2.2.2.2.1.2; omega)).1
    rw [hq] at h1
    exact h1
  refine W.newcK C.1 C.2.1 C.2.2.1 (C.2.2.2.1 _ hlink) (C.2.2.2.1 _ hinst) (C.2.2.2.1 _ hini) (g := F0 (gm G) pc ls (List.map (cv E) st)) rfl hd (by omega) (by omega) hKn.2.1 hsz (fun H1 kC hkC e1 z1 o1 => ?_) T hT X
  have hP1 : Rp E (n + 1) R h H1 := by
    refine rp_push hP hsz o1 ?_
    rw [hq]
    show va_at _ _ (_, ent E k (R k j) (h k j)) _
    rw [ent_obj hsh]
    refine ⟨_, hc, (u_born (fty k) C.2.2.2.1 hin hKn hkC e1 hty).to (fun i hi => ?_)⟩
    rw [hdef i hi]
    have hi2 : i < nf k := by rw [hN]; exact hi
    simp [vp_V, List.getD, hi2, hR, hh, va_rf]
  have e := kk H1 locs ls hP1 ⟨Nat.le_trans hS.1 (by omega), fun q h1 h2 => (o1 q (by have := hS.1; omega)).trans (hS.2.1 q h1 h2), hS.2.2⟩ hl
  have e1 : n + 1 - gn G = n - gn G + 1 := by omega
  have e2 : sl (n + 1) - sl (gn G) = sl n - sl (gn G) + N := by omega
  rw [e1, e2] at e
  have e3 : lcq E (k, j) = E.2.1 + n := by
    show (if k < 60 then E.2.1 + pos k j else _) = _
    rw [if_pos (by omega), hpos]
  simp only [List.map_cons, cv, e3] at e
  exact e
theorem r_newI (C : Cx E G d cc own nm) {v : Int32} (hd : Dc cc pc (.newarray .int) 2 pc') (hw : Cond.arrayClass .int ∈ tb) (hq : idq n = (k, j)) (hs : shp k = 1) (hv : v = nI (nf k)) (hb : nf k < 2 ^ 20) (hnm : gn G ≤ n ∧ n < nm) (hh : ∀ i, h k j i = 0) (kk : Wa E G (n + 1) R h Q pc' L (aR k j :: st)) : Wa E G n R h Q pc L (aI v :: st) := by
  obtain ⟨hd, rfl⟩ := hd
  subst hv
  intro H locs ls hP hS hl T hT X
  have hsz := rp_size C hP hS hT hnm.1 X
  have hsl : sl (n + 1) = sl n + nf k := by show sl n + nf (idq n).1 = _; rw [hq]
  have hm := sl_mono hnm.1
  have hm2 := sl_mono (show n + 1 ≤ nm by omega)
  have hcs := C.2.2.2.2.2.2.2.1
  have hN := C.2.2.2.2.2.2.2.2.1.2
  have hpp := pos_idq n (by omega)
  rw [hq] at hpp
  have hcl := nI_clamp (n := nf k) (by omega)
  refine va_newaK C.1 C.2.1 (atype := .int) (C.2.2.2.1 _ hw) (g := F0 (gm G) pc ls (List.map (cv E) (aI (nI (nf k)) :: st))) rfl hd rfl (nI_pos (by omega)) hcl (by show nf k * 4 ≤ _; omega) (by omega) (by omega) hsz (fun H1 cA e1 z1 o1 hAr hfc => ?_) T hT X
  have hca : cA = ca E 0 := by
    have h0 := (C.2.2.2.2.1.1.2 0 (ca E 0, .int) rfl).2
    exact Option.some.inj (hfc.symm.trans h0)
  subst hca
  have hP1 : Rp E (n + 1) R h H1 := by
    refine rp_push hP hsz o1 ?_
    rw [hq]
    show va_at _ _ (_, ent E k (R k j) (h k j)) _
    rw [ent_int hs, show h k j = fun _ => 0 from funext hh]
    exact e1
  have e := kk H1 locs ls hP1 ⟨Nat.le_trans hS.1 (by omega), fun q h1 h2 => (o1 q (by have := hS.1; omega)).trans (hS.2.1 q h1 h2), hS.2.2⟩ hl
  have e1 : n + 1 - gn G = n - gn G + 1 := by omega
  have e2 : sl (n + 1) - sl (gn G) = sl n - sl (gn G) + nf k := by omega
  rw [e1, e2] at e
  have e3 : lcq E (k, j) = E.2.1 + n := by
    show (if k < 60 then E.2.1 + pos k j else _) = _
    rw [if_pos hpp.2, hpp.1]
  simp only [List.map_cons, cv, e3] at e
  exact e
theorem r_newZ (C : Cx E G d cc own nm) {v : Int32} (hd : Dc cc pc (.newarray .boolean) 2 pc') (hw : Cond.arrayClass .boolean ∈ tb) (hq : idq n = (k, j)) (hs : shp k = 2) (hv : v = nI (nf k)) (hb : nf k < 2 ^ 20) (hnm : gn G ≤ n ∧ n < nm) (hh : ∀ i, h k j i = 0) (kk : Wa E G (n + 1) R h Q pc' L (aR k j :: st)) : Wa E G n R h Q pc L (aI v :: st) := by
  obtain ⟨hd, rfl⟩ := hd
  subst hv
  intro H locs ls hP hS hl T hT X
  have hsz := rp_size C hP hS hT hnm.1 X
  have hsl : sl (n + 1) = sl n + nf k := by show sl n + nf (idq n).1 = _; rw [hq]
  have hm := sl_mono hnm.1
  have hm2 := sl_mono (show n + 1 ≤ nm by omega)
  have hcs := C.2.2.2.2.2.2.2.1
  have hN := C.2.2.2.2.2.2.2.2.1.2
  have hpp := pos_idq n (by omega)
  rw [hq] at hpp
  have hcl := nI_clamp (n := nf k) (by omega)
  refine va_newaK C.1 C.2.1 (atype := .boolean) (C.2.2.2.1 _ hw) (g := F0 (gm G) pc ls (List.map (cv E) (aI (nI (nf k)) :: st))) rfl hd rfl (nI_pos (by omega)) hcl (by show nf k * 1 ≤ _; omega) (by omega) (by omega) hsz (fun H1 cA e1 z1 o1 hAr hfc => ?_) T hT X
  have hca : cA = ca E 1 := by
    have h0 := (C.2.2.2.2.1.1.2 1 (ca E 1, .boolean) rfl).2
    exact Option.some.inj (hfc.symm.trans h0)
  subst hca
  have hP1 : Rp E (n + 1) R h H1 := by
    refine rp_push hP hsz o1 ?_
    rw [hq]
    show va_at _ _ (_, ent E k (R k j) (h k j)) _
    rw [ent_bool hs, show h k j = fun _ => 0 from funext hh]
    exact e1
  have e := kk H1 locs ls hP1 ⟨Nat.le_trans hS.1 (by omega), fun q h1 h2 => (o1 q (by have := hS.1; omega)).trans (hS.2.1 q h1 h2), hS.2.2⟩ hl
  have e1 : n + 1 - gn G = n - gn G + 1 := by omega
  have e2 : sl (n + 1) - sl (gn G) = sl n - sl (gn G) + nf k := by omega
  rw [e1, e2] at e
  have e3 : lcq E (k, j) = E.2.1 + n := by
    show (if k < 60 then E.2.1 + pos k j else _) = _
    rw [if_pos hpp.2, hpp.1]
  simp only [List.map_cons, cv, e3] at e
  exact e
theorem r_newA (C : Cx E G d cc own nm) {v : Int32} {t : Nat} {Cn : String} (hd : Dc cc pc (.anewarray idx) 3 pc') (hw : Cond.classLink own idx Cn ∈ tb) (hao : va_AO Cn (gs G)) (ht : (tys E)[t + 2]? = some (ca E (t + 2), .object Cn)) (hq : idq n = (k, j)) (hs : shp k = t + 3) (hv : v = nI (nf k)) (hb : nf k < 2 ^ 20) (hnm : gn G ≤ n ∧ n < nm) (hh : ∀ i, R k j i = none) (kk : Wa E G (n + 1) R h Q pc' L (aR k j :: st)) : Wa E G n R h Q pc L (aI v :: st) := by
  obtain ⟨hd, rfl⟩ := hd
  subst hv
  intro H locs ls hP hS hl T hT X
  have hsz := rp_size C hP hS hT hnm.1 X
  have hsl : sl (n + 1) = sl n + nf k := by show sl n + nf (idq n).1 = _; rw [hq]
  have hm := sl_mono hnm.1
  have hm2 := sl_mono (show n + 1 ≤ nm by omega)
  have hcs := C.2.2.2.2.2.2.2.1
  have hN := C.2.2.2.2.2.2.2.2.1.2
  have hpp := pos_idq n (by omega)
  rw [hq] at hpp
  have hcl := nI_clamp (n := nf k) (by omega)
  refine W.anew C.1 C.2.1 C.2.2.1 (C.2.2.2.1 _ hw) (va_AO.use hao) (g := F0 (gm G) pc ls (List.map (cv E) (aI (nI (nf k)) :: st))) rfl hd rfl (nI_pos (by omega)) (by rw [hcl]; omega) (by omega) (by rw [hcl]; omega) (fun cA kA comp f1 f2 f3 f4 => ?_) T hT X
  have hca : cA = ca E (t + 2) := by
    obtain ⟨_, _, _, _, _, h0⟩ := (C.2.2.2.2.1.1.2 (t + 2) _ ht).2
    exact Option.some.inj (f1.symm.trans h0)
  subst hca
  generalize hH1 : H.push ({ cls := ca E (t + 2), slots := Array.replicate (nI (nf k)).toNatClampNeg .null, vm := .none } : Cell) = H1
  have z1 : H1.size = H.size + 1 := by rw [← hH1, Array.size_push]
  have e1 : H1[H.size]? = some (arrV (ca E (t + 2)) (nI (nf k)).toNatClampNeg (fun _ => .null)) := by rw [← hH1, Array.getElem?_push_size, ← arrV_new]
  have o1 : ∀ q : Nat, q < H.size → H1[q]? = H[q]? := fun q hq => by rw [← hH1, Array.getElem?_push, if_neg (Nat.ne_of_lt hq)]
  rw [hsz] at o1 e1
  rw [hcl] at e1
  have hP1 : Rp E (n + 1) R h H1 := by
    refine rp_push hP hsz o1 ?_
    rw [hq]
    show va_at _ _ (_, ent E k (R k j) (h k j)) _
    rw [ent_ref hs, show R k j = fun _ => none from funext hh]
    exact e1
  have e := kk H1 locs ls hP1 ⟨Nat.le_trans hS.1 (by omega), fun q h1 h2 => (o1 q (by have := hS.1; omega)).trans (hS.2.1 q h1 h2), hS.2.2⟩ hl
  have e1 : n + 1 - gn G = n - gn G + 1 := by omega
  have e2 : sl (n + 1) - sl (gn G) = sl n - sl (gn G) + nf k := by omega
  rw [e1, e2] at e
  have e3 : lcq E (k, j) = E.2.1 + n := by
    show (if k < 60 then E.2.1 + pos k j else _) = _
    rw [if_pos hpp.2, hpp.1]
  simp only [List.map_cons, cv, e3] at e
  rw [hsz, hcl]
  exact e
theorem r_gets (C : Cx E G d cc own nm) {nme : String} {xs : List Int32} (hd : Dc cc pc (.getstatic idx) 3 pc') (hg : Gr E nme k xs (gs G) (gs G).heap) (hk : 60 ≤ k) (hw : Cond.fieldLink own idx "SiegePlate$Reader" nme "[I" ∈ tb) (kk : Wa E G n R h Q pc' L (aR k 0 :: st)) : Wa E G n R h Q pc L st := by
  obtain ⟨hd, rfl⟩ := hd
  intro H locs ls hP hS hl
  have e := kk H locs ls hP hS hl
  have e3 : lcq E (k, 0) = E.2.2.2.2.1 k := by
    show (if k < 60 then _ else E.2.2.2.2.1 k) = _
    rw [if_neg (by omega)]
  simp only [List.map_cons, cv, e3] at e
  exact va_gets C.1 C.2.1 hg.1 hS C.2.2.1 (C.2.2.2.1 _ hw) (fun _ h => h) hd e
theorem r_sti (C : Cx E G d cc own nm) {nme : String} {xs : List Int32} {x : Nat} {v : Int32} (hd : Dc cc pc .iaload 1 pc') (hg : Gr E nme k xs (gs G) (gs G).heap) (hk : 60 ≤ k) (hv : v = nI x) (hx : x < xs.length) (hb : xs.length < 2 ^ 31) (kk : Wa E G n R h Q pc' L (aI (xs.getD x 0) :: st)) : Wa E G n R h Q pc L (aI v :: aR k 0 :: st) := by
  obtain ⟨hd, rfl⟩ := hd
  subst hv
  intro H locs ls hP hS hl
  have e3 : lcq E (k, 0) = E.2.2.2.2.1 k := by
    show (if k < 60 then _ else E.2.2.2.2.1 k) = _
    rw [if_neg (by omega)]
  simp only [List.map_cons, cv, e3]
  exact va_ti C.1 C.2.1 hg.2 hS (vp_in_nI hx hb) (by rw [nI_clamp (by omega)]; rfl) hd (kk H locs ls hP hS hl)
theorem r_sld (C : Cx E G d cc own nm) {xs : Nat → Int32} {x LL : Nat} {v : Int32} (hd : Dc cc pc .iaload 1 pc') (hX : va_X (E.2.2.2.2.1 63) LL xs (gs G) (gs G).heap) (hA : E.2.2.2.2.1 63 < E.2.1) (hv : v = nI x) (hx : x < LL) (hb : LL < 2 ^ 31) (kk : Wa E G n R h Q pc' L (aI (xs x) :: st)) : Wa E G n R h Q pc L (aI v :: aR 63 0 :: st) := by
  obtain ⟨hd, rfl⟩ := hd
  subst hv
  intro H locs ls hP hS hl
  have e3 : lcq E (63, 0) = E.2.2.2.2.1 63 := rfl
  simp only [List.map_cons, cv, e3]
  refine va_sld C.1 C.2.1 hX (by have := C.2.2.2.2.2.1; omega) (show ¬ E.2.1 ≤ _ by omega) hS (vp_in_nI hx hb) hd ?_
  rw [nI_clamp (by omega)]
  exact kk H locs ls hP hS hl
theorem r_slen (C : Cx E G d cc own nm) {xs : Nat → Int32} {LL : Nat} (hd : Dc cc pc .arraylength 1 pc') (hX : va_X (E.2.2.2.2.1 63) LL xs (gs G) (gs G).heap) (hA : E.2.2.2.2.1 63 < E.2.1) (kk : Wa E G n R h Q pc' L (aI (nI LL) :: st)) : Wa E G n R h Q pc L (aR 63 0 :: st) := by
  obtain ⟨hd, rfl⟩ := hd
  intro H locs ls hP hS hl
  have e3 : lcq E (63, 0) = E.2.2.2.2.1 63 := rfl
  simp only [List.map_cons, cv, e3]
  exact va_slen C.1 C.2.1 hX (by have := C.2.2.2.2.2.1; omega) (show ¬ E.2.1 ≤ _ by omega) hS hd (kk H locs ls hP hS hl)
theorem r_min (C : Cx E G d cc own nm) {x y : Int32} (hd : Dc cc pc (.invokestatic idx) 3 pc') (hw : Cond.methodLink own idx Lib.Math.min.name ∈ tb ∧ Cond.static Lib.Math.min.name ∈ tb ∧ Cond.initialized "java/lang/Math" ∈ tb ∧ Cond.code Lib.Math.min.name Lib.Math.min.code 2 (some .int) ∈ tb) (hd1 : 1 ≤ d) (hs : ((st.map (cv E)).map fun v => v.category).sum ≤ 8) (hn : gn G ≤ n ∧ n ≤ nm) (kk : Wa E G n R h Q pc' L (aI (if y < x then y else x) :: st)) : Wa E G n R h Q pc L (aI y :: aI x :: st) := by
  obtain ⟨hd, rfl⟩ := hd
  intro H locs ls hP hS hl
  have hm := sl_mono hn.2
  have hcs := C.2.2.2.2.2.2.2.1
  have hfr := C.2.2.2.2.2.2.1
  exact va_mmin C.1 C.2.1 hl.2.1.symm C.2.2.1 (C.2.2.2.1 _ hw.1) (C.2.2.2.1 _ hw.2.1) (C.2.2.2.1 _ hw.2.2.1) (C.2.2.2.1 _ hw.2.2.2) (by omega) (by omega) (by omega) (by omega) hd (kk H locs ls hP hS hl)
theorem r_max (C : Cx E G d cc own nm) {x y : Int32} (hd : Dc cc pc (.invokestatic idx) 3 pc') (hw : Cond.methodLink own idx Lib.Math.max.name ∈ tb ∧ Cond.static Lib.Math.max.name ∈ tb ∧ Cond.initialized "java/lang/Math" ∈ tb ∧ Cond.code Lib.Math.max.name Lib.Math.max.code 2 (some .int) ∈ tb) (hd1 : 1 ≤ d) (hs : ((st.map (cv E)).map fun v => v.category).sum ≤ 8) (hn : gn G ≤ n ∧ n ≤ nm) (kk : Wa E G n R h Q pc' L (aI (if x < y then y else x) :: st)) : Wa E G n R h Q pc L (aI y :: aI x :: st) := by
  obtain ⟨hd, rfl⟩ := hd
  intro H locs ls hP hS hl
  have hm := sl_mono hn.2
  have hcs := C.2.2.2.2.2.2.2.1
  have hfr := C.2.2.2.2.2.2.1
  exact va_mmax C.1 C.2.1 hl.2.1.symm C.2.2.1 (C.2.2.2.1 _ hw.1) (C.2.2.2.1 _ hw.2.1) (C.2.2.2.1 _ hw.2.2.1) (C.2.2.2.1 _ hw.2.2.2) (by omega) (by omega) (by omega) (by omega) hd (kk H locs ls hP hS hl)
theorem r_objI (C : Cx E G d cc own nm) (hd : Dc cc pc (.invokespecial idx) 3 pc') (hw : Cond.methodLink own idx objectInit ∈ tb ∧ Cond.instanceMethod objectInit ∈ tb ∧ Cond.code objectInit ⟨#[0xb1]⟩ 1 none ∈ tb) (hd1 : 1 ≤ d) (hs : ((st.map (cv E)).map fun v => v.category).sum ≤ 8) (kk : Wa E G n R h Q pc' L st) : Wa E G n R h Q pc L (aR k j :: st) := by
  obtain ⟨hd, rfl⟩ := hd
  intro H locs ls hP hS hl
  have hfr := C.2.2.2.2.2.2.1
  refine W.objInit C.1 C.2.1 C.2.2.1 (C.2.2.2.1 _ hw.1) (C.2.2.2.1 _ hw.2.1) (C.2.2.2.1 _ hw.2.2) rfl hl.2.1 (a := lcq E (k, j)) (rest := st.map (cv E)) rfl hd (by omega) ?_ (kk H locs ls hP hS hl)
  show 2 * 0 + _ + 12 ≤ _
  omega
end RW3
end
section
def rmd (d mc ms : Nat) : Room := { frames := d, cells := mc, slots := ms, locals := 30 * d }
def Pcn (E : Ev) (as : List AV) (n : Nat) (R : RF) (h : HF) : Array Value → State → Prop := fun a U => a = (as.map (cv E)).toArray ∧ U.heap.size = E.2.1 + n ∧ Rp E n R h U.heap ∧ En E U U.heap
def Qcn (E : Ev) (n' : Nat) (P : Option AV → RF → HF → Prop) : Array Value → State → Outcome → State → Prop := fun _ st oc t => ∃ v R' h', P v R' h' ∧ oc = .returned (v.map (cv E)) ∧ Rp E n' R' h' t.heap ∧ va_F (fA E) st t
/-- THE CONTRACT of a method: from n cells that hold R and h, with the arguments as, at most d frames deep: it returns v with n' cells that hold R' and h', and P -/
def Ct (E : Ev) (d : Nat) (y : MethodName) (cc : ByteArray) (mL : Nat) (rt : Option FieldType) (as : List AV) (n : Nat) (R : RF) (h : HF) (n' : Nat) (P : Option AV → RF → HF → Prop) : Prop :=
  Met E.1 y (.code y cc mL rt :: tb) (rmd d (n' - n) (sl n' - sl n)) (Pcn E as n R h) (Qcn E n' P) (n' - n) (sl n' - sl n) (fA E)
def QQ (E : Ev) (G : Gv) (n' : Nat) (P : Option AV → RF → HF → Prop) : State → Prop := MQ (gb G) (Qcn E n' P) (ga G) (gs G) (n' - gn G) (sl n' - sl (gn G)) (fA E)
def entL : List AV → List (Option AV)
  | [] => []
  | .inr (.inl x) :: r => some (aL x) :: none :: entL r
  | v :: r => some v :: entL r
theorem entL_mem {E : Ev} {m : Nat} : ∀ (as : List AV) (b : Nat) (q : Nat × Value), q ∈ lvl E b (entL as ++ List.replicate m none) → q ∈ lv_args b (as.map (cv E))
  | [], b, q, h => by
    obtain ⟨i, v, h1, -⟩ := lvl_mem.mp h
    simp only [entL, List.nil_append] at h1
    have := List.eq_of_mem_replicate (List.mem_of_getElem? h1)
    cases this
  | .inl x :: r, b, q, h => by
    simp only [entL, List.cons_append, lvl] at h
    simp only [List.map_cons, cv, lv_args, Value.category]
    rcases List.mem_cons.mp h with h | h
    · rw [h]; exact List.mem_cons_self
    · exact List.mem_cons_of_mem _ (entL_mem r (b + 1) q h)
  | .inr (.inr none) :: r, b, q, h => by
    simp only [entL, List.cons_append, lvl] at h
    simp only [List.map_cons, cv, lv_args, Value.category]
    rcases List.mem_cons.mp h with h | h
    · rw [h]; exact List.mem_cons_self
    · exact List.mem_cons_of_mem _ (entL_mem r (b + 1) q h)
  | .inr (.inr (some z)) :: r, b, q, h => by
    simp only [entL, List.cons_append, lvl] at h
    simp only [List.map_cons, cv, lv_args, Value.category]
    rcases List.mem_cons.mp h with h | h
    · rw [h]; exact List.mem_cons_self
    · exact List.mem_cons_of_mem _ (entL_mem r (b + 1) q h)
  | .inr (.inl x) :: r, b, q, h => by
    simp only [entL, List.cons_append, lvl] at h
    simp only [List.map_cons, cv, lv_args, Value.category]
    rcases List.mem_cons.mp h with h | h
    · rw [h]; exact List.mem_cons_self
    · exact List.mem_cons_of_mem _ (entL_mem r (b + 2) q h)
theorem entL_len {E : Ev} : ∀ (as : List AV), (lg_sl (as.map (cv E))).length = (entL as).length
  | [] => rfl
  | .inl x :: r => by
    show (Slot.val (Value.int x) :: lg_sl (r.map (cv E))).length = (some (aI x) :: entL r).length
    simp only [List.length_cons, entL_len (E := E) r]
  | .inr (.inr none) :: r => by
    show (Slot.val Value.null :: lg_sl (r.map (cv E))).length = (some aN :: entL r).length
    simp only [List.length_cons, entL_len (E := E) r]
  | .inr (.inr (some z)) :: r => by
    show (Slot.val (Value.ref (lcq E z)) :: lg_sl (r.map (cv E))).length = (some (.inr (.inr (some z))) :: entL r).length
    simp only [List.length_cons, entL_len (E := E) r]
  | .inr (.inl x) :: r => by
    show (Slot.val (Value.long x) :: Slot.second :: lg_sl (r.map (cv E))).length = (some (aL x) :: none :: entL r).length
    simp only [List.length_cons, entL_len (E := E) r]
theorem Ct.of {E : Ev} {d : Nat} {y : MethodName} {cc : ByteArray} {mL : Nat} {rt : Option FieldType} {as : List AV} {n : Nat} {R : RF} {h : HF} {n' : Nat} {P : Option AV → RF → HF → Prop} (m : Nat) {L0 : List (Option AV)} (hy : plainName y.cls = true) (hnn : n ≤ n' ∧ n' ≤ 243) (hL : entL as ++ List.replicate m none = L0) (hlen : L0.length = mL)
    (body : ∀ G : Gv, Cx E G d cc y.cls n' → gn G = n → (gme G).sig.returnType = rt → (gme G).name = y.name → Wa E G n R h (QQ E G n' P) 0 L0 []) : Ct E d y cc mL rt as n R h n' P := by
  refine Met.ofW (cc := cc) (maxL := mL) (ret := rt) hy rfl ?_
  intro p e s m0 args below meth c s₁ B hml hv
  obtain ⟨rfl, hsz, hRp, hEn⟩ := hv
  have hts := atoms_spec (ws := .code y cc mL rt :: tb) B.pre
  have hown : s.vm.findClass y.cls = some m0.cls := findClass_of_methodNamed B.named
  have hk := body (p, e, rmd d (n' - n) (sl n' - sl n), s, m0, (as.map (cv E)).toArray, below, meth, c, n)
    ⟨B.exec, B.bytes, hown, fun w hw => hts w (List.mem_cons_of_mem _ hw), hEn, hsz, ⟨Nat.le_refl _, Nat.le_refl _⟩, ⟨Nat.le_refl _, Nat.le_refl _⟩, hnn, B.notSynchronized⟩ rfl B.returns (name_of_methodNamed B.named B.method).1
  have hle : (lg_sl (as.map (cv E))).length ≤ mL := by
    rw [entL_len, ← hlen, ← hL, List.length_append]
    omega
  have hl := lv_entry (as.map (cv E)) (n := mL) hle
  rw [lg_entry_eq]
  have h2 := hk s.heap [] _ hRp va_S.rf (show lok E c _ L0 from ⟨by rw [hml, hlen]; exact Nat.le_refl _, by rw [hml]; exact ⟨hl.1, hl.2.1, fun q hq => hl.2.2 q (entL_mem (m := m) as 0 q (by rw [hL]; exact hq))⟩⟩)
  have z1 : n - n = 0 := by omega
  have z2 : sl n - sl n = 0 := by omega
  simp only [gn, z1, z2] at h2
  exact h2
theorem Ct.mono {E : Ev} {d : Nat} {y : MethodName} {cc : ByteArray} {mL : Nat} {rt : Option FieldType} {as : List AV} {n : Nat} {R : RF} {h : HF} {n' : Nat} {P P' : Option AV → RF → HF → Prop} (hc : Ct E d y cc mL rt as n R h n' P) (hp : ∀ v R' h', P v R' h' → P' v R' h') : Ct E d y cc mL rt as n R h n' P' := by
  intro p e ha hcas hclk s m args below hf happ hP hK
  obtain ⟨k, o, h1, h2, h3, ⟨⟨v, R', h', q1, q2⟩, q3⟩⟩ := hc p e ha hcas hclk s m args below hf happ hP hK
  exact ⟨k, o, h1, h2, h3, ⟨⟨v, R', h', hp v R' h' q1, q2⟩, q3⟩⟩
section RW4
variable {E : Ev} {G : Gv} {n n' d d' nm pc pc' mL : Nat} {R : RF} {h : HF} {Q : State → Prop} {L L' : List (Option AV)} {st st0 : List AV} {cc cc' : ByteArray} {own : String} {k j i idx : Nat} {P : Option AV → RF → HF → Prop} {y : MethodName} {rt : Option FieldType} {as : List AV}
theorem r_iret (C : Cx E G d cc own nm) {x : Int32} (hrt : (gme G).sig.returnType = some .int) (hd : Dc cc pc .ireturn 1 pc') (hp : P (some (aI x)) R h) : Wa E G n R h (QQ E G n P) pc L [aI x] := by
  intro H locs ls hP hS hl
  exact W.iret C.1 C.2.1 hrt (fun t ht hW => ⟨some (aI x), R, h, hp, rfl, by rw [ht]; exact hP, hS.F ht⟩) hS.2.2 hd.1 C.2.2.2.2.2.2.2.2.2
theorem r_zret (C : Cx E G d cc own nm) {x : Int32} (hrt : (gme G).sig.returnType = some .boolean) (hd : Dc cc pc .ireturn 1 pc') (hx : narrow .boolean (.int x) = .int x) (hp : P (some (aI x)) R h) : Wa E G n R h (QQ E G n P) pc L [aI x] := by
  intro H locs ls hP hS hl
  exact W.zret C.1 C.2.1 hrt hx (fun t ht hW => ⟨some (aI x), R, h, hp, rfl, by rw [ht]; exact hP, hS.F ht⟩) hS.2.2 hd.1 C.2.2.2.2.2.2.2.2.2
theorem r_vret (C : Cx E G d cc own nm) (hrt : (gme G).sig.returnType = none) (hd : Dc cc pc .return_ 1 pc') (hp : P none R h) : Wa E G n R h (QQ E G n P) pc L [] := by
  intro H locs ls hP hS hl
  exact W.vret C.1 C.2.1 hrt (fun t ht hW => ⟨none, R, h, hp, rfl, by rw [ht]; exact hP, hS.F ht⟩) hS.2.2 hd.1 C.2.2.2.2.2.2.2.2.2
theorem pcn_blind : FrameBlind (Pcn E as n R h) := by
  intro a U g mk q
  obtain ⟨q0, q1, q2, q3⟩ := q
  exact ⟨q0, q1, q2, En.same (u := U) rfl q3⟩
theorem pcn_at {H : Heap} {locs : List Loc} (C : Cx E G d cc own nm) (hP : Rp E n R h H) (hS : va_S (fA E) (gs G).heap H locs) (hz : H.size = E.2.1 + n) (U : State) (hU : U.heap = H) (hW : (gs G).WarmedH U.vm) : Pcn E as n R h (as.map (cv E)).toArray U :=
  ⟨rfl, by rw [hU]; exact hz, by rw [hU]; exact hP, En.warm hW (fun a ha hn => by rw [hU]; exact hS.2.1 a ha hn) C.2.2.2.2.1⟩
/-- behind a call -/
theorem r_after {H : Heap} {locs : List Loc} {ls : Array Slot} {T : State} {stk : List Value} {a : Array Value} (hn : gn G ≤ n ∧ n ≤ n')
    (hr : va_Run (gp G) E.1 (ge G) (gR G) (gs G) (gm G) (ga G) (gb G) (gme G) (gc G) H locs (n - gn G) (sl n - sl (gn G)) (n' - n) (sl n' - sl n) (F0 (gm G) pc ls stk) (st.map (cv E)) (Qcn E n' P a) (fA E))
    (hS : va_S (fA E) (gs G).heap H locs) (hl : lok E (gc G) ls L) (hT : T.heap = H) (X : Stand (gp G) E.1 (ge G) (gR G) (gs G) (gm G) (ga G) (gb G) (gme G) (gc G) T locs (n - gn G) (sl n - sl (gn G)))
    (kk : ∀ v R' h', P v R' h' → Wa E G n' R' h' Q (pc + 3) L (v.toList ++ st)) : ∃ t, Steps (gp G).tables (ge G) (gb G) (T.setTop (F0 (gm G) pc ls stk)) t ∧ Q t := by
  obtain ⟨v0, st₀, t, T', Lc, h0, X', hLc, e1, e2, ⟨v, R', h', hp, hv, hRp, hF⟩, go⟩ := hr T hT X
  cases hv
  have hm1 := sl_mono hn.1
  have hm2 := sl_mono hn.2
  have c1 : n - gn G + (n' - n) = n' - gn G := by omega
  have c2 : sl n - sl (gn G) + (sl n' - sl n) = sl n' - sl (gn G) := by omega
  rw [c1, c2] at X'
  have hS' : va_S (fA E) (gs G).heap T'.heap (locs ++ Lc) := by
    refine ⟨Nat.le_trans hS.1 (by rw [e1, ← h0]; exact hF.1), fun q h1 h2 => ?_, fun q hq => ?_⟩
    · rw [e1, hF.2 q (by rw [h0]; exact Nat.lt_of_lt_of_le h1 hS.1) h2, h0]
      exact hS.2.1 q h1 h2
    · rcases List.mem_append.mp hq with z | z
      · exact hS.2.2 q z
      · exact hLc q z
  obtain ⟨t2, a1, b1⟩ := kk v R' h' hp T'.heap (locs ++ Lc) ls (by rw [e1]; exact hRp) hS' hl T' rfl X'
  refine ⟨t2, go t2 ?_, b1⟩
  have e3 : List.map (cv E) (v.toList ++ st) = (v.map (cv E)).toList ++ st.map (cv E) := by cases v <;> simp
  rw [e3] at a1
  exact a1
/-- what a call's words say -/
def CW (y : MethodName) (cc' : ByteArray) (mL : Nat) (rt : Option FieldType) (na : Nat) : Prop := Cond.code y cc' mL rt ∈ tb ∧ Cond.initialized y.cls ∈ tb ∧ (y.cls ≠ "java/lang/invoke/MethodHandle" ∧ y.cls ≠ "java/lang/invoke/VarHandle" ∧ (parseMethodDescriptor y.desc).map (fun d => d.parameters.length) = some na) ∧ mL ≤ 11
theorem cw_good (hw : CW y cc' mL rt i) : GoodIn tb (.code y cc' mL rt :: tb) := by
  intro w h
  rcases List.mem_cons.mp h with rfl | h
  · exact ⟨hw.1, tb_good _ hw.1⟩
  · exact ⟨h, tb_good _ h⟩
theorem cw_callB {na : Nat} (C : Cx E G d cc own nm) (hw : CW y cc' mL rt na) (hl : Cond.methodLink own idx y ∈ tb) (hdd : d' < d) : CallB (gR G) (gs G) (ga G) own idx y cc' mL rt (.code y cc' mL rt :: tb) (rmd d' (n' - n) (sl n' - sl n)) (n' - n) (sl n' - sl n) na := by
  have hfr := C.2.2.2.2.2.2.1
  have h11 := hw.2.2.2
  exact callB_of na C.2.2.2.1 (cw_good hw) rfl rfl rfl (C.2.2.2.1 _ hw.2.1) (C.2.2.2.1 _ hl) hw.2.2.1 ⟨by show d' + 1 ≤ _; omega, by show 8 + (mL + 11) + 30 * d' ≤ _; omega⟩
def CV (own : String) (idx : Nat) (y : MethodName) (k : Nat) : Prop := Cond.methodLink own idx y ∈ tb ∧ Cond.instanceMethod y ∈ tb ∧ Cond.selects y.cls y y ∈ tb ∧ (vwCl[k]?).map (fun q => q.1) = some y.cls ∧ shp k = 0
theorem r_callV {na : Nat} (C : Cx E G d cc own nm) (hM : Ct E d' y cc' mL rt (aR k j :: as) n R h n' P) (hdg : Dc cc pc (.invokevirtual idx) 3 pc') (hw : CW y cc' mL rt na) (hv : CV own idx y k) (hdd : d' < d) (ho : Ok n k j) (hna : as.length = na) (hn : gn G ≤ n ∧ n ≤ n' ∧ n' ≤ nm) (hst : as.reverse ++ aR k j :: st = st0) (hs : ((st.map (cv E)).map fun v => v.category).sum ≤ 8)
    (kk : ∀ v R' h', P v R' h' → Wa E G n' R' h' Q pc' L (v.toList ++ st)) : Wa E G n R h Q pc L st0 := by
  obtain ⟨hdg, rfl⟩ := hdg
  subst hst
  intro H locs ls hP hS hl T hT X
  have hsz := rp_size C hP hS hT hn.1 X
  have hm1 := sl_mono hn.1
  have hm2 := sl_mono hn.2.1
  have hm3 := sl_mono hn.2.2
  have hcs := C.2.2.2.2.2.2.2.1
  obtain ⟨q, hq1, hq2⟩ : ∃ q, vwCl[k]? = some q ∧ q.1 = y.cls := by
    have h2 := hv.2.2.2.1
    cases hh : vwCl[k]? with
    | none => rw [hh] at h2; cases h2
    | some q => rw [hh] at h2; exact ⟨q, rfl, Option.some.inj h2⟩
  have he : (wsl E n R h)[pos k j]? = some (lcq E (k, j), .inr (k, (List.range (nf k)).map (fun i => if isr k i = true then va_rf ((R k j i).map (lcq E)) else .int (h k j i)))) := by rw [wsl_at ho.1 ho.2.1 ho.2.2.1, ent_obj hv.2.2.2.2]
  have hrecv := va_recv C.2.2.2.2.1.1 hP hq1 he
  rw [hq2] at hrecv
  refine r_after ⟨hn.1, hn.2.1⟩ (va_runV (C := y.cls) (b := lcq E (k, j)) (As := as.map (cv E)) (rest := st.map (cv E)) ⟨C.1, C.2.1, rfl, C.2.2.1, C.2.2.2.1⟩ hM ⟨cw_callB C hw hv.1 hdd, C.2.2.2.1 _ hv.2.1, C.2.2.2.1 _ hv.2.2.1⟩ ⟨pcn_blind, hrecv, fun U hU hW => pcn_at C hP hS hsz U hU hW⟩ rfl (by rw [List.length_map]; exact hna) hl.2.1 (by simp [cv]) (lv_room hs) hdg ⟨by omega, by omega⟩) hS hl hT X kk
theorem r_callS {na : Nat} (C : Cx E G d cc own nm) (hM : Ct E d' y cc' mL rt as n R h n' P) (hdg : Dc cc pc (.invokestatic idx) 3 pc') (hw : CW y cc' mL rt na) (hv : Cond.methodLink own idx y ∈ tb ∧ Cond.static y ∈ tb) (hdd : d' < d) (hna : as.length = na) (hn : gn G ≤ n ∧ n ≤ n' ∧ n' ≤ nm) (hst : as.reverse ++ st = st0) (hs : ((st.map (cv E)).map fun v => v.category).sum ≤ 8)
    (kk : ∀ v R' h', P v R' h' → Wa E G n' R' h' Q pc' L (v.toList ++ st)) : Wa E G n R h Q pc L st0 := by
  obtain ⟨hdg, rfl⟩ := hdg
  subst hst
  intro H locs ls hP hS hl T hT X
  have hsz := rp_size C hP hS hT hn.1 X
  have hm1 := sl_mono hn.1
  have hm2 := sl_mono hn.2.1
  have hm3 := sl_mono hn.2.2
  have hcs := C.2.2.2.2.2.2.2.1
  refine r_after ⟨hn.1, hn.2.1⟩ (va_runS (As := as.map (cv E)) (rest := st.map (cv E)) ⟨C.1, C.2.1, rfl, C.2.2.1, C.2.2.2.1⟩ hM ⟨cw_callB C hw hv.1 hdd, C.2.2.2.1 _ hv.2⟩ ⟨pcn_blind, fun U hU hW => pcn_at C hP hS hsz U hU hW⟩ rfl (by rw [List.length_map]; exact hna) hl.2.1 (by simp) (lv_room hs) hdg ⟨by omega, by omega⟩) hS hl hT X kk
theorem r_callSN {na : Nat} {host : String} (C : Cx E G d cc own nm) (hM : Ct E d' y cc' mL rt as n R h n' P) (hdg : Dc cc pc (.invokestatic idx) 3 pc') (hw : CW y cc' mL rt na) (hv : Cond.methodLinkNest own idx y host ∈ nestW ∧ Cond.static y ∈ tb) (hdd : d' < d) (hna : as.length = na) (hn : gn G ≤ n ∧ n ≤ n' ∧ n' ≤ nm) (hst : as.reverse ++ st = st0) (hs : ((st.map (cv E)).map fun v => v.category).sum ≤ 8)
    (kk : ∀ v R' h', P v R' h' → Wa E G n' R' h' Q pc' L (v.toList ++ st)) : Wa E G n R h Q pc L st0 := by
  obtain ⟨hdg, rfl⟩ := hdg
  subst hst
  intro H locs ls hP hS hl T hT X
  have hsz := rp_size C hP hS hT hn.1 X
  have hm1 := sl_mono hn.1
  have hm2 := sl_mono hn.2.1
  have hm3 := sl_mono hn.2.2
  have hcs := C.2.2.2.2.2.2.2.1
  have hfr := C.2.2.2.2.2.2.1
  have h11 := hw.2.2.2
  refine r_after ⟨hn.1, hn.2.1⟩ (va_runSN (As := as.map (cv E)) (rest := st.map (cv E)) ⟨C.1, C.2.1, rfl, C.2.2.1, C.2.2.2.1⟩ hM ⟨va_cnB na C.2.2.2.1 (cw_good hw) rfl rfl rfl (C.2.2.2.2.1.2.1 _ hv.1) (C.2.2.2.1 _ hw.2.1) hw.2.2.1 ⟨by show d' + 1 ≤ _; omega, by show 8 + (mL + 11) + 30 * d' ≤ _; omega⟩, C.2.2.2.1 _ hv.2, trivial⟩ ⟨pcn_blind, fun U hU hW => pcn_at C hP hS hsz U hU hW⟩ rfl (by rw [List.length_map]; exact hna) hl.2.1 (by simp) (lv_room hs) hdg ⟨by omega, by omega⟩) hS hl hT X kk
theorem r_callI {na : Nat} (C : Cx E G d cc own nm) (hM : Ct E d' y cc' mL none (aR k j :: as) n R h n' P) (hdg : Dc cc pc (.invokespecial idx) 3 pc') (hw : CW y cc' mL none na) (hv : Cond.methodLink own idx y ∈ tb ∧ Cond.instanceMethod y ∈ tb ∧ y.name = "<init>") (hdd : d' < d) (hna : as.length = na) (hn : gn G ≤ n ∧ n ≤ n' ∧ n' ≤ nm) (hst : as.reverse ++ aR k j :: st = st0) (hs : ((st.map (cv E)).map fun v => v.category).sum ≤ 8)
    (kk : ∀ v R' h', P v R' h' → Wa E G n' R' h' Q pc' L (v.toList ++ st)) : Wa E G n R h Q pc L st0 := by
  obtain ⟨hdg, rfl⟩ := hdg
  subst hst
  intro H locs ls hP hS hl T hT X
  have hsz := rp_size C hP hS hT hn.1 X
  have hm1 := sl_mono hn.1
  have hm2 := sl_mono hn.2.1
  have hm3 := sl_mono hn.2.2
  have hcs := C.2.2.2.2.2.2.2.1
  refine r_after ⟨hn.1, hn.2.1⟩ (va_runI (b := lcq E (k, j)) (As := as.map (cv E)) (rest := st.map (cv E)) ⟨C.1, C.2.1, rfl, C.2.2.1, C.2.2.2.1⟩ hM ⟨cw_callB C hw hv.1 hdd, hv.2.2, C.2.2.2.1 _ hv.2.1⟩ ⟨pcn_blind, fun U hU hW => pcn_at C hP hS hsz U hU hW⟩ rfl (by rw [List.length_map]; exact hna) hl.2.1 (by simp [cv]) (lv_room hs) hdg ⟨by omega, by omega⟩) hS hl hT X kk
theorem r_callIN {na : Nat} {host : String} (C : Cx E G d cc own nm) (hM : Ct E d' y cc' mL none (aR k j :: as) n R h n' P) (hdg : Dc cc pc (.invokespecial idx) 3 pc') (hw : CW y cc' mL none na) (hv : Cond.methodLinkNest own idx y host ∈ nestW ∧ Cond.instanceMethod y ∈ tb ∧ y.name = "<init>") (hdd : d' < d) (hna : as.length = na) (hn : gn G ≤ n ∧ n ≤ n' ∧ n' ≤ nm) (hst : as.reverse ++ aR k j :: st = st0) (hs : ((st.map (cv E)).map fun v => v.category).sum ≤ 8)
    (kk : ∀ v R' h', P v R' h' → Wa E G n' R' h' Q pc' L (v.toList ++ st)) : Wa E G n R h Q pc L st0 := by
  obtain ⟨hdg, rfl⟩ := hdg
  subst hst
  intro H locs ls hP hS hl T hT X
  have hsz := rp_size C hP hS hT hn.1 X
  have hm1 := sl_mono hn.1
  have hm2 := sl_mono hn.2.1
  have hm3 := sl_mono hn.2.2
  have hcs := C.2.2.2.2.2.2.2.1
  have hfr := C.2.2.2.2.2.2.1
  have h11 := hw.2.2.2
  refine r_after ⟨hn.1, hn.2.1⟩ (va_runIN (b := lcq E (k, j)) (As := as.map (cv E)) (rest := st.map (cv E)) ⟨C.1, C.2.1, rfl, C.2.2.1, C.2.2.2.1⟩ hM ⟨va_cnB na C.2.2.2.1 (cw_good hw) rfl rfl rfl (C.2.2.2.2.1.2.1 _ hv.1) (C.2.2.2.1 _ hw.2.1) hw.2.2.1 ⟨by show d' + 1 ≤ _; omega, by show 8 + (mL + 11) + 30 * d' ≤ _; omega⟩, hv.2.2, C.2.2.2.1 _ hv.2.1⟩ ⟨pcn_blind, fun U hU hW => pcn_at C hP hS hsz U hU hW⟩ rfl (by rw [List.length_map]; exact hna) hl.2.1 (by simp [cv]) (lv_room hs) hdg ⟨by omega, by omega⟩) hS hl hT X kk
end RW4
end
