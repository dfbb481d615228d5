section
-- ===== PART A: goes FIRST, ahead of the names: the tables' words, and 'selects' of the private methods out of them =====
/-- a private method of a class that the tables say can be made, by its rows of tables_1 -/
def lw_okq (q : MethodName × Nat) : Prop := (q.1.cls ≠ "java/lang/invoke/MethodHandle" ∧ q.1.cls ≠ "java/lang/invoke/VarHandle") ∧ Cond.instantiable q.1.cls q.2 ∈ tables_1 ∧ Cond.privateMethod q.1 ∈ tables_1 ∧ Cond.instanceMethod q.1 ∈ tables_1
theorem lw_p0 : lw_okq (⟨"TradeLink$Session", "logOut", "()V"⟩, 12) := ⟨⟨by decide +kernel, by decide +kernel⟩, List.mem_of_getElem? (i := 87) (by decide +kernel), List.mem_of_getElem? (i := 246) (by decide +kernel), List.mem_of_getElem? (i := 247) (by decide +kernel)⟩
theorem lw_p1 : lw_okq (⟨"TradeLink$Session", "send", "(III)V"⟩, 12) := ⟨⟨by decide +kernel, by decide +kernel⟩, List.mem_of_getElem? (i := 87) (by decide +kernel), List.mem_of_getElem? (i := 250) (by decide +kernel), List.mem_of_getElem? (i := 251) (by decide +kernel)⟩
theorem lw_p2 : lw_okq (⟨"TradeLink$Session", "post", "(IIZ)LTradeLink$Message;"⟩, 12) := ⟨⟨by decide +kernel, by decide +kernel⟩, List.mem_of_getElem? (i := 87) (by decide +kernel), List.mem_of_getElem? (i := 254) (by decide +kernel), List.mem_of_getElem? (i := 255) (by decide +kernel)⟩
theorem lw_p3 : lw_okq (⟨"TradeLink$Session", "ask", "()V"⟩, 12) := ⟨⟨by decide +kernel, by decide +kernel⟩, List.mem_of_getElem? (i := 87) (by decide +kernel), List.mem_of_getElem? (i := 274) (by decide +kernel), List.mem_of_getElem? (i := 275) (by decide +kernel)⟩
theorem lw_p4 : lw_okq (⟨"java/lang/Throwable", "fillInStackTrace", "(I)Ljava/lang/Throwable;"⟩, 6) := ⟨⟨by decide +kernel, by decide +kernel⟩, List.mem_of_getElem? (i := 346) (by decide +kernel), List.mem_of_getElem? (i := 344) (by decide +kernel), List.mem_of_getElem? (i := 345) (by decide +kernel)⟩
theorem lw_p5 : lw_okq (⟨"TradeLink$Message", "writeOwnFields", "(LTradeLink$Row;)V"⟩, 4) := ⟨⟨by decide +kernel, by decide +kernel⟩, List.mem_of_getElem? (i := 60) (by decide +kernel), List.mem_of_getElem? (i := 398) (by decide +kernel), List.mem_of_getElem? (i := 399) (by decide +kernel)⟩
theorem lw_p6 : lw_okq (⟨"TradeLink$Inbox", "opens", "(I)Z"⟩, 2) := ⟨⟨by decide +kernel, by decide +kernel⟩, List.mem_of_getElem? (i := 29) (by decide +kernel), List.mem_of_getElem? (i := 496) (by decide +kernel), List.mem_of_getElem? (i := 497) (by decide +kernel)⟩
theorem lw_p7 : lw_okq (⟨"TradeLink$Inbox", "character", "()I"⟩, 2) := ⟨⟨by decide +kernel, by decide +kernel⟩, List.mem_of_getElem? (i := 29) (by decide +kernel), List.mem_of_getElem? (i := 501) (by decide +kernel), List.mem_of_getElem? (i := 502) (by decide +kernel)⟩
theorem lw_p8 : lw_okq (⟨"TradeLink$Inbox", "closes", "()Z"⟩, 2) := ⟨⟨by decide +kernel, by decide +kernel⟩, List.mem_of_getElem? (i := 29) (by decide +kernel), List.mem_of_getElem? (i := 505) (by decide +kernel), List.mem_of_getElem? (i := 506) (by decide +kernel)⟩
theorem lw_p9 : lw_okq (⟨"TradeLink$Inbox", "number", "()I"⟩, 2) := ⟨⟨by decide +kernel, by decide +kernel⟩, List.mem_of_getElem? (i := 29) (by decide +kernel), List.mem_of_getElem? (i := 509) (by decide +kernel), List.mem_of_getElem? (i := 510) (by decide +kernel)⟩
theorem lw_p10 : lw_okq (⟨"TradeLink$Inbox", "scanHead", "(LTradeLink$Message;)Z"⟩, 2) := ⟨⟨by decide +kernel, by decide +kernel⟩, List.mem_of_getElem? (i := 29) (by decide +kernel), List.mem_of_getElem? (i := 513) (by decide +kernel), List.mem_of_getElem? (i := 514) (by decide +kernel)⟩
theorem lw_p11 : lw_okq (⟨"TradeLink$Inbox", "scanOwnFields", "(LTradeLink$Message;)Z"⟩, 2) := ⟨⟨by decide +kernel, by decide +kernel⟩, List.mem_of_getElem? (i := 29) (by decide +kernel), List.mem_of_getElem? (i := 519) (by decide +kernel), List.mem_of_getElem? (i := 520) (by decide +kernel)⟩
theorem lw_p12 : lw_okq (⟨"TradeLink$Inbox", "yesOrNo", "()I"⟩, 2) := ⟨⟨by decide +kernel, by decide +kernel⟩, List.mem_of_getElem? (i := 29) (by decide +kernel), List.mem_of_getElem? (i := 525) (by decide +kernel), List.mem_of_getElem? (i := 526) (by decide +kernel)⟩
theorem lw_p13 : lw_okq (⟨"TradeLink$Inbox", "scanSum", "()Z"⟩, 2) := ⟨⟨by decide +kernel, by decide +kernel⟩, List.mem_of_getElem? (i := 29) (by decide +kernel), List.mem_of_getElem? (i := 529) (by decide +kernel), List.mem_of_getElem? (i := 530) (by decide +kernel)⟩
theorem lw_p14 : lw_okq (⟨"TradeLink$Session", "raiseAwaited", "(I)Z"⟩, 12) := ⟨⟨by decide +kernel, by decide +kernel⟩, List.mem_of_getElem? (i := 87) (by decide +kernel), List.mem_of_getElem? (i := 540) (by decide +kernel), List.mem_of_getElem? (i := 541) (by decide +kernel)⟩
theorem lw_p15 : lw_okq (⟨"TradeLink$Session", "receiveLow", "(Z)I"⟩, 12) := ⟨⟨by decide +kernel, by decide +kernel⟩, List.mem_of_getElem? (i := 87) (by decide +kernel), List.mem_of_getElem? (i := 544) (by decide +kernel), List.mem_of_getElem? (i := 545) (by decide +kernel)⟩
def lw_privs_1 : List (MethodName × Nat) := [(⟨"TradeLink$Session", "logOut", "()V"⟩, 12), (⟨"TradeLink$Session", "send", "(III)V"⟩, 12), (⟨"TradeLink$Session", "post", "(IIZ)LTradeLink$Message;"⟩, 12), (⟨"TradeLink$Session", "ask", "()V"⟩, 12), (⟨"java/lang/Throwable", "fillInStackTrace", "(I)Ljava/lang/Throwable;"⟩, 6), (⟨"TradeLink$Message", "writeOwnFields", "(LTradeLink$Row;)V"⟩, 4), (⟨"TradeLink$Inbox", "opens", "(I)Z"⟩, 2), (⟨"TradeLink$Inbox", "character", "()I"⟩, 2), (⟨"TradeLink$Inbox", "closes", "()Z"⟩, 2), (⟨"TradeLink$Inbox", "number", "()I"⟩, 2), (⟨"TradeLink$Inbox", "scanHead", "(LTradeLink$Message;)Z"⟩, 2), (⟨"TradeLink$Inbox", "scanOwnFields", "(LTradeLink$Message;)Z"⟩, 2), (⟨"TradeLink$Inbox", "yesOrNo", "()I"⟩, 2), (⟨"TradeLink$Inbox", "scanSum", "()Z"⟩, 2), (⟨"TradeLink$Session", "raiseAwaited", "(I)Z"⟩, 12), (⟨"TradeLink$Session", "receiveLow", "(Z)I"⟩, 12)]
theorem lw_r1 : ∀ q ∈ lw_privs_1, lw_okq q := List.forall_mem_cons.mpr ⟨lw_p0, List.forall_mem_cons.mpr ⟨lw_p1, List.forall_mem_cons.mpr ⟨lw_p2, List.forall_mem_cons.mpr ⟨lw_p3, List.forall_mem_cons.mpr ⟨lw_p4, List.forall_mem_cons.mpr ⟨lw_p5, List.forall_mem_cons.mpr ⟨lw_p6, List.forall_mem_cons.mpr ⟨lw_p7, List.forall_mem_cons.mpr ⟨lw_p8, List.forall_mem_cons.mpr ⟨lw_p9, List.forall_mem_cons.mpr ⟨lw_p10, List.forall_mem_cons.mpr ⟨lw_p11, List.forall_mem_cons.mpr ⟨lw_p12, List.forall_mem_cons.mpr ⟨lw_p13, List.forall_mem_cons.mpr ⟨lw_p14, List.forall_mem_cons.mpr ⟨lw_p15, fun _ h => absurd h List.not_mem_nil⟩⟩⟩⟩⟩⟩⟩⟩⟩⟩⟩⟩⟩⟩⟩⟩
theorem lw_p16 : lw_okq (⟨"TradeLink$Session", "receiveEarly", "(LTradeLink$Message;)I"⟩, 12) := ⟨⟨by decide +kernel, by decide +kernel⟩, List.mem_of_getElem? (i := 87) (by decide +kernel), List.mem_of_getElem? (i := 548) (by decide +kernel), List.mem_of_getElem? (i := 549) (by decide +kernel)⟩
theorem lw_p17 : lw_okq (⟨"TradeLink$Session", "answerResend", "(II)V"⟩, 12) := ⟨⟨by decide +kernel, by decide +kernel⟩, List.mem_of_getElem? (i := 87) (by decide +kernel), List.mem_of_getElem? (i := 552) (by decide +kernel), List.mem_of_getElem? (i := 553) (by decide +kernel)⟩
theorem lw_p18 : lw_okq (⟨"TradeLink$Session", "postGap", "(II)V"⟩, 12) := ⟨⟨by decide +kernel, by decide +kernel⟩, List.mem_of_getElem? (i := 87) (by decide +kernel), List.mem_of_getElem? (i := 563) (by decide +kernel), List.mem_of_getElem? (i := 564) (by decide +kernel)⟩
theorem lw_p19 : lw_okq (⟨"TradeLink$Session", "receiveInTurn", "(LTradeLink$Message;)V"⟩, 12) := ⟨⟨by decide +kernel, by decide +kernel⟩, List.mem_of_getElem? (i := 87) (by decide +kernel), List.mem_of_getElem? (i := 572) (by decide +kernel), List.mem_of_getElem? (i := 573) (by decide +kernel)⟩
theorem lw_p20 : lw_okq (⟨"TradeLink$Book", "isUsed", "(I)Z"⟩, 4) := ⟨⟨by decide +kernel, by decide +kernel⟩, List.mem_of_getElem? (i := 115) (by decide +kernel), List.mem_of_getElem? (i := 580) (by decide +kernel), List.mem_of_getElem? (i := 581) (by decide +kernel)⟩
theorem lw_p21 : lw_okq (⟨"TradeLink$Book", "enter", "(II)LTradeLink$Order;"⟩, 4) := ⟨⟨by decide +kernel, by decide +kernel⟩, List.mem_of_getElem? (i := 115) (by decide +kernel), List.mem_of_getElem? (i := 584) (by decide +kernel), List.mem_of_getElem? (i := 585) (by decide +kernel)⟩
theorem lw_p22 : lw_okq (⟨"TradeLink$Book", "amend", "(IZI)LTradeLink$Order;"⟩, 4) := ⟨⟨by decide +kernel, by decide +kernel⟩, List.mem_of_getElem? (i := 115) (by decide +kernel), List.mem_of_getElem? (i := 588) (by decide +kernel), List.mem_of_getElem? (i := 589) (by decide +kernel)⟩
theorem lw_p23 : lw_okq (⟨"TradeLink$Book", "use", "(I)V"⟩, 4) := ⟨⟨by decide +kernel, by decide +kernel⟩, List.mem_of_getElem? (i := 115) (by decide +kernel), List.mem_of_getElem? (i := 604) (by decide +kernel), List.mem_of_getElem? (i := 605) (by decide +kernel)⟩
theorem lw_p24 : lw_okq (⟨"TradeLinkModel", "fail", "(I)I"⟩, 39) := ⟨⟨by decide +kernel, by decide +kernel⟩, List.mem_of_getElem? (i := 690) (by decide +kernel), List.mem_of_getElem? (i := 830) (by decide +kernel), List.mem_of_getElem? (i := 831) (by decide +kernel)⟩
theorem lw_p25 : lw_okq (⟨"TradeLinkModel", "make", "(IIZIIII)V"⟩, 39) := ⟨⟨by decide +kernel, by decide +kernel⟩, List.mem_of_getElem? (i := 690) (by decide +kernel), List.mem_of_getElem? (i := 834) (by decide +kernel), List.mem_of_getElem? (i := 835) (by decide +kernel)⟩
theorem lw_p26 : lw_okq (⟨"TradeLinkModel", "letter", "(II)V"⟩, 39) := ⟨⟨by decide +kernel, by decide +kernel⟩, List.mem_of_getElem? (i := 690) (by decide +kernel), List.mem_of_getElem? (i := 838) (by decide +kernel), List.mem_of_getElem? (i := 839) (by decide +kernel)⟩
theorem lw_p27 : lw_okq (⟨"TradeLinkModel", "digits", "(I)V"⟩, 39) := ⟨⟨by decide +kernel, by decide +kernel⟩, List.mem_of_getElem? (i := 690) (by decide +kernel), List.mem_of_getElem? (i := 842) (by decide +kernel), List.mem_of_getElem? (i := 843) (by decide +kernel)⟩
theorem lw_p28 : lw_okq (⟨"TradeLinkModel", "put", "(I)V"⟩, 39) := ⟨⟨by decide +kernel, by decide +kernel⟩, List.mem_of_getElem? (i := 690) (by decide +kernel), List.mem_of_getElem? (i := 846) (by decide +kernel), List.mem_of_getElem? (i := 847) (by decide +kernel)⟩
theorem lw_p29 : lw_okq (⟨"TradeLinkModel", "body", "(IIIIIZ)I"⟩, 39) := ⟨⟨by decide +kernel, by decide +kernel⟩, List.mem_of_getElem? (i := 690) (by decide +kernel), List.mem_of_getElem? (i := 856) (by decide +kernel), List.mem_of_getElem? (i := 857) (by decide +kernel)⟩
theorem lw_p30 : lw_okq (⟨"TradeLinkModel", "field", "(II)V"⟩, 39) := ⟨⟨by decide +kernel, by decide +kernel⟩, List.mem_of_getElem? (i := 690) (by decide +kernel), List.mem_of_getElem? (i := 863) (by decide +kernel), List.mem_of_getElem? (i := 864) (by decide +kernel)⟩
theorem lw_p31 : lw_okq (⟨"TradeLinkModel", "byteAt", "(I)I"⟩, 39) := ⟨⟨by decide +kernel, by decide +kernel⟩, List.mem_of_getElem? (i := 690) (by decide +kernel), List.mem_of_getElem? (i := 867) (by decide +kernel), List.mem_of_getElem? (i := 868) (by decide +kernel)⟩
def lw_privs_2 : List (MethodName × Nat) := [(⟨"TradeLink$Session", "receiveEarly", "(LTradeLink$Message;)I"⟩, 12), (⟨"TradeLink$Session", "answerResend", "(II)V"⟩, 12), (⟨"TradeLink$Session", "postGap", "(II)V"⟩, 12), (⟨"TradeLink$Session", "receiveInTurn", "(LTradeLink$Message;)V"⟩, 12), (⟨"TradeLink$Book", "isUsed", "(I)Z"⟩, 4), (⟨"TradeLink$Book", "enter", "(II)LTradeLink$Order;"⟩, 4), (⟨"TradeLink$Book", "amend", "(IZI)LTradeLink$Order;"⟩, 4), (⟨"TradeLink$Book", "use", "(I)V"⟩, 4), (⟨"TradeLinkModel", "fail", "(I)I"⟩, 39), (⟨"TradeLinkModel", "make", "(IIZIIII)V"⟩, 39), (⟨"TradeLinkModel", "letter", "(II)V"⟩, 39), (⟨"TradeLinkModel", "digits", "(I)V"⟩, 39), (⟨"TradeLinkModel", "put", "(I)V"⟩, 39), (⟨"TradeLinkModel", "body", "(IIIIIZ)I"⟩, 39), (⟨"TradeLinkModel", "field", "(II)V"⟩, 39), (⟨"TradeLinkModel", "byteAt", "(I)I"⟩, 39)]
theorem lw_r2 : ∀ q ∈ lw_privs_2, lw_okq q := List.forall_mem_cons.mpr ⟨lw_p16, List.forall_mem_cons.mpr ⟨lw_p17, List.forall_mem_cons.mpr ⟨lw_p18, List.forall_mem_cons.mpr ⟨lw_p19, List.forall_mem_cons.mpr ⟨lw_p20, List.forall_mem_cons.mpr ⟨lw_p21, List.forall_mem_cons.mpr ⟨lw_p22, List.forall_mem_cons.mpr ⟨lw_p23, List.forall_mem_cons.mpr ⟨lw_p24, List.forall_mem_cons.mpr ⟨lw_p25, List.forall_mem_cons.mpr ⟨lw_p26, List.forall_mem_cons.mpr ⟨lw_p27, List.forall_mem_cons.mpr ⟨lw_p28, List.forall_mem_cons.mpr ⟨lw_p29, List.forall_mem_cons.mpr ⟨lw_p30, List.forall_mem_cons.mpr ⟨lw_p31, fun _ h => absurd h List.not_mem_nil⟩⟩⟩⟩⟩⟩⟩⟩⟩⟩⟩⟩⟩⟩⟩⟩
theorem lw_p32 : lw_okq (⟨"TradeLinkModel", "taken", "()I"⟩, 39) := ⟨⟨by decide +kernel, by decide +kernel⟩, List.mem_of_getElem? (i := 690) (by decide +kernel), List.mem_of_getElem? (i := 883) (by decide +kernel), List.mem_of_getElem? (i := 884) (by decide +kernel)⟩
theorem lw_p33 : lw_okq (⟨"TradeLinkModel", "good", "()Z"⟩, 39) := ⟨⟨by decide +kernel, by decide +kernel⟩, List.mem_of_getElem? (i := 690) (by decide +kernel), List.mem_of_getElem? (i := 887) (by decide +kernel), List.mem_of_getElem? (i := 888) (by decide +kernel)⟩
theorem lw_p34 : lw_okq (⟨"TradeLinkModel", "cut", "()Z"⟩, 39) := ⟨⟨by decide +kernel, by decide +kernel⟩, List.mem_of_getElem? (i := 690) (by decide +kernel), List.mem_of_getElem? (i := 891) (by decide +kernel), List.mem_of_getElem? (i := 892) (by decide +kernel)⟩
theorem lw_p35 : lw_okq (⟨"TradeLinkModel", "closed", "()Z"⟩, 39) := ⟨⟨by decide +kernel, by decide +kernel⟩, List.mem_of_getElem? (i := 690) (by decide +kernel), List.mem_of_getElem? (i := 898) (by decide +kernel), List.mem_of_getElem? (i := 899) (by decide +kernel)⟩
theorem lw_p36 : lw_okq (⟨"TradeLinkModel", "numberAt", "(II)I"⟩, 39) := ⟨⟨by decide +kernel, by decide +kernel⟩, List.mem_of_getElem? (i := 690) (by decide +kernel), List.mem_of_getElem? (i := 902) (by decide +kernel), List.mem_of_getElem? (i := 903) (by decide +kernel)⟩
theorem lw_p37 : lw_okq (⟨"TradeLinkModel", "letterAt", "(II)I"⟩, 39) := ⟨⟨by decide +kernel, by decide +kernel⟩, List.mem_of_getElem? (i := 690) (by decide +kernel), List.mem_of_getElem? (i := 906) (by decide +kernel), List.mem_of_getElem? (i := 907) (by decide +kernel)⟩
theorem lw_p38 : lw_okq (⟨"TradeLinkModel", "leave", "()V"⟩, 39) := ⟨⟨by decide +kernel, by decide +kernel⟩, List.mem_of_getElem? (i := 690) (by decide +kernel), List.mem_of_getElem? (i := 910) (by decide +kernel), List.mem_of_getElem? (i := 911) (by decide +kernel)⟩
theorem lw_p39 : lw_okq (⟨"TradeLinkModel", "send", "(IIIII)V"⟩, 39) := ⟨⟨by decide +kernel, by decide +kernel⟩, List.mem_of_getElem? (i := 690) (by decide +kernel), List.mem_of_getElem? (i := 914) (by decide +kernel), List.mem_of_getElem? (i := 915) (by decide +kernel)⟩
theorem lw_p40 : lw_okq (⟨"TradeLinkModel", "goes", "(IIZIIII)V"⟩, 39) := ⟨⟨by decide +kernel, by decide +kernel⟩, List.mem_of_getElem? (i := 690) (by decide +kernel), List.mem_of_getElem? (i := 918) (by decide +kernel), List.mem_of_getElem? (i := 919) (by decide +kernel)⟩
theorem lw_p41 : lw_okq (⟨"TradeLinkModel", "answer", "(II)V"⟩, 39) := ⟨⟨by decide +kernel, by decide +kernel⟩, List.mem_of_getElem? (i := 690) (by decide +kernel), List.mem_of_getElem? (i := 922) (by decide +kernel), List.mem_of_getElem? (i := 923) (by decide +kernel)⟩
theorem lw_p42 : lw_okq (⟨"TradeLinkModel", "ask", "()V"⟩, 39) := ⟨⟨by decide +kernel, by decide +kernel⟩, List.mem_of_getElem? (i := 690) (by decide +kernel), List.mem_of_getElem? (i := 926) (by decide +kernel), List.mem_of_getElem? (i := 927) (by decide +kernel)⟩
theorem lw_p43 : lw_okq (⟨"TradeLinkModel", "orderMessage", "()V"⟩, 39) := ⟨⟨by decide +kernel, by decide +kernel⟩, List.mem_of_getElem? (i := 690) (by decide +kernel), List.mem_of_getElem? (i := 930) (by decide +kernel), List.mem_of_getElem? (i := 931) (by decide +kernel)⟩
theorem lw_p44 : lw_okq (⟨"TradeLinkModel", "ordered", "()I"⟩, 39) := ⟨⟨by decide +kernel, by decide +kernel⟩, List.mem_of_getElem? (i := 690) (by decide +kernel), List.mem_of_getElem? (i := 934) (by decide +kernel), List.mem_of_getElem? (i := 935) (by decide +kernel)⟩
theorem lw_p45 : lw_okq (⟨"TradeLinkModel", "isUsed", "(I)Z"⟩, 39) := ⟨⟨by decide +kernel, by decide +kernel⟩, List.mem_of_getElem? (i := 690) (by decide +kernel), List.mem_of_getElem? (i := 938) (by decide +kernel), List.mem_of_getElem? (i := 939) (by decide +kernel)⟩
theorem lw_p46 : lw_okq (⟨"TradeLinkModel", "openOrder", "(I)I"⟩, 39) := ⟨⟨by decide +kernel, by decide +kernel⟩, List.mem_of_getElem? (i := 690) (by decide +kernel), List.mem_of_getElem? (i := 942) (by decide +kernel), List.mem_of_getElem? (i := 943) (by decide +kernel)⟩
theorem lw_p47 : lw_okq (⟨"TradeLinkModel", "state", "(I)I"⟩, 39) := ⟨⟨by decide +kernel, by decide +kernel⟩, List.mem_of_getElem? (i := 690) (by decide +kernel), List.mem_of_getElem? (i := 946) (by decide +kernel), List.mem_of_getElem? (i := 947) (by decide +kernel)⟩
def lw_privs_3 : List (MethodName × Nat) := [(⟨"TradeLinkModel", "taken", "()I"⟩, 39), (⟨"TradeLinkModel", "good", "()Z"⟩, 39), (⟨"TradeLinkModel", "cut", "()Z"⟩, 39), (⟨"TradeLinkModel", "closed", "()Z"⟩, 39), (⟨"TradeLinkModel", "numberAt", "(II)I"⟩, 39), (⟨"TradeLinkModel", "letterAt", "(II)I"⟩, 39), (⟨"TradeLinkModel", "leave", "()V"⟩, 39), (⟨"TradeLinkModel", "send", "(IIIII)V"⟩, 39), (⟨"TradeLinkModel", "goes", "(IIZIIII)V"⟩, 39), (⟨"TradeLinkModel", "answer", "(II)V"⟩, 39), (⟨"TradeLinkModel", "ask", "()V"⟩, 39), (⟨"TradeLinkModel", "orderMessage", "()V"⟩, 39), (⟨"TradeLinkModel", "ordered", "()I"⟩, 39), (⟨"TradeLinkModel", "isUsed", "(I)Z"⟩, 39), (⟨"TradeLinkModel", "openOrder", "(I)I"⟩, 39), (⟨"TradeLinkModel", "state", "(I)I"⟩, 39)]
theorem lw_r3 : ∀ q ∈ lw_privs_3, lw_okq q := List.forall_mem_cons.mpr ⟨lw_p32, List.forall_mem_cons.mpr ⟨lw_p33, List.forall_mem_cons.mpr ⟨lw_p34, List.forall_mem_cons.mpr ⟨lw_p35, List.forall_mem_cons.mpr ⟨lw_p36, List.forall_mem_cons.mpr ⟨lw_p37, List.forall_mem_cons.mpr ⟨lw_p38, List.forall_mem_cons.mpr ⟨lw_p39, List.forall_mem_cons.mpr ⟨lw_p40, List.forall_mem_cons.mpr ⟨lw_p41, List.forall_mem_cons.mpr ⟨lw_p42, List.forall_mem_cons.mpr ⟨lw_p43, List.forall_mem_cons.mpr ⟨lw_p44, List.forall_mem_cons.mpr ⟨lw_p45, List.forall_mem_cons.mpr ⟨lw_p46, List.forall_mem_cons.mpr ⟨lw_p47, fun _ h => absurd h List.not_mem_nil⟩⟩⟩⟩⟩⟩⟩⟩⟩⟩⟩⟩⟩⟩⟩⟩
theorem lw_p48 : lw_okq (⟨"TradeLinkModel", "tell", "(I)V"⟩, 39) := ⟨⟨by decide +kernel, by decide +kernel⟩, List.mem_of_getElem? (i := 690) (by decide +kernel), List.mem_of_getElem? (i := 950) (by decide +kernel), List.mem_of_getElem? (i := 951) (by decide +kernel)⟩
theorem lw_p49 : lw_okq (⟨"TradeLinkModel", "settle", "()V"⟩, 39) := ⟨⟨by decide +kernel, by decide +kernel⟩, List.mem_of_getElem? (i := 690) (by decide +kernel), List.mem_of_getElem? (i := 954) (by decide +kernel), List.mem_of_getElem? (i := 955) (by decide +kernel)⟩
def lw_privs_4 : List (MethodName × Nat) := [(⟨"TradeLinkModel", "tell", "(I)V"⟩, 39), (⟨"TradeLinkModel", "settle", "()V"⟩, 39)]
theorem lw_r4 : ∀ q ∈ lw_privs_4, lw_okq q := List.forall_mem_cons.mpr ⟨lw_p48, List.forall_mem_cons.mpr ⟨lw_p49, fun _ h => absurd h List.not_mem_nil⟩⟩
def lw_privs : List (MethodName × Nat) := lw_privs_1 ++ (lw_privs_2 ++ (lw_privs_3 ++ (lw_privs_4)))
def lw_tbl : List Cond := k2_sels lw_privs ++ tables_1
theorem lw_privs_ok : ∀ q ∈ lw_privs, lw_okq q := by
  show ∀ q ∈ lw_privs_1 ++ (lw_privs_2 ++ (lw_privs_3 ++ (lw_privs_4))), lw_okq q
  exact List.forall_mem_append.mpr ⟨lw_r1, List.forall_mem_append.mpr ⟨lw_r2, List.forall_mem_append.mpr ⟨lw_r3, lw_r4⟩⟩⟩
end
section
/-! 01.names: methods by number, classes and cells; laid by a program out of the listing and the words of the tables. -/
def mC : Nat → ByteArray := fun k => match k with
  | 0 => prog_17_method_65_code
  | 1 => prog_4_method_2_code
  | 2 => prog_4_method_3_code
  | 3 => prog_4_method_4_code
  | 4 => prog_4_method_5_code
  | 5 => prog_8_method_1_code
  | 6 => prog_8_method_2_code
  | 7 => prog_8_method_3_code
  | 8 => prog_8_method_4_code
  | 9 => prog_8_method_5_code
  | 10 => prog_8_method_6_code
  | 11 => prog_8_method_7_code
  | 12 => prog_8_method_8_code
  | 13 => prog_8_method_9_code
  | 14 => prog_8_method_10_code
  | 15 => prog_8_method_11_code
  | 16 => prog_8_method_12_code
  | 17 => prog_6_method_1_code
  | 18 => prog_6_method_2_code
  | 19 => prog_6_method_3_code
  | 20 => prog_6_method_4_code
  | 21 => prog_5_method_1_code
  | 22 => prog_5_method_2_code
  | 23 => prog_5_method_3_code
  | 24 => prog_5_method_4_code
  | 25 => prog_5_method_5_code
  | 26 => prog_5_method_6_code
  | 27 => prog_3_method_1_code
  | 28 => prog_3_method_2_code
  | 29 => prog_3_method_3_code
  | 30 => prog_3_method_4_code
  | 31 => prog_3_method_5_code
  | 32 => prog_3_method_6_code
  | 33 => prog_3_method_7_code
  | 34 => prog_3_method_8_code
  | 35 => prog_3_method_9_code
  | 36 => prog_3_method_10_code
  | 37 => prog_7_method_1_code
  | 38 => prog_7_method_2_code
  | 39 => prog_7_method_3_code
  | 40 => prog_7_method_4_code
  | 41 => prog_7_method_5_code
  | 42 => prog_10_method_1_code
  | 43 => prog_10_method_2_code
  | 44 => prog_10_method_3_code
  | 45 => prog_10_method_4_code
  | 46 => prog_2_method_1_code
  | 47 => prog_2_method_2_code
  | 48 => prog_2_method_3_code
  | 49 => prog_2_method_4_code
  | 50 => prog_2_method_5_code
  | 51 => prog_2_method_6_code
  | 52 => prog_2_method_7_code
  | 53 => prog_2_method_8_code
  | 54 => prog_9_method_1_code
  | 55 => prog_9_method_2_code
  | 56 => prog_9_method_3_code
  | 57 => prog_9_method_4_code
  | 58 => prog_9_method_5_code
  | 59 => prog_9_method_6_code
  | 60 => prog_9_method_7_code
  | 61 => prog_9_method_8_code
  | 62 => prog_9_method_9_code
  | 63 => prog_9_method_10_code
  | 64 => prog_9_method_11_code
  | 65 => prog_9_method_12_code
  | 66 => prog_9_method_13_code
  | 67 => prog_9_method_14_code
  | 68 => prog_9_method_15_code
  | 69 => prog_1_method_1_code
  | 70 => prog_1_method_2_code
  | 71 => prog_1_method_3_code
  | 72 => prog_1_method_4_code
  | 73 => prog_1_method_5_code
  | 74 => prog_1_method_6_code
  | 75 => prog_1_method_7_code
  | 76 => prog_1_method_8_code
  | 77 => prog_1_method_9_code
  | 78 => prog_1_method_10_code
  | 79 => prog_1_method_11_code
  | 80 => prog_1_method_12_code
  | 81 => prog_1_method_13_code
  | 82 => prog_1_method_14_code
  | 83 => prog_12_method_1_code
  | 84 => prog_12_method_2_code
  | 85 => prog_12_method_3_code
  | 86 => prog_12_method_4_code
  | 87 => prog_12_method_5_code
  | 88 => prog_12_method_6_code
  | 89 => prog_12_method_7_code
  | 90 => prog_12_method_8_code
  | 91 => prog_12_method_9_code
  | 92 => prog_12_method_10_code
  | 93 => prog_12_method_11_code
  | 94 => prog_12_method_12_code
  | 95 => prog_12_method_13_code
  | 96 => prog_12_method_14_code
  | 97 => prog_12_method_15_code
  | 98 => prog_12_method_16_code
  | 99 => prog_12_method_17_code
  | 100 => prog_12_method_18_code
  | 101 => prog_12_method_19_code
  | 102 => prog_12_method_20_code
  | 103 => prog_12_method_21_code
  | 104 => prog_12_method_22_code
  | 105 => prog_12_method_23_code
  | 106 => prog_12_method_24_code
  | 107 => prog_12_method_25_code
  | 108 => prog_12_method_26_code
  | 109 => prog_12_method_27_code
  | 110 => prog_12_method_28_code
  | 111 => prog_12_method_29_code
  | 112 => prog_12_method_30_code
  | 113 => prog_12_method_31_code
  | 114 => prog_12_method_32_code
  | 115 => prog_12_method_33_code
  | 116 => prog_12_method_34_code
  | 117 => prog_12_method_35_code
  | 118 => prog_12_method_36_code
  | 119 => prog_12_method_37_code
  | 120 => prog_12_method_38_code
  | 121 => prog_12_method_39_code
  | 122 => prog_12_method_40_code
  | 123 => prog_12_method_41_code
  | 124 => prog_12_method_42_code
  | 125 => prog_12_method_43_code
  | 126 => prog_12_method_44_code
  | 127 => prog_12_method_45_code
  | 128 => prog_12_method_46_code
  | 129 => method_3_code
  | 130 => method_4_code
  | 131 => method_5_code
  | 132 => method_6_code
  | 133 => method_7_code
  | 134 => method_8_code
  | 135 => method_9_code
  | 136 => method_10_code
  | 137 => method_11_code
  | 138 => code
  | _ => code
def mL : Nat → Nat := fun k => match k with
  | 0 => 2
  | 1 => 1
  | 2 => 2
  | 3 => 3
  | 4 => 2
  | 5 => 1
  | 6 => 1
  | 7 => 1
  | 8 => 2
  | 9 => 2
  | 10 => 3
  | 11 => 2
  | 12 => 5
  | 13 => 3
  | 14 => 3
  | 15 => 2
  | 16 => 4
  | 17 => 1
  | 18 => 1
  | 19 => 1
  | 20 => 1
  | 21 => 1
  | 22 => 4
  | 23 => 5
  | 24 => 1
  | 25 => 4
  | 26 => 5
  | 27 => 1
  | 28 => 4
  | 29 => 5
  | 30 => 5
  | 31 => 3
  | 32 => 4
  | 33 => 3
  | 34 => 2
  | 35 => 2
  | 36 => 2
  | 37 => 2
  | 38 => 1
  | 39 => 2
  | 40 => 2
  | 41 => 2
  | 42 => 1
  | 43 => 7
  | 44 => 2
  | 45 => 4
  | 46 => 2
  | 47 => 3
  | 48 => 3
  | 49 => 4
  | 50 => 4
  | 51 => 5
  | 52 => 3
  | 53 => 2
  | 54 => 1
  | 55 => 2
  | 56 => 1
  | 57 => 1
  | 58 => 6
  | 59 => 2
  | 60 => 2
  | 61 => 2
  | 62 => 2
  | 63 => 1
  | 64 => 1
  | 65 => 4
  | 66 => 7
  | 67 => 3
  | 68 => 5
  | 69 => 1
  | 70 => 7
  | 71 => 3
  | 72 => 2
  | 73 => 2
  | 74 => 1
  | 75 => 2
  | 76 => 4
  | 77 => 1
  | 78 => 2
  | 79 => 4
  | 80 => 2
  | 81 => 4
  | 82 => 1
  | 83 => 1
  | 84 => 1
  | 85 => 2
  | 86 => 3
  | 87 => 2
  | 88 => 4
  | 89 => 3
  | 90 => 3
  | 91 => 3
  | 92 => 2
  | 93 => 2
  | 94 => 12
  | 95 => 2
  | 96 => 11
  | 97 => 8
  | 98 => 6
  | 99 => 1
  | 100 => 1
  | 101 => 6
  | 102 => 1
  | 103 => 7
  | 104 => 3
  | 105 => 3
  | 106 => 1
  | 107 => 5
  | 108 => 5
  | 109 => 3
  | 110 => 5
  | 111 => 6
  | 112 => 4
  | 113 => 2
  | 114 => 4
  | 115 => 2
  | 116 => 2
  | 117 => 2
  | 118 => 1
  | 119 => 1
  | 120 => 2
  | 121 => 1
  | 122 => 2
  | 123 => 4
  | 124 => 1
  | 125 => 2
  | 126 => 3
  | 127 => 2
  | 128 => 5
  | 129 => 9
  | 130 => 5
  | 131 => 4
  | 132 => 3
  | 133 => 5
  | 134 => 4
  | 135 => 5
  | 136 => 4
  | 137 => 5
  | 138 => 7
  | _ => 0
def mR : Nat → Option FieldType := fun k => match k with
  | 0 => (some Jvm.ClassFile.FieldType.int)
  | 1 => (some Jvm.ClassFile.FieldType.boolean)
  | 2 => (some Jvm.ClassFile.FieldType.int)
  | 3 => (some Jvm.ClassFile.FieldType.int)
  | 4 => (some Jvm.ClassFile.FieldType.int)
  | 5 => none
  | 6 => none
  | 7 => (some Jvm.ClassFile.FieldType.boolean)
  | 8 => (some Jvm.ClassFile.FieldType.boolean)
  | 9 => (some Jvm.ClassFile.FieldType.int)
  | 10 => none
  | 11 => none
  | 12 => none
  | 13 => none
  | 14 => none
  | 15 => none
  | 16 => (some Jvm.ClassFile.FieldType.int)
  | 17 => none
  | 18 => (some Jvm.ClassFile.FieldType.boolean)
  | 19 => (some Jvm.ClassFile.FieldType.int)
  | 20 => (some Jvm.ClassFile.FieldType.int)
  | 21 => none
  | 22 => none
  | 23 => none
  | 24 => (some Jvm.ClassFile.FieldType.boolean)
  | 25 => none
  | 26 => none
  | 27 => none
  | 28 => (some Jvm.ClassFile.FieldType.boolean)
  | 29 => (some Jvm.ClassFile.FieldType.boolean)
  | 30 => (some Jvm.ClassFile.FieldType.boolean)
  | 31 => (some Jvm.ClassFile.FieldType.boolean)
  | 32 => (some Jvm.ClassFile.FieldType.boolean)
  | 33 => (some Jvm.ClassFile.FieldType.int)
  | 34 => (some Jvm.ClassFile.FieldType.int)
  | 35 => (some Jvm.ClassFile.FieldType.int)
  | 36 => (some Jvm.ClassFile.FieldType.boolean)
  | 37 => none
  | 38 => none
  | 39 => (some (Jvm.ClassFile.FieldType.object "TradeLink$Message"))
  | 40 => (some Jvm.ClassFile.FieldType.boolean)
  | 41 => (some (Jvm.ClassFile.FieldType.object "TradeLink$Row"))
  | 42 => none
  | 43 => none
  | 44 => (some Jvm.ClassFile.FieldType.int)
  | 45 => none
  | 46 => none
  | 47 => (some (Jvm.ClassFile.FieldType.object "TradeLink$Order"))
  | 48 => (some (Jvm.ClassFile.FieldType.object "TradeLink$Order"))
  | 49 => (some (Jvm.ClassFile.FieldType.object "TradeLink$Order"))
  | 50 => (some (Jvm.ClassFile.FieldType.object "TradeLink$Order"))
  | 51 => (some (Jvm.ClassFile.FieldType.object "TradeLink$Order"))
  | 52 => (some Jvm.ClassFile.FieldType.boolean)
  | 53 => none
  | 54 => none
  | 55 => (some Jvm.ClassFile.FieldType.int)
  | 56 => none
  | 57 => none
  | 58 => none
  | 59 => (some Jvm.ClassFile.FieldType.int)
  | 60 => (some Jvm.ClassFile.FieldType.int)
  | 61 => none
  | 62 => (some Jvm.ClassFile.FieldType.boolean)
  | 63 => none
  | 64 => none
  | 65 => none
  | 66 => none
  | 67 => none
  | 68 => (some (Jvm.ClassFile.FieldType.object "TradeLink$Message"))
  | 69 => none
  | 70 => (some Jvm.ClassFile.FieldType.int)
  | 71 => (some Jvm.ClassFile.FieldType.int)
  | 72 => (some Jvm.ClassFile.FieldType.int)
  | 73 => (some Jvm.ClassFile.FieldType.int)
  | 74 => (some Jvm.ClassFile.FieldType.int)
  | 75 => (some Jvm.ClassFile.FieldType.boolean)
  | 76 => (some Jvm.ClassFile.FieldType.int)
  | 77 => (some Jvm.ClassFile.FieldType.int)
  | 78 => (some Jvm.ClassFile.FieldType.int)
  | 79 => (some Jvm.ClassFile.FieldType.int)
  | 80 => (some Jvm.ClassFile.FieldType.int)
  | 81 => (some Jvm.ClassFile.FieldType.int)
  | 82 => (some Jvm.ClassFile.FieldType.boolean)
  | 83 => none
  | 84 => (some Jvm.ClassFile.FieldType.int)
  | 85 => (some Jvm.ClassFile.FieldType.int)
  | 86 => (some Jvm.ClassFile.FieldType.boolean)
  | 87 => none
  | 88 => none
  | 89 => none
  | 90 => none
  | 91 => (some Jvm.ClassFile.FieldType.int)
  | 92 => (some Jvm.ClassFile.FieldType.int)
  | 93 => (some Jvm.ClassFile.FieldType.int)
  | 94 => (some Jvm.ClassFile.FieldType.int)
  | 95 => (some Jvm.ClassFile.FieldType.int)
  | 96 => none
  | 97 => none
  | 98 => none
  | 99 => none
  | 100 => none
  | 101 => none
  | 102 => (some Jvm.ClassFile.FieldType.boolean)
  | 103 => (some Jvm.ClassFile.FieldType.int)
  | 104 => (some Jvm.ClassFile.FieldType.int)
  | 105 => (some Jvm.ClassFile.FieldType.int)
  | 106 => (some Jvm.ClassFile.FieldType.boolean)
  | 107 => (some Jvm.ClassFile.FieldType.boolean)
  | 108 => (some Jvm.ClassFile.FieldType.int)
  | 109 => (some Jvm.ClassFile.FieldType.int)
  | 110 => (some Jvm.ClassFile.FieldType.boolean)
  | 111 => (some Jvm.ClassFile.FieldType.boolean)
  | 112 => (some Jvm.ClassFile.FieldType.boolean)
  | 113 => (some Jvm.ClassFile.FieldType.int)
  | 114 => (some Jvm.ClassFile.FieldType.int)
  | 115 => none
  | 116 => (some Jvm.ClassFile.FieldType.int)
  | 117 => none
  | 118 => none
  | 119 => (some Jvm.ClassFile.FieldType.int)
  | 120 => (some Jvm.ClassFile.FieldType.int)
  | 121 => (some Jvm.ClassFile.FieldType.int)
  | 122 => (some Jvm.ClassFile.FieldType.boolean)
  | 123 => (some Jvm.ClassFile.FieldType.int)
  | 124 => (some Jvm.ClassFile.FieldType.int)
  | 125 => (some Jvm.ClassFile.FieldType.int)
  | 126 => (some Jvm.ClassFile.FieldType.int)
  | 127 => (some Jvm.ClassFile.FieldType.int)
  | 128 => (some Jvm.ClassFile.FieldType.int)
  | 129 => (some Jvm.ClassFile.FieldType.int)
  | 130 => (some Jvm.ClassFile.FieldType.int)
  | 131 => (some Jvm.ClassFile.FieldType.int)
  | 132 => (some Jvm.ClassFile.FieldType.int)
  | 133 => (some Jvm.ClassFile.FieldType.int)
  | 134 => (some Jvm.ClassFile.FieldType.int)
  | 135 => (some Jvm.ClassFile.FieldType.int)
  | 136 => (some Jvm.ClassFile.FieldType.int)
  | 137 => (some Jvm.ClassFile.FieldType.int)
  | 138 => ret
  | _ => none
def mY : Nat → MethodName := fun k => match k with
  | 0 => ⟨"java/lang/Math", "max", "(II)I"⟩
  | 1 => ⟨"TradeLink$Layout", "isPeerType", "(I)Z"⟩
  | 2 => ⟨"TradeLink$Layout", "fieldCount", "(I)I"⟩
  | 3 => ⟨"TradeLink$Layout", "tag", "(II)I"⟩
  | 4 => ⟨"TradeLink$Layout", "rowOf", "(I)I"⟩
  | 5 => ⟨"TradeLink$Row", "<init>", "()V"⟩
  | 6 => ⟨"TradeLink$Row", "clear", "()V"⟩
  | 7 => ⟨"TradeLink$Row", "isFull", "()Z"⟩
  | 8 => ⟨"TradeLink$Row", "has", "(I)Z"⟩
  | 9 => ⟨"TradeLink$Row", "at", "(I)I"⟩
  | 10 => ⟨"TradeLink$Row", "set", "(II)V"⟩
  | 11 => ⟨"TradeLink$Row", "append", "(I)V"⟩
  | 12 => ⟨"TradeLink$Row", "appendNumber", "(I)V"⟩
  | 13 => ⟨"TradeLink$Row", "appendNumberField", "(II)V"⟩
  | 14 => ⟨"TradeLink$Row", "appendCharacterField", "(II)V"⟩
  | 15 => ⟨"TradeLink$Row", "appendSumField", "()V"⟩
  | 16 => ⟨"TradeLink$Row", "sumBefore", "(I)I"⟩
  | 17 => ⟨"TradeLink$Order", "<init>", "()V"⟩
  | 18 => ⟨"TradeLink$Order", "isOpen", "()Z"⟩
  | 19 => ⟨"TradeLink$Order", "left", "()I"⟩
  | 20 => ⟨"TradeLink$Order", "state", "()I"⟩
  | 21 => ⟨"TradeLink$Message", "<init>", "()V"⟩
  | 22 => ⟨"TradeLink$Message", "begin", "(IIZ)V"⟩
  | 23 => ⟨"TradeLink$Message", "say", "(IIII)V"⟩
  | 24 => ⟨"TradeLink$Message", "isFill", "()Z"⟩
  | 25 => ⟨"TradeLink$Message", "writeTo", "(LTradeLink$Row;)V"⟩
  | 26 => ⟨"TradeLink$Message", "writeOwnFields", "(LTradeLink$Row;)V"⟩
  | 27 => ⟨"TradeLink$Inbox", "<init>", "()V"⟩
  | 28 => ⟨"TradeLink$Inbox", "scan", "(LTradeLink$Message;)Z"⟩
  | 29 => ⟨"TradeLink$Inbox", "scanHead", "(LTradeLink$Message;)Z"⟩
  | 30 => ⟨"TradeLink$Inbox", "scanOwnFields", "(LTradeLink$Message;)Z"⟩
  | 31 => ⟨"TradeLink$Inbox", "scanSum", "()Z"⟩
  | 32 => ⟨"TradeLink$Inbox", "opens", "(I)Z"⟩
  | 33 => ⟨"TradeLink$Inbox", "number", "()I"⟩
  | 34 => ⟨"TradeLink$Inbox", "character", "()I"⟩
  | 35 => ⟨"TradeLink$Inbox", "yesOrNo", "()I"⟩
  | 36 => ⟨"TradeLink$Inbox", "closes", "()Z"⟩
  | 37 => ⟨"TradeLink$Outbox", "<init>", "()V"⟩
  | 38 => ⟨"TradeLink$Outbox", "clear", "()V"⟩
  | 39 => ⟨"TradeLink$Outbox", "open", "()LTradeLink$Message;"⟩
  | 40 => ⟨"TradeLink$Outbox", "keeps", "(I)Z"⟩
  | 41 => ⟨"TradeLink$Outbox", "frame", "(I)LTradeLink$Row;"⟩
  | 42 => ⟨"TradeLink$Store", "<init>", "()V"⟩
  | 43 => ⟨"TradeLink$Store", "keep", "(IIIII)V"⟩
  | 44 => ⟨"TradeLink$Store", "numberOf", "(I)I"⟩
  | 45 => ⟨"TradeLink$Store", "recall", "(ILTradeLink$Message;)V"⟩
  | 46 => ⟨"TradeLink$Book", "<init>", "()V"⟩
  | 47 => ⟨"TradeLink$Book", "find", "(I)LTradeLink$Order;"⟩
  | 48 => ⟨"TradeLink$Book", "findOpen", "(I)LTradeLink$Order;"⟩
  | 49 => ⟨"TradeLink$Book", "carryOut", "(LTradeLink$Message;)LTradeLink$Order;"⟩
  | 50 => ⟨"TradeLink$Book", "enter", "(II)LTradeLink$Order;"⟩
  | 51 => ⟨"TradeLink$Book", "amend", "(IZI)LTradeLink$Order;"⟩
  | 52 => ⟨"TradeLink$Book", "isUsed", "(I)Z"⟩
  | 53 => ⟨"TradeLink$Book", "use", "(I)V"⟩
  | 54 => ⟨"TradeLink$Session", "<init>", "()V"⟩
  | 55 => ⟨"TradeLink$Session", "receive", "(LTradeLink$Message;)I"⟩
  | 56 => ⟨"TradeLink$Session", "advance", "()V"⟩
  | 57 => ⟨"TradeLink$Session", "leave", "()V"⟩
  | 58 => ⟨"TradeLink$Session", "report", "(ILTradeLink$Order;)V"⟩
  | 59 => ⟨"TradeLink$Session", "receiveLow", "(Z)I"⟩
  | 60 => ⟨"TradeLink$Session", "receiveEarly", "(LTradeLink$Message;)I"⟩
  | 61 => ⟨"TradeLink$Session", "receiveInTurn", "(LTradeLink$Message;)V"⟩
  | 62 => ⟨"TradeLink$Session", "raiseAwaited", "(I)Z"⟩
  | 63 => ⟨"TradeLink$Session", "ask", "()V"⟩
  | 64 => ⟨"TradeLink$Session", "logOut", "()V"⟩
  | 65 => ⟨"TradeLink$Session", "send", "(III)V"⟩
  | 66 => ⟨"TradeLink$Session", "answerResend", "(II)V"⟩
  | 67 => ⟨"TradeLink$Session", "postGap", "(II)V"⟩
  | 68 => ⟨"TradeLink$Session", "post", "(IIZ)LTradeLink$Message;"⟩
  | 69 => ⟨"TradeLink", "<init>", "()V"⟩
  | 70 => ⟨"TradeLink", "give", "(IIZIII)I"⟩
  | 71 => ⟨"TradeLink", "spoil", "(II)I"⟩
  | 72 => ⟨"TradeLink", "add", "(I)I"⟩
  | 73 => ⟨"TradeLink", "take", "()I"⟩
  | 74 => ⟨"TradeLink", "tick", "()I"⟩
  | 75 => ⟨"TradeLink", "restart", "()Z"⟩
  | 76 => ⟨"TradeLink", "fill", "(II)I"⟩
  | 77 => ⟨"TradeLink", "frames", "()I"⟩
  | 78 => ⟨"TradeLink", "length", "(I)I"⟩
  | 79 => ⟨"TradeLink", "octet", "(II)I"⟩
  | 80 => ⟨"TradeLink", "session", "(I)I"⟩
  | 81 => ⟨"TradeLink", "order", "(II)I"⟩
  | 82 => ⟨"TradeLink", "isNumber", "(I)Z"⟩
  | 83 => ⟨"TradeLinkModel", "<init>", "()V"⟩
  | 84 => ⟨"TradeLinkModel", "thrown", "()I"⟩
  | 85 => ⟨"TradeLinkModel", "fail", "(I)I"⟩
  | 86 => ⟨"TradeLinkModel", "within", "(III)Z"⟩
  | 87 => ⟨"TradeLinkModel", "put", "(I)V"⟩
  | 88 => ⟨"TradeLinkModel", "digits", "(I)V"⟩
  | 89 => ⟨"TradeLinkModel", "field", "(II)V"⟩
  | 90 => ⟨"TradeLinkModel", "letter", "(II)V"⟩
  | 91 => ⟨"TradeLinkModel", "places", "(I)I"⟩
  | 92 => ⟨"TradeLinkModel", "byteAt", "(I)I"⟩
  | 93 => ⟨"TradeLinkModel", "room", "(II)I"⟩
  | 94 => ⟨"TradeLinkModel", "body", "(IIIIIZ)I"⟩
  | 95 => ⟨"TradeLinkModel", "name", "(II)I"⟩
  | 96 => ⟨"TradeLinkModel", "make", "(IIZIIII)V"⟩
  | 97 => ⟨"TradeLinkModel", "goes", "(IIZIIII)V"⟩
  | 98 => ⟨"TradeLinkModel", "send", "(IIIII)V"⟩
  | 99 => ⟨"TradeLinkModel", "leave", "()V"⟩
  | 100 => ⟨"TradeLinkModel", "ask", "()V"⟩
  | 101 => ⟨"TradeLinkModel", "answer", "(II)V"⟩
  | 102 => ⟨"TradeLinkModel", "isType", "(I)Z"⟩
  | 103 => ⟨"TradeLinkModel", "give", "(IIZIII)I"⟩
  | 104 => ⟨"TradeLinkModel", "spoil", "(II)I"⟩
  | 105 => ⟨"TradeLinkModel", "add", "(I)I"⟩
  | 106 => ⟨"TradeLinkModel", "digit", "(I)Z"⟩
  | 107 => ⟨"TradeLinkModel", "cut", "()Z"⟩
  | 108 => ⟨"TradeLinkModel", "numberAt", "(II)I"⟩
  | 109 => ⟨"TradeLinkModel", "letterAt", "(II)I"⟩
  | 110 => ⟨"TradeLinkModel", "closed", "()Z"⟩
  | 111 => ⟨"TradeLinkModel", "good", "()Z"⟩
  | 112 => ⟨"TradeLinkModel", "isUsed", "(I)Z"⟩
  | 113 => ⟨"TradeLinkModel", "state", "(I)I"⟩
  | 114 => ⟨"TradeLinkModel", "openOrder", "(I)I"⟩
  | 115 => ⟨"TradeLinkModel", "tell", "(I)V"⟩
  | 116 => ⟨"TradeLinkModel", "ordered", "()I"⟩
  | 117 => ⟨"TradeLinkModel", "orderMessage", "()V"⟩
  | 118 => ⟨"TradeLinkModel", "settle", "()V"⟩
  | 119 => ⟨"TradeLinkModel", "taken", "()I"⟩
  | 120 => ⟨"TradeLinkModel", "take", "()I"⟩
  | 121 => ⟨"TradeLinkModel", "tick", "()I"⟩
  | 122 => ⟨"TradeLinkModel", "restart", "()Z"⟩
  | 123 => ⟨"TradeLinkModel", "fill", "(II)I"⟩
  | 124 => ⟨"TradeLinkModel", "frames", "()I"⟩
  | 125 => ⟨"TradeLinkModel", "length", "(I)I"⟩
  | 126 => ⟨"TradeLinkModel", "octet", "(II)I"⟩
  | 127 => ⟨"TradeLinkModel", "session", "(I)I"⟩
  | 128 => ⟨"TradeLinkModel", "order", "(II)I"⟩
  | 129 => ⟨"TradeLinkLaw", "give", "(LTradeLink;IIZIII[J)I"⟩
  | 130 => ⟨"TradeLinkLaw", "spoil", "(LTradeLink;II[J)I"⟩
  | 131 => ⟨"TradeLinkLaw", "add", "(LTradeLink;I[J)I"⟩
  | 132 => ⟨"TradeLinkLaw", "take", "(LTradeLink;[J)I"⟩
  | 133 => ⟨"TradeLinkLaw", "fill", "(LTradeLink;II[J)I"⟩
  | 134 => ⟨"TradeLinkLaw", "length", "(LTradeLink;I[J)I"⟩
  | 135 => ⟨"TradeLinkLaw", "octet", "(LTradeLink;II[J)I"⟩
  | 136 => ⟨"TradeLinkLaw", "session", "(LTradeLink;I[J)I"⟩
  | 137 => ⟨"TradeLinkLaw", "order", "(LTradeLink;II[J)I"⟩
  | 138 => ⟨"TradeLinkLaw", "law", "([I)Z"⟩
  | _ => ⟨"", "", ""⟩
def mT : Nat → List (Nat × Nat × Nat × Nat) := fun k => match k with
  | 0 => []
  | 1 => []
  | 2 => []
  | 3 => []
  | 4 => []
  | 5 => []
  | 6 => []
  | 7 => []
  | 8 => []
  | 9 => []
  | 10 => []
  | 11 => []
  | 12 => []
  | 13 => []
  | 14 => []
  | 15 => []
  | 16 => []
  | 17 => []
  | 18 => []
  | 19 => []
  | 20 => []
  | 21 => []
  | 22 => []
  | 23 => []
  | 24 => []
  | 25 => []
  | 26 => []
  | 27 => []
  | 28 => []
  | 29 => []
  | 30 => []
  | 31 => []
  | 32 => []
  | 33 => []
  | 34 => []
  | 35 => []
  | 36 => []
  | 37 => []
  | 38 => []
  | 39 => []
  | 40 => []
  | 41 => []
  | 42 => []
  | 43 => []
  | 44 => []
  | 45 => []
  | 46 => []
  | 47 => []
  | 48 => []
  | 49 => []
  | 50 => []
  | 51 => []
  | 52 => []
  | 53 => []
  | 54 => []
  | 55 => []
  | 56 => []
  | 57 => []
  | 58 => []
  | 59 => []
  | 60 => []
  | 61 => []
  | 62 => []
  | 63 => []
  | 64 => []
  | 65 => []
  | 66 => []
  | 67 => []
  | 68 => []
  | 69 => []
  | 70 => []
  | 71 => []
  | 72 => []
  | 73 => []
  | 74 => []
  | 75 => []
  | 76 => []
  | 77 => []
  | 78 => []
  | 79 => []
  | 80 => []
  | 81 => []
  | 82 => []
  | 83 => []
  | 84 => []
  | 85 => []
  | 86 => []
  | 87 => []
  | 88 => []
  | 89 => []
  | 90 => []
  | 91 => []
  | 92 => []
  | 93 => []
  | 94 => []
  | 95 => []
  | 96 => []
  | 97 => []
  | 98 => []
  | 99 => []
  | 100 => []
  | 101 => []
  | 102 => []
  | 103 => []
  | 104 => []
  | 105 => []
  | 106 => []
  | 107 => []
  | 108 => []
  | 109 => []
  | 110 => []
  | 111 => []
  | 112 => []
  | 113 => []
  | 114 => []
  | 115 => []
  | 116 => []
  | 117 => []
  | 118 => []
  | 119 => []
  | 120 => []
  | 121 => []
  | 122 => []
  | 123 => []
  | 124 => []
  | 125 => []
  | 126 => []
  | 127 => []
  | 128 => []
  | 129 => [(0, 18, 21, 13)]
  | 130 => [(0, 10, 13, 19), (0, 10, 17, 13)]
  | 131 => [(0, 9, 12, 13), (0, 9, 15, 25)]
  | 132 => [(0, 8, 11, 25)]
  | 133 => [(0, 10, 13, 34), (0, 10, 17, 13)]
  | 134 => [(0, 9, 12, 19)]
  | 135 => [(0, 10, 13, 19)]
  | 136 => [(0, 9, 12, 19)]
  | 137 => [(0, 10, 13, 34), (0, 10, 17, 19)]
  | 138 => []
  | _ => []
def mK : Nat → Nat := fun k => match k with
  | 0 => 1
  | 1 => 2
  | 2 => 2
  | 3 => 2
  | 4 => 1
  | 5 => 1
  | 6 => 1
  | 7 => 1
  | 8 => 1
  | 9 => 1
  | 10 => 2
  | 11 => 1
  | 12 => 2
  | 13 => 3
  | 14 => 3
  | 15 => 3
  | 16 => 1
  | 17 => 1
  | 18 => 1
  | 19 => 1
  | 20 => 1
  | 21 => 1
  | 22 => 1
  | 23 => 1
  | 24 => 1
  | 25 => 5
  | 26 => 4
  | 27 => 2
  | 28 => 6
  | 29 => 4
  | 30 => 5
  | 31 => 4
  | 32 => 2
  | 33 => 3
  | 34 => 3
  | 35 => 4
  | 36 => 2
  | 37 => 2
  | 38 => 1
  | 39 => 1
  | 40 => 1
  | 41 => 6
  | 42 => 1
  | 43 => 1
  | 44 => 1
  | 45 => 2
  | 46 => 2
  | 47 => 1
  | 48 => 2
  | 49 => 4
  | 50 => 1
  | 51 => 3
  | 52 => 1
  | 53 => 1
  | 54 => 3
  | 55 => 6
  | 56 => 5
  | 57 => 1
  | 58 => 3
  | 59 => 5
  | 60 => 5
  | 61 => 5
  | 62 => 1
  | 63 => 4
  | 64 => 4
  | 65 => 3
  | 66 => 4
  | 67 => 3
  | 68 => 2
  | 69 => 4
  | 70 => 6
  | 71 => 6
  | 72 => 6
  | 73 => 7
  | 74 => 6
  | 75 => 2
  | 76 => 6
  | 77 => 1
  | 78 => 7
  | 79 => 7
  | 80 => 6
  | 81 => 6
  | 82 => 1
  | 83 => 1
  | 84 => 1
  | 85 => 1
  | 86 => 1
  | 87 => 1
  | 88 => 2
  | 89 => 3
  | 90 => 3
  | 91 => 1
  | 92 => 1
  | 93 => 2
  | 94 => 4
  | 95 => 1
  | 96 => 5
  | 97 => 6
  | 98 => 7
  | 99 => 8
  | 100 => 8
  | 101 => 7
  | 102 => 1
  | 103 => 6
  | 104 => 2
  | 105 => 2
  | 106 => 1
  | 107 => 2
  | 108 => 2
  | 109 => 1
  | 110 => 3
  | 111 => 4
  | 112 => 1
  | 113 => 1
  | 114 => 2
  | 115 => 8
  | 116 => 3
  | 117 => 9
  | 118 => 1
  | 119 => 10
  | 120 => 11
  | 121 => 9
  | 122 => 1
  | 123 => 9
  | 124 => 1
  | 125 => 2
  | 126 => 2
  | 127 => 2
  | 128 => 2
  | 129 => 7
  | 130 => 7
  | 131 => 7
  | 132 => 8
  | 133 => 7
  | 134 => 8
  | 135 => 8
  | 136 => 7
  | 137 => 7
  | 138 => 12
  | _ => 0
def mW : Nat → Nat := fun k => match k with
  | 0 => 24
  | 1 => 45
  | 2 => 45
  | 3 => 45
  | 4 => 24
  | 5 => 24
  | 6 => 24
  | 7 => 24
  | 8 => 24
  | 9 => 24
  | 10 => 45
  | 11 => 24
  | 12 => 45
  | 13 => 69
  | 14 => 69
  | 15 => 69
  | 16 => 24
  | 17 => 24
  | 18 => 24
  | 19 => 24
  | 20 => 24
  | 21 => 24
  | 22 => 24
  | 23 => 24
  | 24 => 24
  | 25 => 115
  | 26 => 91
  | 27 => 44
  | 28 => 132
  | 29 => 88
  | 30 => 108
  | 31 => 88
  | 32 => 45
  | 33 => 66
  | 34 => 66
  | 35 => 87
  | 36 => 45
  | 37 => 44
  | 38 => 24
  | 39 => 24
  | 40 => 24
  | 41 => 138
  | 42 => 24
  | 43 => 24
  | 44 => 24
  | 45 => 48
  | 46 => 44
  | 47 => 24
  | 48 => 46
  | 49 => 92
  | 50 => 24
  | 51 => 68
  | 52 => 24
  | 53 => 24
  | 54 => 65
  | 55 => 140
  | 56 => 114
  | 57 => 24
  | 58 => 71
  | 59 => 114
  | 60 => 119
  | 61 => 119
  | 62 => 24
  | 63 => 94
  | 64 => 94
  | 65 => 71
  | 66 => 93
  | 67 => 71
  | 68 => 47
  | 69 => 85
  | 70 => 138
  | 71 => 100
  | 72 => 100
  | 73 => 161
  | 74 => 134
  | 75 => 44
  | 76 => 100
  | 77 => 24
  | 78 => 159
  | 79 => 159
  | 80 => 100
  | 81 => 100
  | 82 => 24
  | 83 => 24
  | 84 => 24
  | 85 => 24
  | 86 => 24
  | 87 => 24
  | 88 => 45
  | 89 => 68
  | 90 => 68
  | 91 => 24
  | 92 => 24
  | 93 => 46
  | 94 => 90
  | 95 => 24
  | 96 => 121
  | 97 => 151
  | 98 => 178
  | 99 => 203
  | 100 => 203
  | 101 => 178
  | 102 => 24
  | 103 => 151
  | 104 => 46
  | 105 => 46
  | 106 => 24
  | 107 => 44
  | 108 => 44
  | 109 => 24
  | 110 => 68
  | 111 => 92
  | 112 => 24
  | 113 => 24
  | 114 => 45
  | 115 => 203
  | 116 => 68
  | 117 => 224
  | 118 => 24
  | 119 => 245
  | 120 => 265
  | 121 => 223
  | 122 => 24
  | 123 => 224
  | 124 => 24
  | 125 => 46
  | 126 => 46
  | 127 => 46
  | 128 => 46
  | 129 => 164
  | 130 => 122
  | 131 => 121
  | 132 => 182
  | 133 => 123
  | 134 => 180
  | 135 => 182
  | 136 => 121
  | 137 => 123
  | 138 => 286
  | _ => 0
def xT0 : u_T := fun k => match k with
  | 0 => ("TradeLink", "inbox", "LTradeLink$Inbox;", true)
  | 1 => ("TradeLink", "message", "LTradeLink$Message;", true)
  | _ => ("TradeLink", "link", "LTradeLink$Session;", true)
def xt0 : Nat → FieldType := fun k => match k with
  | 0 => (.object "TradeLink$Inbox")
  | 1 => (.object "TradeLink$Message")
  | _ => (.object "TradeLink$Session")
def xT1 : u_T := fun k => match k with
  | 0 => ("TradeLink$Inbox", "row", "LTradeLink$Row;", true)
  | _ => ("TradeLink$Inbox", "at", "I", false)
def xt1 : Nat → FieldType := fun k => match k with
  | 0 => (.object "TradeLink$Row")
  | _ => .int
def xT2 : u_T := fun k => match k with
  | 0 => ("TradeLink$Row", "octets", "[I", true)
  | _ => ("TradeLink$Row", "size", "I", false)
def xt2 : Nat → FieldType := fun k => match k with
  | 0 => (.array .int)
  | _ => .int
def xT3 : u_T := fun k => match k with
  | 0 => ("TradeLink$Message", "type", "I", false)
  | 1 => ("TradeLink$Message", "number", "I", false)
  | 2 => ("TradeLink$Message", "duplicate", "Z", false)
  | _ => ("TradeLink$Message", "values", "[I", true)
def xt3 : Nat → FieldType := fun k => match k with
  | 0 => .int
  | 1 => .int
  | 2 => .boolean
  | _ => (.array .int)
def xT4 : u_T := fun k => match k with
  | 0 => ("TradeLink$Session", "outbox", "LTradeLink$Outbox;", true)
  | 1 => ("TradeLink$Session", "book", "LTradeLink$Book;", true)
  | 2 => ("TradeLink$Session", "store", "LTradeLink$Store;", true)
  | 3 => ("TradeLink$Session", "awaited", "I", false)
  | 4 => ("TradeLink$Session", "next", "I", false)
  | 5 => ("TradeLink$Session", "missing", "I", false)
  | 6 => ("TradeLink$Session", "in", "Z", false)
  | 7 => ("TradeLink$Session", "time", "I", false)
  | 8 => ("TradeLink$Session", "orderMessages", "I", false)
  | 9 => ("TradeLink$Session", "heard", "I", false)
  | 10 => ("TradeLink$Session", "said", "I", false)
  | _ => ("TradeLink$Session", "asked", "I", false)
def xt4 : Nat → FieldType := fun k => match k with
  | 0 => (.object "TradeLink$Outbox")
  | 1 => (.object "TradeLink$Book")
  | 2 => (.object "TradeLink$Store")
  | 3 => .int
  | 4 => .int
  | 5 => .int
  | 6 => .boolean
  | 7 => .int
  | 8 => .int
  | 9 => .int
  | 10 => .int
  | _ => .int
def xT5 : u_T := fun k => match k with
  | 0 => ("TradeLink$Outbox", "messages", "[LTradeLink$Message;", true)
  | 1 => ("TradeLink$Outbox", "written", "LTradeLink$Row;", true)
  | _ => ("TradeLink$Outbox", "count", "I", false)
def xt5 : Nat → FieldType := fun k => match k with
  | 0 => (.array (.object "TradeLink$Message"))
  | 1 => (.object "TradeLink$Row")
  | _ => .int
def xT6 : u_T := fun k => match k with
  | 0 => ("TradeLink$Book", "orders", "[LTradeLink$Order;", true)
  | 1 => ("TradeLink$Book", "count", "I", false)
  | 2 => ("TradeLink$Book", "usedIds", "[I", true)
  | _ => ("TradeLink$Book", "usedCount", "I", false)
def xt6 : Nat → FieldType := fun k => match k with
  | 0 => (.array (.object "TradeLink$Order"))
  | 1 => .int
  | 2 => (.array .int)
  | _ => .int
def xT7 : u_T := fun k => match k with
  | 0 => ("TradeLink$Order", "id", "I", false)
  | 1 => ("TradeLink$Order", "side", "I", false)
  | 2 => ("TradeLink$Order", "quantity", "I", false)
  | 3 => ("TradeLink$Order", "filled", "I", false)
  | _ => ("TradeLink$Order", "cancelled", "Z", false)
def xt7 : Nat → FieldType := fun k => match k with
  | 0 => .int
  | 1 => .int
  | 2 => .int
  | 3 => .int
  | _ => .boolean
def xT8 : u_T := fun k => match k with
  | 0 => ("TradeLink$Store", "rows", "[I", true)
  | _ => ("TradeLink$Store", "count", "I", false)
def xt8 : Nat → FieldType := fun k => match k with
  | 0 => (.array .int)
  | _ => .int
def xT9 : u_T := fun k => match k with
  | 0 => ("TradeLinkModel", "thrown", "I", false)
  | 1 => ("TradeLinkModel", "given", "Z", false)
  | 2 => ("TradeLinkModel", "size", "I", false)
  | 3 => ("TradeLinkModel", "frame", "[I", true)
  | 4 => ("TradeLinkModel", "fields", "I", false)
  | 5 => ("TradeLinkModel", "tag", "[I", true)
  | 6 => ("TradeLinkModel", "from", "[I", true)
  | 7 => ("TradeLinkModel", "to", "[I", true)
  | 8 => ("TradeLinkModel", "type", "I", false)
  | 9 => ("TradeLinkModel", "number", "I", false)
  | 10 => ("TradeLinkModel", "a", "I", false)
  | 11 => ("TradeLinkModel", "b", "I", false)
  | 12 => ("TradeLinkModel", "c", "I", false)
  | 13 => ("TradeLinkModel", "duplicate", "Z", false)
  | 14 => ("TradeLinkModel", "some", "Z", false)
  | 15 => ("TradeLinkModel", "sent", "I", false)
  | 16 => ("TradeLinkModel", "out", "[I", true)
  | 17 => ("TradeLinkModel", "lengths", "[I", true)
  | 18 => ("TradeLinkModel", "at", "I", false)
  | 19 => ("TradeLinkModel", "in", "Z", false)
  | 20 => ("TradeLinkModel", "awaited", "I", false)
  | 21 => ("TradeLinkModel", "next", "I", false)
  | 22 => ("TradeLinkModel", "time", "I", false)
  | 23 => ("TradeLinkModel", "heard", "I", false)
  | 24 => ("TradeLinkModel", "said", "I", false)
  | 25 => ("TradeLinkModel", "asked", "I", false)
  | 26 => ("TradeLinkModel", "missing", "I", false)
  | 27 => ("TradeLinkModel", "report", "[Z", true)
  | 28 => ("TradeLinkModel", "says", "[I", true)
  | 29 => ("TradeLinkModel", "orders", "I", false)
  | 30 => ("TradeLinkModel", "id", "[I", true)
  | 31 => ("TradeLinkModel", "side", "[I", true)
  | 32 => ("TradeLinkModel", "quantity", "[I", true)
  | 33 => ("TradeLinkModel", "filled", "[I", true)
  | 34 => ("TradeLinkModel", "cancelled", "[Z", true)
  | 35 => ("TradeLinkModel", "done", "I", false)
  | 36 => ("TradeLinkModel", "messages", "I", false)
  | 37 => ("TradeLinkModel", "used", "[I", true)
  | _ => ("TradeLinkModel", "forPeer", "Z", false)
def xt9 : Nat → FieldType := fun k => match k with
  | 0 => .int
  | 1 => .boolean
  | 2 => .int
  | 3 => (.array .int)
  | 4 => .int
  | 5 => (.array .int)
  | 6 => (.array .int)
  | 7 => (.array .int)
  | 8 => .int
  | 9 => .int
  | 10 => .int
  | 11 => .int
  | 12 => .int
  | 13 => .boolean
  | 14 => .boolean
  | 15 => .int
  | 16 => (.array .int)
  | 17 => (.array .int)
  | 18 => .int
  | 19 => .boolean
  | 20 => .int
  | 21 => .int
  | 22 => .int
  | 23 => .int
  | 24 => .int
  | 25 => .int
  | 26 => .int
  | 27 => (.array .boolean)
  | 28 => (.array .int)
  | 29 => .int
  | 30 => (.array .int)
  | 31 => (.array .int)
  | 32 => (.array .int)
  | 33 => (.array .int)
  | 34 => (.array .boolean)
  | 35 => .int
  | 36 => .int
  | 37 => (.array .int)
  | _ => .boolean
def x_cl : List vw_C := [("TradeLink", xT0, 3), ("TradeLink$Inbox", xT1, 2), ("TradeLink$Row", xT2, 2), ("TradeLink$Message", xT3, 4), ("TradeLink$Session", xT4, 12), ("TradeLink$Outbox", xT5, 3), ("TradeLink$Book", xT6, 4), ("TradeLink$Order", xT7, 5), ("TradeLink$Store", xT8, 2), ("TradeLinkModel", xT9, 39)]
def x_ty : Nat → FieldType := fun k => match k with
  | 100 => .int
  | 101 => .boolean
  | 102 => .long
  | 103 => .object "TradeLink$Message"
  | _ => .object "TradeLink$Order"
def x_rowsC : String := "TradeLink$Layout"
def x_rowsF : String := "ROWS"
def x_rowsN : Nat := 60
def x_rowsL : List Int := [48, 1, 112, 0, 0, 0, 49, 1, 112, 0, 0, 0, 50, 2, 7, 16, 0, 0, 52, 2, 36, 123, 0, 0, 53, 0, 0, 0, 0, 0, 65, 1, 108, 0, 0, 0, 68, 3, 11, 54, 38, 0, 70, 2, 11, 41, 0, 0, 71, 3, 11, 41, 38, 0, 56, 4, 11, 39, 14, 151]
def x_rows (j : Nat) : Int32 := Int32.ofInt (x_rowsL.getD j 0)
def x_sh (j : Nat) : Nat × Nat := if j < 2 then (98, 0) else if 116 ≤ j then (99, 6) else if 13 ≤ j ∧ j < 55 then (if j % 2 = 1 then (3, 4) else (100, 4)) else if 58 ≤ j ∧ j < 98 then (7, 5) else match j with
  | 2 => (0, 3)
  | 3 => (1, 2)
  | 4 => (2, 2)
  | 5 => (100, 120)
  | 6 => (3, 4)
  | 7 => (100, 4)
  | 8 => (4, 12)
  | 9 => (5, 3)
  | 10 => (103, 21)
  | 11 => (2, 2)
  | 12 => (100, 120)
  | 55 => (6, 4)
  | 56 => (104, 40)
  | 57 => (100, 512)
  | 98 => (8, 2)
  | 99 => (100, 2560)
  | 100 => (9, 39)
  | 101 => (100, 120)
  | 102 => (100, 41)
  | 103 => (100, 41)
  | 104 => (100, 41)
  | 105 => (100, 2400)
  | 106 => (100, 20)
  | 107 => (101, 1600)
  | 108 => (100, 6400)
  | 109 => (100, 40)
  | 110 => (100, 40)
  | 111 => (100, 40)
  | 112 => (100, 40)
  | 113 => (101, 40)
  | 114 => (100, 520)
  | 115 => (102, 1)
  | _ => (98, 0)
def x_pt (a i : Nat) : Option Value := if a = 10 then (if i < 21 then some (.ref (13 + 2 * i)) else none) else if a = 56 then (if i < 40 then some (.ref (58 + i)) else none) else if 13 ≤ a ∧ a < 55 then (if a % 2 = 1 ∧ i = 3 then some (.ref (a + 1)) else none) else match a, i with
  | 2, 0 => some (.ref 3)
  | 2, 1 => some (.ref 6)
  | 2, 2 => some (.ref 8)
  | 3, 0 => some (.ref 4)
  | 4, 0 => some (.ref 5)
  | 6, 3 => some (.ref 7)
  | 8, 0 => some (.ref 9)
  | 8, 1 => some (.ref 55)
  | 8, 2 => some (.ref 98)
  | 9, 0 => some (.ref 10)
  | 9, 1 => some (.ref 11)
  | 11, 0 => some (.ref 12)
  | 55, 0 => some (.ref 56)
  | 55, 2 => some (.ref 57)
  | 98, 0 => some (.ref 99)
  | 100, 3 => some (.ref 101)
  | 100, 5 => some (.ref 102)
  | 100, 6 => some (.ref 103)
  | 100, 7 => some (.ref 104)
  | 100, 16 => some (.ref 105)
  | 100, 17 => some (.ref 106)
  | 100, 27 => some (.ref 107)
  | 100, 28 => some (.ref 108)
  | 100, 30 => some (.ref 109)
  | 100, 31 => some (.ref 110)
  | 100, 32 => some (.ref 111)
  | 100, 33 => some (.ref 112)
  | 100, 34 => some (.ref 113)
  | 100, 37 => some (.ref 114)
  | _, _ => none
def x_out : Nat := 115
def x_NM : Nat := 640
def x_ex : Nat → String := fun k => match k with
  | 0 => "java/lang/IllegalArgumentException"
  | 1 => "java/lang/IllegalStateException"
  | 2 => "java/lang/IndexOutOfBoundsException"
  | _ => "java/util/NoSuchElementException"
/-- (thrown, catch type) that don't fit, as far as the law's helpers pass them -/
def x_NC : List (String × String) := [(x_ex 0, x_ex 2), (x_ex 1, x_ex 0), (x_ex 0, x_ex 3), (x_ex 2, x_ex 3)]
/-- the words that a warmer machine keeps -/
def x_gw (w : Cond) : Bool := goodWord w || (match w with
  | .methodLinkNest .. => true
  | .castable .. => true
  | .arrayOver (.object _) => true
  | _ => false)
def x_Ts : List Cond := lw_tbl.filter x_gw
end
section
/-! 02.mini: a small machine over the big one. Memory is a function (address, place) ↦ value; addresses are counted in the order of making (0: the static table, 1: the script).
x_V k pc L st μ n Q: method k, at pc with locals L and stack st, over memory μ with n cells made, comes to an end (o, μ', n') with Q. -/
section XD
abbrev xM : Type := Nat → Nat → Value
def x_up (μ : xM) (a i : Nat) (v : Value) : xM := fun b j => if b = a ∧ j = i then v else μ b j
def x_nw (μ : xM) (a : Nat) (f : Nat → Value) : xM := fun b j => if b = a then f j else μ b j
abbrev xO : Type := Option Value ⊕ Nat
abbrev xQ : Type := xO → xM → Nat → Prop
/-- what is fixed: where the new cells begin, the table, the script, the heap at the start, classes and places, array classes -/
abbrev xW : Type := Nat × Nat × Nat × Heap × va_G × (Nat → ClassId)
def x_ad (w : xW) (x : Nat) : Nat := if x = 0 then w.2.1 else if x = 1 then w.2.2.1 else w.1 + (x - 2)
def x_cv (w : xW) (v : Value) : Value := match v with
  | .ref x => .ref (x_ad w x)
  | y => y
def x_ok (n : Nat) (v : Value) : Prop := ∀ x, v = .ref x → x < n
def x_cell (w : xW) (μ : xM) (j : Nat) (H : Heap) : Prop :=
  if (x_sh j).1 < 50 then t_OB (x_ad w j) (w.2.2.2.2.1.1 (x_sh j).1) (x_sh j).2 (w.2.2.2.2.1.2 (x_sh j).1) H (fun i => x_cv w (μ j i))
  else if (x_sh j).1 < 100 then ∃ cell : Cell, H[x_ad w j]? = some cell ∧ cell.vm.isStatics = false
  else H[x_ad w j]? = some (arrV (w.2.2.2.2.2 (x_sh j).1) (x_sh j).2 (fun i => x_cv w (μ j i)))
def x_R (w : xW) (μ : xM) (n : Nat) (H : Heap) : Prop :=
  2 ≤ n ∧ H.size = w.1 + (n - 2) ∧ (∀ q : Nat, q < w.1 → H[q]? = w.2.2.2.1[q]?) ∧ (∀ j, 2 ≤ j → j < n → x_cell w μ j H) ∧ ∀ j i, x_ok n (μ j i)
/-- a static field that holds a reference, in the heap at the start -/
def x_SF (C n d : String) (s : State) (H0 : Heap) : Prop :=
  ∃ (c : ClassId) (k : Class) (i : Nat) (f : Field) (a : Nat) (cell : Cell) (v : Value), s.vm.findClass C = some c ∧ s.fieldFound? C n d = some (c, k, i, f) ∧ f.isStatic = true ∧ k.statics = some a ∧ H0[a]? = some cell ∧ cell.vm.isStatics = true ∧ cell.cls = c ∧ f.slot < cell.slots.size ∧ k.staticTypes[f.slot]? = some f.type ∧ cell.slots[f.slot]? = some v ∧ (v = .null ∨ ∃ x, v = .ref x)
theorem x_SF_moved {C n d : String} {s s' : State} {H0 : Heap} (h : x_SF C n d s H0) (hvm : s.vm.Alike s'.vm) : x_SF C n d s' H0 := by
  obtain ⟨c, k, i, f, a, cell, v, h1, h2, h3, h4, h5, h6, h7, h8, h9, h10⟩ := h
  obtain ⟨k', hi', he⟩ := State.fieldFound?_setVm hvm h2
  exact ⟨c, k', i, f, a, cell, v, by rw [hvm.findClass]; exact h1, hi', h3, by rw [he]; exact h4, h5, h6, h7, h8, by rw [he]; exact h9, h10⟩
def x_K (S : Nat × (Nat → Int32)) (w : xW) (s : State) : Prop :=
  (∀ (c : Nat) (q : vw_C), x_cl[c]? = some q → u_Kn s q.1 q.2.1 q.2.2 (w.2.2.2.2.1.1 c) (w.2.2.2.2.1.2 c)) ∧
  (∀ c, 100 ≤ c → c < 105 → ArrOfT s (w.2.2.2.2.2 c) (x_ty c) ∧ va_RA s (w.2.2.2.2.2 c) (x_ty c)) ∧
  (w.2.1 < w.1 ∧ w.2.2.1 < w.1 ∧ w.1 = w.2.2.2.1.size) ∧
  va_T .int w.2.1 x_rowsN (fun j => .int (x_rows j)) (fun q => w.1 ≤ q) s w.2.2.2.1 ∧ va_X w.2.2.1 S.1 S.2 s w.2.2.2.1 ∧ va_Z x_rowsC x_rowsF "[I" (.ref w.2.1) (fun q => w.1 ≤ q) s w.2.2.2.1 ∧
  x_SF "java/lang/Throwable" "UNASSIGNED_STACK" "[Ljava/lang/StackTraceElement;" s w.2.2.2.1 ∧ x_SF "java/lang/Throwable" "SUPPRESSED_SENTINEL" "Ljava/util/List;" s w.2.2.2.1 ∧ ∀ q ∈ x_NC, va_Nc q.1 q.2 s
def x_cw (k : Nat) : Cond := match mT k with
  | [] => .code (mY k) (mC k) (mL k) (mR k)
  | h => .codeWith (mY k) (mC k) (mL k) (mR k) h
/-- a method's standing: its code, the words, the room that its rank asks for -/
def x_C (S : Nat × (Nat → Int32)) (w : xW) (k : Nat) (p : Program) (e : Env) (R : Room) (s : State) (m : MethodId) (args : Array Value) (meth : Method) (c : Code) : Prop :=
  p.tables.exec = Jvm.exec ∧ c.code = mC k ∧ c.maxLocals = mL k ∧ meth.sig.returnType = mR k ∧ meth.locks = false ∧ s.vm.findClass (mY k).cls = some m.cls ∧ (∀ q ∈ x_Ts, q.before args s = true) ∧ x_K S w s ∧
  (mK k ≤ R.frames ∧ mW k ≤ R.locals) ∧ e.platform.stackTraces = false ∧ meth.name = (mY k).name ∧ c.exceptionTable.toList.map (fun h => (h.startPc, h.endPc, h.handlerPc, h.catchType)) = mT k ∧ ∃ (μ : xM) (n : Nat), x_R w μ n s.heap
def x_L (w : xW) (n nL : Nat) (L : List (Option Value)) (ls : Array Slot) : Prop :=
  ls.size = nL ∧ lv_wf ls ∧ L.length = nL ∧ ∀ (i : Nat) (v : Value), L[i]? = some (some v) → ls[i]? = some (.val (x_cv w v)) ∧ v.category = 1 ∧ x_ok n v
def x_sl : Nat → Nat
  | 0 => 0
  | n + 1 => x_sl n + (x_sh n).2
def x_rm (n cells slots : Nat) (R : Room) : Prop := n ≤ x_NM ∧ cells + (x_NM - n) ≤ R.cells ∧ slots + (x_sl x_NM - x_sl n) ≤ R.slots
def x_oc (w : xW) (s : State) (o : xO) (n : Nat) (t : State) (oc : Outcome) : Prop := match o with
  | .inl v => oc = .returned (v.map (x_cv w)) ∧ ∀ y, v = some y → x_ok n y
  | .inr x => oc = .threw (x_ad w (n - 1)) ∧ ∃ cell : Cell, t.heap[x_ad w (n - 1)]? = some cell ∧ cell.vm.isStatics = false ∧ s.vm.findClass (x_ex x) = some cell.cls
def x_F (w : xW) (R : Room) (s : State) (below : List Frame) (Q : xQ) (t : State) : Prop :=
  ∃ (o : xO) (μ : xM) (n : Nat) (oc : Outcome) (L : List Loc) (k z : Nat), Q o μ n ∧ t.status = .running ∧ Ended t below oc ∧ x_oc w s o n t oc ∧ x_R w μ n t.heap ∧ s.WarmedH t.vm ∧
    s.sameButNew ({ t with vm := s.vm } : State) L k z ∧ (∀ q ∈ L, w.1 ≤ q.base) ∧ x_rm n k z R
/-- what a walk knows at a point -/
def x_G (S : Nat × (Nat → Int32)) (w : xW) (k : Nat) (L : List (Option Value)) (st : List Value) (μ : xM) (n : Nat) (p : Program) (e : Env) (R : Room) (s : State) (m : MethodId) (args : Array Value) (meth : Method) (c : Code) (H : Heap) (locs : List Loc) (cells slots : Nat) (ls : Array Slot) : Prop :=
  x_C S w k p e R s m args meth c ∧ x_R w μ n H ∧ x_L w n (mL k) L ls ∧ (∀ v ∈ st, x_ok n v) ∧ (∀ q ∈ locs, w.1 ≤ q.base) ∧ x_rm n cells slots R
def x_V (S : Nat × (Nat → Int32)) (k pc : Nat) (L : List (Option Value)) (st : List Value) (μ : xM) (n : Nat) (Q : xQ) : Prop :=
  ∀ (w : xW) (p : Program) (l : Launch) (e : Env) (R : Room) (s : State) (m : MethodId) (args : Array Value) (below : List Frame) (meth : Method) (c : Code) (H : Heap) (locs : List Loc) (cells slots : Nat) (ls : Array Slot),
    x_G S w k L st μ n p e R s m args meth c H locs cells slots ls → W p l e R s m args below meth c H locs cells slots (x_F w R s below Q) (F0 m pc ls (st.map (x_cv w)))
end XD

section XB
theorem x_cv_int (w : xW) (x : Int32) : x_cv w (.int x) = .int x := rfl
theorem x_cv_cat (w : xW) (v : Value) : (x_cv w v).category = v.category := by cases v <;> rfl
theorem x_ok_int (n : Nat) (x : Int32) : x_ok n (.int x) := fun y h => by cases h
theorem x_ok_long (n : Nat) (x : Int64) : x_ok n (.long x) := fun y h => by cases h
theorem x_ok_null (n : Nat) : x_ok n .null := fun y h => by cases h
theorem x_ok_mono {n n' : Nat} {v : Value} (h : x_ok n v) (hn : n ≤ n') : x_ok n' v := fun y e => Nat.lt_of_lt_of_le (h y e) hn
theorem x_ad2 {w : xW} {j : Nat} (h : 2 ≤ j) : x_ad w j = w.1 + (j - 2) := by
  unfold x_ad
  rw [if_neg (by omega), if_neg (by omega)]
theorem x_sl_mono {a b : Nat} (h : a ≤ b) : x_sl a ≤ x_sl b := by
  induction b with
  | zero => rw [Nat.le_zero.mp h]; exact Nat.le_refl _
  | succ b ih =>
    rcases Nat.lt_or_ge a (b + 1) with h1 | h1
    · exact Nat.le_trans (ih (by omega)) (Nat.le_add_right _ _)
    · rw [show a = b + 1 by omega]; exact Nat.le_refl _
theorem x_L_mono {w : xW} {n n' nL : Nat} {L : List (Option Value)} {ls : Array Slot} (h : x_L w n nL L ls) (hn : n ≤ n') : x_L w n' nL L ls :=
  ⟨h.1, h.2.1, h.2.2.1, fun i v hv => ⟨(h.2.2.2 i v hv).1, (h.2.2.2 i v hv).2.1, x_ok_mono (h.2.2.2 i v hv).2.2 hn⟩⟩
def x_lv (w : xW) (L : List (Option Value)) : List (Nat × Value) := (List.range L.length).filterMap fun i => (L[i]?.getD none).map fun v => (i, x_cv w v)
theorem x_lv_in {w : xW} {L : List (Option Value)} {i : Nat} {v : Value} (h : L[i]? = some (some v)) : (i, x_cv w v) ∈ x_lv w L := by
  unfold x_lv
  refine List.mem_filterMap.mpr ⟨i, List.mem_range.mpr (List.getElem?_eq_some_iff.mp h).1, ?_⟩
  rw [h]; rfl
theorem x_lv_out {w : xW} {L : List (Option Value)} {q : Nat × Value} (h : q ∈ x_lv w L) : ∃ v, L[q.1]? = some (some v) ∧ q.2 = x_cv w v := by
  unfold x_lv at h
  obtain ⟨i, -, hi⟩ := List.mem_filterMap.mp h
  cases hL : L[i]? with
  | none => rw [hL] at hi; cases hi
  | some o =>
    cases o with
    | none => rw [hL] at hi; cases hi
    | some v =>
      rw [hL] at hi
      cases hi
      exact ⟨v, hL, rfl⟩
theorem x_L_has {w : xW} {n nL : Nat} {L : List (Option Value)} {ls : Array Slot} (h : x_L w n nL L ls) : lv_has ls nL (x_lv w L) := by
  refine ⟨h.1, h.2.1, fun q hq => ?_⟩
  obtain ⟨v, h1, h2⟩ := x_lv_out hq
  rw [h2]
  exact (h.2.2.2 _ _ h1).1
theorem x_L_set {w : xW} {n nL i : Nat} {L : List (Option Value)} {ls ls' : Array Slot} {v : Value} (h : x_L w n nL L ls) (hc : v.category = 1) (ho : x_ok n v)
    (h' : lv_has ls' nL ((i, x_cv w v) :: (x_lv w L).filter (fun q => !(q.1 == i) && !(q.1 + 1 == i && q.2.category == 2)))) : x_L w n nL (L.set i (some v)) ls' := by
  refine ⟨h'.1, h'.2.1, by rw [List.length_set]; exact h.2.2.1, fun j u hj => ?_⟩
  by_cases e : i = j
  · subst e
    rw [List.getElem?_set_self' ] at hj
    cases hL : L[i]? with
    | none => rw [hL] at hj; cases hj
    | some o =>
      rw [hL] at hj
      cases hj
      exact ⟨h'.2.2 _ List.mem_cons_self, hc, ho⟩
  · rw [List.getElem?_set_ne e] at hj
    obtain ⟨h1, h2, h3⟩ := h.2.2.2 j u hj
    refine ⟨h'.2.2 (j, x_cv w u) (List.mem_cons_of_mem _ (List.mem_filter.mpr ⟨x_lv_in hj, ?_⟩)), h2, h3⟩
    have e1 : (j == i) = false := by simpa using fun q => e q.symm
    have e2 : ((x_cv w u).category == 2) = false := by rw [x_cv_cat, h2]; rfl
    simp [e1, e2]
theorem x_sum (w : xW) (st : List Value) : ((st.map (x_cv w)).map fun v => v.category).sum ≤ 2 * st.length := by
  induction st with
  | nil => simp
  | cons v t ih =>
    have h : (x_cv w v).category ≤ 2 := by cases v <;> simp [x_cv, Value.category]
    simp only [List.map_cons, List.sum_cons, List.length_cons]
    omega
theorem x_rm_le {n cells slots : Nat} {R : Room} (h : x_rm n cells slots R) : n ≤ x_NM := h.1
end XB
end
section
/-! 03.rows: a row an instruction (heap untouched). -/
section XR
variable {S : Nat × (Nat → Int32)} {k pc : Nat} {L : List (Option Value)} {st : List Value} {μ : xM} {n : Nat} {Q : xQ}
theorem x_tl {n : Nat} {v : Value} {st : List Value} (h : ∀ u ∈ v :: st, x_ok n u) : ∀ u ∈ st, x_ok n u := fun u hu => h u (List.mem_cons_of_mem _ hu)
theorem x_hd {n : Nat} {v : Value} {st : List Value} (h : ∀ u ∈ v :: st, x_ok n u) : x_ok n v := h v List.mem_cons_self
theorem x_cs {n : Nat} {v : Value} {st : List Value} (hv : x_ok n v) (h : ∀ u ∈ st, x_ok n u) : ∀ u ∈ v :: st, x_ok n u := fun u hu => by
  rcases List.mem_cons.mp hu with e | e
  · rw [e]; exact hv
  · exact h u e
/-- an instruction that moves the pc and the stack alone -/
theorem x_go {pc' : Nat} {st' : List Value} (hs : ∀ n, (∀ v ∈ st, x_ok n v) → ∀ v ∈ st', x_ok n v)
    (hw : ∀ (w : xW) (p : Program) (l : Launch) (e : Env) (R : Room) (s : State) (m : MethodId) (args : Array Value) (below : List Frame) (meth : Method) (c : Code) (H : Heap) (locs : List Loc) (cells slots : Nat) (ls : Array Slot) (P : State → Prop), p.tables.exec = Jvm.exec → c.code = mC k →
      W p l e R s m args below meth c H locs cells slots P (F0 m pc' ls (st'.map (x_cv w))) → W p l e R s m args below meth c H locs cells slots P (F0 m pc ls (st.map (x_cv w))))
    (h : x_V S k pc' L st' μ n Q) : x_V S k pc L st μ n Q := by
  intro w p l e R s m args below meth c H locs cells slots ls hG
  exact hw w p l e R s m args below meth c H locs cells slots ls _ hG.1.1 hG.1.2.1 (h w p l e R s m args below meth c H locs cells slots ls ⟨hG.1, hG.2.1, hG.2.2.1, hs n hG.2.2.2.1, hG.2.2.2.2⟩)
theorem x_iadd {x y : Int32} (hd : decode (mC k) pc = .ok (.iadd, 1)) (h : x_V S k (pc + 1) L (.int (x + y) :: st) μ n Q) : x_V S k pc L (.int y :: .int x :: st) μ n Q :=
  x_go (fun n hs => x_cs (x_ok_int _ _) (x_tl (x_tl hs))) (fun w p l e R s m args below meth c H locs cells slots ls P hx hb hk => lv_iadd hx hb hd hk) h
theorem x_isub {x y : Int32} (hd : decode (mC k) pc = .ok (.isub, 1)) (h : x_V S k (pc + 1) L (.int (x - y) :: st) μ n Q) : x_V S k pc L (.int y :: .int x :: st) μ n Q :=
  x_go (fun n hs => x_cs (x_ok_int _ _) (x_tl (x_tl hs))) (fun w p l e R s m args below meth c H locs cells slots ls P hx hb hk => lv_isub hx hb hd hk) h
theorem x_imul {x y : Int32} (hd : decode (mC k) pc = .ok (.imul, 1)) (h : x_V S k (pc + 1) L (.int (x * y) :: st) μ n Q) : x_V S k pc L (.int y :: .int x :: st) μ n Q :=
  x_go (fun n hs => x_cs (x_ok_int _ _) (x_tl (x_tl hs))) (fun w p l e R s m args below meth c H locs cells slots ls P hx hb hk => lv_imul hx hb hd hk) h
theorem x_iand {x y : Int32} (hd : decode (mC k) pc = .ok (.iand, 1)) (h : x_V S k (pc + 1) L (.int (x &&& y) :: st) μ n Q) : x_V S k pc L (.int y :: .int x :: st) μ n Q :=
  x_go (fun n hs => x_cs (x_ok_int _ _) (x_tl (x_tl hs))) (fun w p l e R s m args below meth c H locs cells slots ls P hx hb hk => lv_iand hx hb hd hk) h
theorem x_ior {x y : Int32} (hd : decode (mC k) pc = .ok (.ior, 1)) (h : x_V S k (pc + 1) L (.int (x ||| y) :: st) μ n Q) : x_V S k pc L (.int y :: .int x :: st) μ n Q :=
  x_go (fun n hs => x_cs (x_ok_int _ _) (x_tl (x_tl hs))) (fun w p l e R s m args below meth c H locs cells slots ls P hx hb hk => lv_ior hx hb hd hk) h
theorem x_ixor {x y : Int32} (hd : decode (mC k) pc = .ok (.ixor, 1)) (h : x_V S k (pc + 1) L (.int (x ^^^ y) :: st) μ n Q) : x_V S k pc L (.int y :: .int x :: st) μ n Q :=
  x_go (fun n hs => x_cs (x_ok_int _ _) (x_tl (x_tl hs))) (fun w p l e R s m args below meth c H locs cells slots ls P hx hb hk => lv_ixor hx hb hd hk) h
theorem x_idiv {x y : Int32} (hne : ¬ y = 0) (hd : decode (mC k) pc = .ok (.idiv, 1)) (h : x_V S k (pc + 1) L (.int (x / y) :: st) μ n Q) : x_V S k pc L (.int y :: .int x :: st) μ n Q :=
  x_go (fun n hs => x_cs (x_ok_int _ _) (x_tl (x_tl hs))) (fun w p l e R s m args below meth c H locs cells slots ls P hx hb hk => lv_idiv hx hb hd hne hk) h
theorem x_irem {x y : Int32} (hne : ¬ y = 0) (hd : decode (mC k) pc = .ok (.irem, 1)) (h : x_V S k (pc + 1) L (.int (x - x / y * y) :: st) μ n Q) : x_V S k pc L (.int y :: .int x :: st) μ n Q :=
  x_go (fun n hs => x_cs (x_ok_int _ _) (x_tl (x_tl hs))) (fun w p l e R s m args below meth c H locs cells slots ls P hx hb hk => lv_irem hx hb hd hne hk) h
theorem x_i2l {x : Int32} (hd : decode (mC k) pc = .ok (.i2l, 1)) (h : x_V S k (pc + 1) L (.long x.toInt64 :: st) μ n Q) : x_V S k pc L (.int x :: st) μ n Q :=
  x_go (fun n hs => x_cs (x_ok_long _ _) (x_tl hs)) (fun w p l e R s m args below meth c H locs cells slots ls P hx hb hk => lv_i2l hx hb hd rfl hk) h
theorem x_lcmp {x y : Int64} (hd : decode (mC k) pc = .ok (.lcmp, 1)) (h : x_V S k (pc + 1) L (.int (lg_cmp x y) :: st) μ n Q) : x_V S k pc L (.long y :: .long x :: st) μ n Q :=
  x_go (fun n hs => x_cs (x_ok_int _ _) (x_tl (x_tl hs))) (fun w p l e R s m args below meth c H locs cells slots ls P hx hb hk => W.lcmp hx hb hd hk) h
theorem x_iconst {z : Int} {v : Int32} (hv : Int32.ofInt z = v) (hd : decode (mC k) pc = .ok (.iconst z, 1)) (h : x_V S k (pc + 1) L (.int v :: st) μ n Q) : x_V S k pc L (st) μ n Q :=
  x_go (fun n hs => x_cs (x_ok_int _ _) hs) (fun w p l e R s m args below meth c H locs cells slots ls P hx hb hk => lv_iconst hx hb hd hv hk) h
theorem x_bipush {z : Int} {v : Int32} (hv : (Int8.ofInt z).toInt32 = v) (hd : decode (mC k) pc = .ok (.bipush z, 2)) (h : x_V S k (pc + 2) L (.int v :: st) μ n Q) : x_V S k pc L (st) μ n Q :=
  x_go (fun n hs => x_cs (x_ok_int _ _) hs) (fun w p l e R s m args below meth c H locs cells slots ls P hx hb hk => lv_bipush hx hb hd hv hk) h
theorem x_sipush {z : Int} {v : Int32} (hv : (Int16.ofInt z).toInt32 = v) (hd : decode (mC k) pc = .ok (.sipush z, 3)) (h : x_V S k (pc + 3) L (.int v :: st) μ n Q) : x_V S k pc L (st) μ n Q :=
  x_go (fun n hs => x_cs (x_ok_int _ _) hs) (fun w p l e R s m args below meth c H locs cells slots ls P hx hb hk => lv_sipush hx hb hd hv hk) h
theorem x_null  (hd : decode (mC k) pc = .ok (.aconst_null, 1)) (h : x_V S k (pc + 1) L (.null :: st) μ n Q) : x_V S k pc L (st) μ n Q :=
  x_go (fun n hs => x_cs (x_ok_null _) hs) (fun w p l e R s m args below meth c H locs cells slots ls P hx hb hk => lv_null hx hb hd hk) h
theorem x_dup {v : Value} (hc : v.category = 1) (hd : decode (mC k) pc = .ok (.dup, 1)) (h : x_V S k (pc + 1) L (v :: v :: st) μ n Q) : x_V S k pc L (v :: st) μ n Q :=
  x_go (fun n hs => x_cs (x_hd hs) hs) (fun w p l e R s m args below meth c H locs cells slots ls P hx hb hk => lv_dup hx hb hd (by rw [x_cv_cat]; exact hc) hk) h
theorem x_pop {v : Value} (hc : v.category = 1) (hd : decode (mC k) pc = .ok (.pop, 1)) (h : x_V S k (pc + 1) L (st) μ n Q) : x_V S k pc L (v :: st) μ n Q :=
  x_go (fun n hs => x_tl hs) (fun w p l e R s m args below meth c H locs cells slots ls P hx hb hk => lv_pop hx hb hd (by rw [x_cv_cat]; exact hc) hk) h
theorem x_dup_x1 {v u : Value} (hc : v.category = 1) (hu : u.category = 1) (hd : decode (mC k) pc = .ok (.dup_x1, 1)) (h : x_V S k (pc + 1) L (v :: u :: v :: st) μ n Q) : x_V S k pc L (v :: u :: st) μ n Q :=
  x_go (fun n hs => x_cs (x_hd hs) (x_cs (x_hd (x_tl hs)) (x_cs (x_hd hs) (x_tl (x_tl hs))))) (fun w p l e R s m args below meth c H locs cells slots ls P hx hb hk => lv_dup_x1 hx hb hd (by rw [x_cv_cat]; exact hc) (by rw [x_cv_cat]; exact hu) hk) h
theorem x_dup2 {v u : Value} (hc : v.category = 1) (hu : u.category = 1) (hd : decode (mC k) pc = .ok (.dup2, 1)) (h : x_V S k (pc + 1) L (v :: u :: v :: u :: st) μ n Q) : x_V S k pc L (v :: u :: st) μ n Q :=
  x_go (fun n hs => x_cs (x_hd hs) (x_cs (x_hd (x_tl hs)) hs)) (fun w p l e R s m args below meth c H locs cells slots ls P hx hb hk => lv_dup2_11 hx hb hd (by rw [x_cv_cat]; exact hc) (by rw [x_cv_cat]; exact hu) hk) h
theorem x_goto {off : Int} {tgt : Nat} (ht : (pc : Int) + off = (tgt : Int)) (hd : decode (mC k) pc = .ok (.goto off, 3)) (h : x_V S k tgt L (st) μ n Q) : x_V S k pc L (st) μ n Q :=
  x_go (fun n hs => hs) (fun w p l e R s m args below meth c H locs cells slots ls P hx hb hk => lv_goto hx hb hd ht hk) h
theorem x_ifnull_y {off : Int} {tgt : Nat} (ht : (pc : Int) + off = (tgt : Int)) (hd : decode (mC k) pc = .ok (.ifnull off, 3)) (h : x_V S k tgt L (st) μ n Q) : x_V S k pc L (.null :: st) μ n Q :=
  x_go (fun n hs => x_tl hs) (fun w p l e R s m args below meth c H locs cells slots ls P hx hb hk => lv_ifnullN hx hb hd ht hk) h
theorem x_ifnull_n {off : Int} {a : Nat} (hd : decode (mC k) pc = .ok (.ifnull off, 3)) (h : x_V S k (pc + 3) L (st) μ n Q) : x_V S k pc L (.ref a :: st) μ n Q :=
  x_go (fun n hs => x_tl hs) (fun w p l e R s m args below meth c H locs cells slots ls P hx hb hk => lv_ifnull hx hb hd hk) h
theorem x_ifnonnull_n {off : Int} (hd : decode (mC k) pc = .ok (.ifnonnull off, 3)) (h : x_V S k (pc + 3) L (st) μ n Q) : x_V S k pc L (.null :: st) μ n Q :=
  x_go (fun n hs => x_tl hs) (fun w p l e R s m args below meth c H locs cells slots ls P hx hb hk => lv_ifnonnullN hx hb hd hk) h
theorem x_ifnonnull_y {off : Int} {tgt a : Nat} (ht : (pc : Int) + off = (tgt : Int)) (hd : decode (mC k) pc = .ok (.ifnonnull off, 3)) (h : x_V S k tgt L (st) μ n Q) : x_V S k pc L (.ref a :: st) μ n Q :=
  x_go (fun n hs => x_tl hs) (fun w p l e R s m args below meth c H locs cells slots ls P hx hb hk => lv_ifnonnull hx hb hd ht hk) h
theorem x_tableOut {dflt lo hi : Int} {offs : Array Int} {len tgt : Nat} {x : Int32} (hc : x.toInt < lo ∨ hi < x.toInt) (ht : (pc : Int) + dflt = (tgt : Int)) (hd : decode (mC k) pc = .ok (.tableswitch dflt lo hi offs, len)) (h : x_V S k tgt L (st) μ n Q) : x_V S k pc L (.int x :: st) μ n Q :=
  x_go (fun n hs => x_tl hs) (fun w p l e R s m args below meth c H locs cells slots ls P hx hb hk => lv_tableOut hx hb hd hc ht hk) h
theorem x_tableIn {dflt lo hi off : Int} {offs : Array Int} {len tgt : Nat} {x : Int32} (h1 : ¬ x.toInt < lo) (h2 : ¬ hi < x.toInt) (ho : offs[(x.toInt - lo).toNat]? = some off) (ht : (pc : Int) + off = (tgt : Int)) (hd : decode (mC k) pc = .ok (.tableswitch dflt lo hi offs, len)) (h : x_V S k tgt L (st) μ n Q) : x_V S k pc L (.int x :: st) μ n Q :=
  x_go (fun n hs => x_tl hs) (fun w p l e R s m args below meth c H locs cells slots ls P hx hb hk => lv_tableIn hx hb hd h1 h2 ho ht hk) h
theorem x_lookup {dflt off : Int} {ps : Array (Int × Int)} {len tgt : Nat} {x : Int32} (hp : (ps.toList.zip (ps.toList.drop 1)).all (fun (a, next) => a.1 < next.1) = true) (ho : Op.lookupswitch.offset ps.toList dflt x.toInt = off) (ht : (pc : Int) + off = (tgt : Int)) (hd : decode (mC k) pc = .ok (.lookupswitch dflt ps, len)) (h : x_V S k tgt L (st) μ n Q) : x_V S k pc L (.int x :: st) μ n Q :=
  x_go (fun n hs => x_tl hs) (fun w p l e R s m args below meth c H locs cells slots ls P hx hb hk => lv_lookup hx hb hd hp ho ht hk) h
theorem x_if_eq {x : Int32} {off : Int} {tgt : Nat} (hd : decode (mC k) pc = .ok (.ifCond .eq off, 3)) (ht : (pc : Int) + off = (tgt : Int)) (kt : x = 0 → x_V S k tgt L st μ n Q) (kf : ¬ x = 0 → x_V S k (pc + 3) L st μ n Q) : x_V S k pc L (.int x :: st) μ n Q := by
  intro w p l e R s m args below meth c H locs cells slots ls hG
  exact lv_if_eq hG.1.1 hG.1.2.1 hd ht (fun h => kt h w p l e R s m args below meth c H locs cells slots ls ⟨hG.1, hG.2.1, hG.2.2.1, x_tl hG.2.2.2.1, hG.2.2.2.2⟩) (fun h => kf h w p l e R s m args below meth c H locs cells slots ls ⟨hG.1, hG.2.1, hG.2.2.1, x_tl hG.2.2.2.1, hG.2.2.2.2⟩)
theorem x_icmp_eq {x y : Int32} {off : Int} {tgt : Nat} (hd : decode (mC k) pc = .ok (.if_icmp .eq off, 3)) (ht : (pc : Int) + off = (tgt : Int)) (kt : x = y → x_V S k tgt L st μ n Q) (kf : ¬ x = y → x_V S k (pc + 3) L st μ n Q) : x_V S k pc L (.int y :: .int x :: st) μ n Q := by
  intro w p l e R s m args below meth c H locs cells slots ls hG
  exact lv_icmp_eq hG.1.1 hG.1.2.1 hd ht (fun h => kt h w p l e R s m args below meth c H locs cells slots ls ⟨hG.1, hG.2.1, hG.2.2.1, x_tl (x_tl hG.2.2.2.1), hG.2.2.2.2⟩) (fun h => kf h w p l e R s m args below meth c H locs cells slots ls ⟨hG.1, hG.2.1, hG.2.2.1, x_tl (x_tl hG.2.2.2.1), hG.2.2.2.2⟩)
theorem x_if_ne {x : Int32} {off : Int} {tgt : Nat} (hd : decode (mC k) pc = .ok (.ifCond .ne off, 3)) (ht : (pc : Int) + off = (tgt : Int)) (kt : ¬ x = 0 → x_V S k tgt L st μ n Q) (kf : x = 0 → x_V S k (pc + 3) L st μ n Q) : x_V S k pc L (.int x :: st) μ n Q := by
  intro w p l e R s m args below meth c H locs cells slots ls hG
  exact lv_if_ne hG.1.1 hG.1.2.1 hd ht (fun h => kt h w p l e R s m args below meth c H locs cells slots ls ⟨hG.1, hG.2.1, hG.2.2.1, x_tl hG.2.2.2.1, hG.2.2.2.2⟩) (fun h => kf h w p l e R s m args below meth c H locs cells slots ls ⟨hG.1, hG.2.1, hG.2.2.1, x_tl hG.2.2.2.1, hG.2.2.2.2⟩)
theorem x_icmp_ne {x y : Int32} {off : Int} {tgt : Nat} (hd : decode (mC k) pc = .ok (.if_icmp .ne off, 3)) (ht : (pc : Int) + off = (tgt : Int)) (kt : ¬ x = y → x_V S k tgt L st μ n Q) (kf : x = y → x_V S k (pc + 3) L st μ n Q) : x_V S k pc L (.int y :: .int x :: st) μ n Q := by
  intro w p l e R s m args below meth c H locs cells slots ls hG
  exact lv_icmp_ne hG.1.1 hG.1.2.1 hd ht (fun h => kt h w p l e R s m args below meth c H locs cells slots ls ⟨hG.1, hG.2.1, hG.2.2.1, x_tl (x_tl hG.2.2.2.1), hG.2.2.2.2⟩) (fun h => kf h w p l e R s m args below meth c H locs cells slots ls ⟨hG.1, hG.2.1, hG.2.2.1, x_tl (x_tl hG.2.2.2.1), hG.2.2.2.2⟩)
theorem x_if_lt {x : Int32} {off : Int} {tgt : Nat} (hd : decode (mC k) pc = .ok (.ifCond .lt off, 3)) (ht : (pc : Int) + off = (tgt : Int)) (kt : x < 0 → x_V S k tgt L st μ n Q) (kf : ¬ x < 0 → x_V S k (pc + 3) L st μ n Q) : x_V S k pc L (.int x :: st) μ n Q := by
  intro w p l e R s m args below meth c H locs cells slots ls hG
  exact lv_if_lt hG.1.1 hG.1.2.1 hd ht (fun h => kt h w p l e R s m args below meth c H locs cells slots ls ⟨hG.1, hG.2.1, hG.2.2.1, x_tl hG.2.2.2.1, hG.2.2.2.2⟩) (fun h => kf h w p l e R s m args below meth c H locs cells slots ls ⟨hG.1, hG.2.1, hG.2.2.1, x_tl hG.2.2.2.1, hG.2.2.2.2⟩)
theorem x_icmp_lt {x y : Int32} {off : Int} {tgt : Nat} (hd : decode (mC k) pc = .ok (.if_icmp .lt off, 3)) (ht : (pc : Int) + off = (tgt : Int)) (kt : x < y → x_V S k tgt L st μ n Q) (kf : ¬ x < y → x_V S k (pc + 3) L st μ n Q) : x_V S k pc L (.int y :: .int x :: st) μ n Q := by
  intro w p l e R s m args below meth c H locs cells slots ls hG
  exact lv_icmp_lt hG.1.1 hG.1.2.1 hd ht (fun h => kt h w p l e R s m args below meth c H locs cells slots ls ⟨hG.1, hG.2.1, hG.2.2.1, x_tl (x_tl hG.2.2.2.1), hG.2.2.2.2⟩) (fun h => kf h w p l e R s m args below meth c H locs cells slots ls ⟨hG.1, hG.2.1, hG.2.2.1, x_tl (x_tl hG.2.2.2.1), hG.2.2.2.2⟩)
theorem x_if_ge {x : Int32} {off : Int} {tgt : Nat} (hd : decode (mC k) pc = .ok (.ifCond .ge off, 3)) (ht : (pc : Int) + off = (tgt : Int)) (kt : 0 ≤ x → x_V S k tgt L st μ n Q) (kf : ¬ 0 ≤ x → x_V S k (pc + 3) L st μ n Q) : x_V S k pc L (.int x :: st) μ n Q := by
  intro w p l e R s m args below meth c H locs cells slots ls hG
  exact lv_if_ge hG.1.1 hG.1.2.1 hd ht (fun h => kt h w p l e R s m args below meth c H locs cells slots ls ⟨hG.1, hG.2.1, hG.2.2.1, x_tl hG.2.2.2.1, hG.2.2.2.2⟩) (fun h => kf h w p l e R s m args below meth c H locs cells slots ls ⟨hG.1, hG.2.1, hG.2.2.1, x_tl hG.2.2.2.1, hG.2.2.2.2⟩)
theorem x_icmp_ge {x y : Int32} {off : Int} {tgt : Nat} (hd : decode (mC k) pc = .ok (.if_icmp .ge off, 3)) (ht : (pc : Int) + off = (tgt : Int)) (kt : y ≤ x → x_V S k tgt L st μ n Q) (kf : ¬ y ≤ x → x_V S k (pc + 3) L st μ n Q) : x_V S k pc L (.int y :: .int x :: st) μ n Q := by
  intro w p l e R s m args below meth c H locs cells slots ls hG
  exact lv_icmp_ge hG.1.1 hG.1.2.1 hd ht (fun h => kt h w p l e R s m args below meth c H locs cells slots ls ⟨hG.1, hG.2.1, hG.2.2.1, x_tl (x_tl hG.2.2.2.1), hG.2.2.2.2⟩) (fun h => kf h w p l e R s m args below meth c H locs cells slots ls ⟨hG.1, hG.2.1, hG.2.2.1, x_tl (x_tl hG.2.2.2.1), hG.2.2.2.2⟩)
theorem x_if_gt {x : Int32} {off : Int} {tgt : Nat} (hd : decode (mC k) pc = .ok (.ifCond .gt off, 3)) (ht : (pc : Int) + off = (tgt : Int)) (kt : 0 < x → x_V S k tgt L st μ n Q) (kf : ¬ 0 < x → x_V S k (pc + 3) L st μ n Q) : x_V S k pc L (.int x :: st) μ n Q := by
  intro w p l e R s m args below meth c H locs cells slots ls hG
  exact lv_if_gt hG.1.1 hG.1.2.1 hd ht (fun h => kt h w p l e R s m args below meth c H locs cells slots ls ⟨hG.1, hG.2.1, hG.2.2.1, x_tl hG.2.2.2.1, hG.2.2.2.2⟩) (fun h => kf h w p l e R s m args below meth c H locs cells slots ls ⟨hG.1, hG.2.1, hG.2.2.1, x_tl hG.2.2.2.1, hG.2.2.2.2⟩)
theorem x_icmp_gt {x y : Int32} {off : Int} {tgt : Nat} (hd : decode (mC k) pc = .ok (.if_icmp .gt off, 3)) (ht : (pc : Int) + off = (tgt : Int)) (kt : y < x → x_V S k tgt L st μ n Q) (kf : ¬ y < x → x_V S k (pc + 3) L st μ n Q) : x_V S k pc L (.int y :: .int x :: st) μ n Q := by
  intro w p l e R s m args below meth c H locs cells slots ls hG
  exact lv_icmp_gt hG.1.1 hG.1.2.1 hd ht (fun h => kt h w p l e R s m args below meth c H locs cells slots ls ⟨hG.1, hG.2.1, hG.2.2.1, x_tl (x_tl hG.2.2.2.1), hG.2.2.2.2⟩) (fun h => kf h w p l e R s m args below meth c H locs cells slots ls ⟨hG.1, hG.2.1, hG.2.2.1, x_tl (x_tl hG.2.2.2.1), hG.2.2.2.2⟩)
theorem x_if_le {x : Int32} {off : Int} {tgt : Nat} (hd : decode (mC k) pc = .ok (.ifCond .le off, 3)) (ht : (pc : Int) + off = (tgt : Int)) (kt : x ≤ 0 → x_V S k tgt L st μ n Q) (kf : ¬ x ≤ 0 → x_V S k (pc + 3) L st μ n Q) : x_V S k pc L (.int x :: st) μ n Q := by
  intro w p l e R s m args below meth c H locs cells slots ls hG
  exact lv_if_le hG.1.1 hG.1.2.1 hd ht (fun h => kt h w p l e R s m args below meth c H locs cells slots ls ⟨hG.1, hG.2.1, hG.2.2.1, x_tl hG.2.2.2.1, hG.2.2.2.2⟩) (fun h => kf h w p l e R s m args below meth c H locs cells slots ls ⟨hG.1, hG.2.1, hG.2.2.1, x_tl hG.2.2.2.1, hG.2.2.2.2⟩)
theorem x_icmp_le {x y : Int32} {off : Int} {tgt : Nat} (hd : decode (mC k) pc = .ok (.if_icmp .le off, 3)) (ht : (pc : Int) + off = (tgt : Int)) (kt : x ≤ y → x_V S k tgt L st μ n Q) (kf : ¬ x ≤ y → x_V S k (pc + 3) L st μ n Q) : x_V S k pc L (.int y :: .int x :: st) μ n Q := by
  intro w p l e R s m args below meth c H locs cells slots ls hG
  exact lv_icmp_le hG.1.1 hG.1.2.1 hd ht (fun h => kt h w p l e R s m args below meth c H locs cells slots ls ⟨hG.1, hG.2.1, hG.2.2.1, x_tl (x_tl hG.2.2.2.1), hG.2.2.2.2⟩) (fun h => kf h w p l e R s m args below meth c H locs cells slots ls ⟨hG.1, hG.2.1, hG.2.2.1, x_tl (x_tl hG.2.2.2.1), hG.2.2.2.2⟩)
theorem x_iload_n {j : Fin 4} {x : Int32} (hd : decode (mC k) pc = .ok (.iload_n j, 1)) (hl : L[(j : Nat)]? = some (some (.int x))) (h : x_V S k (pc + 1) L (.int x :: st) μ n Q) : x_V S k pc L st μ n Q := by
  intro w p l e R s m args below meth c H locs cells slots ls hG
  exact lv_iload_n hG.1.1 hG.1.2.1 hd rfl (hG.2.2.1.2.2.2 _ _ hl).1 (h w p l e R s m args below meth c H locs cells slots ls ⟨hG.1, hG.2.1, hG.2.2.1, x_cs (x_ok_int _ _) hG.2.2.2.1, hG.2.2.2.2⟩)
theorem x_iload {j : Nat} {x : Int32} (hd : decode (mC k) pc = .ok (.iload j, 2)) (hl : L[j]? = some (some (.int x))) (h : x_V S k (pc + 2) L (.int x :: st) μ n Q) : x_V S k pc L st μ n Q := by
  intro w p l e R s m args below meth c H locs cells slots ls hG
  exact lv_iload hG.1.1 hG.1.2.1 hd (hG.2.2.1.2.2.2 _ _ hl).1 (h w p l e R s m args below meth c H locs cells slots ls ⟨hG.1, hG.2.1, hG.2.2.1, x_cs (x_ok_int _ _) hG.2.2.2.1, hG.2.2.2.2⟩)
theorem x_aload_n {j : Fin 4} {a : Nat} (hd : decode (mC k) pc = .ok (.aload_n j, 1)) (hl : L[(j : Nat)]? = some (some (.ref a))) (h : x_V S k (pc + 1) L (.ref a :: st) μ n Q) : x_V S k pc L st μ n Q := by
  intro w p l e R s m args below meth c H locs cells slots ls hG
  exact lv_aload_n hG.1.1 hG.1.2.1 hd rfl (hG.2.2.1.2.2.2 _ _ hl).1 (h w p l e R s m args below meth c H locs cells slots ls ⟨hG.1, hG.2.1, hG.2.2.1, x_cs (hG.2.2.1.2.2.2 _ _ hl).2.2 hG.2.2.2.1, hG.2.2.2.2⟩)
theorem x_aload_nN {j : Fin 4} (hd : decode (mC k) pc = .ok (.aload_n j, 1)) (hl : L[(j : Nat)]? = some (some .null)) (h : x_V S k (pc + 1) L (.null :: st) μ n Q) : x_V S k pc L st μ n Q := by
  intro w p l e R s m args below meth c H locs cells slots ls hG
  exact lv_aload_nN hG.1.1 hG.1.2.1 hd rfl (hG.2.2.1.2.2.2 _ _ hl).1 (h w p l e R s m args below meth c H locs cells slots ls ⟨hG.1, hG.2.1, hG.2.2.1, x_cs (x_ok_null _) hG.2.2.2.1, hG.2.2.2.2⟩)
theorem x_aload {j : Nat} {a : Nat} (hd : decode (mC k) pc = .ok (.aload j, 2)) (hl : L[j]? = some (some (.ref a))) (h : x_V S k (pc + 2) L (.ref a :: st) μ n Q) : x_V S k pc L st μ n Q := by
  intro w p l e R s m args below meth c H locs cells slots ls hG
  exact lv_aload hG.1.1 hG.1.2.1 hd (hG.2.2.1.2.2.2 _ _ hl).1 (h w p l e R s m args below meth c H locs cells slots ls ⟨hG.1, hG.2.1, hG.2.2.1, x_cs (hG.2.2.1.2.2.2 _ _ hl).2.2 hG.2.2.2.1, hG.2.2.2.2⟩)
theorem x_aloadN {j : Nat} (hd : decode (mC k) pc = .ok (.aload j, 2)) (hl : L[j]? = some (some .null)) (h : x_V S k (pc + 2) L (.null :: st) μ n Q) : x_V S k pc L st μ n Q := by
  intro w p l e R s m args below meth c H locs cells slots ls hG
  exact lv_aloadN hG.1.1 hG.1.2.1 hd (hG.2.2.1.2.2.2 _ _ hl).1 (h w p l e R s m args below meth c H locs cells slots ls ⟨hG.1, hG.2.1, hG.2.2.1, x_cs (x_ok_null _) hG.2.2.2.1, hG.2.2.2.2⟩)
theorem x_istore_n {j : Fin 4} {x : Int32} (hd : decode (mC k) pc = .ok (.istore_n j, 1)) (hj : (j : Nat) < mL k) (h : x_V S k (pc + 1) (L.set (j : Nat) (some (.int x))) st μ n Q) : x_V S k pc L (.int x :: st) μ n Q := by
  intro w p l e R s m args below meth c H locs cells slots ls hG
  exact lv_istore_n hG.1.1 hG.1.2.1 hd rfl (x_L_has hG.2.2.1) hj rfl (fun ls' hl => h w p l e R s m args below meth c H locs cells slots ls' ⟨hG.1, hG.2.1, x_L_set hG.2.2.1 rfl (x_ok_int _ _) hl, x_tl hG.2.2.2.1, hG.2.2.2.2⟩)
theorem x_astore_n {j : Fin 4} {a : Nat} (hd : decode (mC k) pc = .ok (.astore_n j, 1)) (hj : (j : Nat) < mL k) (h : x_V S k (pc + 1) (L.set (j : Nat) (some (.ref a))) st μ n Q) : x_V S k pc L (.ref a :: st) μ n Q := by
  intro w p l e R s m args below meth c H locs cells slots ls hG
  exact lv_astore_n hG.1.1 hG.1.2.1 hd rfl (x_L_has hG.2.2.1) hj rfl (fun ls' hl => h w p l e R s m args below meth c H locs cells slots ls' ⟨hG.1, hG.2.1, x_L_set hG.2.2.1 rfl (x_hd hG.2.2.2.1) hl, x_tl hG.2.2.2.1, hG.2.2.2.2⟩)
theorem x_astore_nN {j : Fin 4}  (hd : decode (mC k) pc = .ok (.astore_n j, 1)) (hj : (j : Nat) < mL k) (h : x_V S k (pc + 1) (L.set (j : Nat) (some (.null))) st μ n Q) : x_V S k pc L (.null :: st) μ n Q := by
  intro w p l e R s m args below meth c H locs cells slots ls hG
  exact lv_astore_nN hG.1.1 hG.1.2.1 hd rfl (x_L_has hG.2.2.1) hj rfl (fun ls' hl => h w p l e R s m args below meth c H locs cells slots ls' ⟨hG.1, hG.2.1, x_L_set hG.2.2.1 rfl (x_ok_null _) hl, x_tl hG.2.2.2.1, hG.2.2.2.2⟩)
theorem x_istore {j : Nat} {x : Int32} (hd : decode (mC k) pc = .ok (.istore j, 2)) (hj : j < mL k) (h : x_V S k (pc + 2) (L.set j (some (.int x))) st μ n Q) : x_V S k pc L (.int x :: st) μ n Q := by
  intro w p l e R s m args below meth c H locs cells slots ls hG
  exact lv_istore hG.1.1 hG.1.2.1 hd (x_L_has hG.2.2.1) hj rfl (fun ls' hl => h w p l e R s m args below meth c H locs cells slots ls' ⟨hG.1, hG.2.1, x_L_set hG.2.2.1 rfl (x_ok_int _ _) hl, x_tl hG.2.2.2.1, hG.2.2.2.2⟩)
theorem x_astore {j : Nat} {a : Nat} (hd : decode (mC k) pc = .ok (.astore j, 2)) (hj : j < mL k) (h : x_V S k (pc + 2) (L.set j (some (.ref a))) st μ n Q) : x_V S k pc L (.ref a :: st) μ n Q := by
  intro w p l e R s m args below meth c H locs cells slots ls hG
  exact lv_astore hG.1.1 hG.1.2.1 hd (x_L_has hG.2.2.1) hj rfl (fun ls' hl => h w p l e R s m args below meth c H locs cells slots ls' ⟨hG.1, hG.2.1, x_L_set hG.2.2.1 rfl (x_hd hG.2.2.2.1) hl, x_tl hG.2.2.2.1, hG.2.2.2.2⟩)
theorem x_astoreN {j : Nat}  (hd : decode (mC k) pc = .ok (.astore j, 2)) (hj : j < mL k) (h : x_V S k (pc + 2) (L.set j (some (.null))) st μ n Q) : x_V S k pc L (.null :: st) μ n Q := by
  intro w p l e R s m args below meth c H locs cells slots ls hG
  exact lv_astoreN hG.1.1 hG.1.2.1 hd (x_L_has hG.2.2.1) hj rfl (fun ls' hl => h w p l e R s m args below meth c H locs cells slots ls' ⟨hG.1, hG.2.1, x_L_set hG.2.2.1 rfl (x_ok_null _) hl, x_tl hG.2.2.2.1, hG.2.2.2.2⟩)
theorem x_iinc {j : Nat} {z : Int} {x v : Int32} (hd : decode (mC k) pc = .ok (.iinc j z, 3)) (hl : L[j]? = some (some (.int x))) (hv : x + Int32.ofInt z = v) (hj : j < mL k) (h : x_V S k (pc + 3) (L.set j (some (.int v))) st μ n Q) : x_V S k pc L st μ n Q := by
  intro w p l e R s m args below meth c H locs cells slots ls hG
  obtain ⟨i, hi⟩ := List.getElem?_of_mem (x_lv_in (w := w) hl)
  exact lv_iinc hG.1.1 hG.1.2.1 hd (x_L_has hG.2.2.1) hi hv hj rfl (fun ls' hl => h w p l e R s m args below meth c H locs cells slots ls' ⟨hG.1, hG.2.1, x_L_set hG.2.2.1 rfl (x_ok_int _ _) hl, hG.2.2.2.1, hG.2.2.2.2⟩)
theorem x_ldc {i : Nat} {v : Int32} (hd : decode (mC k) pc = .ok (.ldc i, 2)) (hw : Jvm.Cond.constant (mY k).cls i v ∈ x_Ts) (h : x_V S k (pc + 2) L (.int v :: st) μ n Q) : x_V S k pc L st μ n Q := by
  intro w p l e R s m args below meth c H locs cells slots ls hG
  exact lv_ldc hG.1.1 hG.1.2.1 hG.1.2.2.2.2.2.1 (hG.1.2.2.2.2.2.2.1 _ hw) hd (h w p l e R s m args below meth c H locs cells slots ls ⟨hG.1, hG.2.1, hG.2.2.1, x_cs (x_ok_int _ _) hG.2.2.2.1, hG.2.2.2.2⟩)
/-- the end of a method -/
theorem x_mq {w : xW} {R : Room} {s : State} {below : List Frame} {args : Array Value} {H : Heap} {cells slots : Nat} {v : Option Value} (hR : x_R w μ n H) (hrm : x_rm n cells slots R) (hv : ∀ y, v = some y → x_ok n y) (h : Q (.inl v) μ n) (t : State)
    (hq : MQ below (fun _ _ o t => o = .returned (v.map (x_cv w)) ∧ t.heap = H) args s cells slots (fun q => w.1 ≤ q) t) : x_F w R s below Q t := by
  obtain ⟨o, h1, h2, ⟨h3, h4⟩, L', ⟨-, h5, h6⟩, h7⟩ := hq
  exact ⟨.inl v, μ, n, o, L', cells, slots, h, h1, h2, ⟨h3, hv⟩, by rw [h4]; exact hR, h5, h6, h7, hrm⟩
theorem x_mono {p : Program} {l : Launch} {e : Env} {R : Room} {s : State} {m : MethodId} {args : Array Value} {below : List Frame} {meth : Method} {c : Code} {H : Heap} {locs : List Loc} {cells slots : Nat} {P P' : State → Prop} {g : JFrame} (hPP : ∀ t, P t → P' t) (h : W p l e R s m args below meth c H locs cells slots P g) : W p l e R s m args below meth c H locs cells slots P' g := by
  intro T hT X
  obtain ⟨t, h1, h2⟩ := h T hT X
  exact ⟨t, h1, hPP t h2⟩
theorem x_ireturn {ty : FieldType} {v : Int32} (hd : decode (mC k) pc = .ok (.ireturn, 1)) (hr : mR k = some ty) (hn : narrow ty (.int v) = .int v) (h : Q (.inl (some (.int v))) μ n) : x_V S k pc L [.int v] μ n Q := by
  intro w p l e R s m args below meth c H locs cells slots ls hG
  have hlk : meth.locks = false := hG.1.2.2.2.2.1
  exact x_mono (x_mq (v := some (.int v)) hG.2.1 hG.2.2.2.2.2 (fun y hy => by cases hy; exact x_ok_int _ _) h) (W.zret hG.1.1 hG.1.2.1 (hG.1.2.2.2.1.trans hr) hn (fun t ht _ => ⟨rfl, ht⟩) hG.2.2.2.2.1 hd)
theorem x_return (hd : decode (mC k) pc = .ok (.return_, 1)) (hr : mR k = none) (h : Q (.inl none) μ n) : x_V S k pc L [] μ n Q := by
  intro w p l e R s m args below meth c H locs cells slots ls hG
  have hlk : meth.locks = false := hG.1.2.2.2.2.1
  exact x_mono (x_mq (v := none) hG.2.1 hG.2.2.2.2.2 (fun y hy => by cases hy) h) (W.vret hG.1.1 hG.1.2.1 (hG.1.2.2.2.1.trans hr) (fun t ht _ => ⟨rfl, ht⟩) hG.2.2.2.2.1 hd)
theorem x_areturn {ty : FieldType} {v : Value} (hd : decode (mC k) pc = .ok (.areturn, 1)) (hr : mR k = some ty) (hty : (∃ q, ty = .object q) ∨ ∃ t, ty = .array t) (hv : v = .null ∨ ∃ a, v = .ref a) (h : Q (.inl (some v)) μ n) : x_V S k pc L [v] μ n Q := by
  intro w p l e R s m args below meth c H locs cells slots ls hG
  have hlk : meth.locks = false := hG.1.2.2.2.2.1
  refine x_mono (x_mq (v := some v) hG.2.1 hG.2.2.2.2.2 (fun y hy => by cases hy; exact x_hd hG.2.2.2.1) h) (W.aret hG.1.1 hG.1.2.1 (hG.1.2.2.2.1.trans hr) hty ?_ (fun t ht _ => ⟨rfl, ht⟩) hG.2.2.2.2.1 hd)
  rcases hv with e | ⟨a, e⟩
  · rw [e]; exact Or.inl rfl
  · rw [e]; exact Or.inr ⟨_, rfl⟩
end XR
end
section
/-! 04.heap: rows that read and write cells, and make them. -/
section XH
/-- what a class of ours brings: its row in the table of classes, its fields' words, types and names -/
def x_CF (ci : Nat) (C : String) (T : u_T) (N : Nat) (ty : Nat → FieldType) : Prop :=
  x_cl[ci]? = some (C, T, N) ∧ (∀ q ∈ u_ws C T N, q ∈ x_Ts) ∧ (∀ k, k < N → parseFieldDescriptor (T k).2.2.1 = some (ty k)) ∧ (∀ a, a < N → ∀ b, b < N → a ≠ b → (T a).2.1 ≠ (T b).2.1) ∧ ci < 50 ∧ Cond.instantiable C N ∈ x_Ts ∧ Cond.initialized C ∈ x_Ts
theorem x_sh2 {j c N : Nat} (h : x_sh j = (c, N)) (hc : c ≠ 98) : 2 ≤ j := by
  rcases Nat.lt_or_ge j 2 with h1 | h1
  · exfalso
    have : x_sh j = (98, 0) := by
      rcases (show j = 0 ∨ j = 1 by omega) with e | e <;> rw [e] <;> rfl
    rw [this] at h
    cases h
    exact hc rfl
  · exact h1
theorem x_cell_kept {w : xW} {μ μ' : xM} {j : Nat} {H H' : Heap} (h : x_cell w μ j H) (hH : H'[x_ad w j]? = H[x_ad w j]?) (hμ : ∀ i, μ' j i = μ j i) : x_cell w μ' j H' := by
  have e : μ' j = μ j := funext hμ
  unfold x_cell at h ⊢
  rw [e]
  split at h
  · rename_i h1
    rw [if_pos h1]
    exact h.kept hH
  · rename_i h1
    rw [if_neg h1]
    split at h
    · rename_i h2
      rw [if_pos h2]
      obtain ⟨cell, h3, h4⟩ := h
      exact ⟨cell, hH.trans h3, h4⟩
    · rename_i h2
      rw [if_neg h2]
      exact hH.trans h
theorem x_ad_ne {w : xW} {i j : Nat} (hi : 2 ≤ i) (hj : 2 ≤ j) (h : i ≠ j) : x_ad w i ≠ x_ad w j := by
  rw [x_ad2 hi, x_ad2 hj]
  omega
theorem x_up_ne {μ : xM} {a i b : Nat} {v : Value} (h : b ≠ a) (j : Nat) : x_up μ a i v b j = μ b j := by
  unfold x_up
  rw [if_neg (fun e => h e.1)]
theorem x_R_set {w : xW} {μ : xM} {n a i : Nat} {v : Value} {H H' : Heap} (hR : x_R w μ n H) (ha2 : 2 ≤ a) (ha : a < n) (hv : x_ok n v) (hc : x_cell w (x_up μ a i v) a H') (z : H'.size = H.size) (o : ∀ q : Nat, q ≠ x_ad w a → H'[q]? = H[q]?) : x_R w (x_up μ a i v) n H' := by
  obtain ⟨h1, h2, h3, h4, h5⟩ := hR
  refine ⟨h1, z.trans h2, fun q hq => ?_, fun j hj2 hj => ?_, fun j y => ?_⟩
  · rw [o q (by rw [x_ad2 ha2]; omega)]
    exact h3 q hq
  · by_cases e : j = a
    · rw [e]; exact hc
    · exact x_cell_kept (h4 j hj2 hj) (o _ (x_ad_ne hj2 ha2 e)) (x_up_ne e)
  · unfold x_up
    split
    · exact hv
    · exact h5 j y
theorem x_R_new {w : xW} {μ μ' : xM} {n : Nat} {H H' : Heap} (hR : x_R w μ n H) (hμ : ∀ j i, j ≠ n → μ' j i = μ j i) (hv : ∀ i, x_ok (n + 1) (μ' n i)) (hc : x_cell w μ' n H') (z : H'.size = H.size + 1) (o : ∀ q : Nat, q < H.size → H'[q]? = H[q]?) : x_R w μ' (n + 1) H' := by
  obtain ⟨h1, h2, h3, h4, h5⟩ := hR
  refine ⟨by omega, by omega, fun q hq => ?_, fun j hj2 hj => ?_, fun j y => ?_⟩
  · rw [o q (by omega)]
    exact h3 q hq
  · by_cases e : j = n
    · rw [e]; exact hc
    · exact x_cell_kept (h4 j hj2 (by omega)) (o _ (by rw [x_ad2 hj2]; omega)) (fun i => hμ j i e)
  · by_cases e : j = n
    · rw [e]; exact hv y
    · rw [hμ j y e]; exact x_ok_mono (h5 j y) (by omega)
theorem x_obj {w : xW} {μ : xM} {n j ci N : Nat} {H : Heap} (hR : x_R w μ n H) (hj : j < n) (hs : x_sh j = (ci, N)) (hc : ci < 50) : t_OB (x_ad w j) (w.2.2.2.2.1.1 ci) N (w.2.2.2.2.1.2 ci) H (fun i => x_cv w (μ j i)) := by
  have h := hR.2.2.2.1 j (x_sh2 hs (by omega)) hj
  unfold x_cell at h
  rw [hs, if_pos hc] at h
  exact h
theorem x_arr {w : xW} {μ : xM} {n j ci N : Nat} {H : Heap} (hR : x_R w μ n H) (hj : j < n) (hs : x_sh j = (ci, N)) (hc : 100 ≤ ci) : H[x_ad w j]? = some (arrV (w.2.2.2.2.2 ci) N (fun i => x_cv w (μ j i))) := by
  have h := hR.2.2.2.1 j (x_sh2 hs (by omega)) hj
  unfold x_cell at h
  rw [hs, if_neg (show ¬ ci < 50 by omega), if_neg (show ¬ ci < 100 by omega)] at h
  exact h
theorem x_cell_obj {w : xW} {μ : xM} {j ci N : Nat} {H : Heap} (hs : x_sh j = (ci, N)) (hc : ci < 50) (h : t_OB (x_ad w j) (w.2.2.2.2.1.1 ci) N (w.2.2.2.2.1.2 ci) H (fun i => x_cv w (μ j i))) : x_cell w μ j H := by
  unfold x_cell
  rw [hs, if_pos hc]
  exact h
theorem x_cell_arr {w : xW} {μ : xM} {j ci N : Nat} {H : Heap} (hs : x_sh j = (ci, N)) (hc : 100 ≤ ci) (h : H[x_ad w j]? = some (arrV (w.2.2.2.2.2 ci) N (fun i => x_cv w (μ j i)))) : x_cell w μ j H := by
  unfold x_cell
  rw [hs, if_neg (show ¬ ci < 50 by omega), if_neg (show ¬ ci < 100 by omega)]
  exact h
theorem x_ok_self (n : Nat) : x_ok (n + 1) (.ref n) := fun x hx => by
  cases hx
  exact Nat.lt_succ_self n
theorem x_def_cv (w : xW) (t : FieldType) : x_cv w (defaultValue t) = defaultValue t := by cases t <;> rfl
theorem x_def_ok (n : Nat) (t : FieldType) : x_ok n (defaultValue t) := fun x h => by cases t <;> cases h
theorem x_arr_up {w : xW} {μ : xM} {a i N : Nat} {cA : ClassId} {v : Value} : (arrV cA N (fun j => x_cv w (μ a j))).setSlot i (x_cv w v) = arrV cA N (fun j => x_cv w (x_up μ a i v a j)) := by
  rw [arrV_store]
  congr 1
  funext q
  unfold updV x_up
  by_cases e : q = i
  · rw [if_pos e, if_pos ⟨rfl, e⟩]
  · rw [if_neg e, if_neg (fun h => e h.2)]
variable {S : Nat × (Nat → Int32)} {k pc : Nat} {L : List (Option Value)} {st : List Value} {μ : xM} {n : Nat} {Q : xQ}
theorem x_get {ci N i idx a : Nat} {C : String} {T : u_T} {ty : Nat → FieldType} (hF : x_CF ci C T N ty) (hd : decode (mC k) pc = .ok (.getfield idx, 3)) (hi : i < N) (hl : Cond.fieldLink (mY k).cls idx (T i).1 (T i).2.1 (T i).2.2.1 ∈ x_Ts) (hs : x_sh a = (ci, N)) (h : x_V S k (pc + 3) L (μ a i :: st) μ n Q) : x_V S k pc L (.ref a :: st) μ n Q := by
  intro w p l e R s m args below meth c H locs cells slots ls hG
  obtain ⟨hc, hin, hty, hnm, h50, -, -⟩ := hF
  obtain ⟨cell, q1, q2, q3, q4⟩ := x_obj hG.2.1 (x_hd hG.2.2.2.1 a rfl) hs h50
  obtain ⟨hS, hfc, kC, hkC, hkind⟩ := hG.1.2.2.2.2.2.2.2.1.1 ci _ hc
  obtain ⟨cf, kf, fi, f, hi', hsl⟩ := hS i hi
  have hts := hG.1.2.2.2.2.2.2.1
  refine W.getf hG.1.1 hG.1.2.1 hG.1.2.2.2.2.2.1 (hts _ hl) hi' (u_facts hfc hkC (u_lays hts hin hi) hi').1 q1 (by rw [q3]; exact fun h => by cases h) (v := x_cv w (μ a i)) (by rw [hsl]; exact q4 i hi) rfl rfl hd ?_
  exact h w p l e R s m args below meth c H locs cells slots ls ⟨hG.1, hG.2.1, hG.2.2.1, x_cs (hG.2.1.2.2.2.2 a i) (x_tl hG.2.2.2.1), hG.2.2.2.2⟩
theorem x_apart {w : xW} {s : State} {args : Array Value} {ci N : Nat} {C : String} {T : u_T} {ty : Nat → FieldType} (hF : x_CF ci C T N ty) (hts : ∀ q ∈ x_Ts, q.before args s = true) (hK : x_K S w s) : ∀ x y, x < N → y < N → x ≠ y → (w.2.2.2.2.1.2 ci) x ≠ (w.2.2.2.2.1.2 ci) y :=
  va_apart (own := C) (tys := []) hts hF.2.1 ty hF.2.2.1 hF.2.2.2.1 ⟨hK.1, fun k q h => by simp at h⟩ hF.1
theorem x_OB_up {w : xW} {μ : xM} {a i N cC slot : Nat} {iS : Nat → Nat} {H : Heap} {cell : Cell} {v : Value} (q1 : H[x_ad w a]? = some (cell.setSlot slot (x_cv w v))) (q2 : cell.cls = cC) (q3 : cell.vm = .none) (q4 : ∀ k, k < N → cell.slots[iS k]? = some (x_cv w (μ a k))) (hs : iS i = slot) (hap : ∀ x y, x < N → y < N → x ≠ y → iS x ≠ iS y) (hi : i < N) : t_OB (x_ad w a) cC N iS H (fun j => x_cv w (x_up μ a i v a j)) := by
  subst hs
  refine t_OB.to (V := updV (fun j => x_cv w (μ a j)) i (x_cv w v)) ⟨_, q1, q2, q3, t_set q4 hap hi _⟩ (fun j _ => ?_)
  unfold updV x_up
  by_cases e : j = i
  · rw [if_pos e, if_pos ⟨rfl, e⟩]
  · rw [if_neg e, if_neg (fun h => e h.2)]
theorem x_lo {w : xW} {locs : List Loc} {a i : Nat} (h : ∀ q ∈ locs, w.1 ≤ q.base) (ha : 2 ≤ a) : ∀ q ∈ locs ++ [⟨x_ad w a, i⟩], w.1 ≤ q.base := by
  intro q hq
  rcases List.mem_append.mp hq with h1 | h1
  · exact h q h1
  · rw [List.mem_singleton.mp h1]
    show w.1 ≤ x_ad w a
    rw [x_ad2 ha]
    omega
theorem x_put {ci N i idx a : Nat} {C : String} {T : u_T} {ty : Nat → FieldType} {v : Value} (hF : x_CF ci C T N ty) (hd : decode (mC k) pc = .ok (.putfield idx, 3)) (hi : i < N) (hfin : (T i).2.2.2 = false) (hl : Cond.fieldLink (mY k).cls idx (T i).1 (T i).2.1 (T i).2.2.1 ∈ x_Ts) (hs : x_sh a = (ci, N)) (hn : ∀ w, narrow (ty i) (x_cv w v) = x_cv w v ∧ fits (ty i) (x_cv w v) = true) (h : x_V S k (pc + 3) L st (x_up μ a i v) n Q) : x_V S k pc L (v :: .ref a :: st) μ n Q := by
  intro w p l e R s m args below meth c H locs cells slots ls hG
  have hts := hG.1.2.2.2.2.2.2.1
  have hap := x_apart (S := S) hF hts hG.1.2.2.2.2.2.2.2.1
  obtain ⟨hc, hin, hty, hnm, h50, -, -⟩ := hF
  have ha := x_hd (x_tl hG.2.2.2.1) a rfl
  have ha2 : 2 ≤ a := x_sh2 hs (by omega)
  obtain ⟨cell, q1, q2, q3, q4⟩ := x_obj hG.2.1 ha hs h50
  obtain ⟨hS, hfc, kC, hkC, hkind⟩ := hG.1.2.2.2.2.2.2.2.1.1 ci _ hc
  obtain ⟨cf, kf, fi, f, hi', hsl⟩ := hS i hi
  have hlay := hts _ (hin _ (u_in_lay hi))
  unfold u_lay at hlay
  rw [if_neg (by rw [hfin]; decide)] at hlay
  have hst := (u_facts hfc hkC (u_lays hts hin hi) hi').1
  have h6 := u_store hfc hkC hkind hlay hi' (hty i hi) (hn w).1 (hn w).2
  refine W.putK hG.1.1 hG.1.2.1 (f := f) ⟨hG.1.2.2.2.2.2.1, hts _ hl, ⟨_, _, _, hi'⟩, hst⟩ (by rw [q2]; exact h6) q1 q3 (by rw [hsl]; exact k2_hasslot (q4 i hi)) rfl rfl hd fun H' e1 e2 e3 => ?_
  refine h w p l e R s m args below meth c H' _ cells slots ls ⟨hG.1, x_R_set hG.2.1 ha2 ha (x_hd hG.2.2.2.1) ?_ e2 e3, hG.2.2.1, x_tl (x_tl hG.2.2.2.1), x_lo hG.2.2.2.2.1 ha2, hG.2.2.2.2.2⟩
  exact x_cell_obj hs h50 (x_OB_up e1 q2 q3 q4 hsl.symm hap hi)
theorem x_putF {ci N i idx a : Nat} {C : String} {T : u_T} {ty : Nat → FieldType} {v : Value} (hF : x_CF ci C T N ty) (hd : decode (mC k) pc = .ok (.putfield idx, 3)) (hi : i < N) (hfin : (T i).2.2.2 = true) (hini : (mY k).name = "<init>") (hdecl : (T i).1 = (mY k).cls) (hl : Cond.fieldLink (mY k).cls idx (T i).1 (T i).2.1 (T i).2.2.1 ∈ x_Ts) (hs : x_sh a = (ci, N)) (hn : ∀ w, narrow (ty i) (x_cv w v) = x_cv w v ∧ fits (ty i) (x_cv w v) = true) (h : x_V S k (pc + 3) L st (x_up μ a i v) n Q) : x_V S k pc L (v :: .ref a :: st) μ n Q := by
  intro w p l e R s m args below meth c H locs cells slots ls hG
  have hts := hG.1.2.2.2.2.2.2.1
  have hown := hG.1.2.2.2.2.2.1
  have hap := x_apart (S := S) hF hts hG.1.2.2.2.2.2.2.2.1
  obtain ⟨hc, hin, hty, hnm, h50, -, -⟩ := hF
  have ha := x_hd (x_tl hG.2.2.2.1) a rfl
  have ha2 : 2 ≤ a := x_sh2 hs (by omega)
  obtain ⟨cell, q1, q2, q3, q4⟩ := x_obj hG.2.1 ha hs h50
  obtain ⟨hS, hfc, kC, hkC, hkind⟩ := hG.1.2.2.2.2.2.2.2.1.1 ci _ hc
  obtain ⟨cf, kf, fi, f, hi', hsl⟩ := hS i hi
  have hlay := hts _ (hin _ (u_in_lay hi))
  unfold u_lay at hlay
  rw [if_pos hfin] at hlay
  have hst := (u_facts hfc hkC (u_lays hts hin hi) hi').1
  have hcf : m.cls = cf := by
    obtain ⟨_, _, c', _, _, _, -, -, hf', -, -, -, hown2, -⟩ := Cond.laysFinal_spec hlay
    have e1 : c' = cf := by have := hi'.symm.trans hf'; simp at this; exact this.1.symm
    rw [hdecl] at hown2
    rw [← e1]; exact Option.some.inj (hown.symm.trans hown2)
  have h6 := u_fits hfc hkC hkind (Or.inr hlay) hi' (hty i hi) (hn w).1 (hn w).2
  refine W.putFinK hG.1.1 hG.1.2.1 hown (hts _ hl) hi' hst hcf (hG.1.2.2.2.2.2.2.2.2.2.2.1.trans hini) (by rw [q2]; exact h6) q1 q3 (by rw [hsl]; exact k2_hasslot (q4 i hi)) rfl rfl hd fun H' e1 e2 e3 => ?_
  refine h w p l e R s m args below meth c H' _ cells slots ls ⟨hG.1, x_R_set hG.2.1 ha2 ha (x_hd hG.2.2.2.1) ?_ e2 e3, hG.2.2.1, x_tl (x_tl hG.2.2.2.1), x_lo hG.2.2.2.2.1 ha2, hG.2.2.2.2.2⟩
  exact x_cell_obj hs h50 (x_OB_up e1 q2 q3 q4 hsl.symm hap hi)
theorem x_tys : x_ty 100 = .int ∧ x_ty 101 = .boolean ∧ x_ty 102 = .long := ⟨rfl, rfl, rfl⟩
theorem x_hinV {cA : ClassId} {N : Nat} {f : Nat → Value} {i : Int32} (hi : vp_in i N) : ¬ (i < 0 ∨ (arrV cA N f).slots.size ≤ i.toNatClampNeg) := by
  rw [arrV_size]; exact hi
theorem x_inlt {N : Nat} {i : Int32} (hi : vp_in i N) : i.toNatClampNeg < N := Nat.not_le.mp fun q => hi (Or.inr q)
theorem x_iald {N a : Nat} {i : Int32} (hd : decode (mC k) pc = .ok (.iaload, 1)) (hs : x_sh a = (100, N)) (hi : vp_in i N) (h : x_V S k (pc + 1) L (μ a i.toNatClampNeg :: st) μ n Q) : x_V S k pc L (.int i :: .ref a :: st) μ n Q := by
  intro w p l e R s m args below meth c H locs cells slots ls hG
  have q1 := x_arr hG.2.1 (x_hd (x_tl hG.2.2.2.1) a rfl) hs (by omega)
  refine W.iald hG.1.1 hG.1.2.1 q1 ((hG.1.2.2.2.2.2.2.2.1.2.1 100 (by omega) (by omega)).1 N _) (fun q => by cases q) (x_hinV hi) (arrV_read _ _ (x_inlt hi)) rfl rfl hd ?_
  exact h w p l e R s m args below meth c H locs cells slots ls ⟨hG.1, hG.2.1, hG.2.2.1, x_cs (hG.2.1.2.2.2.2 a _) (x_tl (x_tl hG.2.2.2.1)), hG.2.2.2.2⟩
theorem x_zald {N a : Nat} {i : Int32} (hd : decode (mC k) pc = .ok (.baload, 1)) (hs : x_sh a = (101, N)) (hi : vp_in i N) (h : x_V S k (pc + 1) L (μ a i.toNatClampNeg :: st) μ n Q) : x_V S k pc L (.int i :: .ref a :: st) μ n Q := by
  intro w p l e R s m args below meth c H locs cells slots ls hG
  have q1 := x_arr hG.2.1 (x_hd (x_tl hG.2.2.2.1) a rfl) hs (by omega)
  refine W.zald hG.1.1 hG.1.2.1 q1 ((hG.1.2.2.2.2.2.2.2.1.2.1 101 (by omega) (by omega)).1 N _) (fun q => by cases q) (x_hinV hi) (arrV_read _ _ (x_inlt hi)) rfl rfl hd ?_
  exact h w p l e R s m args below meth c H locs cells slots ls ⟨hG.1, hG.2.1, hG.2.2.1, x_cs (hG.2.1.2.2.2.2 a _) (x_tl (x_tl hG.2.2.2.1)), hG.2.2.2.2⟩
theorem x_lald {N a : Nat} {i : Int32} (hd : decode (mC k) pc = .ok (.laload, 1)) (hs : x_sh a = (102, N)) (hi : vp_in i N) (h : x_V S k (pc + 1) L (μ a i.toNatClampNeg :: st) μ n Q) : x_V S k pc L (.int i :: .ref a :: st) μ n Q := by
  intro w p l e R s m args below meth c H locs cells slots ls hG
  have q1 := x_arr hG.2.1 (x_hd (x_tl hG.2.2.2.1) a rfl) hs (by omega)
  refine W.lald hG.1.1 hG.1.2.1 q1 ((hG.1.2.2.2.2.2.2.2.1.2.1 102 (by omega) (by omega)).1 N _) (fun q => by cases q) (x_hinV hi) (arrV_read _ _ (x_inlt hi)) rfl rfl hd ?_
  exact h w p l e R s m args below meth c H locs cells slots ls ⟨hG.1, hG.2.1, hG.2.2.1, x_cs (hG.2.1.2.2.2.2 a _) (x_tl (x_tl hG.2.2.2.1)), hG.2.2.2.2⟩
theorem x_aald {N a kd : Nat} {i : Int32} (hd : decode (mC k) pc = .ok (.aaload, 1)) (hs : x_sh a = (kd, N)) (hkd : kd = 103 ∨ kd = 104) (hi : vp_in i N) (h : x_V S k (pc + 1) L (μ a i.toNatClampNeg :: st) μ n Q) : x_V S k pc L (.int i :: .ref a :: st) μ n Q := by
  intro w p l e R s m args below meth c H locs cells slots ls hG
  have q1 := x_arr hG.2.1 (x_hd (x_tl hG.2.2.2.1) a rfl) hs (by omega)
  refine W.aald hG.1.1 hG.1.2.1 q1 ((hG.1.2.2.2.2.2.2.2.1.2.1 kd (by omega) (by omega)).1 N _) (by rcases hkd with e | e <;> rw [e] <;> rfl) (fun q => by cases q) (x_hinV hi) (arrV_read _ _ (x_inlt hi)) rfl rfl hd ?_
  exact h w p l e R s m args below meth c H locs cells slots ls ⟨hG.1, hG.2.1, hG.2.2.1, x_cs (hG.2.1.2.2.2.2 a _) (x_tl (x_tl hG.2.2.2.1)), hG.2.2.2.2⟩
theorem x_alen {N a kd : Nat} {v : Int32} (hd : decode (mC k) pc = .ok (.arraylength, 1)) (hs : x_sh a = (kd, N)) (hkd : 100 ≤ kd ∧ kd < 105) (hv : Int32.ofNat N = v) (h : x_V S k (pc + 1) L (.int v :: st) μ n Q) : x_V S k pc L (.ref a :: st) μ n Q := by
  intro w p l e R s m args below meth c H locs cells slots ls hG
  have q1 := x_arr hG.2.1 (x_hd hG.2.2.2.1 a rfl) hs hkd.1
  refine W.alen (n := v) hG.1.1 hG.1.2.1 q1 ((hG.1.2.2.2.2.2.2.2.1.2.1 kd hkd.1 hkd.2).1 N _) (by rw [arrV_size]; exact hv) rfl rfl hd ?_
  exact h w p l e R s m args below meth c H locs cells slots ls ⟨hG.1, hG.2.1, hG.2.2.1, x_cs (x_ok_int _ _) (x_tl hG.2.2.2.1), hG.2.2.2.2⟩
/-- the static table and the script: read, never written -/
theorem x_oldcell {w : xW} {H : Heap} {q : Nat} {cell : Cell} (hR : x_R w μ n H) (hq : q < w.1) (h : w.2.2.2.1[q]? = some cell) : H[q]? = some cell := (hR.2.2.1 q hq).trans h
theorem x_tald {i : Int32} (hd : decode (mC k) pc = .ok (.iaload, 1)) (hi : vp_in i x_rowsN) (h : x_V S k (pc + 1) L (.int (x_rows i.toNatClampNeg) :: st) μ n Q) : x_V S k pc L (.int i :: .ref 0 :: st) μ n Q := by
  intro w p l e R s m args below meth c H locs cells slots ls hG
  obtain ⟨-, -, ⟨hb1, -, -⟩, ⟨scr, h1, h2, h3, h4, h5, h6, -⟩, -⟩ := hG.1.2.2.2.2.2.2.2.1
  refine W.iald hG.1.1 hG.1.2.1 (x_oldcell hG.2.1 hb1 h1) h2 h3 (fun q => hi (q.imp id (fun z => Nat.le_trans h4 z))) (h6 _ (x_inlt hi)) rfl rfl hd ?_
  exact h w p l e R s m args below meth c H locs cells slots ls ⟨hG.1, hG.2.1, hG.2.2.1, x_cs (x_ok_int _ _) (x_tl (x_tl hG.2.2.2.1)), hG.2.2.2.2⟩
theorem x_tlen (hd : decode (mC k) pc = .ok (.arraylength, 1)) (h : x_V S k (pc + 1) L (.int (Int32.ofNat x_rowsN) :: st) μ n Q) : x_V S k pc L (.ref 0 :: st) μ n Q := by
  intro w p l e R s m args below meth c H locs cells slots ls hG
  obtain ⟨-, -, ⟨hb1, -, -⟩, ⟨scr, h1, h2, h3, h4, h5, h6, -⟩, -⟩ := hG.1.2.2.2.2.2.2.2.1
  refine W.alen (n := Int32.ofNat x_rowsN) hG.1.1 hG.1.2.1 (x_oldcell hG.2.1 hb1 h1) h2 h5 rfl rfl hd ?_
  exact h w p l e R s m args below meth c H locs cells slots ls ⟨hG.1, hG.2.1, hG.2.2.1, x_cs (x_ok_int _ _) (x_tl hG.2.2.2.1), hG.2.2.2.2⟩
theorem x_sald {i : Int32} (hd : decode (mC k) pc = .ok (.iaload, 1)) (hi : vp_in i S.1) (h : x_V S k (pc + 1) L (.int (S.2 i.toNatClampNeg) :: st) μ n Q) : x_V S k pc L (.int i :: .ref 1 :: st) μ n Q := by
  intro w p l e R s m args below meth c H locs cells slots ls hG
  obtain ⟨-, -, ⟨-, hb1, -⟩, -, ⟨scr, h1, h2, h3, h4, h5⟩, -⟩ := hG.1.2.2.2.2.2.2.2.1
  refine W.iald hG.1.1 hG.1.2.1 (x_oldcell hG.2.1 hb1 h1) h2 h3 (by rw [h4]; exact hi) (h5 _ (x_inlt hi)) rfl rfl hd ?_
  exact h w p l e R s m args below meth c H locs cells slots ls ⟨hG.1, hG.2.1, hG.2.2.1, x_cs (x_ok_int _ _) (x_tl (x_tl hG.2.2.2.1)), hG.2.2.2.2⟩
theorem x_slen (hd : decode (mC k) pc = .ok (.arraylength, 1)) (h : x_V S k (pc + 1) L (.int (Int32.ofNat S.1) :: st) μ n Q) : x_V S k pc L (.ref 1 :: st) μ n Q := by
  intro w p l e R s m args below meth c H locs cells slots ls hG
  obtain ⟨-, -, ⟨-, hb1, -⟩, -, ⟨scr, h1, h2, h3, h4, h5⟩, -⟩ := hG.1.2.2.2.2.2.2.2.1
  refine W.alen (n := Int32.ofNat S.1) hG.1.1 hG.1.2.1 (x_oldcell hG.2.1 hb1 h1) h2 (by rw [h4] <;> rfl) rfl rfl hd ?_
  exact h w p l e R s m args below meth c H locs cells slots ls ⟨hG.1, hG.2.1, hG.2.2.1, x_cs (x_ok_int _ _) (x_tl hG.2.2.2.1), hG.2.2.2.2⟩
theorem x_gets {idx : Nat} (hd : decode (mC k) pc = .ok (.getstatic idx, 3)) (hl : Cond.fieldLink (mY k).cls idx x_rowsC x_rowsF "[I" ∈ x_Ts) (h : x_V S k (pc + 3) L (.ref 0 :: st) μ n Q) : x_V S k pc L st μ n Q := by
  intro w p l e R s m args below meth c H locs cells slots ls hG
  obtain ⟨-, -, ⟨hb1, -, hsz⟩, -, -, ⟨cf, kf, fi, f, a, cell, h1, h2, h3, h4, h5, h6, h7, h8⟩, -⟩ := hG.1.2.2.2.2.2.2.2.1
  have ha : a < w.1 := Nat.not_le.mp h8
  refine W.gets hG.1.1 hG.1.2.1 hG.1.2.2.2.2.2.1 (hG.1.2.2.2.2.2.2.1 _ hl) h1 h2 h3 h4 (x_oldcell hG.2.1 ha h5) (fun e => by rw [e] at h6; cases h6) h7 rfl hd ?_
  exact h w p l e R s m args below meth c H locs cells slots ls ⟨hG.1, hG.2.1, hG.2.2.1, x_cs (fun x hx => by cases hx; exact Nat.lt_of_lt_of_le (by omega) hG.2.1.1) hG.2.2.2.1, hG.2.2.2.2⟩
/-- stores into arrays -/
theorem x_iast {N a : Nat} {i x : Int32} (hd : decode (mC k) pc = .ok (.iastore, 1)) (hs : x_sh a = (100, N)) (hi : vp_in i N) (h : x_V S k (pc + 1) L st (x_up μ a i.toNatClampNeg (.int x)) n Q) : x_V S k pc L (.int x :: .int i :: .ref a :: st) μ n Q := by
  intro w p l e R s m args below meth c H locs cells slots ls hG
  have ha := x_hd (x_tl (x_tl hG.2.2.2.1)) a rfl
  have ha2 : 2 ≤ a := x_sh2 hs (by omega)
  have q1 := x_arr hG.2.1 ha hs (by omega)
  refine W.iast hG.1.1 hG.1.2.1 q1 ((hG.1.2.2.2.2.2.2.2.1.2.1 100 (by omega) (by omega)).1 N _) (fun q => by cases q) (x_hinV hi) rfl rfl hd fun H' e1 e2 e3 => ?_
  exact h w p l e R s m args below meth c H' _ cells slots ls ⟨hG.1, x_R_set hG.2.1 ha2 ha (x_ok_int _ _) (x_cell_arr hs (by omega) (e1.trans (congrArg some (x_arr_up (v := .int x))))) e2 e3, hG.2.2.1, x_tl (x_tl (x_tl hG.2.2.2.1)), x_lo hG.2.2.2.2.1 ha2, hG.2.2.2.2.2⟩
theorem x_zast {N a : Nat} {i x : Int32} (hd : decode (mC k) pc = .ok (.bastore, 1)) (hs : x_sh a = (101, N)) (hi : vp_in i N) (hx : narrow .boolean (.int x) = .int x) (h : x_V S k (pc + 1) L st (x_up μ a i.toNatClampNeg (.int x)) n Q) : x_V S k pc L (.int x :: .int i :: .ref a :: st) μ n Q := by
  intro w p l e R s m args below meth c H locs cells slots ls hG
  have ha := x_hd (x_tl (x_tl hG.2.2.2.1)) a rfl
  have ha2 : 2 ≤ a := x_sh2 hs (by omega)
  have q1 := x_arr hG.2.1 ha hs (by omega)
  refine W.zast hG.1.1 hG.1.2.1 q1 ((hG.1.2.2.2.2.2.2.2.1.2.1 101 (by omega) (by omega)).1 N _) (fun q => by cases q) (x_hinV hi) rfl rfl hd fun H' e1 e2 e3 => ?_
  rw [hx] at e1
  exact h w p l e R s m args below meth c H' _ cells slots ls ⟨hG.1, x_R_set hG.2.1 ha2 ha (x_ok_int _ _) (x_cell_arr hs (by omega) (e1.trans (congrArg some (x_arr_up (v := .int x))))) e2 e3, hG.2.2.1, x_tl (x_tl (x_tl hG.2.2.2.1)), x_lo hG.2.2.2.2.1 ha2, hG.2.2.2.2.2⟩
theorem x_last {N a : Nat} {i : Int32} {x : Int64} (hd : decode (mC k) pc = .ok (.lastore, 1)) (hs : x_sh a = (102, N)) (hi : vp_in i N) (h : x_V S k (pc + 1) L st (x_up μ a i.toNatClampNeg (.long x)) n Q) : x_V S k pc L (.long x :: .int i :: .ref a :: st) μ n Q := by
  intro w p l e R s m args below meth c H locs cells slots ls hG
  have ha := x_hd (x_tl (x_tl hG.2.2.2.1)) a rfl
  have ha2 : 2 ≤ a := x_sh2 hs (by omega)
  have q1 := x_arr hG.2.1 ha hs (by omega)
  refine W.last hG.1.1 hG.1.2.1 q1 ((hG.1.2.2.2.2.2.2.2.1.2.1 102 (by omega) (by omega)).1 N _) (fun q => by cases q) (x_hinV hi) rfl rfl hd fun H' e1 e2 e3 => ?_
  exact h w p l e R s m args below meth c H' _ cells slots ls ⟨hG.1, x_R_set hG.2.1 ha2 ha (x_ok_long _ _) (x_cell_arr hs (by omega) (e1.trans (congrArg some (x_arr_up (v := .long x))))) e2 e3, hG.2.2.1, x_tl (x_tl (x_tl hG.2.2.2.1)), x_lo hG.2.2.2.2.1 ha2, hG.2.2.2.2.2⟩
theorem x_aast {N a o kd ci M : Nat} {i : Int32} {C : String} {T : u_T} {ty : Nat → FieldType} (hF : x_CF ci C T M ty) (hd : decode (mC k) pc = .ok (.aastore, 1)) (hs : x_sh a = (kd, N)) (hkd : kd = 103 ∨ kd = 104) (hty : x_ty kd = .object C) (ho : x_sh o = (ci, M)) (hi : vp_in i N) (h : x_V S k (pc + 1) L st (x_up μ a i.toNatClampNeg (.ref o)) n Q) : x_V S k pc L (.ref o :: .int i :: .ref a :: st) μ n Q := by
  intro w p l e R s m args below meth c H locs cells slots ls hG
  have ha := x_hd (x_tl (x_tl hG.2.2.2.1)) a rfl
  have ha2 : 2 ≤ a := x_sh2 hs (by omega)
  have q1 := x_arr hG.2.1 ha hs (by omega)
  obtain ⟨cell, c1, c2, c3, c4⟩ := x_obj hG.2.1 (x_hd hG.2.2.2.1 o rfl) ho hF.2.2.2.2.1
  obtain ⟨-, hat⟩ := hG.1.2.2.2.2.2.2.2.1.1 ci _ hF.1
  obtain ⟨hfc, kC, hkC, hkind⟩ := id hat
  have hRA := (hG.1.2.2.2.2.2.2.2.1.2.1 kd (by omega) (by omega)).2
  rw [hty] at hRA
  obtain ⟨kA, comp, r1, r2, r3, r4⟩ := hRA
  have hcomp : comp = w.2.2.2.2.1.1 ci := Option.some.inj (r3.symm.trans hfc)
  refine W.aast (k := kA) (kv := kC) (kcomp := kC) (comp := comp) (t := .object C) hG.1.1 hG.1.2.1 q1 (fun q e => by cases e) (fun q => by cases q) r1 r2 rfl (by rw [hcomp]; exact hkC) ⟨fun q => hi (Or.inl q), by rw [arrV_size]; exact x_inlt hi⟩ c1 (fun q e => by rw [c3] at e; cases e) (by rw [c2]; exact hkC) (by rw [c2, hcomp]; exact va_assign hat) rfl rfl hd fun H' e1 e2 e3 => ?_
  exact h w p l e R s m args below meth c H' _ cells slots ls ⟨hG.1, x_R_set hG.2.1 ha2 ha (x_hd hG.2.2.2.1) (x_cell_arr hs (by omega) (e1.trans (congrArg some (x_arr_up (v := .ref o))))) e2 e3, hG.2.2.1, x_tl (x_tl (x_tl hG.2.2.2.1)), x_lo hG.2.2.2.2.1 ha2, hG.2.2.2.2.2⟩
/-- making -/
theorem x_rm_new {cells slots N : Nat} {R : Room} (hrm : x_rm n cells slots R) (hn : n < x_NM) (hN : (x_sh n).2 = N) : cells + 1 ≤ R.cells ∧ slots + N ≤ R.slots ∧ x_rm (n + 1) (cells + 1) (slots + N) R := by
  obtain ⟨h1, h2, h3⟩ := hrm
  have h4 : x_sl (n + 1) ≤ x_sl x_NM := x_sl_mono hn
  have h5 : x_sl (n + 1) = x_sl n + N := by rw [← hN]; rfl
  refine ⟨by omega, by omega, by omega, by omega, by omega⟩
theorem x_new {ci N idx : Nat} {C : String} {T : u_T} {ty : Nat → FieldType} (hF : x_CF ci C T N ty) (hd : decode (mC k) pc = .ok (.new idx, 3)) (hl : Cond.classLink (mY k).cls idx C ∈ x_Ts) (hs : x_sh n = (ci, N)) (hn : n < x_NM) (h : x_V S k (pc + 3) L (.ref n :: st) (x_nw μ n (fun i => defaultValue (ty i))) (n + 1) Q) : x_V S k pc L st μ n Q := by
  intro w p l e R s m args below meth c H locs cells slots ls hG
  have hts := hG.1.2.2.2.2.2.2.1
  obtain ⟨hc, hin, hty, hnm, h50, hinst, hini⟩ := hF
  have hKn := hG.1.2.2.2.2.2.2.2.1.1 ci _ hc
  obtain ⟨r1, r2, r3⟩ := x_rm_new hG.2.2.2.2.2 hn (congrArg Prod.snd hs)
  have n2 : 2 ≤ n := hG.2.1.1
  have hsz : H.size = x_ad w n := by rw [x_ad2 n2]; exact hG.2.1.2.1
  refine W.newcK hG.1.1 hG.1.2.1 hG.1.2.2.2.2.2.1 (hts _ hl) (hts _ hinst) (hts _ hini) rfl hd r1 r2 hKn.2.1 hsz fun H' kC hkC e1 e2 e3 => ?_
  have hb := u_born ty hts hin hKn hkC e1 hty
  refine h w p l e R s m args below meth c H' locs _ _ ls ⟨hG.1, x_R_new hG.2.1 (fun j i hj => by unfold x_nw; rw [if_neg hj]) (fun i => by unfold x_nw; rw [if_pos rfl]; exact x_def_ok _ _) (x_cell_obj hs h50 (hb.to fun i _ => ?_)) (by omega) (fun q hq => e3 q (by omega)), x_L_mono hG.2.2.1 (by omega), x_cs (x_ok_self n) (fun u hu => x_ok_mono (hG.2.2.2.1 u hu) (by omega)), hG.2.2.2.2.1, r3⟩
  show defaultValue (ty i) = x_cv w (x_nw μ n (fun i => defaultValue (ty i)) n i)
  unfold x_nw
  rw [if_pos rfl, x_def_cv]
theorem x_newa {kd N : Nat} {atype : ArrayType} {i : Int32} (hd : decode (mC k) pc = .ok (.newarray atype, 2)) (hl : Cond.arrayClass (newarray.typeOf atype) ∈ x_Ts) (hty : x_ty kd = newarray.typeOf atype) (hkd : 100 ≤ kd ∧ kd < 103) (hs : x_sh n = (kd, N)) (hi : ¬ i < 0) (hN : i.toNatClampNeg = N) (hb : N * componentBytes (newarray.typeOf atype) ≤ 536870912) (hn : n < x_NM) (h : x_V S k (pc + 2) L (.ref n :: st) (x_nw μ n (fun _ => defaultValue (x_ty kd))) (n + 1) Q) : x_V S k pc L (.int i :: st) μ n Q := by
  intro w p l e R s m args below meth c H locs cells slots ls hG
  have hts := hG.1.2.2.2.2.2.2.1
  obtain ⟨r1, r2, r3⟩ := x_rm_new hG.2.2.2.2.2 hn (congrArg Prod.snd hs)
  have n2 : 2 ≤ n := hG.2.1.1
  have hsz : H.size = x_ad w n := by rw [x_ad2 n2]; exact hG.2.1.2.1
  refine va_newaK hG.1.1 hG.1.2.1 (hts _ hl) rfl hd rfl hi hN hb r1 r2 hsz fun H' cA e1 e2 e3 e4 e5 => ?_
  have hA : cA = w.2.2.2.2.2 kd := by
    have hRA := (hG.1.2.2.2.2.2.2.2.1.2.1 kd (by omega) (by omega)).2
    rw [hty] at hRA
    have h7 : s.vm.findClass ("[" ++ (newarray.typeOf atype).toString) = some (w.2.2.2.2.2 kd) := by cases atype <;> exact hRA
    exact Option.some.inj (e5.symm.trans h7)
  refine h w p l e R s m args below meth c H' locs _ _ ls ⟨hG.1, x_R_new hG.2.1 (fun j i hj => by unfold x_nw; rw [if_neg hj]) (fun i => by unfold x_nw; rw [if_pos rfl]; exact x_def_ok _ _) (x_cell_arr hs hkd.1 (e1.trans ?_)) (by omega) (fun q hq => e3 q (by omega)), x_L_mono hG.2.2.1 (by omega), x_cs (x_ok_self n) (fun u hu => x_ok_mono (x_tl hG.2.2.2.1 u hu) (by omega)), hG.2.2.2.2.1, r3⟩
  rw [hA, ← hty]
  congr 2
  funext q
  unfold x_nw
  rw [if_pos rfl, x_def_cv]
theorem x_anew {kd N idx : Nat} {i : Int32} {C : String} (hd : decode (mC k) pc = .ok (.anewarray idx, 3)) (hl : Cond.classLink (mY k).cls idx C ∈ x_Ts) (hl2 : Cond.arrayOver (.object C) ∈ x_Ts) (hty : x_ty kd = .object C) (hkd : 103 ≤ kd ∧ kd < 105) (hs : x_sh n = (kd, N)) (hi : ¬ i < 0) (hN : i.toNatClampNeg = N) (hb : N * 4 ≤ 536870912) (hn : n < x_NM) (h : x_V S k (pc + 3) L (.ref n :: st) (x_nw μ n (fun _ => .null)) (n + 1) Q) : x_V S k pc L (.int i :: st) μ n Q := by
  intro w p l e R s m args below meth c H locs cells slots ls hG
  have hts := hG.1.2.2.2.2.2.2.1
  obtain ⟨r1, r2, r3⟩ := x_rm_new hG.2.2.2.2.2 hn (congrArg Prod.snd hs)
  have n2 : 2 ≤ n := hG.2.1.1
  have hsz : H.size = x_ad w n := by rw [x_ad2 n2]; exact hG.2.1.2.1
  subst hN
  refine W.anew hG.1.1 hG.1.2.1 hG.1.2.2.2.2.2.1 (hts _ hl) (hts _ hl2) rfl hd rfl hi hb r1 r2 fun cA kA comp e1 e2 e3 e4 => ?_
  have hA : cA = w.2.2.2.2.2 kd := by
    have hRA := (hG.1.2.2.2.2.2.2.2.1.2.1 kd (by omega) (by omega)).2
    rw [hty] at hRA
    obtain ⟨kA', comp', r1, r2, r3, r4⟩ := hRA
    exact Option.some.inj (e1.symm.trans r4)
  rw [hsz]
  refine h w p l e R s m args below meth c _ locs _ _ ls ⟨hG.1, x_R_new hG.2.1 (fun j i hj => by unfold x_nw; rw [if_neg hj]) (fun i => by unfold x_nw; rw [if_pos rfl]; exact x_ok_null _) (x_cell_arr hs (by omega) ?_) (by simp) (fun q hq => by rw [Array.getElem?_push, if_neg (Nat.ne_of_lt hq)]), x_L_mono hG.2.2.1 (by omega), x_cs (x_ok_self n) (fun u hu => x_ok_mono (x_tl hG.2.2.2.1 u hu) (by omega)), hG.2.2.2.2.1, r3⟩
  rw [← hsz, arrV_new, hA]
  simp only [Array.getElem?_push, if_true]
  congr 2
  funext q
  unfold x_nw
  rw [if_pos rfl]
  rfl
theorem x_objInit {idx a : Nat} (hd : decode (mC k) pc = .ok (.invokespecial idx, 3)) (hl : Cond.methodLink (mY k).cls idx Lib.objectInit ∈ x_Ts) (hl2 : Cond.instanceMethod Lib.objectInit ∈ x_Ts) (hl3 : Cond.code Lib.objectInit ⟨#[0xb1]⟩ 1 none ∈ x_Ts) (hk : 1 ≤ mK k ∧ 20 ≤ mW k) (hst : st.length ≤ 4) (h : x_V S k (pc + 3) L st μ n Q) : x_V S k pc L (.ref a :: st) μ n Q := by
  intro w p l e R s m args below meth c H locs cells slots ls hG
  have hts := hG.1.2.2.2.2.2.2.1
  have hrm := hG.1.2.2.2.2.2.2.2.2.1
  refine W.objInit hG.1.1 hG.1.2.1 hG.1.2.2.2.2.2.1 (hts _ hl) (hts _ hl2) (hts _ hl3) rfl (hG.2.2.1.1.trans hG.1.2.2.1.symm) rfl hd (by omega) ?_ ?_
  · have := x_sum w st
    show 2 * 0 + _ + 12 ≤ R.locals
    omega
  · exact h w p l e R s m args below meth c H locs cells slots ls ⟨hG.1, hG.2.1, hG.2.2.1, x_tl hG.2.2.2.1, hG.2.2.2.2⟩
end XH
end
section
/-! 05.calls: a call, whatever its kind, by the callee's own walk. -/
section XC
theorem x_wmoved {args a' : Array Value} {s U : State} (hW : s.WarmedH U.vm) (h : ∀ q ∈ x_Ts, q.before args s = true) : ∀ q ∈ x_Ts, q.before a' U = true := by
  intro q hq
  have h1 := h q hq
  have h2 := (List.mem_filter.mp hq).2
  unfold x_gw at h2
  rw [Bool.or_eq_true] at h2
  rcases h2 with h2 | h2
  · exact word_at hW (good_of_word h2) h1
  · split at h2
    · exact va_Nw.use rfl (va_Nw.warmM hW (va_Nw.of rfl h1))
    · exact va_Nw.use rfl (va_Nw.warmC hW (va_Nw.of rfl h1))
    · exact va_AO.use (va_AO.moved hW.alike (va_AO.of h1))
    · cases h2
theorem x_kmoved {S : Nat × (Nat → Int32)} {w : xW} {s s' : State} (h : x_K S w s) (hvm : s.vm.Alike s'.vm) : x_K S w s' :=
  ⟨fun c q hq => u_Kn_moved hvm (h.1 c q hq), fun c h1 h2 => ⟨arrOfT_moved hvm (h.2.1 c h1 h2).1, (h.2.1 c h1 h2).2.moved hvm⟩, h.2.2.1, h.2.2.2.1.moved hvm, h.2.2.2.2.1.moved hvm, h.2.2.2.2.2.1.moved hvm, x_SF_moved h.2.2.2.2.2.2.1 hvm, x_SF_moved h.2.2.2.2.2.2.2.1 hvm, fun q hq => (h.2.2.2.2.2.2.2.2 q hq).moved hvm⟩
theorem x_code_spec {args : Array Value} {s : State} {k : Nat} (h : (x_cw k).before args s = true) :
    ∃ m meth c, s.methodNamed? (mY k) = some m ∧ s.vm.method? m = some meth ∧ meth.code = some c ∧ c.code = mC k ∧ c.maxLocals = mL k ∧ c.exceptionTable.toList.map (fun h => (h.startPc, h.endPc, h.handlerPc, h.catchType)) = mT k ∧ meth.sig.returnType = mR k ∧ meth.locks = false ∧ parseMethodDescriptor (mY k).desc = some meth.sig := by
  unfold x_cw at h
  split at h
  · rename_i ht
    obtain ⟨m, hn⟩ := Cond.code_named h
    obtain ⟨meth, c, h1, h2, h3, h4, h5, h6, h7, h8⟩ := Cond.code_spec hn h
    refine ⟨m, meth, c, hn, h1, h2, h3, h4, ?_, h5, h6, h8⟩
    have e : c.exceptionTable = #[] := by simpa using h7
    rw [ht, e]; rfl
  · obtain ⟨m, meth, c, hn, h1, h2, h3, h4, h5, h6, h7, h8⟩ := Cond.codeWith_spec h
    exact ⟨m, meth, c, hn, h1, h2, h3, h4, h5, h6, h7, h8⟩
theorem x_sl1 (w : xW) (as : List Value) (h : ∀ v ∈ as, v.category = 1) : lg_sl (as.map (x_cv w)) = as.map fun v => Slot.val (x_cv w v) := by
  induction as with
  | nil => rfl
  | cons v t ih =>
    have h1 : (x_cv w v).category = 1 := by rw [x_cv_cat]; exact h v List.mem_cons_self
    show (if (x_cv w v).category = 2 then [Slot.val (x_cv w v), .second] else [Slot.val (x_cv w v)]) ++ lg_sl (t.map (x_cv w)) = _
    rw [if_neg (by omega), ih fun u hu => h u (List.mem_cons_of_mem _ hu)]
    rfl
def x_en (nL : Nat) (as : List Value) : List (Option Value) := as.map some ++ List.replicate (nL - as.length) none
theorem x_L_entry {w : xW} {n nL : Nat} {as : List Value} (has : ∀ v ∈ as, x_ok n v ∧ v.category = 1) (hal : as.length ≤ nL) :
    x_L w n nL (x_en nL as) ((lg_sl (as.map (x_cv w)) ++ List.replicate (nL - (lg_sl (as.map (x_cv w))).length) Slot.unset).toArray) := by
  have e := x_sl1 w as (fun v hv => (has v hv).2)
  have hlen : (lg_sl (as.map (x_cv w))).length = as.length := by rw [e, List.length_map]
  obtain ⟨h1, h2, -⟩ := lv_entry (as.map (x_cv w)) (n := nL) (by rw [hlen]; exact hal)
  refine ⟨h1, h2, by unfold x_en; simp; omega, fun i v hv => ?_⟩
  unfold x_en at hv
  have hi : i < as.length := by
    rcases Nat.lt_or_ge i as.length with h | h
    · exact h
    · exfalso
      rw [List.getElem?_append_right (by rw [List.length_map]; exact h)] at hv
      obtain ⟨_, hh⟩ := List.getElem?_eq_some_iff.mp hv
      simp at hh
  rw [List.getElem?_append_left (by rw [List.length_map]; exact hi), List.getElem?_map] at hv
  cases ha : as[i]? with
  | none => rw [ha] at hv; cases hv
  | some u =>
    rw [ha] at hv
    cases hv
    obtain ⟨h3, h4⟩ := has v (List.mem_of_getElem? ha)
    refine ⟨?_, h4, h3⟩
    rw [List.getElem?_toArray, e, List.getElem?_append_left (by rw [List.length_map]; exact hi), List.getElem?_map, ha]
    rfl
variable {S : Nat × (Nat → Int32)} {w : xW} {k k' : Nat} {p : Program} {l : Launch} {e : Env} {R : Room} {s : State} {m : MethodId} {args : Array Value} {below : List Frame} {meth : Method} {c : Code} {T : State} {locs : List Loc} {cells slots : Nat} {μ : xM} {n : Nat}
set_option maxHeartbeats 1000000 in
theorem x_into {Q' : xQ} {g : JFrame} {as : List Value} (X : Stand p l e R s m args below meth c T locs cells slots) (hC : x_C S w k p e R s m args meth c) (hR : x_R w μ n T.heap) (hrm : x_rm n cells slots R) (hlo : ∀ q ∈ locs, w.1 ≤ q.base)
    (hg : g.method = m) (hsize : g.locals.size = c.maxLocals) (hmr : g.monitorRoom = 0) (hsum : (g.stack.map fun v => v.category).sum ≤ 8) {ig : Instr} (hdg : decode c.code g.pc = .ok (ig, 3))
    (hw : x_cw k' ∈ x_Ts) {mk : MethodId} (hn : s.methodNamed? (mY k') = some mk) (hpl : plainName (mY k').cls = true) (hrk : mK k' < mK k) (hml : mL k' + 19 + mW k' ≤ mW k)
    (has : ∀ v ∈ as, x_ok n v ∧ v.category = 1) (hal : as.length ≤ mL k') (body : x_V S k' 0 (x_en (mL k') as) [] μ n Q') :
    ∃ (t T' : State) (o : xO) (μ' : xM) (n' : Nat) (L : List Loc) (c' z' : Nat), (∀ acts, Steps p.tables e below (doInvoke e (T.setTop g) acts mk (as.map (x_cv w)).toArray).1 t) ∧ Q' o μ' n' ∧ Stand p l e R s m args below meth c T' (locs ++ L) (cells + c') (slots + z') ∧ (∀ q ∈ locs ++ L, w.1 ≤ q.base) ∧ x_R w μ' n' T'.heap ∧ x_rm n' (cells + c') (slots + z') R ∧ n ≤ n' ∧
      (∀ v, o = .inl v → t = T'.setTop { g with pc := g.pc + 3, stack := (v.map (x_cv w)).toList ++ g.stack } ∧ ∀ y, v = some y → x_ok n' y) ∧
      (∀ x, o = .inr x → t = (T'.setTop g).pushFrame (.throwing (x_ad w (n' - 1))) ∧ ∃ cell : Cell, T'.heap[x_ad w (n' - 1)]? = some cell ∧ cell.vm.isStatics = false ∧ s.vm.findClass (x_ex x) = some cell.cls) := by
  obtain ⟨hx, hcode, hmax, hret0, hlk0, hown, hts, hK, ⟨hrf, hrl⟩, htr, hnm, hex, -⟩ := hC
  obtain ⟨m', methk, ck, hn', hmk, hck, hbytes, hmaxl, hexc, hret, hlk, hsig⟩ := x_code_spec (hts _ hw)
  cases hn.symm.trans hn'
  have hW := X.warmed
  have hal' := hW.alike
  obtain ⟨kY, hkY, hkYn⟩ := className_of_methodNamed hn
  obtain ⟨hnmk, -⟩ := name_of_methodNamed hn hmk
  obtain ⟨Y₀, hin⟩ := X.into hg hsize hdg (as.map (x_cv w)).toArray (R' := { frames := mK k', cells := x_NM - n, slots := x_sl x_NM - x_sl n, locals := mW k' }) (by rw [hal'.method?]; exact hmk) hck hlk
    (hW.plainAt (fun q hq => by cases hkY.symm.trans hq; rw [hkYn]; exact hpl)) (by show mK k' + 1 ≤ R.frames; omega) (by show 2 * g.monitorRoom + _ + (ck.maxLocals + 11) + mW k' ≤ R.locals; rw [hmr, hmaxl]; omega) hrm.2.1 hrm.2.2
  have hentry : entryFrame mk (as.map (x_cv w)).toArray ck.maxLocals = F0 mk 0 ((lg_sl (as.map (x_cv w)) ++ List.replicate (mL k' - (lg_sl (as.map (x_cv w))).length) Slot.unset).toArray) [] := by rw [hmaxl]; exact lg_entry_eq _ _ _
  have hC' : x_C S w k' p e { frames := mK k', cells := x_NM - n, slots := x_sl x_NM - x_sl n, locals := mW k' } (T.calling g mk (as.map (x_cv w)).toArray) mk (as.map (x_cv w)).toArray methk ck :=
    ⟨hx, hbytes, hmaxl, hret, hlk, by show T.vm.findClass _ = _; rw [hal'.findClass]; exact findClass_of_methodNamed hn, x_wmoved (U := T.calling g mk (as.map (x_cv w)).toArray) hW hts, x_kmoved (s' := T.calling g mk (as.map (x_cv w)).toArray) hK hal', ⟨Nat.le_refl _, Nat.le_refl _⟩, htr, hnmk, hexc, μ, n, hR⟩
  obtain ⟨t, hst, o, μ', n', oc, L, c', z', hQ, hrun, hend, hoc, hR', hWt, hsame, hLb, hrm'⟩ := body w p l e _ _ mk _ (.java g :: below) methk ck T.heap [] 0 0 _ ⟨hC', hR, x_L_entry has hal, (fun v hv => by cases hv), (fun q hq => by cases hq), hrm.1, by show 0 + _ ≤ x_NM - n; omega, by show 0 + _ ≤ x_sl x_NM - x_sl n; omega⟩ ((T.setTop g).pushFrame (.java (entryFrame mk (as.map (x_cv w)).toArray ck.maxLocals))) rfl Y₀
  have hst' : ∀ acts, Steps p.tables e below (doInvoke e (T.setTop g) acts mk (as.map (x_cv w)).toArray).1 t := fun acts => by
    rw [hin acts]
    refine Steps.weaken (mid := [.java g]) ?_
    have hst2 := hst
    rw [show F0 mk 0 ((lg_sl (as.map (x_cv w)) ++ List.replicate (mL k' - (lg_sl (as.map (x_cv w))).length) Slot.unset).toArray) (([] : List Value).map (x_cv w)) = entryFrame mk (as.map (x_cv w)).toArray ck.maxLocals from hentry.symm] at hst2
    exact hst2
  have hle : n ≤ n' := by
    have h1 : T.heap.size ≤ t.heap.size := hsame.2.1
    have h2 := hR.1
    have h3 := hR.2.1
    have h4 := hR'.1
    have h5 := hR'.2.1
    omega
  have hrm2 : x_rm n' (cells + c') (slots + z') R := by
    obtain ⟨a1, a2, a3⟩ := hrm
    obtain ⟨b1, b2, b3⟩ := hrm'
    have b2' : c' + (x_NM - n') ≤ x_NM - n := b2
    have b3' : z' + (x_sl x_NM - x_sl n') ≤ x_sl x_NM - x_sl n := b3
    exact ⟨b1, by omega, by omega⟩
  have hlo2 : ∀ q ∈ locs ++ L, w.1 ≤ q.base := fun q hq => by
    rcases List.mem_append.mp hq with h1 | h1
    · exact hlo q h1
    · exact hLb q h1
  cases o with
  | inl v =>
    obtain ⟨rfl, hv⟩ := hoc
    obtain ⟨T', X', hW', hB, ht⟩ := X.outOf hg hdg hend hWt hsame
    have hh : T'.heap = t.heap := (congrArg State.heap ht).symm
    exact ⟨t, T', .inl v, μ', n', L, c', z', hst', hQ, X', hlo2, by rw [hh]; exact hR', hrm2, hle, (fun u hu => by cases hu; exact ⟨ht, hv⟩), (fun x hx => by cases hx)⟩
  | inr x =>
    obtain ⟨rfl, cell, h1, h2, h3⟩ := hoc
    obtain ⟨T', X', hW', hB, ht⟩ := X.outOfThrown hg hend hWt hsame
    have hh : T'.heap = t.heap := by rw [ht, Stand.throwing_heap]
    refine ⟨t, T', .inr x, μ', n', L, c', z', hst', hQ, X', hlo2, by rw [hh]; exact hR', hrm2, hle, (fun u hu => by cases hu), fun y hy => ?_⟩
    cases hy
    refine ⟨ht, cell, by rw [hh]; exact h1, h2, ?_⟩
    have h4 : T.vm.findClass (x_ex x) = some cell.cls := h3
    rw [hal'.findClass] at h4
    exact h4
end XC

section XD2
variable {S : Nat × (Nat → Int32)} {k k' pc : Nat} {L : List (Option Value)} {st : List Value} {μ : xM} {n : Nat} {Q : xQ}
/-- where a call that returns goes on -/
def x_bk (S : Nat × (Nat → Int32)) (k pc : Nat) (L : List (Option Value)) (st : List Value) (Q : xQ) : xQ := fun o μ' n' => ∃ v, o = .inl v ∧ x_V S k (pc + 3) L (v.toList ++ st) μ' n' Q
/-- what is asked of a callee -/
def x_CW (k k' : Nat) (na : Nat) : Prop :=
  x_cw k' ∈ x_Ts ∧ plainName (mY k').cls = true ∧ mK k' < mK k ∧ mL k' + 19 + mW k' ≤ mW k ∧ na ≤ mL k' ∧ (mY k').cls ≠ "java/lang/invoke/MethodHandle" ∧ (mY k').cls ≠ "java/lang/invoke/VarHandle"
theorem x_app_ok {n : Nat} {as st : List Value} (h : ∀ v ∈ as.reverse ++ st, x_ok n v) : ∀ v ∈ as, x_ok n v := fun v hv => h v (List.mem_append_left _ (List.mem_reverse.mpr hv))
theorem x_app_ok2 {n : Nat} {as st : List Value} (h : ∀ v ∈ as.reverse ++ st, x_ok n v) : ∀ v ∈ st, x_ok n v := fun v hv => h v (List.mem_append_right _ hv)
theorem x_after {w : xW} {p : Program} {l : Launch} {e : Env} {R : Room} {s : State} {m : MethodId} {args : Array Value} {below : List Frame} {meth : Method} {c : Code} {T' t : State} {locs : List Loc} {cells slots : Nat} {ls : Array Slot} {μ' : xM} {n' : Nat} {o : xO}
    (hC : x_C S w k p e R s m args meth c) (hL : x_L w n (mL k) L ls) (hst : ∀ v ∈ st, x_ok n v) (hq : x_bk S k pc L st Q o μ' n') (X' : Stand p l e R s m args below meth c T' locs cells slots) (hlo : ∀ q ∈ locs, w.1 ≤ q.base) (hR : x_R w μ' n' T'.heap) (hrm : x_rm n' cells slots R) (hle : n ≤ n')
    (hret : ∀ v, o = .inl v → t = T'.setTop { F0 m pc ls (st.map (x_cv w)) with pc := pc + 3, stack := (v.map (x_cv w)).toList ++ st.map (x_cv w) } ∧ ∀ y, v = some y → x_ok n' y) :
    ∃ t2, Steps p.tables e below t t2 ∧ x_F w R s below Q t2 := by
  obtain ⟨v, rfl, hv⟩ := hq
  obtain ⟨ht, hy⟩ := hret v rfl
  have eq1 : (v.map (x_cv w)).toList ++ st.map (x_cv w) = (v.toList ++ st).map (x_cv w) := by cases v <;> simp
  rw [ht, eq1]
  exact hv w p l e R s m args below meth c T'.heap locs cells slots ls ⟨hC, hR, x_L_mono hL hle, (fun u hu => by
    rcases List.mem_append.mp hu with h1 | h1
    · cases v with
      | none => cases h1
      | some y =>
        rw [show u = y by simpa using h1]
        exact hy y rfl
    · exact x_ok_mono (hst u h1) hle), hlo, hrm⟩ T' rfl X'
theorem x_callS {idx na : Nat} {as : List Value} (hd : decode (mC k) pc = .ok (.invokestatic idx, 3)) (hW : x_CW k k' na) (hl : Cond.methodLink (mY k).cls idx (mY k') ∈ x_Ts) (hs : Cond.static (mY k') ∈ x_Ts) (hini : Cond.initialized (mY k').cls ∈ x_Ts) (hnp : (parseMethodDescriptor (mY k').desc).map (fun d => d.parameters.length) = some na) (hna : as.length = na) (has : ∀ v ∈ as, v.category = 1) (hrest : st.length ≤ 4)
    (body : x_V S k' 0 (x_en (mL k') as) [] μ n (x_bk S k pc L st Q)) : x_V S k pc L (as.reverse ++ st) μ n Q := by
  intro w p l e R s m args below meth c H locs cells slots ls hG T hT X
  subst hT
  have hC := hG.1
  obtain ⟨hx, hcode, hmax, hret0, hlk0, hown, hts, hK, ⟨hrf, hrl⟩, htr, hnm, hex, -⟩ := id hC
  obtain ⟨hw, hpl, hrk, hml, hnl, hy1, hy2⟩ := hW
  obtain ⟨mk, methk, ck, hn, hmk, hck, -, -, -, -, -, hsig⟩ := x_code_spec (hts _ hw)
  have hstatic : methk.isStatic = true := Cond.static_spec hn hmk (hts _ hs)
  obtain ⟨kP, hkP, -⟩ := className_of_methodNamed hn
  have hinitP : kP.init = .initialized := Cond.initialized_spec (findClass_of_methodNamed hn) hkP (hts _ hini)
  have hlen : as.length = methk.sig.parameters.length := by
    rw [hsig] at hnp
    exact hna.trans (Option.some.inj hnp).symm
  have hdc : decode c.code pc = .ok (.invokestatic idx, 3) := by rw [hcode]; exact hd
  obtain ⟨vm₁, X₁, hstep⟩ := X.invokestatic hx hown (hts _ hl) hn hmk hstatic hkP hinitP ⟨hy1, hy2⟩ (g := F0 m pc ls ((as.reverse ++ st).map (x_cv w))) rfl (argsL := as.map (x_cv w)) (rest := st.map (x_cv w)) (by rw [List.length_map]; exact hlen) (by rw [List.map_append, List.map_reverse]) hdc
  obtain ⟨t, T', o, μ', n', L', c', z', h1, h2, h3, h4, h5, h6, h7, h8, -⟩ := x_into X₁ hC hG.2.1 hG.2.2.2.2.2 hG.2.2.2.2.1 (g := F0 m pc ls (st.map (x_cv w))) rfl (hG.2.2.1.1.trans hmax.symm) rfl (by have := x_sum w st; show ((st.map (x_cv w)).map _).sum ≤ 8; omega) hdc hw hn hpl hrk hml (fun v hv => ⟨x_app_ok hG.2.2.2.1 v hv, has v hv⟩) (by omega) body
  obtain ⟨t2, h9, h10⟩ := x_after hC hG.2.2.1 (x_app_ok2 hG.2.2.2.1) h2 h3 h4 h5 h6 h7 h8
  exact ⟨t2, hstep t2 fun acts => (h1 acts).trans h9, h10⟩
theorem x_recvO {w : xW} {s : State} {H : Heap} {a ci N : Nat} {C : String} {T : u_T} {ty : Nat → FieldType} (hF : x_CF ci C T N ty) (hK : x_K S w s) (hR : x_R w μ n H) (ha : a < n) (hs : x_sh a = (ci, N)) : ∃ cell : Cell, H[x_ad w a]? = some cell ∧ cell.vm.isStatics = false ∧ s.vm.findClass C = some cell.cls := by
  obtain ⟨cell, c1, c2, c3, -⟩ := x_obj hR ha hs hF.2.2.2.2.1
  exact ⟨cell, c1, by rw [c3]; rfl, by rw [c2]; exact (hK.1 ci _ hF.1).2.1⟩
theorem x_callV {idx na a ci N : Nat} {as : List Value} {TT : u_T} {ty : Nat → FieldType} (hd : decode (mC k) pc = .ok (.invokevirtual idx, 3)) (hW : x_CW k k' (na + 1)) (hF : x_CF ci (mY k').cls TT N ty) (hl : Cond.methodLink (mY k).cls idx (mY k') ∈ x_Ts) (hi : Cond.instanceMethod (mY k') ∈ x_Ts) (hse : Cond.selects (mY k').cls (mY k') (mY k') ∈ x_Ts) (hnp : (parseMethodDescriptor (mY k').desc).map (fun d => d.parameters.length) = some na) (hna : as.length = na) (hs : x_sh a = (ci, N)) (has : ∀ v ∈ as, v.category = 1) (hrest : st.length ≤ 4)
    (body : x_V S k' 0 (x_en (mL k') (.ref a :: as)) [] μ n (x_bk S k pc L st Q)) : x_V S k pc L (as.reverse ++ .ref a :: st) μ n Q := by
  intro w p l e R s m args below meth c H locs cells slots ls hG T hT X
  subst hT
  have hC := hG.1
  obtain ⟨hx, hcode, hmax, hret0, hlk0, hown, hts, hK, ⟨hrf, hrl⟩, htr, hnm, hex, -⟩ := id hC
  obtain ⟨hw, hpl, hrk, hml, hnl, hy1, hy2⟩ := hW
  obtain ⟨mk, methk, ck, hn, hmk, hck, -, -, -, -, -, hsig⟩ := x_code_spec (hts _ hw)
  obtain ⟨mk', methM, hn', hmM, hstM, habM⟩ := Cond.instanceMethod_spec (hts _ hi)
  cases hn.symm.trans hn'
  cases hmk.symm.trans hmM
  have ha : a < n := x_app_ok2 hG.2.2.2.1 (.ref a) List.mem_cons_self a rfl
  obtain ⟨cellB, hcB, hoB, hclB⟩ := x_recvO hF hK hG.2.1 ha hs
  obtain ⟨c2, r2, m2, q1, q2, q3, q4, kP, hkP, hkPi⟩ := Cond.selects_spec (hts _ hse)
  cases hclB.symm.trans q1
  cases (State.methodFound?_of_named hn ⟨hy1, hy2⟩).symm.trans q2
  cases hn.symm.trans q3
  have hselP : selectMethod e.platform s.vm cellB.cls mk = .method mk := by rw [Launch.admits_selectMethod X.admits]; exact q4
  have hlen : as.length = methk.sig.parameters.length := by
    rw [hsig] at hnp
    exact hna.trans (Option.some.inj hnp).symm
  have hdc : decode c.code pc = .ok (.invokevirtual idx, 3) := by rw [hcode]; exact hd
  obtain ⟨vm₁, X₁, hstep⟩ := X.invokevirtual hx hown (hts _ hl) hn hmk hstM hkP hkPi ⟨hy1, hy2⟩ (a := x_ad w a) (cell := cellB) hcB (fun z h => by rw [h] at hoB; cases hoB) hselP hmk habM hkP hkPi (g := F0 m pc ls ((as.reverse ++ .ref a :: st).map (x_cv w))) rfl (argsL := as.map (x_cv w)) (rest := st.map (x_cv w)) (by rw [List.length_map]; exact hlen) (by rw [List.map_append, List.map_reverse]; rfl) hdc
  obtain ⟨t, T', o, μ', n', L', c', z', h1, h2, h3, h4, h5, h6, h7, h8, -⟩ := x_into (as := .ref a :: as) X₁ hC hG.2.1 hG.2.2.2.2.2 hG.2.2.2.2.1 (g := F0 m pc ls (st.map (x_cv w))) rfl (hG.2.2.1.1.trans hmax.symm) rfl (by have := x_sum w st; show ((st.map (x_cv w)).map _).sum ≤ 8; omega) hdc hw hn hpl hrk hml (fun v hv => by
    rcases List.mem_cons.mp hv with e1 | e1
    · rw [e1]; exact ⟨fun x hx => by cases hx; exact ha, rfl⟩
    · exact ⟨x_app_ok hG.2.2.2.1 v e1, has v e1⟩) (by simp only [List.length_cons]; omega) body
  obtain ⟨t2, h9, h10⟩ := x_after hC hG.2.2.1 (x_tl (x_app_ok2 hG.2.2.2.1)) h2 h3 h4 h5 h6 h7 h8
  exact ⟨t2, hstep t2 fun acts => (h1 acts).trans h9, h10⟩
theorem x_callI {idx na a : Nat} {as : List Value} (hd : decode (mC k) pc = .ok (.invokespecial idx, 3)) (hW : x_CW k k' (na + 1)) (hin : (mY k').name = "<init>") (hT0 : mT k' = []) (hR0 : mR k' = none) (hl : Cond.methodLink (mY k).cls idx (mY k') ∈ x_Ts) (hi : Cond.instanceMethod (mY k') ∈ x_Ts) (hnp : (parseMethodDescriptor (mY k').desc).map (fun d => d.parameters.length) = some na) (hna : as.length = na) (has : ∀ v ∈ as, v.category = 1) (hrest : st.length ≤ 4)
    (body : x_V S k' 0 (x_en (mL k') (.ref a :: as)) [] μ n (x_bk S k pc L st Q)) : x_V S k pc L (as.reverse ++ .ref a :: st) μ n Q := by
  intro w p l e R s m args below meth c H locs cells slots ls hG T hT X
  subst hT
  have hC := hG.1
  obtain ⟨hx, hcode, hmax, hret0, hlk0, hown, hts, hK, ⟨hrf, hrl⟩, htr, hnm, hex, -⟩ := id hC
  obtain ⟨hw, hpl, hrk, hml, hnl, hy1, hy2⟩ := hW
  have hcw : (Cond.code (mY k') (mC k') (mL k') none).before args s = true := by
    have := hts _ hw
    unfold x_cw at this
    rw [hT0, hR0] at this
    exact this
  have ha : a < n := x_app_ok2 hG.2.2.2.1 (.ref a) List.mem_cons_self a rfl
  have hdc : decode c.code pc = .ok (.invokespecial idx, 3) := by rw [hcode]; exact hd
  have hpp : e.platform.magicAccessors = ({} : Platform).magicAccessors := by rw [X.admits.platform]
  obtain ⟨mk, methM, cM, kP, vm₁, hn, hmethM, hcodeM, -, hlocalsM, -, hkP, -, hW₁, hstep⟩ := Steps.initColdArgs (e := e) X.here hx X.warmed hpp hown hin ⟨hy1, hy2⟩ (hts _ hl) (hts _ hi) hcw (f := F0 m pc ls ((as.reverse ++ .ref a :: st).map (x_cv w))) rfl (a := x_ad w a) (argsL := as.map (x_cv w)) (rest := st.map (x_cv w)) (fun sig h => by rw [h] at hnp; rw [List.length_map]; exact hna.trans (Option.some.inj hnp).symm) (by rw [List.map_append, List.map_reverse]; rfl) hdc
  have X₁ := X.noted hW₁
  obtain ⟨t, T', o, μ', n', L', c', z', h1, h2, h3, h4, h5, h6, h7, h8, -⟩ := x_into (as := .ref a :: as) X₁ hC hG.2.1 hG.2.2.2.2.2 hG.2.2.2.2.1 (g := F0 m pc ls (st.map (x_cv w))) rfl (hG.2.2.1.1.trans hmax.symm) rfl (by have := x_sum w st; show ((st.map (x_cv w)).map _).sum ≤ 8; omega) hdc hw hn hpl hrk hml (fun v hv => by
    rcases List.mem_cons.mp hv with e1 | e1
    · rw [e1]; exact ⟨fun x hx => by cases hx; exact ha, rfl⟩
    · exact ⟨x_app_ok hG.2.2.2.1 v e1, has v e1⟩) (by simp only [List.length_cons]; omega) body
  obtain ⟨t2, h9, h10⟩ := x_after hC hG.2.2.1 (x_tl (x_app_ok2 hG.2.2.2.1)) h2 h3 h4 h5 h6 h7 h8
  exact ⟨t2, hstep t2 fun acts => (h1 acts).trans h9, h10⟩
end XD2
end
section
/-! 06.throw: 'throw new X()' out of a method. -/
section XT
theorem x_SF_of {C n d : String} {args : Array Value} {s : State} (h1 : (Cond.laysStatic C n d).before args s = true) (h2 : (Cond.isRef (.static C n d)).before args s = true) : x_SF C n d s s.heap := by
  obtain ⟨c, k, i, f, a, cell, hc, hi, hst, ha, hcell, hs, hcls, hlt, hty⟩ := Cond.laysStatic_spec h1
  have hv : cell.slots[f.slot]? = some cell.slots[f.slot] := Array.getElem?_eq_getElem hlt
  have he : (Term.static C n d).eval args s none [] s = some cell.slots[f.slot] := by
    simp [Term.eval, State.fieldNamed?, hi, hst, ha, hcell, hs, hv]
  refine ⟨c, k, i, f, a, cell, _, hc, hi, hst, ha, hcell, hs, hcls, hlt, hty, hv, ?_⟩
  simp only [Cond.before, Cond.holds, Cond.value, he] at h2
  cases hx : cell.slots[f.slot] with
  | null => exact Or.inl rfl
  | ref x => exact Or.inr ⟨x, rfl⟩
  | _ => rw [hx] at h2; simp at h2
theorem x_SF_use {C n d : String} {args : Array Value} {s : State} {H0 : Heap} (h : x_SF C n d s H0) (hh : ∀ (q : Nat) (cell : Cell), H0[q]? = some cell → s.heap[q]? = some cell) : (Cond.laysStatic C n d).before args s = true ∧ (Cond.isRef (.static C n d)).before args s = true := by
  obtain ⟨c, k, i, f, a, cell, v, hc, hi, hst, ha, hcell, hs, hcls, hlt, hty, hv, hr⟩ := h
  have hcell' := hh _ _ hcell
  have he : (Term.static C n d).eval args s none [] s = some v := by
    simp [Term.eval, State.fieldNamed?, hi, hst, ha, hcell', hs, hv]
  refine ⟨by simp [Cond.before, Cond.holds, Cond.value, hc, hi, hst, ha, hcell', hs, hcls, hlt, hty], ?_⟩
  simp only [Cond.before, Cond.holds, Cond.value, he]
  rcases hr with e | ⟨x, e⟩ <;> simp [e]
variable {p : Program} {l : Launch} {e : Env} {R : Room} {s : State} {m : MethodId} {args : Array Value} {below : List Frame} {meth : Method} {c : Code} {T : State} {locs : List Loc} {cells slots : Nat}
/-- the walk, as if the method began here -/
theorem x_rebase (X : Stand p l e R s m args below meth c T locs cells slots) (h1 : cells ≤ R.cells) (h2 : slots ≤ R.slots) :
    Stand p l e { frames := R.frames, cells := R.cells - cells, slots := R.slots - slots, locals := R.locals } (T.setFrames (.invoking m args :: below)) m args below meth c T [] 0 0 := by
  obtain ⟨g₀, hfr⟩ := X.frames_eq
  have hcur : T.cur < T.threads.size := State.cur_lt_of_frames hfr
  have hf : (T.setFrames (.invoking m args :: below)).frames = .invoking m args :: below := State.frames_setFrames _ hcur
  have hm : (T.setFrames (.invoking m args :: below)).vm.method? m = some meth := X.method'
  refine ⟨X.admits, X.cas, X.clock, hf, ?_, ?_, hm, X.code, X.here, X.tail, State.WarmedH.refl _, (State.stackLimits_setFrames _ _ _).symm, (State.stackBytes_setFrames _ _).symm, ?_⟩
  · have hr := X.room
    have e1 := State.localsInUse_invoking X.frames X.method X.code
    have e2 := State.localsInUse_invoking hf hm X.code
    have e3 := X.heapSize
    have e4 := X.used
    have e5 : (T.setFrames (.invoking m args :: below)).slotsTrue = true := X.book
    have e6 : (T.setFrames (.invoking m args :: below)).heap.size = T.heap.size := rfl
    have e7 : (T.setFrames (.invoking m args :: below)).slotsUsed = T.slotsUsed := rfl
    have e8 := State.stackLimits_setFrames e.platform T (.invoking m args :: below)
    have e9 := State.stackBytes_setFrames T (.invoking m args :: below)
    have e10 := X.limits
    have e11 := X.bytes
    have e12 : s.frames.length = (T.setFrames (.invoking m args :: below)).frames.length := by rw [hf, X.frames]
    simp only [State.hasRoom, Bool.and_eq_true, decide_eq_true_eq] at hr ⊢
    rw [e2, e5, e6, e7, e8, e9, e10, e11, ← e12]
    rw [e1] at hr
    obtain ⟨⟨⟨⟨a1, a2, a3, a4, a5, a6⟩, a7⟩, a8⟩, a9⟩ := hr
    exact ⟨⟨⟨⟨a1, a2, a3, a4, a5, a6⟩, by omega⟩, by omega⟩, rfl⟩
  · have hh := X.hears
    have e1 : ∀ q, (T.setFrames (.invoking m args :: below)).code? q = s.code? q := fun q => by
      rw [State.code?_eq, State.code?_eq]
      show (T.vm.method? q).bind _ = _
      rw [X.warmed.alike.method?]
    unfold State.hears at hh ⊢
    split at hh
    · rw [e1]; exact hh
    · trivial
    · trivial
    · show (T.vm.method? m).any _ = true
      rw [X.warmed.alike.method?]; exact hh
  · obtain ⟨t, ht, -⟩ := State.frames_cons hf
    have h := (State.sameButNew.refl (T.setFrames (.invoking m args :: below)) ht).setFrames T.frames (State.cur_lt_of_frames hf)
    rw [State.setFrames_setFrames] at h
    obtain ⟨t', ht', -⟩ := State.frames_cons hfr
    rw [State.setFrames_self ht'] at h
    exact h
theorem x_heap_same {s U : State} {k n : Nat} (h : s.sameButNew U [] k n) {q : Nat} {cell : Cell} (hq : s.heap[q]? = some cell) : U.heap[q]? = some cell := by
  obtain ⟨c', h1, h2, h3, h4⟩ := h.2.2.2.2.2 q cell hq
  have e : c'.slots = cell.slots := by
    apply Array.ext_getElem?
    intro i
    exact h4 i (by simp)
  rw [h1, h2, e]
/-- the words of a throw: in the tables, or one of the four that speak of the heap -/
def x_ta (q : Cond) : Bool := decide (q ∈ x_Ts) || decide (q = .laysStatic "java/lang/Throwable" "UNASSIGNED_STACK" "[Ljava/lang/StackTraceElement;") || decide (q = .laysStatic "java/lang/Throwable" "SUPPRESSED_SENTINEL" "Ljava/util/List;") || decide (q = .isRef (.static "java/lang/Throwable" "UNASSIGNED_STACK" "[Ljava/lang/StackTraceElement;")) || decide (q = .isRef (.static "java/lang/Throwable" "SUPPRESSED_SENTINEL" "Ljava/util/List;"))
set_option maxHeartbeats 1000000 in
theorem x_throw {S : Nat × (Nat → Int32)} {k pc n x idx ic : Nat} {L : List (Option Value)} {st : List Value} {μ : xM} {Q : xQ} {names : List String} (hd0 : decode (mC k) pc = .ok (.new idx, 3)) (hd1 : decode (mC k) (pc + 3) = .ok (.dup, 1)) (hd2 : decode (mC k) (pc + 4) = .ok (.invokespecial ic, 3)) (hd3 : decode (mC k) (pc + 7) = .ok (.athrow, 1))
    (hl : Cond.classLink (mY k).cls idx (x_ex x) ∈ x_Ts) (hins : Cond.instantiable (x_ex x) 6 ∈ x_Ts) (hini : Cond.initialized (x_ex x) ∈ x_Ts) (hcls : Bundle.fit (x_ex x) = true) (hnames : ∀ q ∈ names, Bundle.fit q = true) (hat : (Bundle.ownAtoms0 (mY k).cls ic (x_ex x) names).all x_ta = true)
    (hT : mT k = []) (hs : x_sh n = (99, 6)) (hn : n < x_NM) (hK : names.length + 3 < mK k) (hW : 13 * (names.length + 1) + 60 ≤ mW k) (hst : st.length ≤ 4) (hQ : Q (.inr x) μ (n + 1)) : x_V S k pc L st μ n Q := by
  intro w p l e R s m args below meth c H locs cells slots ls hG T hT0 X
  subst hT0
  have hC := hG.1
  obtain ⟨hx, hcode, hmax, hret0, hlk0, hown, hts, hKK, ⟨hrf, hrl⟩, htr, hnm, hex, -⟩ := id hC
  obtain ⟨r1, r2, r3⟩ := x_rm_new (N := 6) hG.2.2.2.2.2 hn (congrArg Prod.snd hs)
  have X' := x_rebase X (by omega) (by omega)
  have hal := X.warmed.alike
  have hts' : ∀ q ∈ x_Ts, q.before args (T.setFrames (.invoking m args :: below)) = true := x_wmoved (U := T.setFrames (.invoking m args :: below)) X.warmed hts
  have hK' : x_K S w (T.setFrames (.invoking m args :: below)) := x_kmoved (s' := T.setFrames (.invoking m args :: below)) hKK hal
  have hown' : (T.setFrames (.invoking m args :: below)).vm.findClass (mY k).cls = some m.cls := by
    show T.vm.findClass _ = _
    rw [hal.findClass]; exact hown
  have hheap : ∀ q cell, w.2.2.2.1[q]? = some cell → (T.setFrames (.invoking m args :: below)).heap[q]? = some cell := fun q cell h => by
    have hq : q < w.1 := by
      rw [hKK.2.2.1.2.2]
      exact (Array.getElem?_eq_some_iff.mp h).1
    exact (hG.2.1.2.2.1 q hq).trans h
  have a1 := x_SF_use (args := args) hK'.2.2.2.2.2.2.1 hheap
  have a2 := x_SF_use (args := args) hK'.2.2.2.2.2.2.2.1 hheap
  have hatoms : ∀ q ∈ Bundle.ownAtoms0 (mY k).cls ic (x_ex x) names, q.before args (T.setFrames (.invoking m args :: below)) = true := fun q hq => by
    have h := List.all_eq_true.mp hat q hq
    simp only [x_ta, Bool.or_eq_true, decide_eq_true_eq] at h
    rcases h with (((h | h) | h) | h) | h
    · exact hts' q h
    · rw [h]; exact a1.1
    · rw [h]; exact a2.1
    · rw [h]; exact a1.2
    · rw [h]; exact a2.2
  obtain ⟨cX, kX, hfX, hkX, -⟩ := Cond.instantiable_spec (hts' _ hins)
  have hout : ∀ y ∈ c.exceptionTable.toList, covers y (pc + 7) = false := fun y hy => by
    rw [hT] at hex
    have : c.exceptionTable.toList = [] := List.map_eq_nil_iff.mp hex
    rw [this] at hy
    cases hy
  have w1 : W p l e { frames := R.frames, cells := R.cells - cells, slots := R.slots - slots, locals := R.locals } (T.setFrames (.invoking m args :: below)) m args below meth c T.heap [] 0 0
      (fun U => U.status = .running ∧ Ended U below (.threw T.heap.size) ∧ (T.setFrames (.invoking m args :: below)).WarmedH U.vm ∧ (T.setFrames (.invoking m args :: below)).sameButNew ({ U with vm := (T.setFrames (.invoking m args :: below)).vm } : State) [] (0 + 1) (0 + 6) ∧ ∃ ce : Cell, U.heap[T.heap.size]? = some ce ∧ (T.setFrames (.invoking m args :: below)).vm.findClass (x_ex x) = some ce.cls ∧ ce.vm = .none) (F0 m pc ls (st.map (x_cv w))) := by
    refine W.newcK hx hcode hown' (hts' _ hl) (hts' _ hins) (hts' _ hini) rfl hd0 (by show 0 + 1 ≤ R.cells - cells; omega) (by show 0 + 6 ≤ R.slots - slots; omega) hfX rfl fun H' kC hkC e1 e2 e3 => ?_
    refine lv_dup hx hcode hd1 rfl ?_
    intro T2 hT2 X2
    obtain ⟨U, q1, q2, q3, q4, q5, ce, q6, q7⟩ := X2.ctorThrow0 hx htr hown' hcls hnames hatoms (fun y hy => by cases hy) hfX hkC (a := T.heap.size) (by rw [hT2]; exact e1) (Nat.le_refl _) (g := F0 m (pc + 4) ls (.ref T.heap.size :: .ref T.heap.size :: st.map (x_cv w))) rfl (hG.2.2.1.1.trans hmax.symm) rfl rfl rfl (by rw [hcode]; exact hd2) (by rw [hcode]; exact hd3) hout (by show names.length + 3 < R.frames; omega)
      (by
        have := x_sum w st
        show 2 * 0 + ((Value.ref T.heap.size :: st.map (x_cv w)).map fun v => v.category).sum + _ ≤ R.locals
        have h1 : (Value.ref T.heap.size).category = 1 := rfl
        rw [List.map_cons, List.sum_cons, h1]
        omega) hlk0
    exact ⟨U, q1, q2, q3, q4, q5, ce, q6, q7.cls, q7.vm⟩
  obtain ⟨U, h1, h2, h3, h4, h5, ce, h6, h7, h8⟩ := w1 T rfl X'
  have n2 : 2 ≤ n := hG.2.1.1
  have hsz : T.heap.size = x_ad w n := by rw [x_ad2 n2]; exact hG.2.1.2.1
  have hUsz : U.heap.size = T.heap.size + 1 := by
    have b1 := (Array.getElem?_eq_some_iff.mp h6).1
    have b2 : U.heap.size ≤ T.heap.size + (0 + 1) := h5.2.2.1
    omega
  have hold : ∀ q : Nat, q < T.heap.size → U.heap[q]? = T.heap[q]? := fun q hq => by
    have b1 : (T.setFrames (.invoking m args :: below)).heap[q]? = some T.heap[q] := Array.getElem?_eq_getElem hq
    have b2 : U.heap[q]? = some T.heap[q] := x_heap_same h5 b1
    rw [b2, Array.getElem?_eq_getElem hq]
  have h5' : T.sameButNew ({ U with vm := T.vm } : State) [] (0 + 1) (0 + 6) := by
    obtain ⟨e2, q2, q3, q4, q5, q6⟩ := h5
    rw [State.setFrames_setFrames] at e2
    exact ⟨e2, q2, q3, q4, q5, q6⟩
  have h9 := X.same.trans (h5'.setVm s.vm)
  rw [List.append_nil] at h9
  refine ⟨U, h1, .inr x, μ, n + 1, .threw T.heap.size, locs, cells + (0 + 1), slots + (0 + 6), hQ, h2, h3, ⟨by rw [hsz]; rfl, ce, ?_, by rw [h8]; rfl, ?_⟩, ?_, State.WarmedH.trans X.warmed h4, h9, hG.2.2.2.2.1, r3⟩
  · show U.heap[x_ad w n]? = some ce
    rw [← hsz]; exact h6
  · have b1 : T.vm.findClass (x_ex x) = some ce.cls := h7
    rw [hal.findClass] at b1
    exact b1
  · refine x_R_new hG.2.1 (fun _ _ _ => rfl) (fun i => x_ok_mono (hG.2.1.2.2.2.2 n i) (Nat.le_succ n)) ?_ hUsz hold
    unfold x_cell
    rw [hs, if_neg (show ¬ 99 < 50 by omega), if_pos (show 99 < 100 by omega)]
    exact ⟨ce, by rw [← hsz]; exact h6, by rw [h8]; rfl⟩
end XT

section XF
/-- the rows of an exception table up to the one that takes the object -/
def x_hit (pl : Platform) (s0 : State) (d : ClassId) (pc : Nat) (thrown : ClassId) : List ExceptionTableEntry → Nat → Prop
  | [], _ => False
  | y :: t, h => covers y pc = true ∧ y.catchType ≠ 0 ∧ ∃ c, s0.vm.ClassLinks pl d y.catchType c ∧ ((s0.vm.assignable thrown c = true ∧ y.handlerPc = h) ∨ (s0.vm.assignable thrown c = false ∧ x_hit pl s0 d pc thrown t h))
theorem x_find {e : Env} {s0 : State} {f : JFrame} {a : Addr} {cell : Cell} (hobj : ∀ k, cell.vm ≠ .statics k) (hk0 : ∃ k, s0.vm.classes[cell.cls]? = some k) (h : Nat) :
    ∀ (ts : List ExceptionTableEntry) (U : State), s0.WarmedH U.vm → U.heap[a]? = some cell → x_hit e.platform s0 f.method.cls f.pc cell.cls ts h →
      ∃ vm', s0.WarmedH vm' ∧ ∀ (Q : Handler → Pre) (E : CtlPost) (d : Bool) (acts : List Action), wp (findHandler.go f a ts) Q E e d acts U ↔ Q (.found h) d acts (U.setVm vm') := by
  intro ts
  obtain ⟨k1, hk1⟩ := hk0
  induction ts with
  | nil => intro U _ _ hh; exact hh.elim
  | cons y t ih =>
    intro U hW hc hh
    obtain ⟨h1, h0, c, hl, hor⟩ := hh
    obtain ⟨ha, ht⟩ := (resolveClass_links e.toSetting (hW.classLinks hl)).op (op := VmOp.resolveClass f.method.cls y.catchType) rfl
    obtain ⟨dk, _, _, kt, hd, _, _, _, _, hkt, _, hopen⟩ := hl.here
    have hW2 := hW.noted hd hopen (State.rightAt_cls hl)
    obtain ⟨k1', hk1', -⟩ := hW2.alike.2.2 _ _ hk1
    obtain ⟨k2', hk2', -⟩ := hW2.alike.2.2 _ _ hkt
    simp only [covers] at h1
    rcases hor with ⟨hf, rfl⟩ | ⟨hf, hr⟩
    · refine ⟨_, hW2, fun Q E d acts => ?_⟩
      have hf' : (U.vm.noted f.method.cls y.catchType (.cls c)).assignable cell.cls c = true := by rw [hW2.alike.assignable]; exact hf
      simp [findHandler.go, h1, h0, ha, ht, hc, hobj, hk1', hk2', hf', VmOp.dirties, VmOp.acts]
    · obtain ⟨vm', hW', hq⟩ := ih (U.setVm (U.vm.noted f.method.cls y.catchType (.cls c))) hW2 hc hr
      refine ⟨vm', hW', fun Q E d acts => ?_⟩
      have hf' : (U.vm.noted f.method.cls y.catchType (.cls c)).assignable cell.cls c = false := by rw [hW2.alike.assignable]; exact hf
      have hq1 := hq Q E d acts
      have e1 : (U.setVm (U.vm.noted f.method.cls y.catchType (.cls c))).setVm vm' = U.setVm vm' := rfl
      rw [e1] at hq1
      rw [← hq1]
      simp [findHandler.go, h1, h0, ha, ht, hc, hobj, hk1', hk2', hf', VmOp.dirties, VmOp.acts]
variable {p : Program} {l : Launch} {e : Env} {R : Room} {s : State} {m : MethodId} {args : Array Value} {below : List Frame} {meth : Method} {c : Code} {T : State} {locs : List Loc} {cells slots : Nat}
theorem x_caught (X : Stand p l e R s m args below meth c T locs cells slots) {a : Addr} {g : JFrame} (hg : g.method = m) {cell : Cell} (hcell : T.heap[a]? = some cell) (hobj : cell.vm.isStatics = false) (hk0 : ∃ k, s.vm.classes[cell.cls]? = some k) {h : Nat} (hh : x_hit e.platform s m.cls g.pc cell.cls c.exceptionTable.toList h) :
    ∃ vm', Stand p l e R s m args below meth c (T.setVm vm') locs cells slots ∧ ∀ target, Steps p.tables e below ((T.setVm vm').setTop { g with pc := h, stack := [.ref a] }) target → Steps p.tables e below ((T.setTop g).pushFrame (.throwing a)) target := by
  subst hg
  obtain ⟨vm', hW', hq⟩ := x_find (e := e) (s0 := s) (f := g) (a := a) (VmData.ne_statics_of hobj) hk0 h c.exceptionTable.toList ((T.setTop g).pushFrame (.throwing a)) X.warmed hcell hh
  refine ⟨vm', X.noted hW', fun target hrest => ?_⟩
  obtain ⟨hgo, hw⟩ := X.here.throwing (g := g) a
  refine Steps.head hgo hw ?_
  have hst : (stepThrowing e ((T.setTop g).pushFrame (.throwing a)) a (.java g :: T.frames.tail)).Is ((((T.setTop g).pushFrame (.throwing a)).setVm vm').setFrames (.java { g with pc := h, stack := [.ref a] } :: T.frames.tail)) [] := by
    simp only [stepThrowing, searchFrame, vmDo]
    generalize hr : Sem.go _ e false [] ((T.setTop g).pushFrame (.throwing a)) = res
    have hfind : ∀ (Q : Handler → Pre) (E : CtlPost) (d : Bool) (acts : List Action), wp (findHandler g a) Q E e d acts ((T.setTop g).pushFrame (.throwing a)) ↔ Q (.found h) d acts (((T.setTop g).pushFrame (.throwing a)).setVm vm') := fun Q E d acts => by
      rw [Jvm.W.findHandler_eq (s := (T.setTop g).pushFrame (.throwing a)) (meth := meth) (code := c) X.method' X.code]
      exact hq Q E d acts
    obtain ⟨as, rfl, ha⟩ := Sem.eq_ok_of hr (a := Handler.found h) (s' := ((T.setTop g).pushFrame (.throwing a)).setVm vm') (acts' := []) (by simp [hfind _ _ _ _])
    exact ⟨rfl, ha⟩
  rw [stepThread_throwing (frames_entered X.here.top _), hst.1]
  obtain ⟨g₀, hr⟩ := X.frames_eq
  have hr' : (T.setVm vm').frames = .java g₀ :: below := hr
  rw [State.setTop_of_frames _ hr'] at hrest
  have e2 : (((T.setTop g).pushFrame (.throwing a)).setVm vm').setFrames (.java { g with pc := h, stack := [.ref a] } :: T.frames.tail) = (T.setVm vm').setFrames (.java { g with pc := h, stack := [.ref a] } :: below) := by
    rw [X.tail, State.pushFrame, State.setTop_of_frames _ hr]
    show (((T.setVm vm').setFrames _).setFrames _).setFrames _ = _
    rw [State.setFrames_setFrames, State.setFrames_setFrames]
  rw [e2]
  exact hrest
end XF

section XG
variable {S : Nat × (Nat → Int32)} {k k' pc : Nat} {L : List (Option Value)} {st : List Value} {μ : xM} {n : Nat} {Q : xQ}
/-- a constructor of a nest mate -/
theorem x_callIN {idx na a : Nat} {as : List Value} {host : String} (hd : decode (mC k) pc = .ok (.invokespecial idx, 3)) (hW : x_CW k k' (na + 1)) (hin : (mY k').name = "<init>") (hT0 : mT k' = []) (hR0 : mR k' = none) (hl : Cond.methodLinkNest (mY k).cls idx (mY k') host ∈ x_Ts) (hi : Cond.instanceMethod (mY k') ∈ x_Ts) (hnp : (parseMethodDescriptor (mY k').desc).map (fun d => d.parameters.length) = some na) (hna : as.length = na) (has : ∀ v ∈ as, v.category = 1) (hrest : st.length ≤ 4)
    (body : x_V S k' 0 (x_en (mL k') (.ref a :: as)) [] μ n (x_bk S k pc L st Q)) : x_V S k pc L (as.reverse ++ .ref a :: st) μ n Q := by
  intro w p l e R s m args below meth c H locs cells slots ls hG T hT X
  subst hT
  have hC := hG.1
  obtain ⟨hx, hcode, hmax, hret0, hlk0, hown, hts, hK, ⟨hrf, hrl⟩, htr, hnm, hex, -⟩ := id hC
  obtain ⟨hw, hpl, hrk, hml, hnl, hy1, hy2⟩ := hW
  have hcw : (Cond.code (mY k') (mC k') (mL k') none).before args s = true := by
    have := hts _ hw
    unfold x_cw at this
    rw [hT0, hR0] at this
    exact this
  have ha : a < n := x_app_ok2 hG.2.2.2.1 (.ref a) List.mem_cons_self a rfl
  have hdc : decode c.code pc = .ok (.invokespecial idx, 3) := by rw [hcode]; exact hd
  have hpp : e.platform.magicAccessors = ({} : Platform).magicAccessors := by rw [X.admits.platform]
  obtain ⟨mk, methM, cM, kP, vm₁, hn, hmethM, hcodeM, -, hlocalsM, -, hkP, -, hW₁, hstep⟩ := Steps.initColdArgsNest (e := e) X.here hx X.warmed hpp hown hin ⟨hy1, hy2⟩ (hts _ hl) (hts _ hi) hcw (f := F0 m pc ls ((as.reverse ++ .ref a :: st).map (x_cv w))) rfl (a := x_ad w a) (argsL := as.map (x_cv w)) (rest := st.map (x_cv w)) (fun sig h => by rw [h] at hnp; rw [List.length_map]; exact hna.trans (Option.some.inj hnp).symm) (by rw [List.map_append, List.map_reverse]; rfl) hdc
  have X₁ := X.noted hW₁
  obtain ⟨t, T', o, μ', n', L', c', z', h1, h2, h3, h4, h5, h6, h7, h8, -⟩ := x_into (as := .ref a :: as) X₁ hC hG.2.1 hG.2.2.2.2.2 hG.2.2.2.2.1 (g := F0 m pc ls (st.map (x_cv w))) rfl (hG.2.2.1.1.trans hmax.symm) rfl (by have := x_sum w st; show ((st.map (x_cv w)).map _).sum ≤ 8; omega) hdc hw hn hpl hrk hml (fun v hv => by
    rcases List.mem_cons.mp hv with e1 | e1
    · rw [e1]; exact ⟨fun x hx => by cases hx; exact ha, rfl⟩
    · exact ⟨x_app_ok hG.2.2.2.1 v e1, has v e1⟩) (by simp only [List.length_cons]; omega) body
  obtain ⟨t2, h9, h10⟩ := x_after hC hG.2.2.1 (x_tl (x_app_ok2 hG.2.2.2.1)) h2 h3 h4 h5 h6 h7 h8
  exact ⟨t2, hstep t2 fun acts => (h1 acts).trans h9, h10⟩
/-- the rows of a method's table, by words -/
def x_hs (k pc x : Nat) : List (Nat × Nat × Nat × Nat) → Nat → Prop
  | [], _ => False
  | (a, b, hp, ct) :: t, h => (decide (a ≤ pc) && decide (pc < b)) = true ∧ ct ≠ 0 ∧ ∃ C, Cond.classLink (mY k).cls ct C ∈ x_Ts ∧ ((Cond.castable (x_ex x) C ∈ x_Ts ∧ hp = h) ∨ ((x_ex x, C) ∈ x_NC ∧ x_hs k pc x t h))
theorem x_hs_hit {w : xW} {p : Program} {e : Env} {R : Room} {s : State} {m : MethodId} {args : Array Value} {meth : Method} {c : Code} {x h : Nat} {cls : ClassId} (hpl : e.platform.magicAccessors = ({} : Platform).magicAccessors) (hC : x_C S w k p e R s m args meth c) (hcl : s.vm.findClass (x_ex x) = some cls) :
    ∀ (ts : List ExceptionTableEntry), x_hs k pc x (ts.map (fun h => (h.startPc, h.endPc, h.handlerPc, h.catchType))) h → x_hit e.platform s m.cls pc cls ts h := by
  obtain ⟨hx, hcode, hmax, hret0, hlk0, hown, hts, hK, -⟩ := hC
  intro ts
  induction ts with
  | nil => intro hh; exact hh
  | cons y t ih =>
    intro hh
    obtain ⟨h1, h0, C, hl, hor⟩ := hh
    obtain ⟨c5, hc5, hcl5⟩ := Cond.classLink_spec hown (hts _ hl) e.platform hpl
    refine ⟨h1, h0, c5, hcl5, ?_⟩
    rcases hor with ⟨hcast, hp⟩ | ⟨hnc, hr⟩
    · obtain ⟨c3, c4, hc3, hc4, hasg⟩ := Cond.castable_spec (hts _ hcast)
      cases hc3.symm.trans hcl
      cases hc4.symm.trans hc5
      exact Or.inl ⟨hasg, hp⟩
    · obtain ⟨c3, c4, hc3, hc4, hasg⟩ := hK.2.2.2.2.2.2.2.2 _ hnc
      cases hc3.symm.trans hcl
      cases hc4.symm.trans hc5
      exact Or.inr ⟨hasg, ih hr⟩
/-- where a call goes on that may throw -/
def x_bt (S : Nat × (Nat → Int32)) (k pc : Nat) (L : List (Option Value)) (st : List Value) (Q : xQ) : xQ := fun o μ' n' => match o with
  | .inl v => x_V S k (pc + 3) L (v.toList ++ st) μ' n' Q
  | .inr x => ∃ h, x_hs k pc x (mT k) h ∧ x_V S k h L [.ref (n' - 1)] μ' n' Q
theorem x_callVT {idx na a ci N : Nat} {as : List Value} {TT : u_T} {ty : Nat → FieldType} (hd : decode (mC k) pc = .ok (.invokevirtual idx, 3)) (hW : x_CW k k' (na + 1)) (hF : x_CF ci (mY k').cls TT N ty) (hl : Cond.methodLink (mY k).cls idx (mY k') ∈ x_Ts) (hi : Cond.instanceMethod (mY k') ∈ x_Ts) (hse : Cond.selects (mY k').cls (mY k') (mY k') ∈ x_Ts) (hnp : (parseMethodDescriptor (mY k').desc).map (fun d => d.parameters.length) = some na) (hna : as.length = na) (hs : x_sh a = (ci, N)) (has : ∀ v ∈ as, v.category = 1) (hrest : st.length ≤ 4)
    (body : x_V S k' 0 (x_en (mL k') (.ref a :: as)) [] μ n (x_bt S k pc L st Q)) : x_V S k pc L (as.reverse ++ .ref a :: st) μ n Q := by
  intro w p l e R s m args below meth c H locs cells slots ls hG T hT X
  subst hT
  have hC := hG.1
  obtain ⟨hx, hcode, hmax, hret0, hlk0, hown, hts, hK, ⟨hrf, hrl⟩, htr, hnm, hex, -⟩ := id hC
  obtain ⟨hw, hpl, hrk, hml, hnl, hy1, hy2⟩ := hW
  obtain ⟨mk, methk, ck, hn, hmk, hck, -, -, -, -, -, hsig⟩ := x_code_spec (hts _ hw)
  obtain ⟨mk', methM, hn', hmM, hstM, habM⟩ := Cond.instanceMethod_spec (hts _ hi)
  cases hn.symm.trans hn'
  cases hmk.symm.trans hmM
  have ha : a < n := x_app_ok2 hG.2.2.2.1 (.ref a) List.mem_cons_self a rfl
  obtain ⟨cellB, hcB, hoB, hclB⟩ := x_recvO hF hK hG.2.1 ha hs
  obtain ⟨c2, r2, m2, q1, q2, q3, q4, kP, hkP, hkPi⟩ := Cond.selects_spec (hts _ hse)
  cases hclB.symm.trans q1
  cases (State.methodFound?_of_named hn ⟨hy1, hy2⟩).symm.trans q2
  cases hn.symm.trans q3
  have hselP : selectMethod e.platform s.vm cellB.cls mk = .method mk := by rw [Launch.admits_selectMethod X.admits]; exact q4
  have hlen : as.length = methk.sig.parameters.length := by
    rw [hsig] at hnp
    exact hna.trans (Option.some.inj hnp).symm
  have hdc : decode c.code pc = .ok (.invokevirtual idx, 3) := by rw [hcode]; exact hd
  obtain ⟨vm₁, X₁, hstep⟩ := X.invokevirtual hx hown (hts _ hl) hn hmk hstM hkP hkPi ⟨hy1, hy2⟩ (a := x_ad w a) (cell := cellB) hcB (fun z h => by rw [h] at hoB; cases hoB) hselP hmk habM hkP hkPi (g := F0 m pc ls ((as.reverse ++ .ref a :: st).map (x_cv w))) rfl (argsL := as.map (x_cv w)) (rest := st.map (x_cv w)) (by rw [List.length_map]; exact hlen) (by rw [List.map_append, List.map_reverse]; rfl) hdc
  obtain ⟨t, T', o, μ', n', L', c', z', h1, h2, h3, h4, h5, h6, h7, h8, h8x⟩ := x_into (as := .ref a :: as) X₁ hC hG.2.1 hG.2.2.2.2.2 hG.2.2.2.2.1 (g := F0 m pc ls (st.map (x_cv w))) rfl (hG.2.2.1.1.trans hmax.symm) rfl (by have := x_sum w st; show ((st.map (x_cv w)).map _).sum ≤ 8; omega) hdc hw hn hpl hrk hml (fun v hv => by
    rcases List.mem_cons.mp hv with e1 | e1
    · rw [e1]; exact ⟨fun x hx => by cases hx; exact ha, rfl⟩
    · exact ⟨x_app_ok hG.2.2.2.1 v e1, has v e1⟩) (by simp only [List.length_cons]; omega) body
  cases o with
  | inl v =>
    obtain ⟨t2, h9, h10⟩ := x_after (Q := Q) (o := .inl v) hC hG.2.2.1 (x_tl (x_app_ok2 hG.2.2.2.1)) ⟨v, rfl, h2⟩ h3 h4 h5 h6 h7 h8
    exact ⟨t2, hstep t2 fun acts => (h1 acts).trans h9, h10⟩
  | inr x =>
    obtain ⟨hpc, hhs, hv⟩ := h2
    obtain ⟨ht, cell, hcell, hobj, hcl⟩ := h8x x rfl
    have hpp : e.platform.magicAccessors = ({} : Platform).magicAccessors := by rw [X.admits.platform]
    have hit := x_hs_hit (pc := pc) hpp hC hcl c.exceptionTable.toList (by rw [hex]; exact hhs)
    obtain ⟨vm2, X2, hst2⟩ := x_caught h3 (g := F0 m pc ls (st.map (x_cv w))) rfl hcell hobj (by obtain ⟨k9, h9, -⟩ := Vm.findClass_spec hcl; exact ⟨k9, h9⟩) hit
    have n2 := h5.1
    obtain ⟨t2, h9, h10⟩ := hv w p l e R s m args below meth c T'.heap _ _ _ ls ⟨hC, h5, x_L_mono hG.2.2.1 h7, (fun u hu => by
      rw [List.mem_singleton.mp hu]
      exact fun y hy => by cases hy; exact Nat.sub_lt (Nat.lt_of_lt_of_le Nat.zero_lt_two n2) Nat.zero_lt_one), h4, h6⟩ (T'.setVm vm2) rfl X2
    exact ⟨t2, hstep t2 fun acts => (h1 acts).trans (by rw [ht]; exact hst2 t2 h9), h10⟩
end XG
end
section
/-! 07.vm: the memory once all is made: pointers stand fast (x_pt), everything else is an int, kept as a mathematical integer (the law's long array: an int widened). -/
section XI
def I (z : Int) : Int32 := Int32.ofInt z
def ib (z : Int) : Prop := -2147483648 ≤ z ∧ z ≤ 2147483647
theorem I_toInt {z : Int} (h : ib z) : (I z).toInt = z := Int32.toInt_ofInt_of_le (by have := h.1; omega) (by have := h.2; omega)
theorem I_of (x : Int32) : I x.toInt = x := by unfold I; exact Int32.ofInt_toInt x
theorem ib_of (x : Int32) : ib x.toInt := ⟨by have := x.le_toInt; omega, by have := x.toInt_lt; omega⟩
theorem I_add (x y : Int) : I x + I y = I (x + y) := by unfold I; exact (Int32.ofInt_add x y).symm
theorem I_sub (x y : Int) : I x - I y = I (x - y) := by unfold I; exact (Int32.ofInt_sub x y).symm
theorem I_mul (x y : Int) : I x * I y = I (x * y) := by unfold I; exact (Int32.ofInt_mul x y).symm
theorem I_inj {x y : Int} (hx : ib x) (hy : ib y) : I x = I y ↔ x = y := by
  rw [← Int32.toInt_inj, I_toInt hx, I_toInt hy]
theorem I_lt {x y : Int} (hx : ib x) (hy : ib y) : I x < I y ↔ x < y := by
  rw [Int32.lt_iff_toInt_lt, I_toInt hx, I_toInt hy]
theorem I_le {x y : Int} (hx : ib x) (hy : ib y) : I x ≤ I y ↔ x ≤ y := by
  rw [Int32.le_iff_toInt_le, I_toInt hx, I_toInt hy]
theorem I_0 : I 0 = 0 := by decide +kernel
theorem ib_0 : ib 0 := ⟨by omega, by omega⟩
theorem I_div {x y : Int} (hx : ib x) (hy : ib y) (hx0 : 0 ≤ x) (hy0 : 0 < y) : I x / I y = I (x / y) := by
  have hq : ib (x / y) := by
    have h1 : 0 ≤ x / y := Int.ediv_nonneg hx0 (by omega)
    have h2 : x / y ≤ x := Int.ediv_le_self y hx0
    have := hx.2
    exact ⟨by omega, by omega⟩
  rw [← Int32.toInt_inj, I_toInt hq, Int32.toInt_div_of_ne_left _ _ (fun e => by
    have h3 : (I x).toInt = Int32.minValue.toInt := by rw [e]
    rw [I_toInt hx] at h3
    have h4 : Int32.minValue.toInt = -2147483648 := by decide +kernel
    omega), I_toInt hx, I_toInt hy]
  exact Int.tdiv_eq_ediv_of_nonneg hx0
theorem I_rem {x y : Int} (hx : ib x) (hy : ib y) (hx0 : 0 ≤ x) (hy0 : 0 < y) : I x - I x / I y * I y = I (x % y) := by
  rw [I_div hx hy hx0 hy0, I_mul, I_sub, Int.emod_def, Int.mul_comm y]
theorem I_nat {x : Int} (hx : ib x) : (I x).toNatClampNeg = x.toNat := by
  show (I x).toInt.toNat = x.toNat
  rw [I_toInt hx]
theorem I_in {x : Int} {N : Nat} (h0 : 0 ≤ x) (h1 : x < N) (hN : (N : Int) ≤ 2147483647) : vp_in (I x) N := by
  have hb : ib x := ⟨by omega, by omega⟩
  intro h
  rcases h with h | h
  · rw [← I_0, I_lt hb ib_0] at h
    omega
  · rw [I_nat hb] at h
    omega
theorem I_ne0 {y : Int} (hy : ib y) (h : y ≠ 0) : ¬ I y = 0 := by
  rw [← I_0, I_inj hy ib_0]
  exact h
end XI
section XV
def x_uf (g : Nat → Nat → Int) (a i : Nat) (z : Int) : Nat → Nat → Int := fun b j => if b = a ∧ j = i then z else g b j
def x_vm (g : Nat → Nat → Int) : xM := fun a i => match x_pt a i with
  | some v => v
  | none => if a = x_out then .long (I (g a i)).toInt64 else .int (I (g a i))
theorem x_uf_eq (g : Nat → Nat → Int) (a i : Nat) (x : Int) : x_uf g a i x a i = x := by
  unfold x_uf
  rw [if_pos ⟨rfl, rfl⟩]
theorem x_uf_ne {g : Nat → Nat → Int} {a i b j : Nat} {x : Int} (h : ¬ (b = a ∧ j = i)) : x_uf g a i x b j = g b j := by
  unfold x_uf
  rw [if_neg h]
theorem x_vm_i {g : Nat → Nat → Int} {a i : Nat} (hp : x_pt a i = none) (ha : a ≠ x_out) : x_vm g a i = .int (I (g a i)) := by
  unfold x_vm
  rw [hp]
  exact if_neg ha
theorem x_vm_p {g : Nat → Nat → Int} {a i : Nat} {v : Value} (hp : x_pt a i = some v) : x_vm g a i = v := by
  unfold x_vm
  rw [hp]
theorem x_vm_up {g : Nat → Nat → Int} {a i : Nat} {x : Int} (hp : x_pt a i = none) (ha : a ≠ x_out) : x_up (x_vm g) a i (.int (I x)) = x_vm (x_uf g a i x) := by
  funext b j
  unfold x_up
  by_cases h : b = a ∧ j = i
  · rw [if_pos h, h.1, h.2, x_vm_i hp ha, x_uf_eq]
  · rw [if_neg h]
    unfold x_vm
    rw [x_uf_ne h]
theorem x_vm_upl {g : Nat → Nat → Int} {i : Nat} {x : Int} (hp : x_pt x_out i = none) : x_up (x_vm g) x_out i (.long (I x).toInt64) = x_vm (x_uf g x_out i x) := by
  funext b j
  unfold x_up
  by_cases h : b = x_out ∧ j = i
  · rw [if_pos h, h.1, h.2]
    unfold x_vm
    rw [hp, x_uf_eq]
    exact (if_pos rfl).symm
  · rw [if_neg h]
    unfold x_vm
    rw [x_uf_ne h]
variable {S : Nat × (Nat → Int32)} {k pc : Nat} {L : List (Option Value)} {st : List Value} {μ : xM} {g : Nat → Nat → Int} {n : Nat} {Q : xQ}
theorem v_get {ci N i idx a : Nat} {C : String} {T : u_T} {ty : Nat → FieldType} (hF : x_CF ci C T N ty) (hd : decode (mC k) pc = .ok (.getfield idx, 3)) (hi : i < N) (hl : Cond.fieldLink (mY k).cls idx (T i).1 (T i).2.1 (T i).2.2.1 ∈ x_Ts) (hs : x_sh a = (ci, N)) (hp : x_pt a i = none) (ha : a ≠ x_out) (h : x_V S k (pc + 3) L (.int (I (g a i)) :: st) (x_vm g) n Q) : x_V S k pc L (.ref a :: st) (x_vm g) n Q :=
  x_get hF hd hi hl hs (by rw [x_vm_i hp ha]; exact h)
theorem v_getp {ci N i idx a : Nat} {C : String} {T : u_T} {ty : Nat → FieldType} {v : Value} (hF : x_CF ci C T N ty) (hd : decode (mC k) pc = .ok (.getfield idx, 3)) (hi : i < N) (hl : Cond.fieldLink (mY k).cls idx (T i).1 (T i).2.1 (T i).2.2.1 ∈ x_Ts) (hs : x_sh a = (ci, N)) (hp : x_pt a i = some v) (h : x_V S k (pc + 3) L (v :: st) (x_vm g) n Q) : x_V S k pc L (.ref a :: st) (x_vm g) n Q :=
  x_get hF hd hi hl hs (by rw [x_vm_p hp]; exact h)
theorem v_put {ci N i idx a : Nat} {C : String} {T : u_T} {ty : Nat → FieldType} {x : Int} (hF : x_CF ci C T N ty) (hd : decode (mC k) pc = .ok (.putfield idx, 3)) (hi : i < N) (hfin : (T i).2.2.2 = false) (hl : Cond.fieldLink (mY k).cls idx (T i).1 (T i).2.1 (T i).2.2.1 ∈ x_Ts) (hs : x_sh a = (ci, N)) (hty : ty i = .int) (hp : x_pt a i = none) (ha : a ≠ x_out) (h : x_V S k (pc + 3) L st (x_vm (x_uf g a i x)) n Q) : x_V S k pc L (.int (I x) :: .ref a :: st) (x_vm g) n Q :=
  x_put hF hd hi hfin hl hs (fun _ => by rw [hty]; exact ⟨rfl, rfl⟩) (by rw [x_vm_up hp ha]; exact h)
theorem v_bool {x : Int} (h : x = 0 ∨ x = 1) : narrow .boolean (.int (I x)) = .int (I x) ∧ fits .boolean (.int (I x)) = true := by
  rcases h with e | e <;> rw [e] <;> exact ⟨by decide +kernel, by decide +kernel⟩
theorem v_putz {ci N i idx a : Nat} {C : String} {T : u_T} {ty : Nat → FieldType} {x : Int} (hF : x_CF ci C T N ty) (hd : decode (mC k) pc = .ok (.putfield idx, 3)) (hi : i < N) (hfin : (T i).2.2.2 = false) (hl : Cond.fieldLink (mY k).cls idx (T i).1 (T i).2.1 (T i).2.2.1 ∈ x_Ts) (hs : x_sh a = (ci, N)) (hty : ty i = .boolean) (hx : x = 0 ∨ x = 1) (hp : x_pt a i = none) (ha : a ≠ x_out) (h : x_V S k (pc + 3) L st (x_vm (x_uf g a i x)) n Q) : x_V S k pc L (.int (I x) :: .ref a :: st) (x_vm g) n Q :=
  x_put hF hd hi hfin hl hs (fun _ => by rw [hty]; exact v_bool hx) (by rw [x_vm_up hp ha]; exact h)
theorem v_iald {N a : Nat} {i : Int} (hd : decode (mC k) pc = .ok (.iaload, 1)) (hs : x_sh a = (100, N)) (h0 : 0 ≤ i) (h1 : i < N) (hN : (N : Int) ≤ 2147483647) (hp : x_pt a i.toNat = none) (ha : a ≠ x_out) (h : x_V S k (pc + 1) L (.int (I (g a i.toNat)) :: st) (x_vm g) n Q) : x_V S k pc L (.int (I i) :: .ref a :: st) (x_vm g) n Q :=
  x_iald hd hs (I_in h0 h1 hN) (by rw [I_nat ⟨by omega, by omega⟩, x_vm_i hp ha]; exact h)
theorem v_zald {N a : Nat} {i : Int} (hd : decode (mC k) pc = .ok (.baload, 1)) (hs : x_sh a = (101, N)) (h0 : 0 ≤ i) (h1 : i < N) (hN : (N : Int) ≤ 2147483647) (hp : x_pt a i.toNat = none) (ha : a ≠ x_out) (h : x_V S k (pc + 1) L (.int (I (g a i.toNat)) :: st) (x_vm g) n Q) : x_V S k pc L (.int (I i) :: .ref a :: st) (x_vm g) n Q :=
  x_zald hd hs (I_in h0 h1 hN) (by rw [I_nat ⟨by omega, by omega⟩, x_vm_i hp ha]; exact h)
theorem v_aald {N a kd : Nat} {i : Int} {v : Value} (hd : decode (mC k) pc = .ok (.aaload, 1)) (hs : x_sh a = (kd, N)) (hkd : kd = 103 ∨ kd = 104) (h0 : 0 ≤ i) (h1 : i < N) (hN : (N : Int) ≤ 2147483647) (hp : x_pt a i.toNat = some v) (h : x_V S k (pc + 1) L (v :: st) (x_vm g) n Q) : x_V S k pc L (.int (I i) :: .ref a :: st) (x_vm g) n Q :=
  x_aald hd hs hkd (I_in h0 h1 hN) (by rw [I_nat ⟨by omega, by omega⟩, x_vm_p hp]; exact h)
theorem v_lald (hd : decode (mC k) pc = .ok (.laload, 1)) (hs : x_sh x_out = (102, 1)) (hp : x_pt x_out 0 = none) (h : x_V S k (pc + 1) L (.long (I (g x_out 0)).toInt64 :: st) (x_vm g) n Q) : x_V S k pc L (.int (I 0) :: .ref x_out :: st) (x_vm g) n Q :=
  x_lald hd hs (I_in (by omega) (by omega) (by omega)) (by
    have e : x_vm g x_out 0 = .long (I (g x_out 0)).toInt64 := by
      unfold x_vm
      rw [hp]
      exact if_pos rfl
    rw [I_nat ib_0]
    show x_V S k (pc + 1) L (x_vm g x_out 0 :: st) (x_vm g) n Q
    rw [e]; exact h)
theorem v_iast {N a : Nat} {i x : Int} (hd : decode (mC k) pc = .ok (.iastore, 1)) (hs : x_sh a = (100, N)) (h0 : 0 ≤ i) (h1 : i < N) (hN : (N : Int) ≤ 2147483647) (hp : x_pt a i.toNat = none) (ha : a ≠ x_out) (h : x_V S k (pc + 1) L st (x_vm (x_uf g a i.toNat x)) n Q) : x_V S k pc L (.int (I x) :: .int (I i) :: .ref a :: st) (x_vm g) n Q :=
  x_iast hd hs (I_in h0 h1 hN) (by rw [I_nat ⟨by omega, by omega⟩, x_vm_up hp ha]; exact h)
theorem v_zast {N a : Nat} {i x : Int} (hd : decode (mC k) pc = .ok (.bastore, 1)) (hs : x_sh a = (101, N)) (h0 : 0 ≤ i) (h1 : i < N) (hN : (N : Int) ≤ 2147483647) (hx : x = 0 ∨ x = 1) (hp : x_pt a i.toNat = none) (ha : a ≠ x_out) (h : x_V S k (pc + 1) L st (x_vm (x_uf g a i.toNat x)) n Q) : x_V S k pc L (.int (I x) :: .int (I i) :: .ref a :: st) (x_vm g) n Q :=
  x_zast hd hs (I_in h0 h1 hN) (v_bool hx).1 (by rw [I_nat ⟨by omega, by omega⟩, x_vm_up hp ha]; exact h)
theorem v_last {x : Int} (hd : decode (mC k) pc = .ok (.lastore, 1)) (hs : x_sh x_out = (102, 1)) (hp : x_pt x_out 0 = none) (h : x_V S k (pc + 1) L st (x_vm (x_uf g x_out 0 x)) n Q) : x_V S k pc L (.long (I x).toInt64 :: .int (I 0) :: .ref x_out :: st) (x_vm g) n Q :=
  x_last hd hs (I_in (by omega) (by omega) (by omega)) (by
    rw [I_nat ib_0]
    show x_V S k (pc + 1) L st (x_up (x_vm g) x_out 0 (.long (I x).toInt64)) n Q
    rw [x_vm_upl hp]; exact h)
theorem v_tald {i : Int} (hd : decode (mC k) pc = .ok (.iaload, 1)) (h0 : 0 ≤ i) (h1 : i < x_rowsN) (hN : (x_rowsN : Int) ≤ 2147483647) (h : x_V S k (pc + 1) L (.int (x_rows i.toNat) :: st) μ n Q) : x_V S k pc L (.int (I i) :: .ref 0 :: st) μ n Q :=
  x_tald hd (I_in h0 h1 hN) (by rw [I_nat ⟨by omega, by omega⟩]; exact h)
theorem v_sald {i : Int} (hd : decode (mC k) pc = .ok (.iaload, 1)) (h0 : 0 ≤ i) (h1 : i < S.1) (hN : (S.1 : Int) ≤ 2147483647) (h : x_V S k (pc + 1) L (.int (S.2 i.toNat) :: st) μ n Q) : x_V S k pc L (.int (I i) :: .ref 1 :: st) μ n Q :=
  x_sald hd (I_in h0 h1 hN) (by rw [I_nat ⟨by omega, by omega⟩]; exact h)
theorem v_iadd {x y : Int} (hd : decode (mC k) pc = .ok (.iadd, 1)) (h : x_V S k (pc + 1) L (.int (I (x + y)) :: st) μ n Q) : x_V S k pc L (.int (I y) :: .int (I x) :: st) μ n Q :=
  x_iadd hd (by rw [I_add]; exact h)
theorem v_isub {x y : Int} (hd : decode (mC k) pc = .ok (.isub, 1)) (h : x_V S k (pc + 1) L (.int (I (x - y)) :: st) μ n Q) : x_V S k pc L (.int (I y) :: .int (I x) :: st) μ n Q :=
  x_isub hd (by rw [I_sub]; exact h)
theorem v_imul {x y : Int} (hd : decode (mC k) pc = .ok (.imul, 1)) (h : x_V S k (pc + 1) L (.int (I (x * y)) :: st) μ n Q) : x_V S k pc L (.int (I y) :: .int (I x) :: st) μ n Q :=
  x_imul hd (by rw [I_mul]; exact h)
theorem v_idiv {x y : Int} (hd : decode (mC k) pc = .ok (.idiv, 1)) (hx : ib x) (hy : ib y) (hx0 : 0 ≤ x) (hy0 : 0 < y) (h : x_V S k (pc + 1) L (.int (I (x / y)) :: st) μ n Q) : x_V S k pc L (.int (I y) :: .int (I x) :: st) μ n Q :=
  x_idiv (I_ne0 hy (by omega)) hd (by rw [I_div hx hy hx0 hy0]; exact h)
theorem v_irem {x y : Int} (hd : decode (mC k) pc = .ok (.irem, 1)) (hx : ib x) (hy : ib y) (hx0 : 0 ≤ x) (hy0 : 0 < y) (h : x_V S k (pc + 1) L (.int (I (x % y)) :: st) μ n Q) : x_V S k pc L (.int (I y) :: .int (I x) :: st) μ n Q :=
  x_irem (I_ne0 hy (by omega)) hd (by rw [I_rem hx hy hx0 hy0]; exact h)
theorem v_iinc {j : Nat} {z x : Int} (hd : decode (mC k) pc = .ok (.iinc j z, 3)) (hl : L[j]? = some (some (.int (I x)))) (hj : j < mL k) (h : x_V S k (pc + 3) (L.set j (some (.int (I (x + z))))) st μ n Q) : x_V S k pc L st μ n Q :=
  x_iinc hd hl (I_add x z) hj h
theorem v_if_eq {x : Int} {off : Int} {tgt : Nat} (hd : decode (mC k) pc = .ok (.ifCond .eq off, 3)) (ht : (pc : Int) + off = (tgt : Int)) (hx : ib x) (kt : x = 0 → x_V S k tgt L st μ n Q) (kf : x ≠ 0 → x_V S k (pc + 3) L st μ n Q) : x_V S k pc L (.int (I x) :: st) μ n Q :=
  x_if_eq hd ht (fun q => kt (by rw [← I_0, I_inj hx ib_0] at q; exact q)) (fun q => kf (by rw [← I_0, I_inj hx ib_0] at q; omega))
theorem v_icmp_eq {x y : Int} {off : Int} {tgt : Nat} (hd : decode (mC k) pc = .ok (.if_icmp .eq off, 3)) (ht : (pc : Int) + off = (tgt : Int)) (hx : ib x) (hy : ib y) (kt : x = y → x_V S k tgt L st μ n Q) (kf : x ≠ y → x_V S k (pc + 3) L st μ n Q) : x_V S k pc L (.int (I y) :: .int (I x) :: st) μ n Q :=
  x_icmp_eq hd ht (fun q => kt (by rw [I_inj hx hy] at q; exact q)) (fun q => kf (by rw [I_inj hx hy] at q; omega))
theorem v_if_ne {x : Int} {off : Int} {tgt : Nat} (hd : decode (mC k) pc = .ok (.ifCond .ne off, 3)) (ht : (pc : Int) + off = (tgt : Int)) (hx : ib x) (kt : x ≠ 0 → x_V S k tgt L st μ n Q) (kf : x = 0 → x_V S k (pc + 3) L st μ n Q) : x_V S k pc L (.int (I x) :: st) μ n Q :=
  x_if_ne hd ht (fun q => kt (by rw [← I_0, I_inj hx ib_0] at q; omega)) (fun q => kf (by rw [← I_0, I_inj hx ib_0] at q; exact q))
theorem v_icmp_ne {x y : Int} {off : Int} {tgt : Nat} (hd : decode (mC k) pc = .ok (.if_icmp .ne off, 3)) (ht : (pc : Int) + off = (tgt : Int)) (hx : ib x) (hy : ib y) (kt : x ≠ y → x_V S k tgt L st μ n Q) (kf : x = y → x_V S k (pc + 3) L st μ n Q) : x_V S k pc L (.int (I y) :: .int (I x) :: st) μ n Q :=
  x_icmp_ne hd ht (fun q => kt (by rw [I_inj hx hy] at q; omega)) (fun q => kf (by rw [I_inj hx hy] at q; exact q))
theorem v_if_lt {x : Int} {off : Int} {tgt : Nat} (hd : decode (mC k) pc = .ok (.ifCond .lt off, 3)) (ht : (pc : Int) + off = (tgt : Int)) (hx : ib x) (kt : x < 0 → x_V S k tgt L st μ n Q) (kf : 0 ≤ x → x_V S k (pc + 3) L st μ n Q) : x_V S k pc L (.int (I x) :: st) μ n Q :=
  x_if_lt hd ht (fun q => kt (by rw [← I_0, I_lt hx ib_0] at q; exact q)) (fun q => kf (by rw [← I_0, I_lt hx ib_0] at q; omega))
theorem v_icmp_lt {x y : Int} {off : Int} {tgt : Nat} (hd : decode (mC k) pc = .ok (.if_icmp .lt off, 3)) (ht : (pc : Int) + off = (tgt : Int)) (hx : ib x) (hy : ib y) (kt : x < y → x_V S k tgt L st μ n Q) (kf : y ≤ x → x_V S k (pc + 3) L st μ n Q) : x_V S k pc L (.int (I y) :: .int (I x) :: st) μ n Q :=
  x_icmp_lt hd ht (fun q => kt (by rw [I_lt hx hy] at q; exact q)) (fun q => kf (by rw [I_lt hx hy] at q; omega))
theorem v_if_ge {x : Int} {off : Int} {tgt : Nat} (hd : decode (mC k) pc = .ok (.ifCond .ge off, 3)) (ht : (pc : Int) + off = (tgt : Int)) (hx : ib x) (kt : 0 ≤ x → x_V S k tgt L st μ n Q) (kf : x < 0 → x_V S k (pc + 3) L st μ n Q) : x_V S k pc L (.int (I x) :: st) μ n Q :=
  x_if_ge hd ht (fun q => kt (by rw [← I_0, I_le ib_0 hx] at q; exact q)) (fun q => kf (by rw [← I_0, I_le ib_0 hx] at q; omega))
theorem v_icmp_ge {x y : Int} {off : Int} {tgt : Nat} (hd : decode (mC k) pc = .ok (.if_icmp .ge off, 3)) (ht : (pc : Int) + off = (tgt : Int)) (hx : ib x) (hy : ib y) (kt : y ≤ x → x_V S k tgt L st μ n Q) (kf : x < y → x_V S k (pc + 3) L st μ n Q) : x_V S k pc L (.int (I y) :: .int (I x) :: st) μ n Q :=
  x_icmp_ge hd ht (fun q => kt (by rw [I_le hy hx] at q; exact q)) (fun q => kf (by rw [I_le hy hx] at q; omega))
theorem v_if_gt {x : Int} {off : Int} {tgt : Nat} (hd : decode (mC k) pc = .ok (.ifCond .gt off, 3)) (ht : (pc : Int) + off = (tgt : Int)) (hx : ib x) (kt : 0 < x → x_V S k tgt L st μ n Q) (kf : x ≤ 0 → x_V S k (pc + 3) L st μ n Q) : x_V S k pc L (.int (I x) :: st) μ n Q :=
  x_if_gt hd ht (fun q => kt (by rw [← I_0, I_lt ib_0 hx] at q; exact q)) (fun q => kf (by rw [← I_0, I_lt ib_0 hx] at q; omega))
theorem v_icmp_gt {x y : Int} {off : Int} {tgt : Nat} (hd : decode (mC k) pc = .ok (.if_icmp .gt off, 3)) (ht : (pc : Int) + off = (tgt : Int)) (hx : ib x) (hy : ib y) (kt : y < x → x_V S k tgt L st μ n Q) (kf : x ≤ y → x_V S k (pc + 3) L st μ n Q) : x_V S k pc L (.int (I y) :: .int (I x) :: st) μ n Q :=
  x_icmp_gt hd ht (fun q => kt (by rw [I_lt hy hx] at q; exact q)) (fun q => kf (by rw [I_lt hy hx] at q; omega))
theorem v_if_le {x : Int} {off : Int} {tgt : Nat} (hd : decode (mC k) pc = .ok (.ifCond .le off, 3)) (ht : (pc : Int) + off = (tgt : Int)) (hx : ib x) (kt : x ≤ 0 → x_V S k tgt L st μ n Q) (kf : 0 < x → x_V S k (pc + 3) L st μ n Q) : x_V S k pc L (.int (I x) :: st) μ n Q :=
  x_if_le hd ht (fun q => kt (by rw [← I_0, I_le hx ib_0] at q; exact q)) (fun q => kf (by rw [← I_0, I_le hx ib_0] at q; omega))
theorem v_icmp_le {x y : Int} {off : Int} {tgt : Nat} (hd : decode (mC k) pc = .ok (.if_icmp .le off, 3)) (ht : (pc : Int) + off = (tgt : Int)) (hx : ib x) (hy : ib y) (kt : x ≤ y → x_V S k tgt L st μ n Q) (kf : y < x → x_V S k (pc + 3) L st μ n Q) : x_V S k pc L (.int (I y) :: .int (I x) :: st) μ n Q :=
  x_icmp_le hd ht (fun q => kt (by rw [I_le hx hy] at q; exact q)) (fun q => kf (by rw [I_le hx hy] at q; omega))
theorem v_ireturn {v : Int} (hd : decode (mC k) pc = .ok (.ireturn, 1)) (hr : mR k = some .int) (h : Q (.inl (some (.int (I v)))) μ n) : x_V S k pc L [.int (I v)] μ n Q := x_ireturn hd hr rfl h
theorem v_zreturn {v : Int} (hd : decode (mC k) pc = .ok (.ireturn, 1)) (hr : mR k = some .boolean) (hv : v = 0 ∨ v = 1) (h : Q (.inl (some (.int (I v)))) μ n) : x_V S k pc L [.int (I v)] μ n Q := x_ireturn hd hr (v_bool hv).1 h
end XV
end
section
/-! 08.words: the words of the tables, each by its place; laid by a program. -/
theorem x_wi (i : Nat) {q : Cond} (h : tables_1[i]? = some q) (hg : x_gw q = true) : q ∈ x_Ts := List.mem_filter.mpr ⟨List.mem_append_right _ (List.mem_of_getElem? h), hg⟩
theorem x_wp (i : Nat) {q : Cond} (h : (k2_sels lw_privs)[i]? = some q) (hg : x_gw q = true) : q ∈ x_Ts := List.mem_filter.mpr ⟨List.mem_append_left _ (List.mem_of_getElem? h), hg⟩
theorem w0 : (Jvm.Cond.initialized "TradeLinkLaw") ∈ x_Ts := x_wi 0 (by decide +kernel) rfl
theorem w1 : (Jvm.Cond.initialized "TradeLink") ∈ x_Ts := x_wi 1 (by decide +kernel) rfl
theorem w2 : (Jvm.Cond.initialized "TradeLink$Inbox") ∈ x_Ts := x_wi 2 (by decide +kernel) rfl
theorem w3 : (Jvm.Cond.initialized "TradeLink$Row") ∈ x_Ts := x_wi 3 (by decide +kernel) rfl
theorem w4 : (Jvm.Cond.initialized "TradeLink$Message") ∈ x_Ts := x_wi 4 (by decide +kernel) rfl
theorem w5 : (Jvm.Cond.initialized "TradeLink$Session") ∈ x_Ts := x_wi 5 (by decide +kernel) rfl
theorem w6 : (Jvm.Cond.initialized "TradeLink$Outbox") ∈ x_Ts := x_wi 6 (by decide +kernel) rfl
theorem w7 : (Jvm.Cond.initialized "TradeLink$Book") ∈ x_Ts := x_wi 7 (by decide +kernel) rfl
theorem w8 : (Jvm.Cond.initialized "TradeLink$Order") ∈ x_Ts := x_wi 8 (by decide +kernel) rfl
theorem w9 : (Jvm.Cond.initialized "TradeLink$Store") ∈ x_Ts := x_wi 9 (by decide +kernel) rfl
theorem w10 : (Jvm.Cond.initialized "TradeLinkModel") ∈ x_Ts := x_wi 10 (by decide +kernel) rfl
theorem w11 : (Jvm.Cond.initialized "TradeLink$Layout") ∈ x_Ts := x_wi 11 (by decide +kernel) rfl
theorem w12 : (Jvm.Cond.initialized "java/lang/Throwable") ∈ x_Ts := x_wi 12 (by decide +kernel) rfl
theorem w13 : (Jvm.Cond.initialized "java/lang/Exception") ∈ x_Ts := x_wi 13 (by decide +kernel) rfl
theorem w14 : (Jvm.Cond.initialized "java/lang/RuntimeException") ∈ x_Ts := x_wi 14 (by decide +kernel) rfl
theorem w15 : (Jvm.Cond.initialized "java/lang/IllegalArgumentException") ∈ x_Ts := x_wi 15 (by decide +kernel) rfl
theorem w16 : (Jvm.Cond.initialized "java/lang/IndexOutOfBoundsException") ∈ x_Ts := x_wi 16 (by decide +kernel) rfl
theorem w17 : (Jvm.Cond.initialized "java/lang/IllegalStateException") ∈ x_Ts := x_wi 17 (by decide +kernel) rfl
theorem w18 : (Jvm.Cond.initialized "java/lang/Math") ∈ x_Ts := x_wi 18 (by decide +kernel) rfl
theorem w19 : (Jvm.Cond.initialized "java/util/NoSuchElementException") ∈ x_Ts := x_wi 19 (by decide +kernel) rfl
theorem w20 : (Jvm.Cond.classLink "TradeLinkLaw" (8 : Nat) "TradeLink") ∈ x_Ts := x_wi 20 (by decide +kernel) rfl
theorem w21 : (Jvm.Cond.instantiable "TradeLink" (3 : Nat)) ∈ x_Ts := x_wi 21 (by decide +kernel) rfl
theorem w22 : (Jvm.Cond.methodLink "TradeLinkLaw" (48 : Nat) ({ cls := "TradeLink", name := "<init>", desc := "()V" } : Jvm.MethodName)) ∈ x_Ts := x_wi 22 (by decide +kernel) rfl
theorem w23 : (Jvm.Cond.instanceMethod ({ cls := "TradeLink", name := "<init>", desc := "()V" } : Jvm.MethodName)) ∈ x_Ts := x_wi 23 (by decide +kernel) rfl
theorem w24 : (Jvm.Cond.code ({ cls := "TradeLink", name := "<init>", desc := "()V" } : Jvm.MethodName) prog_1_method_1_code (1 : Nat) (Option.none : Option Jvm.ClassFile.FieldType)) ∈ x_Ts := x_wi 24 (by decide +kernel) rfl
theorem w25 : (Jvm.Cond.methodLink "TradeLink" (1 : Nat) ({ cls := "java/lang/Object", name := "<init>", desc := "()V" } : Jvm.MethodName)) ∈ x_Ts := x_wi 25 (by decide +kernel) rfl
theorem w26 : (Jvm.Cond.instanceMethod ({ cls := "java/lang/Object", name := "<init>", desc := "()V" } : Jvm.MethodName)) ∈ x_Ts := x_wi 26 (by decide +kernel) rfl
theorem w27 : (Jvm.Cond.code ({ cls := "java/lang/Object", name := "<init>", desc := "()V" } : Jvm.MethodName) object_method_1_code (1 : Nat) (Option.none : Option Jvm.ClassFile.FieldType)) ∈ x_Ts := x_wi 27 (by decide +kernel) rfl
theorem w28 : (Jvm.Cond.classLink "TradeLink" (7 : Nat) "TradeLink$Inbox") ∈ x_Ts := x_wi 28 (by decide +kernel) rfl
theorem w29 : (Jvm.Cond.instantiable "TradeLink$Inbox" (2 : Nat)) ∈ x_Ts := x_wi 29 (by decide +kernel) rfl
theorem w30 : (Jvm.Cond.methodLinkNest "TradeLink" (9 : Nat) ({ cls := "TradeLink$Inbox", name := "<init>", desc := "()V" } : Jvm.MethodName) "TradeLink") ∈ x_Ts := x_wi 30 (by decide +kernel) rfl
theorem w31 : (Jvm.Cond.instanceMethod ({ cls := "TradeLink$Inbox", name := "<init>", desc := "()V" } : Jvm.MethodName)) ∈ x_Ts := x_wi 31 (by decide +kernel) rfl
theorem w32 : (Jvm.Cond.code ({ cls := "TradeLink$Inbox", name := "<init>", desc := "()V" } : Jvm.MethodName) prog_3_method_1_code (1 : Nat) (Option.none : Option Jvm.ClassFile.FieldType)) ∈ x_Ts := x_wi 32 (by decide +kernel) rfl
theorem w33 : (Jvm.Cond.methodLink "TradeLink$Inbox" (3 : Nat) ({ cls := "java/lang/Object", name := "<init>", desc := "()V" } : Jvm.MethodName)) ∈ x_Ts := x_wi 33 (by decide +kernel) rfl
theorem w34 : (Jvm.Cond.classLink "TradeLink$Inbox" (9 : Nat) "TradeLink$Row") ∈ x_Ts := x_wi 34 (by decide +kernel) rfl
theorem w35 : (Jvm.Cond.instantiable "TradeLink$Row" (2 : Nat)) ∈ x_Ts := x_wi 35 (by decide +kernel) rfl
theorem w36 : (Jvm.Cond.methodLinkNest "TradeLink$Inbox" (11 : Nat) ({ cls := "TradeLink$Row", name := "<init>", desc := "()V" } : Jvm.MethodName) "TradeLink") ∈ x_Ts := x_wi 36 (by decide +kernel) rfl
theorem w37 : (Jvm.Cond.instanceMethod ({ cls := "TradeLink$Row", name := "<init>", desc := "()V" } : Jvm.MethodName)) ∈ x_Ts := x_wi 37 (by decide +kernel) rfl
theorem w38 : (Jvm.Cond.code ({ cls := "TradeLink$Row", name := "<init>", desc := "()V" } : Jvm.MethodName) prog_8_method_1_code (1 : Nat) (Option.none : Option Jvm.ClassFile.FieldType)) ∈ x_Ts := x_wi 38 (by decide +kernel) rfl
theorem w39 : (Jvm.Cond.methodLink "TradeLink$Row" (3 : Nat) ({ cls := "java/lang/Object", name := "<init>", desc := "()V" } : Jvm.MethodName)) ∈ x_Ts := x_wi 39 (by decide +kernel) rfl
theorem w40 : (Jvm.Cond.fieldLink "TradeLink$Row" (11 : Nat) "TradeLink$Row" "octets" "[I") ∈ x_Ts := x_wi 40 (by decide +kernel) rfl
theorem w41 : (Jvm.Cond.fieldLink "TradeLink$Row" (15 : Nat) "TradeLink$Row" "size" "I") ∈ x_Ts := x_wi 41 (by decide +kernel) rfl
theorem w42 : (Jvm.Cond.fieldLink "TradeLink" (67 : Nat) "TradeLink$Row" "size" "I") ∈ x_Ts := x_wi 42 (by decide +kernel) rfl
theorem w43 : (Jvm.Cond.fieldLink "TradeLink$Message" (40 : Nat) "TradeLink$Row" "size" "I") ∈ x_Ts := x_wi 43 (by decide +kernel) rfl
theorem w44 : (Jvm.Cond.fieldLink "TradeLink$Inbox" (76 : Nat) "TradeLink$Row" "size" "I") ∈ x_Ts := x_wi 44 (by decide +kernel) rfl
theorem w50 : (Jvm.Cond.arrayClass Jvm.ClassFile.FieldType.int) ∈ x_Ts := x_wi 50 (by decide +kernel) rfl
theorem w51 : (Jvm.Cond.fieldLink "TradeLink$Inbox" (12 : Nat) "TradeLink$Inbox" "row" "LTradeLink$Row;") ∈ x_Ts := x_wi 51 (by decide +kernel) rfl
theorem w52 : (Jvm.Cond.fieldLink "TradeLink" (59 : Nat) "TradeLink$Inbox" "row" "LTradeLink$Row;") ∈ x_Ts := x_wi 52 (by decide +kernel) rfl
theorem w53 : (Jvm.Cond.fieldLink "TradeLink$Inbox" (18 : Nat) "TradeLink$Inbox" "at" "I") ∈ x_Ts := x_wi 53 (by decide +kernel) rfl
theorem w59 : (Jvm.Cond.classLink "TradeLink" (16 : Nat) "TradeLink$Message") ∈ x_Ts := x_wi 59 (by decide +kernel) rfl
theorem w60 : (Jvm.Cond.instantiable "TradeLink$Message" (4 : Nat)) ∈ x_Ts := x_wi 60 (by decide +kernel) rfl
theorem w61 : (Jvm.Cond.methodLinkNest "TradeLink" (18 : Nat) ({ cls := "TradeLink$Message", name := "<init>", desc := "()V" } : Jvm.MethodName) "TradeLink") ∈ x_Ts := x_wi 61 (by decide +kernel) rfl
theorem w62 : (Jvm.Cond.instanceMethod ({ cls := "TradeLink$Message", name := "<init>", desc := "()V" } : Jvm.MethodName)) ∈ x_Ts := x_wi 62 (by decide +kernel) rfl
theorem w63 : (Jvm.Cond.code ({ cls := "TradeLink$Message", name := "<init>", desc := "()V" } : Jvm.MethodName) prog_5_method_1_code (1 : Nat) (Option.none : Option Jvm.ClassFile.FieldType)) ∈ x_Ts := x_wi 63 (by decide +kernel) rfl
theorem w64 : (Jvm.Cond.methodLink "TradeLink$Message" (3 : Nat) ({ cls := "java/lang/Object", name := "<init>", desc := "()V" } : Jvm.MethodName)) ∈ x_Ts := x_wi 64 (by decide +kernel) rfl
theorem w65 : (Jvm.Cond.fieldLink "TradeLink$Message" (17 : Nat) "TradeLink$Message" "type" "I") ∈ x_Ts := x_wi 65 (by decide +kernel) rfl
theorem w66 : (Jvm.Cond.fieldLink "TradeLink$Session" (43 : Nat) "TradeLink$Message" "type" "I") ∈ x_Ts := x_wi 66 (by decide +kernel) rfl
theorem w67 : (Jvm.Cond.fieldLink "TradeLink$Inbox" (55 : Nat) "TradeLink$Message" "type" "I") ∈ x_Ts := x_wi 67 (by decide +kernel) rfl
theorem w68 : (Jvm.Cond.fieldLink "TradeLink$Book" (46 : Nat) "TradeLink$Message" "type" "I") ∈ x_Ts := x_wi 68 (by decide +kernel) rfl
theorem w69 : (Jvm.Cond.fieldLink "TradeLink$Message" (21 : Nat) "TradeLink$Message" "number" "I") ∈ x_Ts := x_wi 69 (by decide +kernel) rfl
theorem w70 : (Jvm.Cond.fieldLink "TradeLink$Session" (66 : Nat) "TradeLink$Message" "number" "I") ∈ x_Ts := x_wi 70 (by decide +kernel) rfl
theorem w71 : (Jvm.Cond.fieldLink "TradeLink$Message" (24 : Nat) "TradeLink$Message" "duplicate" "Z") ∈ x_Ts := x_wi 71 (by decide +kernel) rfl
theorem w72 : (Jvm.Cond.fieldLink "TradeLink$Session" (69 : Nat) "TradeLink$Message" "duplicate" "Z") ∈ x_Ts := x_wi 72 (by decide +kernel) rfl
theorem w73 : (Jvm.Cond.fieldLink "TradeLink$Message" (11 : Nat) "TradeLink$Message" "values" "[I") ∈ x_Ts := x_wi 73 (by decide +kernel) rfl
theorem w74 : (Jvm.Cond.fieldLink "TradeLink$Session" (58 : Nat) "TradeLink$Message" "values" "[I") ∈ x_Ts := x_wi 74 (by decide +kernel) rfl
theorem w75 : (Jvm.Cond.fieldLink "TradeLink$Book" (37 : Nat) "TradeLink$Message" "values" "[I") ∈ x_Ts := x_wi 75 (by decide +kernel) rfl
theorem w76 : (Jvm.Cond.fieldLink "TradeLink$Inbox" (62 : Nat) "TradeLink$Message" "values" "[I") ∈ x_Ts := x_wi 76 (by decide +kernel) rfl
theorem w86 : (Jvm.Cond.classLink "TradeLink" (23 : Nat) "TradeLink$Session") ∈ x_Ts := x_wi 86 (by decide +kernel) rfl
theorem w87 : (Jvm.Cond.instantiable "TradeLink$Session" (12 : Nat)) ∈ x_Ts := x_wi 87 (by decide +kernel) rfl
theorem w88 : (Jvm.Cond.methodLinkNest "TradeLink" (25 : Nat) ({ cls := "TradeLink$Session", name := "<init>", desc := "()V" } : Jvm.MethodName) "TradeLink") ∈ x_Ts := x_wi 88 (by decide +kernel) rfl
theorem w89 : (Jvm.Cond.instanceMethod ({ cls := "TradeLink$Session", name := "<init>", desc := "()V" } : Jvm.MethodName)) ∈ x_Ts := x_wi 89 (by decide +kernel) rfl
theorem w90 : (Jvm.Cond.code ({ cls := "TradeLink$Session", name := "<init>", desc := "()V" } : Jvm.MethodName) prog_9_method_1_code (1 : Nat) (Option.none : Option Jvm.ClassFile.FieldType)) ∈ x_Ts := x_wi 90 (by decide +kernel) rfl
theorem w91 : (Jvm.Cond.methodLink "TradeLink$Session" (3 : Nat) ({ cls := "java/lang/Object", name := "<init>", desc := "()V" } : Jvm.MethodName)) ∈ x_Ts := x_wi 91 (by decide +kernel) rfl
theorem w92 : (Jvm.Cond.classLink "TradeLink$Session" (9 : Nat) "TradeLink$Outbox") ∈ x_Ts := x_wi 92 (by decide +kernel) rfl
theorem w93 : (Jvm.Cond.instantiable "TradeLink$Outbox" (3 : Nat)) ∈ x_Ts := x_wi 93 (by decide +kernel) rfl
theorem w94 : (Jvm.Cond.methodLink "TradeLink$Session" (11 : Nat) ({ cls := "TradeLink$Outbox", name := "<init>", desc := "()V" } : Jvm.MethodName)) ∈ x_Ts := x_wi 94 (by decide +kernel) rfl
theorem w95 : (Jvm.Cond.instanceMethod ({ cls := "TradeLink$Outbox", name := "<init>", desc := "()V" } : Jvm.MethodName)) ∈ x_Ts := x_wi 95 (by decide +kernel) rfl
theorem w96 : (Jvm.Cond.code ({ cls := "TradeLink$Outbox", name := "<init>", desc := "()V" } : Jvm.MethodName) prog_7_method_1_code (2 : Nat) (Option.none : Option Jvm.ClassFile.FieldType)) ∈ x_Ts := x_wi 96 (by decide +kernel) rfl
theorem w97 : (Jvm.Cond.methodLink "TradeLink$Outbox" (1 : Nat) ({ cls := "java/lang/Object", name := "<init>", desc := "()V" } : Jvm.MethodName)) ∈ x_Ts := x_wi 97 (by decide +kernel) rfl
theorem w98 : (Jvm.Cond.classLink "TradeLink$Outbox" (9 : Nat) "TradeLink$Message") ∈ x_Ts := x_wi 98 (by decide +kernel) rfl
theorem w99 : (Jvm.Cond.arrayOver (Jvm.ClassFile.FieldType.object "TradeLink$Message")) ∈ x_Ts := x_wi 99 (by decide +kernel) rfl
theorem w100 : (Jvm.Cond.classLink "TradeLink$Outbox" (15 : Nat) "TradeLink$Row") ∈ x_Ts := x_wi 100 (by decide +kernel) rfl
theorem w101 : (Jvm.Cond.methodLinkNest "TradeLink$Outbox" (17 : Nat) ({ cls := "TradeLink$Row", name := "<init>", desc := "()V" } : Jvm.MethodName) "TradeLink") ∈ x_Ts := x_wi 101 (by decide +kernel) rfl
theorem w102 : (Jvm.Cond.methodLinkNest "TradeLink$Outbox" (22 : Nat) ({ cls := "TradeLink$Message", name := "<init>", desc := "()V" } : Jvm.MethodName) "TradeLink") ∈ x_Ts := x_wi 102 (by decide +kernel) rfl
theorem w103 : (Jvm.Cond.fieldLink "TradeLink$Outbox" (11 : Nat) "TradeLink$Outbox" "messages" "[LTradeLink$Message;") ∈ x_Ts := x_wi 103 (by decide +kernel) rfl
theorem w104 : (Jvm.Cond.fieldLink "TradeLink$Outbox" (18 : Nat) "TradeLink$Outbox" "written" "LTradeLink$Row;") ∈ x_Ts := x_wi 104 (by decide +kernel) rfl
theorem w105 : (Jvm.Cond.fieldLink "TradeLink$Outbox" (23 : Nat) "TradeLink$Outbox" "count" "I") ∈ x_Ts := x_wi 105 (by decide +kernel) rfl
theorem w106 : (Jvm.Cond.fieldLink "TradeLink" (146 : Nat) "TradeLink$Outbox" "count" "I") ∈ x_Ts := x_wi 106 (by decide +kernel) rfl
theorem w114 : (Jvm.Cond.classLink "TradeLink$Session" (18 : Nat) "TradeLink$Book") ∈ x_Ts := x_wi 114 (by decide +kernel) rfl
theorem w115 : (Jvm.Cond.instantiable "TradeLink$Book" (4 : Nat)) ∈ x_Ts := x_wi 115 (by decide +kernel) rfl
theorem w116 : (Jvm.Cond.methodLink "TradeLink$Session" (20 : Nat) ({ cls := "TradeLink$Book", name := "<init>", desc := "()V" } : Jvm.MethodName)) ∈ x_Ts := x_wi 116 (by decide +kernel) rfl
theorem w117 : (Jvm.Cond.instanceMethod ({ cls := "TradeLink$Book", name := "<init>", desc := "()V" } : Jvm.MethodName)) ∈ x_Ts := x_wi 117 (by decide +kernel) rfl
theorem w118 : (Jvm.Cond.code ({ cls := "TradeLink$Book", name := "<init>", desc := "()V" } : Jvm.MethodName) prog_2_method_1_code (2 : Nat) (Option.none : Option Jvm.ClassFile.FieldType)) ∈ x_Ts := x_wi 118 (by decide +kernel) rfl
theorem w119 : (Jvm.Cond.methodLink "TradeLink$Book" (3 : Nat) ({ cls := "java/lang/Object", name := "<init>", desc := "()V" } : Jvm.MethodName)) ∈ x_Ts := x_wi 119 (by decide +kernel) rfl
theorem w120 : (Jvm.Cond.classLink "TradeLink$Book" (11 : Nat) "TradeLink$Order") ∈ x_Ts := x_wi 120 (by decide +kernel) rfl
theorem w121 : (Jvm.Cond.arrayOver (Jvm.ClassFile.FieldType.object "TradeLink$Order")) ∈ x_Ts := x_wi 121 (by decide +kernel) rfl
theorem w122 : (Jvm.Cond.instantiable "TradeLink$Order" (5 : Nat)) ∈ x_Ts := x_wi 122 (by decide +kernel) rfl
theorem w123 : (Jvm.Cond.methodLinkNest "TradeLink$Book" (21 : Nat) ({ cls := "TradeLink$Order", name := "<init>", desc := "()V" } : Jvm.MethodName) "TradeLink") ∈ x_Ts := x_wi 123 (by decide +kernel) rfl
theorem w124 : (Jvm.Cond.instanceMethod ({ cls := "TradeLink$Order", name := "<init>", desc := "()V" } : Jvm.MethodName)) ∈ x_Ts := x_wi 124 (by decide +kernel) rfl
theorem w125 : (Jvm.Cond.code ({ cls := "TradeLink$Order", name := "<init>", desc := "()V" } : Jvm.MethodName) prog_6_method_1_code (1 : Nat) (Option.none : Option Jvm.ClassFile.FieldType)) ∈ x_Ts := x_wi 125 (by decide +kernel) rfl
theorem w126 : (Jvm.Cond.methodLink "TradeLink$Order" (1 : Nat) ({ cls := "java/lang/Object", name := "<init>", desc := "()V" } : Jvm.MethodName)) ∈ x_Ts := x_wi 126 (by decide +kernel) rfl
theorem w127 : (Jvm.Cond.fieldLink "TradeLink$Book" (26 : Nat) "TradeLink$Order" "id" "I") ∈ x_Ts := x_wi 127 (by decide +kernel) rfl
theorem w128 : (Jvm.Cond.fieldLink "TradeLink$Book" (61 : Nat) "TradeLink$Order" "side" "I") ∈ x_Ts := x_wi 128 (by decide +kernel) rfl
theorem w129 : (Jvm.Cond.fieldLink "TradeLink" (172 : Nat) "TradeLink$Order" "side" "I") ∈ x_Ts := x_wi 129 (by decide +kernel) rfl
theorem w130 : (Jvm.Cond.fieldLink "TradeLink$Order" (17 : Nat) "TradeLink$Order" "quantity" "I") ∈ x_Ts := x_wi 130 (by decide +kernel) rfl
theorem w131 : (Jvm.Cond.fieldLink "TradeLink$Book" (64 : Nat) "TradeLink$Order" "quantity" "I") ∈ x_Ts := x_wi 131 (by decide +kernel) rfl
theorem w132 : (Jvm.Cond.fieldLink "TradeLink" (175 : Nat) "TradeLink$Order" "quantity" "I") ∈ x_Ts := x_wi 132 (by decide +kernel) rfl
theorem w133 : (Jvm.Cond.fieldLink "TradeLink$Order" (13 : Nat) "TradeLink$Order" "filled" "I") ∈ x_Ts := x_wi 133 (by decide +kernel) rfl
theorem w134 : (Jvm.Cond.fieldLink "TradeLink$Session" (109 : Nat) "TradeLink$Order" "filled" "I") ∈ x_Ts := x_wi 134 (by decide +kernel) rfl
theorem w135 : (Jvm.Cond.fieldLink "TradeLink$Book" (70 : Nat) "TradeLink$Order" "filled" "I") ∈ x_Ts := x_wi 135 (by decide +kernel) rfl
theorem w136 : (Jvm.Cond.fieldLink "TradeLink" (139 : Nat) "TradeLink$Order" "filled" "I") ∈ x_Ts := x_wi 136 (by decide +kernel) rfl
theorem w137 : (Jvm.Cond.fieldLink "TradeLink$Order" (7 : Nat) "TradeLink$Order" "cancelled" "Z") ∈ x_Ts := x_wi 137 (by decide +kernel) rfl
theorem w138 : (Jvm.Cond.fieldLink "TradeLink$Book" (73 : Nat) "TradeLink$Order" "cancelled" "Z") ∈ x_Ts := x_wi 138 (by decide +kernel) rfl
theorem w150 : (Jvm.Cond.fieldLink "TradeLink$Book" (13 : Nat) "TradeLink$Book" "orders" "[LTradeLink$Order;") ∈ x_Ts := x_wi 150 (by decide +kernel) rfl
theorem w151 : (Jvm.Cond.fieldLink "TradeLink$Book" (22 : Nat) "TradeLink$Book" "count" "I") ∈ x_Ts := x_wi 151 (by decide +kernel) rfl
theorem w152 : (Jvm.Cond.fieldLink "TradeLink" (165 : Nat) "TradeLink$Book" "count" "I") ∈ x_Ts := x_wi 152 (by decide +kernel) rfl
theorem w153 : (Jvm.Cond.fieldLink "TradeLink$Book" (17 : Nat) "TradeLink$Book" "usedIds" "[I") ∈ x_Ts := x_wi 153 (by decide +kernel) rfl
theorem w154 : (Jvm.Cond.fieldLink "TradeLink$Book" (77 : Nat) "TradeLink$Book" "usedCount" "I") ∈ x_Ts := x_wi 154 (by decide +kernel) rfl
theorem w164 : (Jvm.Cond.classLink "TradeLink$Session" (25 : Nat) "TradeLink$Store") ∈ x_Ts := x_wi 164 (by decide +kernel) rfl
theorem w165 : (Jvm.Cond.instantiable "TradeLink$Store" (2 : Nat)) ∈ x_Ts := x_wi 165 (by decide +kernel) rfl
theorem w166 : (Jvm.Cond.methodLinkNest "TradeLink$Session" (27 : Nat) ({ cls := "TradeLink$Store", name := "<init>", desc := "()V" } : Jvm.MethodName) "TradeLink") ∈ x_Ts := x_wi 166 (by decide +kernel) rfl
theorem w167 : (Jvm.Cond.instanceMethod ({ cls := "TradeLink$Store", name := "<init>", desc := "()V" } : Jvm.MethodName)) ∈ x_Ts := x_wi 167 (by decide +kernel) rfl
theorem w168 : (Jvm.Cond.code ({ cls := "TradeLink$Store", name := "<init>", desc := "()V" } : Jvm.MethodName) prog_10_method_1_code (1 : Nat) (Option.none : Option Jvm.ClassFile.FieldType)) ∈ x_Ts := x_wi 168 (by decide +kernel) rfl
theorem w169 : (Jvm.Cond.methodLink "TradeLink$Store" (3 : Nat) ({ cls := "java/lang/Object", name := "<init>", desc := "()V" } : Jvm.MethodName)) ∈ x_Ts := x_wi 169 (by decide +kernel) rfl
theorem w170 : (Jvm.Cond.fieldLink "TradeLink$Store" (11 : Nat) "TradeLink$Store" "rows" "[I") ∈ x_Ts := x_wi 170 (by decide +kernel) rfl
theorem w171 : (Jvm.Cond.fieldLink "TradeLink$Store" (15 : Nat) "TradeLink$Store" "count" "I") ∈ x_Ts := x_wi 171 (by decide +kernel) rfl
theorem w172 : (Jvm.Cond.fieldLink "TradeLink$Session" (151 : Nat) "TradeLink$Store" "count" "I") ∈ x_Ts := x_wi 172 (by decide +kernel) rfl
theorem w178 : (Jvm.Cond.fieldLink "TradeLink$Session" (12 : Nat) "TradeLink$Session" "outbox" "LTradeLink$Outbox;") ∈ x_Ts := x_wi 178 (by decide +kernel) rfl
theorem w179 : (Jvm.Cond.fieldLink "TradeLink" (42 : Nat) "TradeLink$Session" "outbox" "LTradeLink$Outbox;") ∈ x_Ts := x_wi 179 (by decide +kernel) rfl
theorem w180 : (Jvm.Cond.fieldLink "TradeLink$Session" (21 : Nat) "TradeLink$Session" "book" "LTradeLink$Book;") ∈ x_Ts := x_wi 180 (by decide +kernel) rfl
theorem w181 : (Jvm.Cond.fieldLink "TradeLink" (120 : Nat) "TradeLink$Session" "book" "LTradeLink$Book;") ∈ x_Ts := x_wi 181 (by decide +kernel) rfl
theorem w182 : (Jvm.Cond.fieldLink "TradeLink$Session" (28 : Nat) "TradeLink$Session" "store" "LTradeLink$Store;") ∈ x_Ts := x_wi 182 (by decide +kernel) rfl
theorem w183 : (Jvm.Cond.fieldLink "TradeLink$Session" (32 : Nat) "TradeLink$Session" "awaited" "I") ∈ x_Ts := x_wi 183 (by decide +kernel) rfl
theorem w184 : (Jvm.Cond.fieldLink "TradeLink" (156 : Nat) "TradeLink$Session" "awaited" "I") ∈ x_Ts := x_wi 184 (by decide +kernel) rfl
theorem w185 : (Jvm.Cond.fieldLink "TradeLink$Session" (36 : Nat) "TradeLink$Session" "next" "I") ∈ x_Ts := x_wi 185 (by decide +kernel) rfl
theorem w186 : (Jvm.Cond.fieldLink "TradeLink" (159 : Nat) "TradeLink$Session" "next" "I") ∈ x_Ts := x_wi 186 (by decide +kernel) rfl
theorem w187 : (Jvm.Cond.fieldLink "TradeLink$Session" (91 : Nat) "TradeLink$Session" "missing" "I") ∈ x_Ts := x_wi 187 (by decide +kernel) rfl
theorem w188 : (Jvm.Cond.fieldLink "TradeLink" (162 : Nat) "TradeLink$Session" "missing" "I") ∈ x_Ts := x_wi 188 (by decide +kernel) rfl
theorem w189 : (Jvm.Cond.fieldLink "TradeLink$Session" (39 : Nat) "TradeLink$Session" "in" "Z") ∈ x_Ts := x_wi 189 (by decide +kernel) rfl
theorem w190 : (Jvm.Cond.fieldLink "TradeLink" (113 : Nat) "TradeLink$Session" "in" "Z") ∈ x_Ts := x_wi 190 (by decide +kernel) rfl
theorem w191 : (Jvm.Cond.fieldLink "TradeLink$Session" (48 : Nat) "TradeLink$Session" "time" "I") ∈ x_Ts := x_wi 191 (by decide +kernel) rfl
theorem w192 : (Jvm.Cond.fieldLink "TradeLink" (110 : Nat) "TradeLink$Session" "time" "I") ∈ x_Ts := x_wi 192 (by decide +kernel) rfl
theorem w193 : (Jvm.Cond.fieldLink "TradeLink$Session" (137 : Nat) "TradeLink$Session" "orderMessages" "I") ∈ x_Ts := x_wi 193 (by decide +kernel) rfl
theorem w194 : (Jvm.Cond.fieldLink "TradeLink" (166 : Nat) "TradeLink$Session" "orderMessages" "I") ∈ x_Ts := x_wi 194 (by decide +kernel) rfl
theorem w195 : (Jvm.Cond.fieldLink "TradeLink$Session" (51 : Nat) "TradeLink$Session" "heard" "I") ∈ x_Ts := x_wi 195 (by decide +kernel) rfl
theorem w196 : (Jvm.Cond.fieldLink "TradeLink$Session" (100 : Nat) "TradeLink$Session" "said" "I") ∈ x_Ts := x_wi 196 (by decide +kernel) rfl
theorem w197 : (Jvm.Cond.fieldLink "TradeLink$Session" (94 : Nat) "TradeLink$Session" "asked" "I") ∈ x_Ts := x_wi 197 (by decide +kernel) rfl
theorem w223 : (Jvm.Cond.fieldLink "TradeLink" (10 : Nat) "TradeLink" "inbox" "LTradeLink$Inbox;") ∈ x_Ts := x_wi 223 (by decide +kernel) rfl
theorem w224 : (Jvm.Cond.fieldLink "TradeLink" (19 : Nat) "TradeLink" "message" "LTradeLink$Message;") ∈ x_Ts := x_wi 224 (by decide +kernel) rfl
theorem w225 : (Jvm.Cond.fieldLink "TradeLink" (26 : Nat) "TradeLink" "link" "LTradeLink$Session;") ∈ x_Ts := x_wi 225 (by decide +kernel) rfl
theorem w233 : (Jvm.Cond.methodLink "TradeLinkLaw" (73 : Nat) ({ cls := "TradeLink", name := "tick", desc := "()I" } : Jvm.MethodName)) ∈ x_Ts := x_wi 233 (by decide +kernel) rfl
theorem w234 : (Jvm.Cond.instanceMethod ({ cls := "TradeLink", name := "tick", desc := "()I" } : Jvm.MethodName)) ∈ x_Ts := x_wi 234 (by decide +kernel) rfl
theorem w235 : (Jvm.Cond.selects "TradeLink" ({ cls := "TradeLink", name := "tick", desc := "()I" } : Jvm.MethodName) ({ cls := "TradeLink", name := "tick", desc := "()I" } : Jvm.MethodName)) ∈ x_Ts := x_wi 235 (by decide +kernel) rfl
theorem w236 : (Jvm.Cond.code ({ cls := "TradeLink", name := "tick", desc := "()I" } : Jvm.MethodName) prog_1_method_6_code (1 : Nat) (Option.some Jvm.ClassFile.FieldType.int)) ∈ x_Ts := x_wi 236 (by decide +kernel) rfl
theorem w237 : (Jvm.Cond.methodLink "TradeLink" (46 : Nat) ({ cls := "TradeLink$Outbox", name := "clear", desc := "()V" } : Jvm.MethodName)) ∈ x_Ts := x_wi 237 (by decide +kernel) rfl
theorem w238 : (Jvm.Cond.instanceMethod ({ cls := "TradeLink$Outbox", name := "clear", desc := "()V" } : Jvm.MethodName)) ∈ x_Ts := x_wi 238 (by decide +kernel) rfl
theorem w239 : (Jvm.Cond.selects "TradeLink$Outbox" ({ cls := "TradeLink$Outbox", name := "clear", desc := "()V" } : Jvm.MethodName) ({ cls := "TradeLink$Outbox", name := "clear", desc := "()V" } : Jvm.MethodName)) ∈ x_Ts := x_wi 239 (by decide +kernel) rfl
theorem w240 : (Jvm.Cond.code ({ cls := "TradeLink$Outbox", name := "clear", desc := "()V" } : Jvm.MethodName) prog_7_method_2_code (1 : Nat) (Option.none : Option Jvm.ClassFile.FieldType)) ∈ x_Ts := x_wi 240 (by decide +kernel) rfl
theorem w241 : (Jvm.Cond.methodLink "TradeLink" (107 : Nat) ({ cls := "TradeLink$Session", name := "advance", desc := "()V" } : Jvm.MethodName)) ∈ x_Ts := x_wi 241 (by decide +kernel) rfl
theorem w242 : (Jvm.Cond.instanceMethod ({ cls := "TradeLink$Session", name := "advance", desc := "()V" } : Jvm.MethodName)) ∈ x_Ts := x_wi 242 (by decide +kernel) rfl
theorem w243 : (Jvm.Cond.selects "TradeLink$Session" ({ cls := "TradeLink$Session", name := "advance", desc := "()V" } : Jvm.MethodName) ({ cls := "TradeLink$Session", name := "advance", desc := "()V" } : Jvm.MethodName)) ∈ x_Ts := x_wi 243 (by decide +kernel) rfl
theorem w244 : (Jvm.Cond.code ({ cls := "TradeLink$Session", name := "advance", desc := "()V" } : Jvm.MethodName) prog_9_method_3_code (1 : Nat) (Option.none : Option Jvm.ClassFile.FieldType)) ∈ x_Ts := x_wi 244 (by decide +kernel) rfl
theorem w245 : (Jvm.Cond.methodLink "TradeLink$Session" (88 : Nat) ({ cls := "TradeLink$Session", name := "logOut", desc := "()V" } : Jvm.MethodName)) ∈ x_Ts := x_wi 245 (by decide +kernel) rfl
theorem w247 : (Jvm.Cond.instanceMethod ({ cls := "TradeLink$Session", name := "logOut", desc := "()V" } : Jvm.MethodName)) ∈ x_Ts := x_wi 247 (by decide +kernel) rfl
theorem w248 : (Jvm.Cond.code ({ cls := "TradeLink$Session", name := "logOut", desc := "()V" } : Jvm.MethodName) prog_9_method_11_code (1 : Nat) (Option.none : Option Jvm.ClassFile.FieldType)) ∈ x_Ts := x_wi 248 (by decide +kernel) rfl
theorem w249 : (Jvm.Cond.methodLink "TradeLink$Session" (76 : Nat) ({ cls := "TradeLink$Session", name := "send", desc := "(III)V" } : Jvm.MethodName)) ∈ x_Ts := x_wi 249 (by decide +kernel) rfl
theorem w251 : (Jvm.Cond.instanceMethod ({ cls := "TradeLink$Session", name := "send", desc := "(III)V" } : Jvm.MethodName)) ∈ x_Ts := x_wi 251 (by decide +kernel) rfl
theorem w252 : (Jvm.Cond.code ({ cls := "TradeLink$Session", name := "send", desc := "(III)V" } : Jvm.MethodName) prog_9_method_12_code (4 : Nat) (Option.none : Option Jvm.ClassFile.FieldType)) ∈ x_Ts := x_wi 252 (by decide +kernel) rfl
theorem w253 : (Jvm.Cond.methodLink "TradeLink$Session" (119 : Nat) ({ cls := "TradeLink$Session", name := "post", desc := "(IIZ)LTradeLink$Message;" } : Jvm.MethodName)) ∈ x_Ts := x_wi 253 (by decide +kernel) rfl
theorem w255 : (Jvm.Cond.instanceMethod ({ cls := "TradeLink$Session", name := "post", desc := "(IIZ)LTradeLink$Message;" } : Jvm.MethodName)) ∈ x_Ts := x_wi 255 (by decide +kernel) rfl
theorem w256 : (Jvm.Cond.code ({ cls := "TradeLink$Session", name := "post", desc := "(IIZ)LTradeLink$Message;" } : Jvm.MethodName) prog_9_method_15_code (5 : Nat) (Option.some (Jvm.ClassFile.FieldType.object "TradeLink$Message"))) ∈ x_Ts := x_wi 256 (by decide +kernel) rfl
theorem w257 : (Jvm.Cond.methodLink "TradeLink$Session" (165 : Nat) ({ cls := "TradeLink$Outbox", name := "open", desc := "()LTradeLink$Message;" } : Jvm.MethodName)) ∈ x_Ts := x_wi 257 (by decide +kernel) rfl
theorem w258 : (Jvm.Cond.instanceMethod ({ cls := "TradeLink$Outbox", name := "open", desc := "()LTradeLink$Message;" } : Jvm.MethodName)) ∈ x_Ts := x_wi 258 (by decide +kernel) rfl
theorem w259 : (Jvm.Cond.selects "TradeLink$Outbox" ({ cls := "TradeLink$Outbox", name := "open", desc := "()LTradeLink$Message;" } : Jvm.MethodName) ({ cls := "TradeLink$Outbox", name := "open", desc := "()LTradeLink$Message;" } : Jvm.MethodName)) ∈ x_Ts := x_wi 259 (by decide +kernel) rfl
theorem w260 : (Jvm.Cond.code ({ cls := "TradeLink$Outbox", name := "open", desc := "()LTradeLink$Message;" } : Jvm.MethodName) prog_7_method_3_code (2 : Nat) (Option.some (Jvm.ClassFile.FieldType.object "TradeLink$Message"))) ∈ x_Ts := x_wi 260 (by decide +kernel) rfl
theorem w261 : (Jvm.Cond.methodLink "TradeLink$Session" (169 : Nat) ({ cls := "TradeLink$Message", name := "begin", desc := "(IIZ)V" } : Jvm.MethodName)) ∈ x_Ts := x_wi 261 (by decide +kernel) rfl
theorem w262 : (Jvm.Cond.instanceMethod ({ cls := "TradeLink$Message", name := "begin", desc := "(IIZ)V" } : Jvm.MethodName)) ∈ x_Ts := x_wi 262 (by decide +kernel) rfl
theorem w263 : (Jvm.Cond.selects "TradeLink$Message" ({ cls := "TradeLink$Message", name := "begin", desc := "(IIZ)V" } : Jvm.MethodName) ({ cls := "TradeLink$Message", name := "begin", desc := "(IIZ)V" } : Jvm.MethodName)) ∈ x_Ts := x_wi 263 (by decide +kernel) rfl
theorem w264 : (Jvm.Cond.code ({ cls := "TradeLink$Message", name := "begin", desc := "(IIZ)V" } : Jvm.MethodName) prog_5_method_2_code (4 : Nat) (Option.none : Option Jvm.ClassFile.FieldType)) ∈ x_Ts := x_wi 264 (by decide +kernel) rfl
theorem w265 : (Jvm.Cond.methodLink "TradeLink$Session" (123 : Nat) ({ cls := "TradeLink$Message", name := "say", desc := "(IIII)V" } : Jvm.MethodName)) ∈ x_Ts := x_wi 265 (by decide +kernel) rfl
theorem w266 : (Jvm.Cond.instanceMethod ({ cls := "TradeLink$Message", name := "say", desc := "(IIII)V" } : Jvm.MethodName)) ∈ x_Ts := x_wi 266 (by decide +kernel) rfl
theorem w267 : (Jvm.Cond.selects "TradeLink$Message" ({ cls := "TradeLink$Message", name := "say", desc := "(IIII)V" } : Jvm.MethodName) ({ cls := "TradeLink$Message", name := "say", desc := "(IIII)V" } : Jvm.MethodName)) ∈ x_Ts := x_wi 267 (by decide +kernel) rfl
theorem w268 : (Jvm.Cond.code ({ cls := "TradeLink$Message", name := "say", desc := "(IIII)V" } : Jvm.MethodName) prog_5_method_3_code (5 : Nat) (Option.none : Option Jvm.ClassFile.FieldType)) ∈ x_Ts := x_wi 268 (by decide +kernel) rfl
theorem w269 : (Jvm.Cond.methodLink "TradeLink$Session" (148 : Nat) ({ cls := "TradeLink$Session", name := "leave", desc := "()V" } : Jvm.MethodName)) ∈ x_Ts := x_wi 269 (by decide +kernel) rfl
theorem w270 : (Jvm.Cond.instanceMethod ({ cls := "TradeLink$Session", name := "leave", desc := "()V" } : Jvm.MethodName)) ∈ x_Ts := x_wi 270 (by decide +kernel) rfl
theorem w271 : (Jvm.Cond.selects "TradeLink$Session" ({ cls := "TradeLink$Session", name := "leave", desc := "()V" } : Jvm.MethodName) ({ cls := "TradeLink$Session", name := "leave", desc := "()V" } : Jvm.MethodName)) ∈ x_Ts := x_wi 271 (by decide +kernel) rfl
theorem w272 : (Jvm.Cond.code ({ cls := "TradeLink$Session", name := "leave", desc := "()V" } : Jvm.MethodName) prog_9_method_4_code (1 : Nat) (Option.none : Option Jvm.ClassFile.FieldType)) ∈ x_Ts := x_wi 272 (by decide +kernel) rfl
theorem w273 : (Jvm.Cond.methodLink "TradeLink$Session" (97 : Nat) ({ cls := "TradeLink$Session", name := "ask", desc := "()V" } : Jvm.MethodName)) ∈ x_Ts := x_wi 273 (by decide +kernel) rfl
theorem w275 : (Jvm.Cond.instanceMethod ({ cls := "TradeLink$Session", name := "ask", desc := "()V" } : Jvm.MethodName)) ∈ x_Ts := x_wi 275 (by decide +kernel) rfl
theorem w276 : (Jvm.Cond.code ({ cls := "TradeLink$Session", name := "ask", desc := "()V" } : Jvm.MethodName) prog_9_method_10_code (1 : Nat) (Option.none : Option Jvm.ClassFile.FieldType)) ∈ x_Ts := x_wi 276 (by decide +kernel) rfl
theorem w277 : (Jvm.Cond.methodLink "TradeLinkLaw" (77 : Nat) ({ cls := "TradeLink", name := "restart", desc := "()Z" } : Jvm.MethodName)) ∈ x_Ts := x_wi 277 (by decide +kernel) rfl
theorem w278 : (Jvm.Cond.instanceMethod ({ cls := "TradeLink", name := "restart", desc := "()Z" } : Jvm.MethodName)) ∈ x_Ts := x_wi 278 (by decide +kernel) rfl
theorem w279 : (Jvm.Cond.selects "TradeLink" ({ cls := "TradeLink", name := "restart", desc := "()Z" } : Jvm.MethodName) ({ cls := "TradeLink", name := "restart", desc := "()Z" } : Jvm.MethodName)) ∈ x_Ts := x_wi 279 (by decide +kernel) rfl
theorem w280 : (Jvm.Cond.code ({ cls := "TradeLink", name := "restart", desc := "()Z" } : Jvm.MethodName) prog_1_method_7_code (2 : Nat) (Option.some Jvm.ClassFile.FieldType.boolean)) ∈ x_Ts := x_wi 280 (by decide +kernel) rfl
theorem w281 : (Jvm.Cond.methodLink "TradeLink" (117 : Nat) ({ cls := "TradeLink$Session", name := "leave", desc := "()V" } : Jvm.MethodName)) ∈ x_Ts := x_wi 281 (by decide +kernel) rfl
theorem w282 : (Jvm.Cond.methodLink "TradeLinkLaw" (85 : Nat) ({ cls := "TradeLink", name := "frames", desc := "()I" } : Jvm.MethodName)) ∈ x_Ts := x_wi 282 (by decide +kernel) rfl
theorem w283 : (Jvm.Cond.instanceMethod ({ cls := "TradeLink", name := "frames", desc := "()I" } : Jvm.MethodName)) ∈ x_Ts := x_wi 283 (by decide +kernel) rfl
theorem w284 : (Jvm.Cond.selects "TradeLink" ({ cls := "TradeLink", name := "frames", desc := "()I" } : Jvm.MethodName) ({ cls := "TradeLink", name := "frames", desc := "()I" } : Jvm.MethodName)) ∈ x_Ts := x_wi 284 (by decide +kernel) rfl
theorem w285 : (Jvm.Cond.code ({ cls := "TradeLink", name := "frames", desc := "()I" } : Jvm.MethodName) prog_1_method_9_code (1 : Nat) (Option.some Jvm.ClassFile.FieldType.int)) ∈ x_Ts := x_wi 285 (by decide +kernel) rfl
theorem w286 : (Jvm.Cond.methodLink "TradeLinkLaw" (52 : Nat) ({ cls := "TradeLinkLaw", name := "give", desc := "(LTradeLink;IIZIII[J)I" } : Jvm.MethodName)) ∈ x_Ts := x_wi 286 (by decide +kernel) rfl
theorem w287 : (Jvm.Cond.static ({ cls := "TradeLinkLaw", name := "give", desc := "(LTradeLink;IIZIII[J)I" } : Jvm.MethodName)) ∈ x_Ts := x_wi 287 (by decide +kernel) rfl
theorem w288 : (Jvm.Cond.codeWith ({ cls := "TradeLinkLaw", name := "give", desc := "(LTradeLink;IIZIII[J)I" } : Jvm.MethodName) method_3_code (9 : Nat) (Option.some Jvm.ClassFile.FieldType.int) [((0 : Nat), (18 : Nat), (21 : Nat), (13 : Nat))]) ∈ x_Ts := x_wi 288 (by decide +kernel) rfl
theorem w289 : (Jvm.Cond.classLink "TradeLinkLaw" (13 : Nat) "java/lang/IllegalArgumentException") ∈ x_Ts := x_wi 289 (by decide +kernel) rfl
theorem w290 : (Jvm.Cond.methodLink "TradeLinkLaw" (7 : Nat) ({ cls := "TradeLink", name := "give", desc := "(IIZIII)I" } : Jvm.MethodName)) ∈ x_Ts := x_wi 290 (by decide +kernel) rfl
theorem w291 : (Jvm.Cond.instanceMethod ({ cls := "TradeLink", name := "give", desc := "(IIZIII)I" } : Jvm.MethodName)) ∈ x_Ts := x_wi 291 (by decide +kernel) rfl
theorem w292 : (Jvm.Cond.selects "TradeLink" ({ cls := "TradeLink", name := "give", desc := "(IIZIII)I" } : Jvm.MethodName) ({ cls := "TradeLink", name := "give", desc := "(IIZIII)I" } : Jvm.MethodName)) ∈ x_Ts := x_wi 292 (by decide +kernel) rfl
theorem w293 : (Jvm.Cond.code ({ cls := "TradeLink", name := "give", desc := "(IIZIII)I" } : Jvm.MethodName) prog_1_method_2_code (7 : Nat) (Option.some Jvm.ClassFile.FieldType.int)) ∈ x_Ts := x_wi 293 (by decide +kernel) rfl
theorem w294 : (Jvm.Cond.methodLink "TradeLink" (30 : Nat) ({ cls := "TradeLink$Layout", name := "isPeerType", desc := "(I)Z" } : Jvm.MethodName)) ∈ x_Ts := x_wi 294 (by decide +kernel) rfl
theorem w295 : (Jvm.Cond.static ({ cls := "TradeLink$Layout", name := "isPeerType", desc := "(I)Z" } : Jvm.MethodName)) ∈ x_Ts := x_wi 295 (by decide +kernel) rfl
theorem w296 : (Jvm.Cond.code ({ cls := "TradeLink$Layout", name := "isPeerType", desc := "(I)Z" } : Jvm.MethodName) prog_4_method_2_code (1 : Nat) (Option.some Jvm.ClassFile.FieldType.boolean)) ∈ x_Ts := x_wi 296 (by decide +kernel) rfl
theorem w297 : (Jvm.Cond.methodLink "TradeLink$Layout" (11 : Nat) ({ cls := "TradeLink$Layout", name := "rowOf", desc := "(I)I" } : Jvm.MethodName)) ∈ x_Ts := x_wi 297 (by decide +kernel) rfl
theorem w298 : (Jvm.Cond.static ({ cls := "TradeLink$Layout", name := "rowOf", desc := "(I)I" } : Jvm.MethodName)) ∈ x_Ts := x_wi 298 (by decide +kernel) rfl
theorem w299 : (Jvm.Cond.code ({ cls := "TradeLink$Layout", name := "rowOf", desc := "(I)I" } : Jvm.MethodName) prog_4_method_5_code (2 : Nat) (Option.some Jvm.ClassFile.FieldType.int)) ∈ x_Ts := x_wi 299 (by decide +kernel) rfl
theorem w300 : (Jvm.Cond.fieldLink "TradeLink$Layout" (15 : Nat) "TradeLink$Layout" "ROWS" "[I") ∈ x_Ts := x_wi 300 (by decide +kernel) rfl
theorem w302 : (Jvm.Cond.methodLink "TradeLink" (36 : Nat) ({ cls := "TradeLink", name := "isNumber", desc := "(I)Z" } : Jvm.MethodName)) ∈ x_Ts := x_wi 302 (by decide +kernel) rfl
theorem w303 : (Jvm.Cond.static ({ cls := "TradeLink", name := "isNumber", desc := "(I)Z" } : Jvm.MethodName)) ∈ x_Ts := x_wi 303 (by decide +kernel) rfl
theorem w304 : (Jvm.Cond.code ({ cls := "TradeLink", name := "isNumber", desc := "(I)Z" } : Jvm.MethodName) prog_1_method_14_code (1 : Nat) (Option.some Jvm.ClassFile.FieldType.boolean)) ∈ x_Ts := x_wi 304 (by decide +kernel) rfl
theorem w305 : (Jvm.Cond.constant "TradeLink" (181 : Nat) (999999 : Int32)) ∈ x_Ts := x_wi 305 (by decide +kernel) rfl
theorem w306 : (Jvm.Cond.classLink "TradeLink" (39 : Nat) "java/lang/IllegalArgumentException") ∈ x_Ts := x_wi 306 (by decide +kernel) rfl
theorem w307 : (Jvm.Cond.instantiable "java/lang/IllegalArgumentException" (6 : Nat)) ∈ x_Ts := x_wi 307 (by decide +kernel) rfl
theorem w308 : (Jvm.Cond.castable "java/lang/IllegalArgumentException" "java/lang/IllegalArgumentException") ∈ x_Ts := x_wi 308 (by decide +kernel) rfl
theorem w315 : (Jvm.Cond.selects "java/lang/IllegalArgumentException" ({ cls := "java/lang/Throwable", name := "fillInStackTrace", desc := "(I)Ljava/lang/Throwable;" } : Jvm.MethodName) ({ cls := "java/lang/Throwable", name := "fillInStackTrace", desc := "(I)Ljava/lang/Throwable;" } : Jvm.MethodName)) ∈ x_Ts := x_wi 315 (by decide +kernel) rfl
theorem w316 : (Jvm.Cond.selects "java/lang/IllegalArgumentException" ({ cls := "java/lang/Throwable", name := "fillInStackTrace", desc := "()Ljava/lang/Throwable;" } : Jvm.MethodName) ({ cls := "java/lang/Throwable", name := "fillInStackTrace", desc := "()Ljava/lang/Throwable;" } : Jvm.MethodName)) ∈ x_Ts := x_wi 316 (by decide +kernel) rfl
theorem w327 : (Jvm.Cond.fieldLink "java/lang/Throwable" (198 : Nat) "java/lang/Throwable" "backtrace" "Ljava/lang/Object;") ∈ x_Ts := x_wi 327 (by decide +kernel) rfl
theorem w329 : (Jvm.Cond.instanceMethod ({ cls := "java/lang/Throwable", name := "<init>", desc := "()V" } : Jvm.MethodName)) ∈ x_Ts := x_wi 329 (by decide +kernel) rfl
theorem w330 : (Jvm.Cond.code ({ cls := "java/lang/Throwable", name := "<init>", desc := "()V" } : Jvm.MethodName) prog_19_method_1_code (1 : Nat) (Option.none : Option Jvm.ClassFile.FieldType)) ∈ x_Ts := x_wi 330 (by decide +kernel) rfl
theorem w331 : (Jvm.Cond.methodLink "java/lang/Throwable" (1 : Nat) ({ cls := "java/lang/Object", name := "<init>", desc := "()V" } : Jvm.MethodName)) ∈ x_Ts := x_wi 331 (by decide +kernel) rfl
theorem w332 : (Jvm.Cond.fieldLink "java/lang/Throwable" (13 : Nat) "java/lang/Throwable" "UNASSIGNED_STACK" "[Ljava/lang/StackTraceElement;") ∈ x_Ts := x_wi 332 (by decide +kernel) rfl
theorem w334 : (Jvm.Cond.fieldLink "java/lang/Throwable" (20 : Nat) "java/lang/Throwable" "SUPPRESSED_SENTINEL" "Ljava/util/List;") ∈ x_Ts := x_wi 334 (by decide +kernel) rfl
theorem w336 : (Jvm.Cond.methodLink "java/lang/Throwable" (27 : Nat) ({ cls := "java/lang/Throwable", name := "fillInStackTrace", desc := "()Ljava/lang/Throwable;" } : Jvm.MethodName)) ∈ x_Ts := x_wi 336 (by decide +kernel) rfl
theorem w337 : (Jvm.Cond.instanceMethod ({ cls := "java/lang/Throwable", name := "fillInStackTrace", desc := "()Ljava/lang/Throwable;" } : Jvm.MethodName)) ∈ x_Ts := x_wi 337 (by decide +kernel) rfl
theorem w339 : (Jvm.Cond.selects "java/lang/IllegalStateException" ({ cls := "java/lang/Throwable", name := "fillInStackTrace", desc := "()Ljava/lang/Throwable;" } : Jvm.MethodName) ({ cls := "java/lang/Throwable", name := "fillInStackTrace", desc := "()Ljava/lang/Throwable;" } : Jvm.MethodName)) ∈ x_Ts := x_wi 339 (by decide +kernel) rfl
theorem w340 : (Jvm.Cond.selects "java/lang/IndexOutOfBoundsException" ({ cls := "java/lang/Throwable", name := "fillInStackTrace", desc := "()Ljava/lang/Throwable;" } : Jvm.MethodName) ({ cls := "java/lang/Throwable", name := "fillInStackTrace", desc := "()Ljava/lang/Throwable;" } : Jvm.MethodName)) ∈ x_Ts := x_wi 340 (by decide +kernel) rfl
theorem w341 : (Jvm.Cond.selects "java/util/NoSuchElementException" ({ cls := "java/lang/Throwable", name := "fillInStackTrace", desc := "()Ljava/lang/Throwable;" } : Jvm.MethodName) ({ cls := "java/lang/Throwable", name := "fillInStackTrace", desc := "()Ljava/lang/Throwable;" } : Jvm.MethodName)) ∈ x_Ts := x_wi 341 (by decide +kernel) rfl
theorem w343 : (Jvm.Cond.methodLink "java/lang/Throwable" (202 : Nat) ({ cls := "java/lang/Throwable", name := "fillInStackTrace", desc := "(I)Ljava/lang/Throwable;" } : Jvm.MethodName)) ∈ x_Ts := x_wi 343 (by decide +kernel) rfl
theorem w345 : (Jvm.Cond.instanceMethod ({ cls := "java/lang/Throwable", name := "fillInStackTrace", desc := "(I)Ljava/lang/Throwable;" } : Jvm.MethodName)) ∈ x_Ts := x_wi 345 (by decide +kernel) rfl
theorem w346 : (Jvm.Cond.instantiable "java/lang/Throwable" (6 : Nat)) ∈ x_Ts := x_wi 346 (by decide +kernel) rfl
theorem w348 : (Jvm.Cond.methodLink "TradeLink" (41 : Nat) ({ cls := "java/lang/IllegalArgumentException", name := "<init>", desc := "()V" } : Jvm.MethodName)) ∈ x_Ts := x_wi 348 (by decide +kernel) rfl
theorem w349 : (Jvm.Cond.instanceMethod ({ cls := "java/lang/IllegalArgumentException", name := "<init>", desc := "()V" } : Jvm.MethodName)) ∈ x_Ts := x_wi 349 (by decide +kernel) rfl
theorem w350 : (Jvm.Cond.code ({ cls := "java/lang/IllegalArgumentException", name := "<init>", desc := "()V" } : Jvm.MethodName) prog_14_method_1_code (1 : Nat) (Option.none : Option Jvm.ClassFile.FieldType)) ∈ x_Ts := x_wi 350 (by decide +kernel) rfl
theorem w351 : (Jvm.Cond.methodLink "java/lang/IllegalArgumentException" (1 : Nat) ({ cls := "java/lang/RuntimeException", name := "<init>", desc := "()V" } : Jvm.MethodName)) ∈ x_Ts := x_wi 351 (by decide +kernel) rfl
theorem w352 : (Jvm.Cond.instanceMethod ({ cls := "java/lang/RuntimeException", name := "<init>", desc := "()V" } : Jvm.MethodName)) ∈ x_Ts := x_wi 352 (by decide +kernel) rfl
theorem w353 : (Jvm.Cond.code ({ cls := "java/lang/RuntimeException", name := "<init>", desc := "()V" } : Jvm.MethodName) prog_18_method_1_code (1 : Nat) (Option.none : Option Jvm.ClassFile.FieldType)) ∈ x_Ts := x_wi 353 (by decide +kernel) rfl
theorem w354 : (Jvm.Cond.methodLink "java/lang/RuntimeException" (1 : Nat) ({ cls := "java/lang/Exception", name := "<init>", desc := "()V" } : Jvm.MethodName)) ∈ x_Ts := x_wi 354 (by decide +kernel) rfl
theorem w355 : (Jvm.Cond.instanceMethod ({ cls := "java/lang/Exception", name := "<init>", desc := "()V" } : Jvm.MethodName)) ∈ x_Ts := x_wi 355 (by decide +kernel) rfl
theorem w356 : (Jvm.Cond.code ({ cls := "java/lang/Exception", name := "<init>", desc := "()V" } : Jvm.MethodName) prog_13_method_1_code (1 : Nat) (Option.none : Option Jvm.ClassFile.FieldType)) ∈ x_Ts := x_wi 356 (by decide +kernel) rfl
theorem w357 : (Jvm.Cond.methodLink "java/lang/Exception" (1 : Nat) ({ cls := "java/lang/Throwable", name := "<init>", desc := "()V" } : Jvm.MethodName)) ∈ x_Ts := x_wi 357 (by decide +kernel) rfl
theorem w359 : (Jvm.Cond.fieldLink "java/lang/Throwable" (7 : Nat) "java/lang/Throwable" "cause" "Ljava/lang/Throwable;") ∈ x_Ts := x_wi 359 (by decide +kernel) rfl
theorem w360 : (Jvm.Cond.fieldLink "java/lang/Throwable" (17 : Nat) "java/lang/Throwable" "stackTrace" "[Ljava/lang/StackTraceElement;") ∈ x_Ts := x_wi 360 (by decide +kernel) rfl
theorem w361 : (Jvm.Cond.fieldLink "java/lang/Throwable" (24 : Nat) "java/lang/Throwable" "suppressedExceptions" "Ljava/util/List;") ∈ x_Ts := x_wi 361 (by decide +kernel) rfl
theorem w370 : (Jvm.Cond.methodLink "TradeLink" (51 : Nat) ({ cls := "TradeLink$Message", name := "begin", desc := "(IIZ)V" } : Jvm.MethodName)) ∈ x_Ts := x_wi 370 (by decide +kernel) rfl
theorem w371 : (Jvm.Cond.methodLink "TradeLink" (55 : Nat) ({ cls := "TradeLink$Message", name := "say", desc := "(IIII)V" } : Jvm.MethodName)) ∈ x_Ts := x_wi 371 (by decide +kernel) rfl
theorem w372 : (Jvm.Cond.methodLink "TradeLink" (63 : Nat) ({ cls := "TradeLink$Message", name := "writeTo", desc := "(LTradeLink$Row;)V" } : Jvm.MethodName)) ∈ x_Ts := x_wi 372 (by decide +kernel) rfl
theorem w373 : (Jvm.Cond.instanceMethod ({ cls := "TradeLink$Message", name := "writeTo", desc := "(LTradeLink$Row;)V" } : Jvm.MethodName)) ∈ x_Ts := x_wi 373 (by decide +kernel) rfl
theorem w374 : (Jvm.Cond.selects "TradeLink$Message" ({ cls := "TradeLink$Message", name := "writeTo", desc := "(LTradeLink$Row;)V" } : Jvm.MethodName) ({ cls := "TradeLink$Message", name := "writeTo", desc := "(LTradeLink$Row;)V" } : Jvm.MethodName)) ∈ x_Ts := x_wi 374 (by decide +kernel) rfl
theorem w375 : (Jvm.Cond.code ({ cls := "TradeLink$Message", name := "writeTo", desc := "(LTradeLink$Row;)V" } : Jvm.MethodName) prog_5_method_5_code (4 : Nat) (Option.none : Option Jvm.ClassFile.FieldType)) ∈ x_Ts := x_wi 375 (by decide +kernel) rfl
theorem w376 : (Jvm.Cond.methodLink "TradeLink$Message" (28 : Nat) ({ cls := "TradeLink$Row", name := "clear", desc := "()V" } : Jvm.MethodName)) ∈ x_Ts := x_wi 376 (by decide +kernel) rfl
theorem w377 : (Jvm.Cond.instanceMethod ({ cls := "TradeLink$Row", name := "clear", desc := "()V" } : Jvm.MethodName)) ∈ x_Ts := x_wi 377 (by decide +kernel) rfl
theorem w378 : (Jvm.Cond.selects "TradeLink$Row" ({ cls := "TradeLink$Row", name := "clear", desc := "()V" } : Jvm.MethodName) ({ cls := "TradeLink$Row", name := "clear", desc := "()V" } : Jvm.MethodName)) ∈ x_Ts := x_wi 378 (by decide +kernel) rfl
theorem w379 : (Jvm.Cond.code ({ cls := "TradeLink$Row", name := "clear", desc := "()V" } : Jvm.MethodName) prog_8_method_2_code (1 : Nat) (Option.none : Option Jvm.ClassFile.FieldType)) ∈ x_Ts := x_wi 379 (by decide +kernel) rfl
theorem w380 : (Jvm.Cond.methodLink "TradeLink$Message" (33 : Nat) ({ cls := "TradeLink$Row", name := "appendCharacterField", desc := "(II)V" } : Jvm.MethodName)) ∈ x_Ts := x_wi 380 (by decide +kernel) rfl
theorem w381 : (Jvm.Cond.instanceMethod ({ cls := "TradeLink$Row", name := "appendCharacterField", desc := "(II)V" } : Jvm.MethodName)) ∈ x_Ts := x_wi 381 (by decide +kernel) rfl
theorem w382 : (Jvm.Cond.selects "TradeLink$Row" ({ cls := "TradeLink$Row", name := "appendCharacterField", desc := "(II)V" } : Jvm.MethodName) ({ cls := "TradeLink$Row", name := "appendCharacterField", desc := "(II)V" } : Jvm.MethodName)) ∈ x_Ts := x_wi 382 (by decide +kernel) rfl
theorem w383 : (Jvm.Cond.code ({ cls := "TradeLink$Row", name := "appendCharacterField", desc := "(II)V" } : Jvm.MethodName) prog_8_method_10_code (3 : Nat) (Option.none : Option Jvm.ClassFile.FieldType)) ∈ x_Ts := x_wi 383 (by decide +kernel) rfl
theorem w384 : (Jvm.Cond.methodLink "TradeLink$Row" (28 : Nat) ({ cls := "TradeLink$Row", name := "appendNumber", desc := "(I)V" } : Jvm.MethodName)) ∈ x_Ts := x_wi 384 (by decide +kernel) rfl
theorem w385 : (Jvm.Cond.instanceMethod ({ cls := "TradeLink$Row", name := "appendNumber", desc := "(I)V" } : Jvm.MethodName)) ∈ x_Ts := x_wi 385 (by decide +kernel) rfl
theorem w386 : (Jvm.Cond.selects "TradeLink$Row" ({ cls := "TradeLink$Row", name := "appendNumber", desc := "(I)V" } : Jvm.MethodName) ({ cls := "TradeLink$Row", name := "appendNumber", desc := "(I)V" } : Jvm.MethodName)) ∈ x_Ts := x_wi 386 (by decide +kernel) rfl
theorem w387 : (Jvm.Cond.code ({ cls := "TradeLink$Row", name := "appendNumber", desc := "(I)V" } : Jvm.MethodName) prog_8_method_8_code (5 : Nat) (Option.none : Option Jvm.ClassFile.FieldType)) ∈ x_Ts := x_wi 387 (by decide +kernel) rfl
theorem w388 : (Jvm.Cond.constant "TradeLink$Row" (23 : Nat) (100000 : Int32)) ∈ x_Ts := x_wi 388 (by decide +kernel) rfl
theorem w389 : (Jvm.Cond.methodLink "TradeLink$Row" (24 : Nat) ({ cls := "TradeLink$Row", name := "append", desc := "(I)V" } : Jvm.MethodName)) ∈ x_Ts := x_wi 389 (by decide +kernel) rfl
theorem w390 : (Jvm.Cond.instanceMethod ({ cls := "TradeLink$Row", name := "append", desc := "(I)V" } : Jvm.MethodName)) ∈ x_Ts := x_wi 390 (by decide +kernel) rfl
theorem w391 : (Jvm.Cond.selects "TradeLink$Row" ({ cls := "TradeLink$Row", name := "append", desc := "(I)V" } : Jvm.MethodName) ({ cls := "TradeLink$Row", name := "append", desc := "(I)V" } : Jvm.MethodName)) ∈ x_Ts := x_wi 391 (by decide +kernel) rfl
theorem w392 : (Jvm.Cond.code ({ cls := "TradeLink$Row", name := "append", desc := "(I)V" } : Jvm.MethodName) prog_8_method_7_code (2 : Nat) (Option.none : Option Jvm.ClassFile.FieldType)) ∈ x_Ts := x_wi 392 (by decide +kernel) rfl
theorem w393 : (Jvm.Cond.methodLink "TradeLink$Message" (37 : Nat) ({ cls := "TradeLink$Row", name := "appendNumberField", desc := "(II)V" } : Jvm.MethodName)) ∈ x_Ts := x_wi 393 (by decide +kernel) rfl
theorem w394 : (Jvm.Cond.instanceMethod ({ cls := "TradeLink$Row", name := "appendNumberField", desc := "(II)V" } : Jvm.MethodName)) ∈ x_Ts := x_wi 394 (by decide +kernel) rfl
theorem w395 : (Jvm.Cond.selects "TradeLink$Row" ({ cls := "TradeLink$Row", name := "appendNumberField", desc := "(II)V" } : Jvm.MethodName) ({ cls := "TradeLink$Row", name := "appendNumberField", desc := "(II)V" } : Jvm.MethodName)) ∈ x_Ts := x_wi 395 (by decide +kernel) rfl
theorem w396 : (Jvm.Cond.code ({ cls := "TradeLink$Row", name := "appendNumberField", desc := "(II)V" } : Jvm.MethodName) prog_8_method_9_code (3 : Nat) (Option.none : Option Jvm.ClassFile.FieldType)) ∈ x_Ts := x_wi 396 (by decide +kernel) rfl
theorem w397 : (Jvm.Cond.methodLink "TradeLink$Message" (43 : Nat) ({ cls := "TradeLink$Message", name := "writeOwnFields", desc := "(LTradeLink$Row;)V" } : Jvm.MethodName)) ∈ x_Ts := x_wi 397 (by decide +kernel) rfl
theorem w399 : (Jvm.Cond.instanceMethod ({ cls := "TradeLink$Message", name := "writeOwnFields", desc := "(LTradeLink$Row;)V" } : Jvm.MethodName)) ∈ x_Ts := x_wi 399 (by decide +kernel) rfl
theorem w400 : (Jvm.Cond.code ({ cls := "TradeLink$Message", name := "writeOwnFields", desc := "(LTradeLink$Row;)V" } : Jvm.MethodName) prog_5_method_6_code (5 : Nat) (Option.none : Option Jvm.ClassFile.FieldType)) ∈ x_Ts := x_wi 400 (by decide +kernel) rfl
theorem w401 : (Jvm.Cond.methodLink "TradeLink$Message" (53 : Nat) ({ cls := "TradeLink$Layout", name := "fieldCount", desc := "(I)I" } : Jvm.MethodName)) ∈ x_Ts := x_wi 401 (by decide +kernel) rfl
theorem w402 : (Jvm.Cond.static ({ cls := "TradeLink$Layout", name := "fieldCount", desc := "(I)I" } : Jvm.MethodName)) ∈ x_Ts := x_wi 402 (by decide +kernel) rfl
theorem w403 : (Jvm.Cond.code ({ cls := "TradeLink$Layout", name := "fieldCount", desc := "(I)I" } : Jvm.MethodName) prog_4_method_3_code (2 : Nat) (Option.some Jvm.ClassFile.FieldType.int)) ∈ x_Ts := x_wi 403 (by decide +kernel) rfl
theorem w404 : (Jvm.Cond.methodLink "TradeLink$Message" (57 : Nat) ({ cls := "TradeLink$Layout", name := "tag", desc := "(II)I" } : Jvm.MethodName)) ∈ x_Ts := x_wi 404 (by decide +kernel) rfl
theorem w405 : (Jvm.Cond.static ({ cls := "TradeLink$Layout", name := "tag", desc := "(II)I" } : Jvm.MethodName)) ∈ x_Ts := x_wi 405 (by decide +kernel) rfl
theorem w406 : (Jvm.Cond.code ({ cls := "TradeLink$Layout", name := "tag", desc := "(II)I" } : Jvm.MethodName) prog_4_method_4_code (3 : Nat) (Option.some Jvm.ClassFile.FieldType.int)) ∈ x_Ts := x_wi 406 (by decide +kernel) rfl
theorem w407 : (Jvm.Cond.methodLink "TradeLink$Message" (61 : Nat) ({ cls := "TradeLink$Message", name := "isFill", desc := "()Z" } : Jvm.MethodName)) ∈ x_Ts := x_wi 407 (by decide +kernel) rfl
theorem w408 : (Jvm.Cond.instanceMethod ({ cls := "TradeLink$Message", name := "isFill", desc := "()Z" } : Jvm.MethodName)) ∈ x_Ts := x_wi 408 (by decide +kernel) rfl
theorem w409 : (Jvm.Cond.selects "TradeLink$Message" ({ cls := "TradeLink$Message", name := "isFill", desc := "()Z" } : Jvm.MethodName) ({ cls := "TradeLink$Message", name := "isFill", desc := "()Z" } : Jvm.MethodName)) ∈ x_Ts := x_wi 409 (by decide +kernel) rfl
theorem w410 : (Jvm.Cond.code ({ cls := "TradeLink$Message", name := "isFill", desc := "()Z" } : Jvm.MethodName) prog_5_method_4_code (1 : Nat) (Option.some Jvm.ClassFile.FieldType.boolean)) ∈ x_Ts := x_wi 410 (by decide +kernel) rfl
theorem w411 : (Jvm.Cond.methodLink "TradeLink$Message" (47 : Nat) ({ cls := "TradeLink$Row", name := "set", desc := "(II)V" } : Jvm.MethodName)) ∈ x_Ts := x_wi 411 (by decide +kernel) rfl
theorem w412 : (Jvm.Cond.instanceMethod ({ cls := "TradeLink$Row", name := "set", desc := "(II)V" } : Jvm.MethodName)) ∈ x_Ts := x_wi 412 (by decide +kernel) rfl
theorem w413 : (Jvm.Cond.selects "TradeLink$Row" ({ cls := "TradeLink$Row", name := "set", desc := "(II)V" } : Jvm.MethodName) ({ cls := "TradeLink$Row", name := "set", desc := "(II)V" } : Jvm.MethodName)) ∈ x_Ts := x_wi 413 (by decide +kernel) rfl
theorem w414 : (Jvm.Cond.code ({ cls := "TradeLink$Row", name := "set", desc := "(II)V" } : Jvm.MethodName) prog_8_method_6_code (3 : Nat) (Option.none : Option Jvm.ClassFile.FieldType)) ∈ x_Ts := x_wi 414 (by decide +kernel) rfl
theorem w415 : (Jvm.Cond.methodLink "TradeLink$Row" (19 : Nat) ({ cls := "TradeLink$Row", name := "has", desc := "(I)Z" } : Jvm.MethodName)) ∈ x_Ts := x_wi 415 (by decide +kernel) rfl
theorem w416 : (Jvm.Cond.instanceMethod ({ cls := "TradeLink$Row", name := "has", desc := "(I)Z" } : Jvm.MethodName)) ∈ x_Ts := x_wi 416 (by decide +kernel) rfl
theorem w417 : (Jvm.Cond.selects "TradeLink$Row" ({ cls := "TradeLink$Row", name := "has", desc := "(I)Z" } : Jvm.MethodName) ({ cls := "TradeLink$Row", name := "has", desc := "(I)Z" } : Jvm.MethodName)) ∈ x_Ts := x_wi 417 (by decide +kernel) rfl
theorem w418 : (Jvm.Cond.code ({ cls := "TradeLink$Row", name := "has", desc := "(I)Z" } : Jvm.MethodName) prog_8_method_4_code (2 : Nat) (Option.some Jvm.ClassFile.FieldType.boolean)) ∈ x_Ts := x_wi 418 (by decide +kernel) rfl
theorem w419 : (Jvm.Cond.methodLink "TradeLink$Message" (50 : Nat) ({ cls := "TradeLink$Row", name := "appendSumField", desc := "()V" } : Jvm.MethodName)) ∈ x_Ts := x_wi 419 (by decide +kernel) rfl
theorem w420 : (Jvm.Cond.instanceMethod ({ cls := "TradeLink$Row", name := "appendSumField", desc := "()V" } : Jvm.MethodName)) ∈ x_Ts := x_wi 420 (by decide +kernel) rfl
theorem w421 : (Jvm.Cond.selects "TradeLink$Row" ({ cls := "TradeLink$Row", name := "appendSumField", desc := "()V" } : Jvm.MethodName) ({ cls := "TradeLink$Row", name := "appendSumField", desc := "()V" } : Jvm.MethodName)) ∈ x_Ts := x_wi 421 (by decide +kernel) rfl
theorem w422 : (Jvm.Cond.code ({ cls := "TradeLink$Row", name := "appendSumField", desc := "()V" } : Jvm.MethodName) prog_8_method_11_code (2 : Nat) (Option.none : Option Jvm.ClassFile.FieldType)) ∈ x_Ts := x_wi 422 (by decide +kernel) rfl
theorem w423 : (Jvm.Cond.methodLink "TradeLink$Row" (31 : Nat) ({ cls := "TradeLink$Row", name := "sumBefore", desc := "(I)I" } : Jvm.MethodName)) ∈ x_Ts := x_wi 423 (by decide +kernel) rfl
theorem w424 : (Jvm.Cond.instanceMethod ({ cls := "TradeLink$Row", name := "sumBefore", desc := "(I)I" } : Jvm.MethodName)) ∈ x_Ts := x_wi 424 (by decide +kernel) rfl
theorem w425 : (Jvm.Cond.selects "TradeLink$Row" ({ cls := "TradeLink$Row", name := "sumBefore", desc := "(I)I" } : Jvm.MethodName) ({ cls := "TradeLink$Row", name := "sumBefore", desc := "(I)I" } : Jvm.MethodName)) ∈ x_Ts := x_wi 425 (by decide +kernel) rfl
theorem w426 : (Jvm.Cond.code ({ cls := "TradeLink$Row", name := "sumBefore", desc := "(I)I" } : Jvm.MethodName) prog_8_method_12_code (4 : Nat) (Option.some Jvm.ClassFile.FieldType.int)) ∈ x_Ts := x_wi 426 (by decide +kernel) rfl
theorem w427 : (Jvm.Cond.methodLink "TradeLinkLaw" (61 : Nat) ({ cls := "TradeLinkLaw", name := "spoil", desc := "(LTradeLink;II[J)I" } : Jvm.MethodName)) ∈ x_Ts := x_wi 427 (by decide +kernel) rfl
theorem w428 : (Jvm.Cond.static ({ cls := "TradeLinkLaw", name := "spoil", desc := "(LTradeLink;II[J)I" } : Jvm.MethodName)) ∈ x_Ts := x_wi 428 (by decide +kernel) rfl
theorem w429 : (Jvm.Cond.codeWith ({ cls := "TradeLinkLaw", name := "spoil", desc := "(LTradeLink;II[J)I" } : Jvm.MethodName) method_4_code (5 : Nat) (Option.some Jvm.ClassFile.FieldType.int) [((0 : Nat), (10 : Nat), (13 : Nat), (19 : Nat)), ((0 : Nat), (10 : Nat), (17 : Nat), (13 : Nat))]) ∈ x_Ts := x_wi 429 (by decide +kernel) rfl
theorem w430 : (Jvm.Cond.classLink "TradeLinkLaw" (19 : Nat) "java/lang/IndexOutOfBoundsException") ∈ x_Ts := x_wi 430 (by decide +kernel) rfl
theorem w431 : (Jvm.Cond.methodLink "TradeLinkLaw" (15 : Nat) ({ cls := "TradeLink", name := "spoil", desc := "(II)I" } : Jvm.MethodName)) ∈ x_Ts := x_wi 431 (by decide +kernel) rfl
theorem w432 : (Jvm.Cond.instanceMethod ({ cls := "TradeLink", name := "spoil", desc := "(II)I" } : Jvm.MethodName)) ∈ x_Ts := x_wi 432 (by decide +kernel) rfl
theorem w433 : (Jvm.Cond.selects "TradeLink" ({ cls := "TradeLink", name := "spoil", desc := "(II)I" } : Jvm.MethodName) ({ cls := "TradeLink", name := "spoil", desc := "(II)I" } : Jvm.MethodName)) ∈ x_Ts := x_wi 433 (by decide +kernel) rfl
theorem w434 : (Jvm.Cond.code ({ cls := "TradeLink", name := "spoil", desc := "(II)I" } : Jvm.MethodName) prog_1_method_3_code (3 : Nat) (Option.some Jvm.ClassFile.FieldType.int)) ∈ x_Ts := x_wi 434 (by decide +kernel) rfl
theorem w435 : (Jvm.Cond.methodLink "TradeLink" (73 : Nat) ({ cls := "TradeLink$Row", name := "has", desc := "(I)Z" } : Jvm.MethodName)) ∈ x_Ts := x_wi 435 (by decide +kernel) rfl
theorem w436 : (Jvm.Cond.classLink "TradeLink" (76 : Nat) "java/lang/IndexOutOfBoundsException") ∈ x_Ts := x_wi 436 (by decide +kernel) rfl
theorem w437 : (Jvm.Cond.instantiable "java/lang/IndexOutOfBoundsException" (6 : Nat)) ∈ x_Ts := x_wi 437 (by decide +kernel) rfl
theorem w438 : (Jvm.Cond.castable "java/lang/IndexOutOfBoundsException" "java/lang/IndexOutOfBoundsException") ∈ x_Ts := x_wi 438 (by decide +kernel) rfl
theorem w439 : (Jvm.Cond.selects "java/lang/IndexOutOfBoundsException" ({ cls := "java/lang/Throwable", name := "fillInStackTrace", desc := "(I)Ljava/lang/Throwable;" } : Jvm.MethodName) ({ cls := "java/lang/Throwable", name := "fillInStackTrace", desc := "(I)Ljava/lang/Throwable;" } : Jvm.MethodName)) ∈ x_Ts := x_wi 439 (by decide +kernel) rfl
theorem w445 : (Jvm.Cond.methodLink "TradeLink" (78 : Nat) ({ cls := "java/lang/IndexOutOfBoundsException", name := "<init>", desc := "()V" } : Jvm.MethodName)) ∈ x_Ts := x_wi 445 (by decide +kernel) rfl
theorem w446 : (Jvm.Cond.instanceMethod ({ cls := "java/lang/IndexOutOfBoundsException", name := "<init>", desc := "()V" } : Jvm.MethodName)) ∈ x_Ts := x_wi 446 (by decide +kernel) rfl
theorem w447 : (Jvm.Cond.code ({ cls := "java/lang/IndexOutOfBoundsException", name := "<init>", desc := "()V" } : Jvm.MethodName) prog_16_method_1_code (1 : Nat) (Option.none : Option Jvm.ClassFile.FieldType)) ∈ x_Ts := x_wi 447 (by decide +kernel) rfl
theorem w448 : (Jvm.Cond.methodLink "java/lang/IndexOutOfBoundsException" (1 : Nat) ({ cls := "java/lang/RuntimeException", name := "<init>", desc := "()V" } : Jvm.MethodName)) ∈ x_Ts := x_wi 448 (by decide +kernel) rfl
theorem w451 : (Jvm.Cond.methodLink "TradeLink" (79 : Nat) ({ cls := "TradeLink$Row", name := "at", desc := "(I)I" } : Jvm.MethodName)) ∈ x_Ts := x_wi 451 (by decide +kernel) rfl
theorem w452 : (Jvm.Cond.instanceMethod ({ cls := "TradeLink$Row", name := "at", desc := "(I)I" } : Jvm.MethodName)) ∈ x_Ts := x_wi 452 (by decide +kernel) rfl
theorem w453 : (Jvm.Cond.selects "TradeLink$Row" ({ cls := "TradeLink$Row", name := "at", desc := "(I)I" } : Jvm.MethodName) ({ cls := "TradeLink$Row", name := "at", desc := "(I)I" } : Jvm.MethodName)) ∈ x_Ts := x_wi 453 (by decide +kernel) rfl
theorem w454 : (Jvm.Cond.code ({ cls := "TradeLink$Row", name := "at", desc := "(I)I" } : Jvm.MethodName) prog_8_method_5_code (2 : Nat) (Option.some Jvm.ClassFile.FieldType.int)) ∈ x_Ts := x_wi 454 (by decide +kernel) rfl
theorem w455 : (Jvm.Cond.methodLink "TradeLink" (83 : Nat) ({ cls := "TradeLink$Row", name := "set", desc := "(II)V" } : Jvm.MethodName)) ∈ x_Ts := x_wi 455 (by decide +kernel) rfl
theorem w456 : (Jvm.Cond.methodLink "TradeLinkLaw" (65 : Nat) ({ cls := "TradeLinkLaw", name := "add", desc := "(LTradeLink;I[J)I" } : Jvm.MethodName)) ∈ x_Ts := x_wi 456 (by decide +kernel) rfl
theorem w457 : (Jvm.Cond.static ({ cls := "TradeLinkLaw", name := "add", desc := "(LTradeLink;I[J)I" } : Jvm.MethodName)) ∈ x_Ts := x_wi 457 (by decide +kernel) rfl
theorem w458 : (Jvm.Cond.codeWith ({ cls := "TradeLinkLaw", name := "add", desc := "(LTradeLink;I[J)I" } : Jvm.MethodName) method_5_code (4 : Nat) (Option.some Jvm.ClassFile.FieldType.int) [((0 : Nat), (9 : Nat), (12 : Nat), (13 : Nat)), ((0 : Nat), (9 : Nat), (15 : Nat), (25 : Nat))]) ∈ x_Ts := x_wi 458 (by decide +kernel) rfl
theorem w459 : (Jvm.Cond.classLink "TradeLinkLaw" (25 : Nat) "java/lang/IllegalStateException") ∈ x_Ts := x_wi 459 (by decide +kernel) rfl
theorem w460 : (Jvm.Cond.methodLink "TradeLinkLaw" (21 : Nat) ({ cls := "TradeLink", name := "add", desc := "(I)I" } : Jvm.MethodName)) ∈ x_Ts := x_wi 460 (by decide +kernel) rfl
theorem w461 : (Jvm.Cond.instanceMethod ({ cls := "TradeLink", name := "add", desc := "(I)I" } : Jvm.MethodName)) ∈ x_Ts := x_wi 461 (by decide +kernel) rfl
theorem w462 : (Jvm.Cond.selects "TradeLink" ({ cls := "TradeLink", name := "add", desc := "(I)I" } : Jvm.MethodName) ({ cls := "TradeLink", name := "add", desc := "(I)I" } : Jvm.MethodName)) ∈ x_Ts := x_wi 462 (by decide +kernel) rfl
theorem w463 : (Jvm.Cond.code ({ cls := "TradeLink", name := "add", desc := "(I)I" } : Jvm.MethodName) prog_1_method_4_code (2 : Nat) (Option.some Jvm.ClassFile.FieldType.int)) ∈ x_Ts := x_wi 463 (by decide +kernel) rfl
theorem w464 : (Jvm.Cond.methodLink "TradeLink" (87 : Nat) ({ cls := "TradeLink$Row", name := "isFull", desc := "()Z" } : Jvm.MethodName)) ∈ x_Ts := x_wi 464 (by decide +kernel) rfl
theorem w465 : (Jvm.Cond.instanceMethod ({ cls := "TradeLink$Row", name := "isFull", desc := "()Z" } : Jvm.MethodName)) ∈ x_Ts := x_wi 465 (by decide +kernel) rfl
theorem w466 : (Jvm.Cond.selects "TradeLink$Row" ({ cls := "TradeLink$Row", name := "isFull", desc := "()Z" } : Jvm.MethodName) ({ cls := "TradeLink$Row", name := "isFull", desc := "()Z" } : Jvm.MethodName)) ∈ x_Ts := x_wi 466 (by decide +kernel) rfl
theorem w467 : (Jvm.Cond.code ({ cls := "TradeLink$Row", name := "isFull", desc := "()Z" } : Jvm.MethodName) prog_8_method_3_code (1 : Nat) (Option.some Jvm.ClassFile.FieldType.boolean)) ∈ x_Ts := x_wi 467 (by decide +kernel) rfl
theorem w468 : (Jvm.Cond.classLink "TradeLink" (91 : Nat) "java/lang/IllegalStateException") ∈ x_Ts := x_wi 468 (by decide +kernel) rfl
theorem w469 : (Jvm.Cond.instantiable "java/lang/IllegalStateException" (6 : Nat)) ∈ x_Ts := x_wi 469 (by decide +kernel) rfl
theorem w470 : (Jvm.Cond.castable "java/lang/IllegalStateException" "java/lang/IllegalStateException") ∈ x_Ts := x_wi 470 (by decide +kernel) rfl
theorem w471 : (Jvm.Cond.selects "java/lang/IllegalStateException" ({ cls := "java/lang/Throwable", name := "fillInStackTrace", desc := "(I)Ljava/lang/Throwable;" } : Jvm.MethodName) ({ cls := "java/lang/Throwable", name := "fillInStackTrace", desc := "(I)Ljava/lang/Throwable;" } : Jvm.MethodName)) ∈ x_Ts := x_wi 471 (by decide +kernel) rfl
theorem w477 : (Jvm.Cond.methodLink "TradeLink" (93 : Nat) ({ cls := "java/lang/IllegalStateException", name := "<init>", desc := "()V" } : Jvm.MethodName)) ∈ x_Ts := x_wi 477 (by decide +kernel) rfl
theorem w478 : (Jvm.Cond.instanceMethod ({ cls := "java/lang/IllegalStateException", name := "<init>", desc := "()V" } : Jvm.MethodName)) ∈ x_Ts := x_wi 478 (by decide +kernel) rfl
theorem w479 : (Jvm.Cond.code ({ cls := "java/lang/IllegalStateException", name := "<init>", desc := "()V" } : Jvm.MethodName) prog_15_method_1_code (1 : Nat) (Option.none : Option Jvm.ClassFile.FieldType)) ∈ x_Ts := x_wi 479 (by decide +kernel) rfl
theorem w480 : (Jvm.Cond.methodLink "java/lang/IllegalStateException" (1 : Nat) ({ cls := "java/lang/RuntimeException", name := "<init>", desc := "()V" } : Jvm.MethodName)) ∈ x_Ts := x_wi 480 (by decide +kernel) rfl
theorem w483 : (Jvm.Cond.methodLink "TradeLink" (94 : Nat) ({ cls := "TradeLink$Row", name := "append", desc := "(I)V" } : Jvm.MethodName)) ∈ x_Ts := x_wi 483 (by decide +kernel) rfl
theorem w484 : (Jvm.Cond.methodLink "TradeLinkLaw" (69 : Nat) ({ cls := "TradeLinkLaw", name := "take", desc := "(LTradeLink;[J)I" } : Jvm.MethodName)) ∈ x_Ts := x_wi 484 (by decide +kernel) rfl
theorem w485 : (Jvm.Cond.static ({ cls := "TradeLinkLaw", name := "take", desc := "(LTradeLink;[J)I" } : Jvm.MethodName)) ∈ x_Ts := x_wi 485 (by decide +kernel) rfl
theorem w486 : (Jvm.Cond.codeWith ({ cls := "TradeLinkLaw", name := "take", desc := "(LTradeLink;[J)I" } : Jvm.MethodName) method_6_code (3 : Nat) (Option.some Jvm.ClassFile.FieldType.int) [((0 : Nat), (8 : Nat), (11 : Nat), (25 : Nat))]) ∈ x_Ts := x_wi 486 (by decide +kernel) rfl
theorem w487 : (Jvm.Cond.methodLink "TradeLinkLaw" (27 : Nat) ({ cls := "TradeLink", name := "take", desc := "()I" } : Jvm.MethodName)) ∈ x_Ts := x_wi 487 (by decide +kernel) rfl
theorem w488 : (Jvm.Cond.instanceMethod ({ cls := "TradeLink", name := "take", desc := "()I" } : Jvm.MethodName)) ∈ x_Ts := x_wi 488 (by decide +kernel) rfl
theorem w489 : (Jvm.Cond.selects "TradeLink" ({ cls := "TradeLink", name := "take", desc := "()I" } : Jvm.MethodName) ({ cls := "TradeLink", name := "take", desc := "()I" } : Jvm.MethodName)) ∈ x_Ts := x_wi 489 (by decide +kernel) rfl
theorem w490 : (Jvm.Cond.code ({ cls := "TradeLink", name := "take", desc := "()I" } : Jvm.MethodName) prog_1_method_5_code (2 : Nat) (Option.some Jvm.ClassFile.FieldType.int)) ∈ x_Ts := x_wi 490 (by decide +kernel) rfl
theorem w491 : (Jvm.Cond.methodLink "TradeLink" (98 : Nat) ({ cls := "TradeLink$Inbox", name := "scan", desc := "(LTradeLink$Message;)Z" } : Jvm.MethodName)) ∈ x_Ts := x_wi 491 (by decide +kernel) rfl
theorem w492 : (Jvm.Cond.instanceMethod ({ cls := "TradeLink$Inbox", name := "scan", desc := "(LTradeLink$Message;)Z" } : Jvm.MethodName)) ∈ x_Ts := x_wi 492 (by decide +kernel) rfl
theorem w493 : (Jvm.Cond.selects "TradeLink$Inbox" ({ cls := "TradeLink$Inbox", name := "scan", desc := "(LTradeLink$Message;)Z" } : Jvm.MethodName) ({ cls := "TradeLink$Inbox", name := "scan", desc := "(LTradeLink$Message;)Z" } : Jvm.MethodName)) ∈ x_Ts := x_wi 493 (by decide +kernel) rfl
theorem w494 : (Jvm.Cond.code ({ cls := "TradeLink$Inbox", name := "scan", desc := "(LTradeLink$Message;)Z" } : Jvm.MethodName) prog_3_method_2_code (4 : Nat) (Option.some Jvm.ClassFile.FieldType.boolean)) ∈ x_Ts := x_wi 494 (by decide +kernel) rfl
theorem w495 : (Jvm.Cond.methodLink "TradeLink$Inbox" (22 : Nat) ({ cls := "TradeLink$Inbox", name := "opens", desc := "(I)Z" } : Jvm.MethodName)) ∈ x_Ts := x_wi 495 (by decide +kernel) rfl
theorem w497 : (Jvm.Cond.instanceMethod ({ cls := "TradeLink$Inbox", name := "opens", desc := "(I)Z" } : Jvm.MethodName)) ∈ x_Ts := x_wi 497 (by decide +kernel) rfl
theorem w498 : (Jvm.Cond.code ({ cls := "TradeLink$Inbox", name := "opens", desc := "(I)Z" } : Jvm.MethodName) prog_3_method_6_code (4 : Nat) (Option.some Jvm.ClassFile.FieldType.boolean)) ∈ x_Ts := x_wi 498 (by decide +kernel) rfl
theorem w499 : (Jvm.Cond.methodLink "TradeLink$Inbox" (79 : Nat) ({ cls := "TradeLink$Row", name := "at", desc := "(I)I" } : Jvm.MethodName)) ∈ x_Ts := x_wi 499 (by decide +kernel) rfl
theorem w500 : (Jvm.Cond.methodLink "TradeLink$Inbox" (26 : Nat) ({ cls := "TradeLink$Inbox", name := "character", desc := "()I" } : Jvm.MethodName)) ∈ x_Ts := x_wi 500 (by decide +kernel) rfl
theorem w502 : (Jvm.Cond.instanceMethod ({ cls := "TradeLink$Inbox", name := "character", desc := "()I" } : Jvm.MethodName)) ∈ x_Ts := x_wi 502 (by decide +kernel) rfl
theorem w503 : (Jvm.Cond.code ({ cls := "TradeLink$Inbox", name := "character", desc := "()I" } : Jvm.MethodName) prog_3_method_8_code (2 : Nat) (Option.some Jvm.ClassFile.FieldType.int)) ∈ x_Ts := x_wi 503 (by decide +kernel) rfl
theorem w504 : (Jvm.Cond.methodLink "TradeLink$Inbox" (81 : Nat) ({ cls := "TradeLink$Inbox", name := "closes", desc := "()Z" } : Jvm.MethodName)) ∈ x_Ts := x_wi 504 (by decide +kernel) rfl
theorem w506 : (Jvm.Cond.instanceMethod ({ cls := "TradeLink$Inbox", name := "closes", desc := "()Z" } : Jvm.MethodName)) ∈ x_Ts := x_wi 506 (by decide +kernel) rfl
theorem w507 : (Jvm.Cond.code ({ cls := "TradeLink$Inbox", name := "closes", desc := "()Z" } : Jvm.MethodName) prog_3_method_10_code (2 : Nat) (Option.some Jvm.ClassFile.FieldType.boolean)) ∈ x_Ts := x_wi 507 (by decide +kernel) rfl
theorem w508 : (Jvm.Cond.methodLink "TradeLink$Inbox" (30 : Nat) ({ cls := "TradeLink$Inbox", name := "number", desc := "()I" } : Jvm.MethodName)) ∈ x_Ts := x_wi 508 (by decide +kernel) rfl
theorem w510 : (Jvm.Cond.instanceMethod ({ cls := "TradeLink$Inbox", name := "number", desc := "()I" } : Jvm.MethodName)) ∈ x_Ts := x_wi 510 (by decide +kernel) rfl
theorem w511 : (Jvm.Cond.code ({ cls := "TradeLink$Inbox", name := "number", desc := "()I" } : Jvm.MethodName) prog_3_method_7_code (3 : Nat) (Option.some Jvm.ClassFile.FieldType.int)) ∈ x_Ts := x_wi 511 (by decide +kernel) rfl
theorem w512 : (Jvm.Cond.methodLink "TradeLink$Inbox" (33 : Nat) ({ cls := "TradeLink$Inbox", name := "scanHead", desc := "(LTradeLink$Message;)Z" } : Jvm.MethodName)) ∈ x_Ts := x_wi 512 (by decide +kernel) rfl
theorem w514 : (Jvm.Cond.instanceMethod ({ cls := "TradeLink$Inbox", name := "scanHead", desc := "(LTradeLink$Message;)Z" } : Jvm.MethodName)) ∈ x_Ts := x_wi 514 (by decide +kernel) rfl
theorem w515 : (Jvm.Cond.code ({ cls := "TradeLink$Inbox", name := "scanHead", desc := "(LTradeLink$Message;)Z" } : Jvm.MethodName) prog_3_method_3_code (5 : Nat) (Option.some Jvm.ClassFile.FieldType.boolean)) ∈ x_Ts := x_wi 515 (by decide +kernel) rfl
theorem w516 : (Jvm.Cond.methodLink "TradeLink$Inbox" (44 : Nat) ({ cls := "TradeLink$Layout", name := "isPeerType", desc := "(I)Z" } : Jvm.MethodName)) ∈ x_Ts := x_wi 516 (by decide +kernel) rfl
theorem w517 : (Jvm.Cond.methodLink "TradeLink$Inbox" (49 : Nat) ({ cls := "TradeLink$Message", name := "begin", desc := "(IIZ)V" } : Jvm.MethodName)) ∈ x_Ts := x_wi 517 (by decide +kernel) rfl
theorem w518 : (Jvm.Cond.methodLink "TradeLink$Inbox" (37 : Nat) ({ cls := "TradeLink$Inbox", name := "scanOwnFields", desc := "(LTradeLink$Message;)Z" } : Jvm.MethodName)) ∈ x_Ts := x_wi 518 (by decide +kernel) rfl
theorem w520 : (Jvm.Cond.instanceMethod ({ cls := "TradeLink$Inbox", name := "scanOwnFields", desc := "(LTradeLink$Message;)Z" } : Jvm.MethodName)) ∈ x_Ts := x_wi 520 (by decide +kernel) rfl
theorem w521 : (Jvm.Cond.code ({ cls := "TradeLink$Inbox", name := "scanOwnFields", desc := "(LTradeLink$Message;)Z" } : Jvm.MethodName) prog_3_method_4_code (5 : Nat) (Option.some Jvm.ClassFile.FieldType.boolean)) ∈ x_Ts := x_wi 521 (by decide +kernel) rfl
theorem w522 : (Jvm.Cond.methodLink "TradeLink$Inbox" (58 : Nat) ({ cls := "TradeLink$Layout", name := "fieldCount", desc := "(I)I" } : Jvm.MethodName)) ∈ x_Ts := x_wi 522 (by decide +kernel) rfl
theorem w523 : (Jvm.Cond.methodLink "TradeLink$Inbox" (66 : Nat) ({ cls := "TradeLink$Layout", name := "tag", desc := "(II)I" } : Jvm.MethodName)) ∈ x_Ts := x_wi 523 (by decide +kernel) rfl
theorem w524 : (Jvm.Cond.methodLink "TradeLink$Inbox" (70 : Nat) ({ cls := "TradeLink$Inbox", name := "yesOrNo", desc := "()I" } : Jvm.MethodName)) ∈ x_Ts := x_wi 524 (by decide +kernel) rfl
theorem w526 : (Jvm.Cond.instanceMethod ({ cls := "TradeLink$Inbox", name := "yesOrNo", desc := "()I" } : Jvm.MethodName)) ∈ x_Ts := x_wi 526 (by decide +kernel) rfl
theorem w527 : (Jvm.Cond.code ({ cls := "TradeLink$Inbox", name := "yesOrNo", desc := "()I" } : Jvm.MethodName) prog_3_method_9_code (2 : Nat) (Option.some Jvm.ClassFile.FieldType.int)) ∈ x_Ts := x_wi 527 (by decide +kernel) rfl
theorem w528 : (Jvm.Cond.methodLink "TradeLink$Inbox" (40 : Nat) ({ cls := "TradeLink$Inbox", name := "scanSum", desc := "()Z" } : Jvm.MethodName)) ∈ x_Ts := x_wi 528 (by decide +kernel) rfl
theorem w530 : (Jvm.Cond.instanceMethod ({ cls := "TradeLink$Inbox", name := "scanSum", desc := "()Z" } : Jvm.MethodName)) ∈ x_Ts := x_wi 530 (by decide +kernel) rfl
theorem w531 : (Jvm.Cond.code ({ cls := "TradeLink$Inbox", name := "scanSum", desc := "()Z" } : Jvm.MethodName) prog_3_method_5_code (3 : Nat) (Option.some Jvm.ClassFile.FieldType.boolean)) ∈ x_Ts := x_wi 531 (by decide +kernel) rfl
theorem w532 : (Jvm.Cond.methodLink "TradeLink$Inbox" (73 : Nat) ({ cls := "TradeLink$Row", name := "sumBefore", desc := "(I)I" } : Jvm.MethodName)) ∈ x_Ts := x_wi 532 (by decide +kernel) rfl
theorem w533 : (Jvm.Cond.methodLink "TradeLink" (102 : Nat) ({ cls := "TradeLink$Row", name := "clear", desc := "()V" } : Jvm.MethodName)) ∈ x_Ts := x_wi 533 (by decide +kernel) rfl
theorem w534 : (Jvm.Cond.methodLink "TradeLink" (103 : Nat) ({ cls := "TradeLink$Session", name := "receive", desc := "(LTradeLink$Message;)I" } : Jvm.MethodName)) ∈ x_Ts := x_wi 534 (by decide +kernel) rfl
theorem w535 : (Jvm.Cond.instanceMethod ({ cls := "TradeLink$Session", name := "receive", desc := "(LTradeLink$Message;)I" } : Jvm.MethodName)) ∈ x_Ts := x_wi 535 (by decide +kernel) rfl
theorem w536 : (Jvm.Cond.selects "TradeLink$Session" ({ cls := "TradeLink$Session", name := "receive", desc := "(LTradeLink$Message;)I" } : Jvm.MethodName) ({ cls := "TradeLink$Session", name := "receive", desc := "(LTradeLink$Message;)I" } : Jvm.MethodName)) ∈ x_Ts := x_wi 536 (by decide +kernel) rfl
theorem w537 : (Jvm.Cond.code ({ cls := "TradeLink$Session", name := "receive", desc := "(LTradeLink$Message;)I" } : Jvm.MethodName) prog_9_method_2_code (2 : Nat) (Option.some Jvm.ClassFile.FieldType.int)) ∈ x_Ts := x_wi 537 (by decide +kernel) rfl
theorem w538 : (Jvm.Cond.methodLink "TradeLink$Session" (54 : Nat) ({ cls := "TradeLink$Message", name := "isFill", desc := "()Z" } : Jvm.MethodName)) ∈ x_Ts := x_wi 538 (by decide +kernel) rfl
theorem w539 : (Jvm.Cond.methodLink "TradeLink$Session" (62 : Nat) ({ cls := "TradeLink$Session", name := "raiseAwaited", desc := "(I)Z" } : Jvm.MethodName)) ∈ x_Ts := x_wi 539 (by decide +kernel) rfl
theorem w541 : (Jvm.Cond.instanceMethod ({ cls := "TradeLink$Session", name := "raiseAwaited", desc := "(I)Z" } : Jvm.MethodName)) ∈ x_Ts := x_wi 541 (by decide +kernel) rfl
theorem w542 : (Jvm.Cond.code ({ cls := "TradeLink$Session", name := "raiseAwaited", desc := "(I)Z" } : Jvm.MethodName) prog_9_method_9_code (2 : Nat) (Option.some Jvm.ClassFile.FieldType.boolean)) ∈ x_Ts := x_wi 542 (by decide +kernel) rfl
theorem w543 : (Jvm.Cond.methodLink "TradeLink$Session" (72 : Nat) ({ cls := "TradeLink$Session", name := "receiveLow", desc := "(Z)I" } : Jvm.MethodName)) ∈ x_Ts := x_wi 543 (by decide +kernel) rfl
theorem w545 : (Jvm.Cond.instanceMethod ({ cls := "TradeLink$Session", name := "receiveLow", desc := "(Z)I" } : Jvm.MethodName)) ∈ x_Ts := x_wi 545 (by decide +kernel) rfl
theorem w546 : (Jvm.Cond.code ({ cls := "TradeLink$Session", name := "receiveLow", desc := "(Z)I" } : Jvm.MethodName) prog_9_method_6_code (2 : Nat) (Option.some Jvm.ClassFile.FieldType.int)) ∈ x_Ts := x_wi 546 (by decide +kernel) rfl
theorem w547 : (Jvm.Cond.methodLink "TradeLink$Session" (80 : Nat) ({ cls := "TradeLink$Session", name := "receiveEarly", desc := "(LTradeLink$Message;)I" } : Jvm.MethodName)) ∈ x_Ts := x_wi 547 (by decide +kernel) rfl
theorem w549 : (Jvm.Cond.instanceMethod ({ cls := "TradeLink$Session", name := "receiveEarly", desc := "(LTradeLink$Message;)I" } : Jvm.MethodName)) ∈ x_Ts := x_wi 549 (by decide +kernel) rfl
theorem w550 : (Jvm.Cond.code ({ cls := "TradeLink$Session", name := "receiveEarly", desc := "(LTradeLink$Message;)I" } : Jvm.MethodName) prog_9_method_7_code (2 : Nat) (Option.some Jvm.ClassFile.FieldType.int)) ∈ x_Ts := x_wi 550 (by decide +kernel) rfl
theorem w551 : (Jvm.Cond.methodLink "TradeLink$Session" (127 : Nat) ({ cls := "TradeLink$Session", name := "answerResend", desc := "(II)V" } : Jvm.MethodName)) ∈ x_Ts := x_wi 551 (by decide +kernel) rfl
theorem w553 : (Jvm.Cond.instanceMethod ({ cls := "TradeLink$Session", name := "answerResend", desc := "(II)V" } : Jvm.MethodName)) ∈ x_Ts := x_wi 553 (by decide +kernel) rfl
theorem w554 : (Jvm.Cond.code ({ cls := "TradeLink$Session", name := "answerResend", desc := "(II)V" } : Jvm.MethodName) prog_9_method_13_code (7 : Nat) (Option.none : Option Jvm.ClassFile.FieldType)) ∈ x_Ts := x_wi 554 (by decide +kernel) rfl
theorem w555 : (Jvm.Cond.methodLink "TradeLink$Session" (131 : Nat) ({ cls := "java/lang/Math", name := "max", desc := "(II)I" } : Jvm.MethodName)) ∈ x_Ts := x_wi 555 (by decide +kernel) rfl
theorem w556 : (Jvm.Cond.static ({ cls := "java/lang/Math", name := "max", desc := "(II)I" } : Jvm.MethodName)) ∈ x_Ts := x_wi 556 (by decide +kernel) rfl
theorem w557 : (Jvm.Cond.code ({ cls := "java/lang/Math", name := "max", desc := "(II)I" } : Jvm.MethodName) prog_17_method_65_code (2 : Nat) (Option.some Jvm.ClassFile.FieldType.int)) ∈ x_Ts := x_wi 557 (by decide +kernel) rfl
theorem w558 : (Jvm.Cond.methodLink "TradeLink$Session" (154 : Nat) ({ cls := "TradeLink$Store", name := "numberOf", desc := "(I)I" } : Jvm.MethodName)) ∈ x_Ts := x_wi 558 (by decide +kernel) rfl
theorem w559 : (Jvm.Cond.instanceMethod ({ cls := "TradeLink$Store", name := "numberOf", desc := "(I)I" } : Jvm.MethodName)) ∈ x_Ts := x_wi 559 (by decide +kernel) rfl
theorem w560 : (Jvm.Cond.selects "TradeLink$Store" ({ cls := "TradeLink$Store", name := "numberOf", desc := "(I)I" } : Jvm.MethodName) ({ cls := "TradeLink$Store", name := "numberOf", desc := "(I)I" } : Jvm.MethodName)) ∈ x_Ts := x_wi 560 (by decide +kernel) rfl
theorem w561 : (Jvm.Cond.code ({ cls := "TradeLink$Store", name := "numberOf", desc := "(I)I" } : Jvm.MethodName) prog_10_method_3_code (2 : Nat) (Option.some Jvm.ClassFile.FieldType.int)) ∈ x_Ts := x_wi 561 (by decide +kernel) rfl
theorem w562 : (Jvm.Cond.methodLink "TradeLink$Session" (158 : Nat) ({ cls := "TradeLink$Session", name := "postGap", desc := "(II)V" } : Jvm.MethodName)) ∈ x_Ts := x_wi 562 (by decide +kernel) rfl
theorem w564 : (Jvm.Cond.instanceMethod ({ cls := "TradeLink$Session", name := "postGap", desc := "(II)V" } : Jvm.MethodName)) ∈ x_Ts := x_wi 564 (by decide +kernel) rfl
theorem w565 : (Jvm.Cond.code ({ cls := "TradeLink$Session", name := "postGap", desc := "(II)V" } : Jvm.MethodName) prog_9_method_14_code (3 : Nat) (Option.none : Option Jvm.ClassFile.FieldType)) ∈ x_Ts := x_wi 565 (by decide +kernel) rfl
theorem w566 : (Jvm.Cond.methodLink "TradeLink$Session" (161 : Nat) ({ cls := "TradeLink$Store", name := "recall", desc := "(ILTradeLink$Message;)V" } : Jvm.MethodName)) ∈ x_Ts := x_wi 566 (by decide +kernel) rfl
theorem w567 : (Jvm.Cond.instanceMethod ({ cls := "TradeLink$Store", name := "recall", desc := "(ILTradeLink$Message;)V" } : Jvm.MethodName)) ∈ x_Ts := x_wi 567 (by decide +kernel) rfl
theorem w568 : (Jvm.Cond.selects "TradeLink$Store" ({ cls := "TradeLink$Store", name := "recall", desc := "(ILTradeLink$Message;)V" } : Jvm.MethodName) ({ cls := "TradeLink$Store", name := "recall", desc := "(ILTradeLink$Message;)V" } : Jvm.MethodName)) ∈ x_Ts := x_wi 568 (by decide +kernel) rfl
theorem w569 : (Jvm.Cond.code ({ cls := "TradeLink$Store", name := "recall", desc := "(ILTradeLink$Message;)V" } : Jvm.MethodName) prog_10_method_4_code (4 : Nat) (Option.none : Option Jvm.ClassFile.FieldType)) ∈ x_Ts := x_wi 569 (by decide +kernel) rfl
theorem w570 : (Jvm.Cond.methodLink "TradeLink$Store" (19 : Nat) ({ cls := "TradeLink$Message", name := "say", desc := "(IIII)V" } : Jvm.MethodName)) ∈ x_Ts := x_wi 570 (by decide +kernel) rfl
theorem w571 : (Jvm.Cond.methodLink "TradeLink$Session" (84 : Nat) ({ cls := "TradeLink$Session", name := "receiveInTurn", desc := "(LTradeLink$Message;)V" } : Jvm.MethodName)) ∈ x_Ts := x_wi 571 (by decide +kernel) rfl
theorem w573 : (Jvm.Cond.instanceMethod ({ cls := "TradeLink$Session", name := "receiveInTurn", desc := "(LTradeLink$Message;)V" } : Jvm.MethodName)) ∈ x_Ts := x_wi 573 (by decide +kernel) rfl
theorem w574 : (Jvm.Cond.code ({ cls := "TradeLink$Session", name := "receiveInTurn", desc := "(LTradeLink$Message;)V" } : Jvm.MethodName) prog_9_method_8_code (2 : Nat) (Option.none : Option Jvm.ClassFile.FieldType)) ∈ x_Ts := x_wi 574 (by decide +kernel) rfl
theorem w575 : (Jvm.Cond.methodLink "TradeLink$Session" (140 : Nat) ({ cls := "TradeLink$Book", name := "carryOut", desc := "(LTradeLink$Message;)LTradeLink$Order;" } : Jvm.MethodName)) ∈ x_Ts := x_wi 575 (by decide +kernel) rfl
theorem w576 : (Jvm.Cond.instanceMethod ({ cls := "TradeLink$Book", name := "carryOut", desc := "(LTradeLink$Message;)LTradeLink$Order;" } : Jvm.MethodName)) ∈ x_Ts := x_wi 576 (by decide +kernel) rfl
theorem w577 : (Jvm.Cond.selects "TradeLink$Book" ({ cls := "TradeLink$Book", name := "carryOut", desc := "(LTradeLink$Message;)LTradeLink$Order;" } : Jvm.MethodName) ({ cls := "TradeLink$Book", name := "carryOut", desc := "(LTradeLink$Message;)LTradeLink$Order;" } : Jvm.MethodName)) ∈ x_Ts := x_wi 577 (by decide +kernel) rfl
theorem w578 : (Jvm.Cond.code ({ cls := "TradeLink$Book", name := "carryOut", desc := "(LTradeLink$Message;)LTradeLink$Order;" } : Jvm.MethodName) prog_2_method_4_code (4 : Nat) (Option.some (Jvm.ClassFile.FieldType.object "TradeLink$Order"))) ∈ x_Ts := x_wi 578 (by decide +kernel) rfl
theorem w579 : (Jvm.Cond.methodLink "TradeLink$Book" (42 : Nat) ({ cls := "TradeLink$Book", name := "isUsed", desc := "(I)Z" } : Jvm.MethodName)) ∈ x_Ts := x_wi 579 (by decide +kernel) rfl
theorem w581 : (Jvm.Cond.instanceMethod ({ cls := "TradeLink$Book", name := "isUsed", desc := "(I)Z" } : Jvm.MethodName)) ∈ x_Ts := x_wi 581 (by decide +kernel) rfl
theorem w582 : (Jvm.Cond.code ({ cls := "TradeLink$Book", name := "isUsed", desc := "(I)Z" } : Jvm.MethodName) prog_2_method_7_code (3 : Nat) (Option.some Jvm.ClassFile.FieldType.boolean)) ∈ x_Ts := x_wi 582 (by decide +kernel) rfl
theorem w583 : (Jvm.Cond.methodLink "TradeLink$Book" (49 : Nat) ({ cls := "TradeLink$Book", name := "enter", desc := "(II)LTradeLink$Order;" } : Jvm.MethodName)) ∈ x_Ts := x_wi 583 (by decide +kernel) rfl
theorem w585 : (Jvm.Cond.instanceMethod ({ cls := "TradeLink$Book", name := "enter", desc := "(II)LTradeLink$Order;" } : Jvm.MethodName)) ∈ x_Ts := x_wi 585 (by decide +kernel) rfl
theorem w586 : (Jvm.Cond.code ({ cls := "TradeLink$Book", name := "enter", desc := "(II)LTradeLink$Order;" } : Jvm.MethodName) prog_2_method_5_code (4 : Nat) (Option.some (Jvm.ClassFile.FieldType.object "TradeLink$Order"))) ∈ x_Ts := x_wi 586 (by decide +kernel) rfl
theorem w587 : (Jvm.Cond.methodLink "TradeLink$Book" (53 : Nat) ({ cls := "TradeLink$Book", name := "amend", desc := "(IZI)LTradeLink$Order;" } : Jvm.MethodName)) ∈ x_Ts := x_wi 587 (by decide +kernel) rfl
theorem w589 : (Jvm.Cond.instanceMethod ({ cls := "TradeLink$Book", name := "amend", desc := "(IZI)LTradeLink$Order;" } : Jvm.MethodName)) ∈ x_Ts := x_wi 589 (by decide +kernel) rfl
theorem w590 : (Jvm.Cond.code ({ cls := "TradeLink$Book", name := "amend", desc := "(IZI)LTradeLink$Order;" } : Jvm.MethodName) prog_2_method_6_code (5 : Nat) (Option.some (Jvm.ClassFile.FieldType.object "TradeLink$Order"))) ∈ x_Ts := x_wi 590 (by decide +kernel) rfl
theorem w591 : (Jvm.Cond.methodLink "TradeLink$Book" (67 : Nat) ({ cls := "TradeLink$Book", name := "findOpen", desc := "(I)LTradeLink$Order;" } : Jvm.MethodName)) ∈ x_Ts := x_wi 591 (by decide +kernel) rfl
theorem w592 : (Jvm.Cond.instanceMethod ({ cls := "TradeLink$Book", name := "findOpen", desc := "(I)LTradeLink$Order;" } : Jvm.MethodName)) ∈ x_Ts := x_wi 592 (by decide +kernel) rfl
theorem w593 : (Jvm.Cond.selects "TradeLink$Book" ({ cls := "TradeLink$Book", name := "findOpen", desc := "(I)LTradeLink$Order;" } : Jvm.MethodName) ({ cls := "TradeLink$Book", name := "findOpen", desc := "(I)LTradeLink$Order;" } : Jvm.MethodName)) ∈ x_Ts := x_wi 593 (by decide +kernel) rfl
theorem w594 : (Jvm.Cond.code ({ cls := "TradeLink$Book", name := "findOpen", desc := "(I)LTradeLink$Order;" } : Jvm.MethodName) prog_2_method_3_code (3 : Nat) (Option.some (Jvm.ClassFile.FieldType.object "TradeLink$Order"))) ∈ x_Ts := x_wi 594 (by decide +kernel) rfl
theorem w595 : (Jvm.Cond.methodLink "TradeLink$Book" (29 : Nat) ({ cls := "TradeLink$Book", name := "find", desc := "(I)LTradeLink$Order;" } : Jvm.MethodName)) ∈ x_Ts := x_wi 595 (by decide +kernel) rfl
theorem w596 : (Jvm.Cond.instanceMethod ({ cls := "TradeLink$Book", name := "find", desc := "(I)LTradeLink$Order;" } : Jvm.MethodName)) ∈ x_Ts := x_wi 596 (by decide +kernel) rfl
theorem w597 : (Jvm.Cond.selects "TradeLink$Book" ({ cls := "TradeLink$Book", name := "find", desc := "(I)LTradeLink$Order;" } : Jvm.MethodName) ({ cls := "TradeLink$Book", name := "find", desc := "(I)LTradeLink$Order;" } : Jvm.MethodName)) ∈ x_Ts := x_wi 597 (by decide +kernel) rfl
theorem w598 : (Jvm.Cond.code ({ cls := "TradeLink$Book", name := "find", desc := "(I)LTradeLink$Order;" } : Jvm.MethodName) prog_2_method_2_code (3 : Nat) (Option.some (Jvm.ClassFile.FieldType.object "TradeLink$Order"))) ∈ x_Ts := x_wi 598 (by decide +kernel) rfl
theorem w599 : (Jvm.Cond.methodLink "TradeLink$Book" (33 : Nat) ({ cls := "TradeLink$Order", name := "isOpen", desc := "()Z" } : Jvm.MethodName)) ∈ x_Ts := x_wi 599 (by decide +kernel) rfl
theorem w600 : (Jvm.Cond.instanceMethod ({ cls := "TradeLink$Order", name := "isOpen", desc := "()Z" } : Jvm.MethodName)) ∈ x_Ts := x_wi 600 (by decide +kernel) rfl
theorem w601 : (Jvm.Cond.selects "TradeLink$Order" ({ cls := "TradeLink$Order", name := "isOpen", desc := "()Z" } : Jvm.MethodName) ({ cls := "TradeLink$Order", name := "isOpen", desc := "()Z" } : Jvm.MethodName)) ∈ x_Ts := x_wi 601 (by decide +kernel) rfl
theorem w602 : (Jvm.Cond.code ({ cls := "TradeLink$Order", name := "isOpen", desc := "()Z" } : Jvm.MethodName) prog_6_method_2_code (1 : Nat) (Option.some Jvm.ClassFile.FieldType.boolean)) ∈ x_Ts := x_wi 602 (by decide +kernel) rfl
theorem w603 : (Jvm.Cond.methodLink "TradeLink$Book" (57 : Nat) ({ cls := "TradeLink$Book", name := "use", desc := "(I)V" } : Jvm.MethodName)) ∈ x_Ts := x_wi 603 (by decide +kernel) rfl
theorem w605 : (Jvm.Cond.instanceMethod ({ cls := "TradeLink$Book", name := "use", desc := "(I)V" } : Jvm.MethodName)) ∈ x_Ts := x_wi 605 (by decide +kernel) rfl
theorem w606 : (Jvm.Cond.code ({ cls := "TradeLink$Book", name := "use", desc := "(I)V" } : Jvm.MethodName) prog_2_method_8_code (2 : Nat) (Option.none : Option Jvm.ClassFile.FieldType)) ∈ x_Ts := x_wi 606 (by decide +kernel) rfl
theorem w607 : (Jvm.Cond.methodLink "TradeLink$Session" (144 : Nat) ({ cls := "TradeLink$Session", name := "report", desc := "(ILTradeLink$Order;)V" } : Jvm.MethodName)) ∈ x_Ts := x_wi 607 (by decide +kernel) rfl
theorem w608 : (Jvm.Cond.instanceMethod ({ cls := "TradeLink$Session", name := "report", desc := "(ILTradeLink$Order;)V" } : Jvm.MethodName)) ∈ x_Ts := x_wi 608 (by decide +kernel) rfl
theorem w609 : (Jvm.Cond.selects "TradeLink$Session" ({ cls := "TradeLink$Session", name := "report", desc := "(ILTradeLink$Order;)V" } : Jvm.MethodName) ({ cls := "TradeLink$Session", name := "report", desc := "(ILTradeLink$Order;)V" } : Jvm.MethodName)) ∈ x_Ts := x_wi 609 (by decide +kernel) rfl
theorem w610 : (Jvm.Cond.code ({ cls := "TradeLink$Session", name := "report", desc := "(ILTradeLink$Order;)V" } : Jvm.MethodName) prog_9_method_5_code (6 : Nat) (Option.none : Option Jvm.ClassFile.FieldType)) ∈ x_Ts := x_wi 610 (by decide +kernel) rfl
theorem w611 : (Jvm.Cond.methodLink "TradeLink$Session" (103 : Nat) ({ cls := "TradeLink$Order", name := "state", desc := "()I" } : Jvm.MethodName)) ∈ x_Ts := x_wi 611 (by decide +kernel) rfl
theorem w612 : (Jvm.Cond.instanceMethod ({ cls := "TradeLink$Order", name := "state", desc := "()I" } : Jvm.MethodName)) ∈ x_Ts := x_wi 612 (by decide +kernel) rfl
theorem w613 : (Jvm.Cond.selects "TradeLink$Order" ({ cls := "TradeLink$Order", name := "state", desc := "()I" } : Jvm.MethodName) ({ cls := "TradeLink$Order", name := "state", desc := "()I" } : Jvm.MethodName)) ∈ x_Ts := x_wi 613 (by decide +kernel) rfl
theorem w614 : (Jvm.Cond.code ({ cls := "TradeLink$Order", name := "state", desc := "()I" } : Jvm.MethodName) prog_6_method_4_code (1 : Nat) (Option.some Jvm.ClassFile.FieldType.int)) ∈ x_Ts := x_wi 614 (by decide +kernel) rfl
theorem w615 : (Jvm.Cond.methodLink "TradeLink$Session" (112 : Nat) ({ cls := "TradeLink$Order", name := "left", desc := "()I" } : Jvm.MethodName)) ∈ x_Ts := x_wi 615 (by decide +kernel) rfl
theorem w616 : (Jvm.Cond.instanceMethod ({ cls := "TradeLink$Order", name := "left", desc := "()I" } : Jvm.MethodName)) ∈ x_Ts := x_wi 616 (by decide +kernel) rfl
theorem w617 : (Jvm.Cond.selects "TradeLink$Order" ({ cls := "TradeLink$Order", name := "left", desc := "()I" } : Jvm.MethodName) ({ cls := "TradeLink$Order", name := "left", desc := "()I" } : Jvm.MethodName)) ∈ x_Ts := x_wi 617 (by decide +kernel) rfl
theorem w618 : (Jvm.Cond.code ({ cls := "TradeLink$Order", name := "left", desc := "()I" } : Jvm.MethodName) prog_6_method_3_code (1 : Nat) (Option.some Jvm.ClassFile.FieldType.int)) ∈ x_Ts := x_wi 618 (by decide +kernel) rfl
theorem w619 : (Jvm.Cond.methodLink "TradeLink$Session" (115 : Nat) ({ cls := "TradeLink$Store", name := "keep", desc := "(IIIII)V" } : Jvm.MethodName)) ∈ x_Ts := x_wi 619 (by decide +kernel) rfl
theorem w620 : (Jvm.Cond.instanceMethod ({ cls := "TradeLink$Store", name := "keep", desc := "(IIIII)V" } : Jvm.MethodName)) ∈ x_Ts := x_wi 620 (by decide +kernel) rfl
theorem w621 : (Jvm.Cond.selects "TradeLink$Store" ({ cls := "TradeLink$Store", name := "keep", desc := "(IIIII)V" } : Jvm.MethodName) ({ cls := "TradeLink$Store", name := "keep", desc := "(IIIII)V" } : Jvm.MethodName)) ∈ x_Ts := x_wi 621 (by decide +kernel) rfl
theorem w622 : (Jvm.Cond.code ({ cls := "TradeLink$Store", name := "keep", desc := "(IIIII)V" } : Jvm.MethodName) prog_10_method_2_code (7 : Nat) (Option.none : Option Jvm.ClassFile.FieldType)) ∈ x_Ts := x_wi 622 (by decide +kernel) rfl
theorem w623 : (Jvm.Cond.methodLink "TradeLinkLaw" (82 : Nat) ({ cls := "TradeLinkLaw", name := "fill", desc := "(LTradeLink;II[J)I" } : Jvm.MethodName)) ∈ x_Ts := x_wi 623 (by decide +kernel) rfl
theorem w624 : (Jvm.Cond.static ({ cls := "TradeLinkLaw", name := "fill", desc := "(LTradeLink;II[J)I" } : Jvm.MethodName)) ∈ x_Ts := x_wi 624 (by decide +kernel) rfl
theorem w625 : (Jvm.Cond.codeWith ({ cls := "TradeLinkLaw", name := "fill", desc := "(LTradeLink;II[J)I" } : Jvm.MethodName) method_7_code (5 : Nat) (Option.some Jvm.ClassFile.FieldType.int) [((0 : Nat), (10 : Nat), (13 : Nat), (34 : Nat)), ((0 : Nat), (10 : Nat), (17 : Nat), (13 : Nat))]) ∈ x_Ts := x_wi 625 (by decide +kernel) rfl
theorem w626 : (Jvm.Cond.classLink "TradeLinkLaw" (34 : Nat) "java/util/NoSuchElementException") ∈ x_Ts := x_wi 626 (by decide +kernel) rfl
theorem w627 : (Jvm.Cond.methodLink "TradeLinkLaw" (31 : Nat) ({ cls := "TradeLink", name := "fill", desc := "(II)I" } : Jvm.MethodName)) ∈ x_Ts := x_wi 627 (by decide +kernel) rfl
theorem w628 : (Jvm.Cond.instanceMethod ({ cls := "TradeLink", name := "fill", desc := "(II)I" } : Jvm.MethodName)) ∈ x_Ts := x_wi 628 (by decide +kernel) rfl
theorem w629 : (Jvm.Cond.selects "TradeLink" ({ cls := "TradeLink", name := "fill", desc := "(II)I" } : Jvm.MethodName) ({ cls := "TradeLink", name := "fill", desc := "(II)I" } : Jvm.MethodName)) ∈ x_Ts := x_wi 629 (by decide +kernel) rfl
theorem w630 : (Jvm.Cond.code ({ cls := "TradeLink", name := "fill", desc := "(II)I" } : Jvm.MethodName) prog_1_method_8_code (4 : Nat) (Option.some Jvm.ClassFile.FieldType.int)) ∈ x_Ts := x_wi 630 (by decide +kernel) rfl
theorem w631 : (Jvm.Cond.methodLink "TradeLink" (124 : Nat) ({ cls := "TradeLink$Book", name := "findOpen", desc := "(I)LTradeLink$Order;" } : Jvm.MethodName)) ∈ x_Ts := x_wi 631 (by decide +kernel) rfl
theorem w632 : (Jvm.Cond.classLink "TradeLink" (130 : Nat) "java/util/NoSuchElementException") ∈ x_Ts := x_wi 632 (by decide +kernel) rfl
theorem w633 : (Jvm.Cond.instantiable "java/util/NoSuchElementException" (6 : Nat)) ∈ x_Ts := x_wi 633 (by decide +kernel) rfl
theorem w634 : (Jvm.Cond.castable "java/util/NoSuchElementException" "java/util/NoSuchElementException") ∈ x_Ts := x_wi 634 (by decide +kernel) rfl
theorem w635 : (Jvm.Cond.selects "java/util/NoSuchElementException" ({ cls := "java/lang/Throwable", name := "fillInStackTrace", desc := "(I)Ljava/lang/Throwable;" } : Jvm.MethodName) ({ cls := "java/lang/Throwable", name := "fillInStackTrace", desc := "(I)Ljava/lang/Throwable;" } : Jvm.MethodName)) ∈ x_Ts := x_wi 635 (by decide +kernel) rfl
theorem w641 : (Jvm.Cond.methodLink "TradeLink" (132 : Nat) ({ cls := "java/util/NoSuchElementException", name := "<init>", desc := "()V" } : Jvm.MethodName)) ∈ x_Ts := x_wi 641 (by decide +kernel) rfl
theorem w642 : (Jvm.Cond.instanceMethod ({ cls := "java/util/NoSuchElementException", name := "<init>", desc := "()V" } : Jvm.MethodName)) ∈ x_Ts := x_wi 642 (by decide +kernel) rfl
theorem w643 : (Jvm.Cond.code ({ cls := "java/util/NoSuchElementException", name := "<init>", desc := "()V" } : Jvm.MethodName) prog_20_method_1_code (1 : Nat) (Option.none : Option Jvm.ClassFile.FieldType)) ∈ x_Ts := x_wi 643 (by decide +kernel) rfl
theorem w644 : (Jvm.Cond.methodLink "java/util/NoSuchElementException" (1 : Nat) ({ cls := "java/lang/RuntimeException", name := "<init>", desc := "()V" } : Jvm.MethodName)) ∈ x_Ts := x_wi 644 (by decide +kernel) rfl
theorem w647 : (Jvm.Cond.methodLink "TradeLink" (133 : Nat) ({ cls := "TradeLink$Order", name := "left", desc := "()I" } : Jvm.MethodName)) ∈ x_Ts := x_wi 647 (by decide +kernel) rfl
theorem w648 : (Jvm.Cond.methodLink "TradeLink" (142 : Nat) ({ cls := "TradeLink$Session", name := "report", desc := "(ILTradeLink$Order;)V" } : Jvm.MethodName)) ∈ x_Ts := x_wi 648 (by decide +kernel) rfl
theorem w649 : (Jvm.Cond.methodLink "TradeLinkLaw" (89 : Nat) ({ cls := "TradeLinkLaw", name := "length", desc := "(LTradeLink;I[J)I" } : Jvm.MethodName)) ∈ x_Ts := x_wi 649 (by decide +kernel) rfl
theorem w650 : (Jvm.Cond.static ({ cls := "TradeLinkLaw", name := "length", desc := "(LTradeLink;I[J)I" } : Jvm.MethodName)) ∈ x_Ts := x_wi 650 (by decide +kernel) rfl
theorem w651 : (Jvm.Cond.codeWith ({ cls := "TradeLinkLaw", name := "length", desc := "(LTradeLink;I[J)I" } : Jvm.MethodName) method_8_code (4 : Nat) (Option.some Jvm.ClassFile.FieldType.int) [((0 : Nat), (9 : Nat), (12 : Nat), (19 : Nat))]) ∈ x_Ts := x_wi 651 (by decide +kernel) rfl
theorem w652 : (Jvm.Cond.methodLink "TradeLinkLaw" (36 : Nat) ({ cls := "TradeLink", name := "length", desc := "(I)I" } : Jvm.MethodName)) ∈ x_Ts := x_wi 652 (by decide +kernel) rfl
theorem w653 : (Jvm.Cond.instanceMethod ({ cls := "TradeLink", name := "length", desc := "(I)I" } : Jvm.MethodName)) ∈ x_Ts := x_wi 653 (by decide +kernel) rfl
theorem w654 : (Jvm.Cond.selects "TradeLink" ({ cls := "TradeLink", name := "length", desc := "(I)I" } : Jvm.MethodName) ({ cls := "TradeLink", name := "length", desc := "(I)I" } : Jvm.MethodName)) ∈ x_Ts := x_wi 654 (by decide +kernel) rfl
theorem w655 : (Jvm.Cond.code ({ cls := "TradeLink", name := "length", desc := "(I)I" } : Jvm.MethodName) prog_1_method_10_code (2 : Nat) (Option.some Jvm.ClassFile.FieldType.int)) ∈ x_Ts := x_wi 655 (by decide +kernel) rfl
theorem w656 : (Jvm.Cond.methodLink "TradeLink" (149 : Nat) ({ cls := "TradeLink$Outbox", name := "keeps", desc := "(I)Z" } : Jvm.MethodName)) ∈ x_Ts := x_wi 656 (by decide +kernel) rfl
theorem w657 : (Jvm.Cond.instanceMethod ({ cls := "TradeLink$Outbox", name := "keeps", desc := "(I)Z" } : Jvm.MethodName)) ∈ x_Ts := x_wi 657 (by decide +kernel) rfl
theorem w658 : (Jvm.Cond.selects "TradeLink$Outbox" ({ cls := "TradeLink$Outbox", name := "keeps", desc := "(I)Z" } : Jvm.MethodName) ({ cls := "TradeLink$Outbox", name := "keeps", desc := "(I)Z" } : Jvm.MethodName)) ∈ x_Ts := x_wi 658 (by decide +kernel) rfl
theorem w659 : (Jvm.Cond.code ({ cls := "TradeLink$Outbox", name := "keeps", desc := "(I)Z" } : Jvm.MethodName) prog_7_method_4_code (2 : Nat) (Option.some Jvm.ClassFile.FieldType.boolean)) ∈ x_Ts := x_wi 659 (by decide +kernel) rfl
theorem w660 : (Jvm.Cond.methodLink "TradeLink" (152 : Nat) ({ cls := "TradeLink$Outbox", name := "frame", desc := "(I)LTradeLink$Row;" } : Jvm.MethodName)) ∈ x_Ts := x_wi 660 (by decide +kernel) rfl
theorem w661 : (Jvm.Cond.instanceMethod ({ cls := "TradeLink$Outbox", name := "frame", desc := "(I)LTradeLink$Row;" } : Jvm.MethodName)) ∈ x_Ts := x_wi 661 (by decide +kernel) rfl
theorem w662 : (Jvm.Cond.selects "TradeLink$Outbox" ({ cls := "TradeLink$Outbox", name := "frame", desc := "(I)LTradeLink$Row;" } : Jvm.MethodName) ({ cls := "TradeLink$Outbox", name := "frame", desc := "(I)LTradeLink$Row;" } : Jvm.MethodName)) ∈ x_Ts := x_wi 662 (by decide +kernel) rfl
theorem w663 : (Jvm.Cond.code ({ cls := "TradeLink$Outbox", name := "frame", desc := "(I)LTradeLink$Row;" } : Jvm.MethodName) prog_7_method_5_code (2 : Nat) (Option.some (Jvm.ClassFile.FieldType.object "TradeLink$Row"))) ∈ x_Ts := x_wi 663 (by decide +kernel) rfl
theorem w664 : (Jvm.Cond.methodLink "TradeLink$Outbox" (27 : Nat) ({ cls := "TradeLink$Outbox", name := "keeps", desc := "(I)Z" } : Jvm.MethodName)) ∈ x_Ts := x_wi 664 (by decide +kernel) rfl
theorem w665 : (Jvm.Cond.methodLink "TradeLink$Outbox" (31 : Nat) ({ cls := "TradeLink$Message", name := "writeTo", desc := "(LTradeLink$Row;)V" } : Jvm.MethodName)) ∈ x_Ts := x_wi 665 (by decide +kernel) rfl
theorem w666 : (Jvm.Cond.methodLink "TradeLinkLaw" (92 : Nat) ({ cls := "TradeLinkLaw", name := "octet", desc := "(LTradeLink;II[J)I" } : Jvm.MethodName)) ∈ x_Ts := x_wi 666 (by decide +kernel) rfl
theorem w667 : (Jvm.Cond.static ({ cls := "TradeLinkLaw", name := "octet", desc := "(LTradeLink;II[J)I" } : Jvm.MethodName)) ∈ x_Ts := x_wi 667 (by decide +kernel) rfl
theorem w668 : (Jvm.Cond.codeWith ({ cls := "TradeLinkLaw", name := "octet", desc := "(LTradeLink;II[J)I" } : Jvm.MethodName) method_9_code (5 : Nat) (Option.some Jvm.ClassFile.FieldType.int) [((0 : Nat), (10 : Nat), (13 : Nat), (19 : Nat))]) ∈ x_Ts := x_wi 668 (by decide +kernel) rfl
theorem w669 : (Jvm.Cond.methodLink "TradeLinkLaw" (39 : Nat) ({ cls := "TradeLink", name := "octet", desc := "(II)I" } : Jvm.MethodName)) ∈ x_Ts := x_wi 669 (by decide +kernel) rfl
theorem w670 : (Jvm.Cond.instanceMethod ({ cls := "TradeLink", name := "octet", desc := "(II)I" } : Jvm.MethodName)) ∈ x_Ts := x_wi 670 (by decide +kernel) rfl
theorem w671 : (Jvm.Cond.selects "TradeLink" ({ cls := "TradeLink", name := "octet", desc := "(II)I" } : Jvm.MethodName) ({ cls := "TradeLink", name := "octet", desc := "(II)I" } : Jvm.MethodName)) ∈ x_Ts := x_wi 671 (by decide +kernel) rfl
theorem w672 : (Jvm.Cond.code ({ cls := "TradeLink", name := "octet", desc := "(II)I" } : Jvm.MethodName) prog_1_method_11_code (4 : Nat) (Option.some Jvm.ClassFile.FieldType.int)) ∈ x_Ts := x_wi 672 (by decide +kernel) rfl
theorem w673 : (Jvm.Cond.methodLink "TradeLinkLaw" (95 : Nat) ({ cls := "TradeLinkLaw", name := "session", desc := "(LTradeLink;I[J)I" } : Jvm.MethodName)) ∈ x_Ts := x_wi 673 (by decide +kernel) rfl
theorem w674 : (Jvm.Cond.static ({ cls := "TradeLinkLaw", name := "session", desc := "(LTradeLink;I[J)I" } : Jvm.MethodName)) ∈ x_Ts := x_wi 674 (by decide +kernel) rfl
theorem w675 : (Jvm.Cond.codeWith ({ cls := "TradeLinkLaw", name := "session", desc := "(LTradeLink;I[J)I" } : Jvm.MethodName) method_10_code (4 : Nat) (Option.some Jvm.ClassFile.FieldType.int) [((0 : Nat), (9 : Nat), (12 : Nat), (19 : Nat))]) ∈ x_Ts := x_wi 675 (by decide +kernel) rfl
theorem w676 : (Jvm.Cond.methodLink "TradeLinkLaw" (42 : Nat) ({ cls := "TradeLink", name := "session", desc := "(I)I" } : Jvm.MethodName)) ∈ x_Ts := x_wi 676 (by decide +kernel) rfl
theorem w677 : (Jvm.Cond.instanceMethod ({ cls := "TradeLink", name := "session", desc := "(I)I" } : Jvm.MethodName)) ∈ x_Ts := x_wi 677 (by decide +kernel) rfl
theorem w678 : (Jvm.Cond.selects "TradeLink" ({ cls := "TradeLink", name := "session", desc := "(I)I" } : Jvm.MethodName) ({ cls := "TradeLink", name := "session", desc := "(I)I" } : Jvm.MethodName)) ∈ x_Ts := x_wi 678 (by decide +kernel) rfl
theorem w679 : (Jvm.Cond.code ({ cls := "TradeLink", name := "session", desc := "(I)I" } : Jvm.MethodName) prog_1_method_12_code (2 : Nat) (Option.some Jvm.ClassFile.FieldType.int)) ∈ x_Ts := x_wi 679 (by decide +kernel) rfl
theorem w680 : (Jvm.Cond.methodLink "TradeLinkLaw" (98 : Nat) ({ cls := "TradeLinkLaw", name := "order", desc := "(LTradeLink;II[J)I" } : Jvm.MethodName)) ∈ x_Ts := x_wi 680 (by decide +kernel) rfl
theorem w681 : (Jvm.Cond.static ({ cls := "TradeLinkLaw", name := "order", desc := "(LTradeLink;II[J)I" } : Jvm.MethodName)) ∈ x_Ts := x_wi 681 (by decide +kernel) rfl
theorem w682 : (Jvm.Cond.codeWith ({ cls := "TradeLinkLaw", name := "order", desc := "(LTradeLink;II[J)I" } : Jvm.MethodName) method_11_code (5 : Nat) (Option.some Jvm.ClassFile.FieldType.int) [((0 : Nat), (10 : Nat), (13 : Nat), (34 : Nat)), ((0 : Nat), (10 : Nat), (17 : Nat), (19 : Nat))]) ∈ x_Ts := x_wi 682 (by decide +kernel) rfl
theorem w683 : (Jvm.Cond.methodLink "TradeLinkLaw" (45 : Nat) ({ cls := "TradeLink", name := "order", desc := "(II)I" } : Jvm.MethodName)) ∈ x_Ts := x_wi 683 (by decide +kernel) rfl
theorem w684 : (Jvm.Cond.instanceMethod ({ cls := "TradeLink", name := "order", desc := "(II)I" } : Jvm.MethodName)) ∈ x_Ts := x_wi 684 (by decide +kernel) rfl
theorem w685 : (Jvm.Cond.selects "TradeLink" ({ cls := "TradeLink", name := "order", desc := "(II)I" } : Jvm.MethodName) ({ cls := "TradeLink", name := "order", desc := "(II)I" } : Jvm.MethodName)) ∈ x_Ts := x_wi 685 (by decide +kernel) rfl
theorem w686 : (Jvm.Cond.code ({ cls := "TradeLink", name := "order", desc := "(II)I" } : Jvm.MethodName) prog_1_method_13_code (4 : Nat) (Option.some Jvm.ClassFile.FieldType.int)) ∈ x_Ts := x_wi 686 (by decide +kernel) rfl
theorem w687 : (Jvm.Cond.methodLink "TradeLink" (169 : Nat) ({ cls := "TradeLink$Book", name := "find", desc := "(I)LTradeLink$Order;" } : Jvm.MethodName)) ∈ x_Ts := x_wi 687 (by decide +kernel) rfl
theorem w688 : (Jvm.Cond.methodLink "TradeLink" (178 : Nat) ({ cls := "TradeLink$Order", name := "state", desc := "()I" } : Jvm.MethodName)) ∈ x_Ts := x_wi 688 (by decide +kernel) rfl
theorem w689 : (Jvm.Cond.classLink "TradeLinkLaw" (49 : Nat) "TradeLinkModel") ∈ x_Ts := x_wi 689 (by decide +kernel) rfl
theorem w690 : (Jvm.Cond.instantiable "TradeLinkModel" (39 : Nat)) ∈ x_Ts := x_wi 690 (by decide +kernel) rfl
theorem w691 : (Jvm.Cond.methodLink "TradeLinkLaw" (51 : Nat) ({ cls := "TradeLinkModel", name := "<init>", desc := "()V" } : Jvm.MethodName)) ∈ x_Ts := x_wi 691 (by decide +kernel) rfl
theorem w692 : (Jvm.Cond.instanceMethod ({ cls := "TradeLinkModel", name := "<init>", desc := "()V" } : Jvm.MethodName)) ∈ x_Ts := x_wi 692 (by decide +kernel) rfl
theorem w693 : (Jvm.Cond.code ({ cls := "TradeLinkModel", name := "<init>", desc := "()V" } : Jvm.MethodName) prog_12_method_1_code (1 : Nat) (Option.none : Option Jvm.ClassFile.FieldType)) ∈ x_Ts := x_wi 693 (by decide +kernel) rfl
theorem w694 : (Jvm.Cond.methodLink "TradeLinkModel" (1 : Nat) ({ cls := "java/lang/Object", name := "<init>", desc := "()V" } : Jvm.MethodName)) ∈ x_Ts := x_wi 694 (by decide +kernel) rfl
theorem w695 : (Jvm.Cond.fieldLink "TradeLinkModel" (60 : Nat) "TradeLinkModel" "thrown" "I") ∈ x_Ts := x_wi 695 (by decide +kernel) rfl
theorem w696 : (Jvm.Cond.fieldLink "TradeLinkModel" (146 : Nat) "TradeLinkModel" "given" "Z") ∈ x_Ts := x_wi 696 (by decide +kernel) rfl
theorem w697 : (Jvm.Cond.fieldLink "TradeLinkModel" (67 : Nat) "TradeLinkModel" "size" "I") ∈ x_Ts := x_wi 697 (by decide +kernel) rfl
theorem w698 : (Jvm.Cond.fieldLink "TradeLinkModel" (7 : Nat) "TradeLinkModel" "frame" "[I") ∈ x_Ts := x_wi 698 (by decide +kernel) rfl
theorem w699 : (Jvm.Cond.fieldLink "TradeLinkModel" (149 : Nat) "TradeLinkModel" "fields" "I") ∈ x_Ts := x_wi 699 (by decide +kernel) rfl
theorem w700 : (Jvm.Cond.fieldLink "TradeLinkModel" (13 : Nat) "TradeLinkModel" "tag" "[I") ∈ x_Ts := x_wi 700 (by decide +kernel) rfl
theorem w701 : (Jvm.Cond.fieldLink "TradeLinkModel" (16 : Nat) "TradeLinkModel" "from" "[I") ∈ x_Ts := x_wi 701 (by decide +kernel) rfl
theorem w702 : (Jvm.Cond.fieldLink "TradeLinkModel" (19 : Nat) "TradeLinkModel" "to" "[I") ∈ x_Ts := x_wi 702 (by decide +kernel) rfl
theorem w703 : (Jvm.Cond.fieldLink "TradeLinkModel" (168 : Nat) "TradeLinkModel" "type" "I") ∈ x_Ts := x_wi 703 (by decide +kernel) rfl
theorem w704 : (Jvm.Cond.fieldLink "TradeLinkModel" (171 : Nat) "TradeLinkModel" "number" "I") ∈ x_Ts := x_wi 704 (by decide +kernel) rfl
theorem w705 : (Jvm.Cond.fieldLink "TradeLinkModel" (177 : Nat) "TradeLinkModel" "a" "I") ∈ x_Ts := x_wi 705 (by decide +kernel) rfl
theorem w706 : (Jvm.Cond.fieldLink "TradeLinkModel" (180 : Nat) "TradeLinkModel" "b" "I") ∈ x_Ts := x_wi 706 (by decide +kernel) rfl
theorem w707 : (Jvm.Cond.fieldLink "TradeLinkModel" (183 : Nat) "TradeLinkModel" "c" "I") ∈ x_Ts := x_wi 707 (by decide +kernel) rfl
theorem w708 : (Jvm.Cond.fieldLink "TradeLinkModel" (174 : Nat) "TradeLinkModel" "duplicate" "Z") ∈ x_Ts := x_wi 708 (by decide +kernel) rfl
theorem w709 : (Jvm.Cond.fieldLink "TradeLinkModel" (186 : Nat) "TradeLinkModel" "some" "Z") ∈ x_Ts := x_wi 709 (by decide +kernel) rfl
theorem w710 : (Jvm.Cond.fieldLink "TradeLinkModel" (70 : Nat) "TradeLinkModel" "sent" "I") ∈ x_Ts := x_wi 710 (by decide +kernel) rfl
theorem w711 : (Jvm.Cond.fieldLink "TradeLinkModel" (22 : Nat) "TradeLinkModel" "out" "[I") ∈ x_Ts := x_wi 711 (by decide +kernel) rfl
theorem w712 : (Jvm.Cond.fieldLink "TradeLinkModel" (25 : Nat) "TradeLinkModel" "lengths" "[I") ∈ x_Ts := x_wi 712 (by decide +kernel) rfl
theorem w713 : (Jvm.Cond.fieldLink "TradeLinkModel" (73 : Nat) "TradeLinkModel" "at" "I") ∈ x_Ts := x_wi 713 (by decide +kernel) rfl
theorem w714 : (Jvm.Cond.fieldLink "TradeLinkModel" (118 : Nat) "TradeLinkModel" "in" "Z") ∈ x_Ts := x_wi 714 (by decide +kernel) rfl
theorem w715 : (Jvm.Cond.fieldLink "TradeLinkModel" (28 : Nat) "TradeLinkModel" "awaited" "I") ∈ x_Ts := x_wi 715 (by decide +kernel) rfl
theorem w716 : (Jvm.Cond.fieldLink "TradeLinkModel" (32 : Nat) "TradeLinkModel" "next" "I") ∈ x_Ts := x_wi 716 (by decide +kernel) rfl
theorem w717 : (Jvm.Cond.fieldLink "TradeLinkModel" (112 : Nat) "TradeLinkModel" "time" "I") ∈ x_Ts := x_wi 717 (by decide +kernel) rfl
theorem w718 : (Jvm.Cond.fieldLink "TradeLinkModel" (217 : Nat) "TradeLinkModel" "heard" "I") ∈ x_Ts := x_wi 718 (by decide +kernel) rfl
theorem w719 : (Jvm.Cond.fieldLink "TradeLinkModel" (115 : Nat) "TradeLinkModel" "said" "I") ∈ x_Ts := x_wi 719 (by decide +kernel) rfl
theorem w720 : (Jvm.Cond.fieldLink "TradeLinkModel" (131 : Nat) "TradeLinkModel" "asked" "I") ∈ x_Ts := x_wi 720 (by decide +kernel) rfl
theorem w721 : (Jvm.Cond.fieldLink "TradeLinkModel" (128 : Nat) "TradeLinkModel" "missing" "I") ∈ x_Ts := x_wi 721 (by decide +kernel) rfl
theorem w722 : (Jvm.Cond.fieldLink "TradeLinkModel" (35 : Nat) "TradeLinkModel" "report" "[Z") ∈ x_Ts := x_wi 722 (by decide +kernel) rfl
theorem w723 : (Jvm.Cond.fieldLink "TradeLinkModel" (39 : Nat) "TradeLinkModel" "says" "[I") ∈ x_Ts := x_wi 723 (by decide +kernel) rfl
theorem w724 : (Jvm.Cond.fieldLink "TradeLinkModel" (192 : Nat) "TradeLinkModel" "orders" "I") ∈ x_Ts := x_wi 724 (by decide +kernel) rfl
theorem w725 : (Jvm.Cond.fieldLink "TradeLinkModel" (42 : Nat) "TradeLinkModel" "id" "[I") ∈ x_Ts := x_wi 725 (by decide +kernel) rfl
theorem w726 : (Jvm.Cond.fieldLink "TradeLinkModel" (45 : Nat) "TradeLinkModel" "side" "[I") ∈ x_Ts := x_wi 726 (by decide +kernel) rfl
theorem w727 : (Jvm.Cond.fieldLink "TradeLinkModel" (48 : Nat) "TradeLinkModel" "quantity" "[I") ∈ x_Ts := x_wi 727 (by decide +kernel) rfl
theorem w728 : (Jvm.Cond.fieldLink "TradeLinkModel" (51 : Nat) "TradeLinkModel" "filled" "[I") ∈ x_Ts := x_wi 728 (by decide +kernel) rfl
theorem w729 : (Jvm.Cond.fieldLink "TradeLinkModel" (54 : Nat) "TradeLinkModel" "cancelled" "[Z") ∈ x_Ts := x_wi 729 (by decide +kernel) rfl
theorem w730 : (Jvm.Cond.fieldLink "TradeLinkModel" (189 : Nat) "TradeLinkModel" "done" "I") ∈ x_Ts := x_wi 730 (by decide +kernel) rfl
theorem w731 : (Jvm.Cond.fieldLink "TradeLinkModel" (204 : Nat) "TradeLinkModel" "messages" "I") ∈ x_Ts := x_wi 731 (by decide +kernel) rfl
theorem w732 : (Jvm.Cond.fieldLink "TradeLinkModel" (57 : Nat) "TradeLinkModel" "used" "[I") ∈ x_Ts := x_wi 732 (by decide +kernel) rfl
theorem w733 : (Jvm.Cond.fieldLink "TradeLinkModel" (63 : Nat) "TradeLinkModel" "forPeer" "Z") ∈ x_Ts := x_wi 733 (by decide +kernel) rfl
theorem w813 : (Jvm.Cond.arrayClass Jvm.ClassFile.FieldType.boolean) ∈ x_Ts := x_wi 813 (by decide +kernel) rfl
theorem w814 : (Jvm.Cond.methodLink "TradeLinkLaw" (58 : Nat) ({ cls := "TradeLinkModel", name := "thrown", desc := "()I" } : Jvm.MethodName)) ∈ x_Ts := x_wi 814 (by decide +kernel) rfl
theorem w815 : (Jvm.Cond.instanceMethod ({ cls := "TradeLinkModel", name := "thrown", desc := "()I" } : Jvm.MethodName)) ∈ x_Ts := x_wi 815 (by decide +kernel) rfl
theorem w816 : (Jvm.Cond.selects "TradeLinkModel" ({ cls := "TradeLinkModel", name := "thrown", desc := "()I" } : Jvm.MethodName) ({ cls := "TradeLinkModel", name := "thrown", desc := "()I" } : Jvm.MethodName)) ∈ x_Ts := x_wi 816 (by decide +kernel) rfl
theorem w817 : (Jvm.Cond.code ({ cls := "TradeLinkModel", name := "thrown", desc := "()I" } : Jvm.MethodName) prog_12_method_2_code (1 : Nat) (Option.some Jvm.ClassFile.FieldType.int)) ∈ x_Ts := x_wi 817 (by decide +kernel) rfl
theorem w818 : (Jvm.Cond.methodLink "TradeLinkLaw" (57 : Nat) ({ cls := "TradeLinkModel", name := "give", desc := "(IIZIII)I" } : Jvm.MethodName)) ∈ x_Ts := x_wi 818 (by decide +kernel) rfl
theorem w819 : (Jvm.Cond.instanceMethod ({ cls := "TradeLinkModel", name := "give", desc := "(IIZIII)I" } : Jvm.MethodName)) ∈ x_Ts := x_wi 819 (by decide +kernel) rfl
theorem w820 : (Jvm.Cond.selects "TradeLinkModel" ({ cls := "TradeLinkModel", name := "give", desc := "(IIZIII)I" } : Jvm.MethodName) ({ cls := "TradeLinkModel", name := "give", desc := "(IIZIII)I" } : Jvm.MethodName)) ∈ x_Ts := x_wi 820 (by decide +kernel) rfl
theorem w821 : (Jvm.Cond.code ({ cls := "TradeLinkModel", name := "give", desc := "(IIZIII)I" } : Jvm.MethodName) prog_12_method_21_code (7 : Nat) (Option.some Jvm.ClassFile.FieldType.int)) ∈ x_Ts := x_wi 821 (by decide +kernel) rfl
theorem w822 : (Jvm.Cond.methodLink "TradeLinkModel" (134 : Nat) ({ cls := "TradeLinkModel", name := "isType", desc := "(I)Z" } : Jvm.MethodName)) ∈ x_Ts := x_wi 822 (by decide +kernel) rfl
theorem w823 : (Jvm.Cond.static ({ cls := "TradeLinkModel", name := "isType", desc := "(I)Z" } : Jvm.MethodName)) ∈ x_Ts := x_wi 823 (by decide +kernel) rfl
theorem w824 : (Jvm.Cond.code ({ cls := "TradeLinkModel", name := "isType", desc := "(I)Z" } : Jvm.MethodName) prog_12_method_20_code (1 : Nat) (Option.some Jvm.ClassFile.FieldType.boolean)) ∈ x_Ts := x_wi 824 (by decide +kernel) rfl
theorem w825 : (Jvm.Cond.constant "TradeLinkModel" (138 : Nat) (999999 : Int32)) ∈ x_Ts := x_wi 825 (by decide +kernel) rfl
theorem w826 : (Jvm.Cond.methodLink "TradeLinkModel" (139 : Nat) ({ cls := "TradeLinkModel", name := "within", desc := "(III)Z" } : Jvm.MethodName)) ∈ x_Ts := x_wi 826 (by decide +kernel) rfl
theorem w827 : (Jvm.Cond.static ({ cls := "TradeLinkModel", name := "within", desc := "(III)Z" } : Jvm.MethodName)) ∈ x_Ts := x_wi 827 (by decide +kernel) rfl
theorem w828 : (Jvm.Cond.code ({ cls := "TradeLinkModel", name := "within", desc := "(III)Z" } : Jvm.MethodName) prog_12_method_4_code (3 : Nat) (Option.some Jvm.ClassFile.FieldType.boolean)) ∈ x_Ts := x_wi 828 (by decide +kernel) rfl
theorem w829 : (Jvm.Cond.methodLink "TradeLinkModel" (143 : Nat) ({ cls := "TradeLinkModel", name := "fail", desc := "(I)I" } : Jvm.MethodName)) ∈ x_Ts := x_wi 829 (by decide +kernel) rfl
theorem w831 : (Jvm.Cond.instanceMethod ({ cls := "TradeLinkModel", name := "fail", desc := "(I)I" } : Jvm.MethodName)) ∈ x_Ts := x_wi 831 (by decide +kernel) rfl
theorem w832 : (Jvm.Cond.code ({ cls := "TradeLinkModel", name := "fail", desc := "(I)I" } : Jvm.MethodName) prog_12_method_3_code (2 : Nat) (Option.some Jvm.ClassFile.FieldType.int)) ∈ x_Ts := x_wi 832 (by decide +kernel) rfl
theorem w833 : (Jvm.Cond.methodLink "TradeLinkModel" (108 : Nat) ({ cls := "TradeLinkModel", name := "make", desc := "(IIZIIII)V" } : Jvm.MethodName)) ∈ x_Ts := x_wi 833 (by decide +kernel) rfl
theorem w835 : (Jvm.Cond.instanceMethod ({ cls := "TradeLinkModel", name := "make", desc := "(IIZIIII)V" } : Jvm.MethodName)) ∈ x_Ts := x_wi 835 (by decide +kernel) rfl
theorem w836 : (Jvm.Cond.code ({ cls := "TradeLinkModel", name := "make", desc := "(IIZIIII)V" } : Jvm.MethodName) prog_12_method_14_code (11 : Nat) (Option.none : Option Jvm.ClassFile.FieldType)) ∈ x_Ts := x_wi 836 (by decide +kernel) rfl
theorem w837 : (Jvm.Cond.methodLink "TradeLinkModel" (94 : Nat) ({ cls := "TradeLinkModel", name := "letter", desc := "(II)V" } : Jvm.MethodName)) ∈ x_Ts := x_wi 837 (by decide +kernel) rfl
theorem w839 : (Jvm.Cond.instanceMethod ({ cls := "TradeLinkModel", name := "letter", desc := "(II)V" } : Jvm.MethodName)) ∈ x_Ts := x_wi 839 (by decide +kernel) rfl
theorem w840 : (Jvm.Cond.code ({ cls := "TradeLinkModel", name := "letter", desc := "(II)V" } : Jvm.MethodName) prog_12_method_8_code (3 : Nat) (Option.none : Option Jvm.ClassFile.FieldType)) ∈ x_Ts := x_wi 840 (by decide +kernel) rfl
theorem w841 : (Jvm.Cond.methodLink "TradeLinkModel" (80 : Nat) ({ cls := "TradeLinkModel", name := "digits", desc := "(I)V" } : Jvm.MethodName)) ∈ x_Ts := x_wi 841 (by decide +kernel) rfl
theorem w843 : (Jvm.Cond.instanceMethod ({ cls := "TradeLinkModel", name := "digits", desc := "(I)V" } : Jvm.MethodName)) ∈ x_Ts := x_wi 843 (by decide +kernel) rfl
theorem w844 : (Jvm.Cond.code ({ cls := "TradeLinkModel", name := "digits", desc := "(I)V" } : Jvm.MethodName) prog_12_method_6_code (4 : Nat) (Option.none : Option Jvm.ClassFile.FieldType)) ∈ x_Ts := x_wi 844 (by decide +kernel) rfl
theorem w845 : (Jvm.Cond.methodLink "TradeLinkModel" (76 : Nat) ({ cls := "TradeLinkModel", name := "put", desc := "(I)V" } : Jvm.MethodName)) ∈ x_Ts := x_wi 845 (by decide +kernel) rfl
theorem w847 : (Jvm.Cond.instanceMethod ({ cls := "TradeLinkModel", name := "put", desc := "(I)V" } : Jvm.MethodName)) ∈ x_Ts := x_wi 847 (by decide +kernel) rfl
theorem w848 : (Jvm.Cond.code ({ cls := "TradeLinkModel", name := "put", desc := "(I)V" } : Jvm.MethodName) prog_12_method_5_code (2 : Nat) (Option.none : Option Jvm.ClassFile.FieldType)) ∈ x_Ts := x_wi 848 (by decide +kernel) rfl
theorem w849 : (Jvm.Cond.methodLink "TradeLinkModel" (91 : Nat) ({ cls := "TradeLinkModel", name := "room", desc := "(II)I" } : Jvm.MethodName)) ∈ x_Ts := x_wi 849 (by decide +kernel) rfl
theorem w850 : (Jvm.Cond.static ({ cls := "TradeLinkModel", name := "room", desc := "(II)I" } : Jvm.MethodName)) ∈ x_Ts := x_wi 850 (by decide +kernel) rfl
theorem w851 : (Jvm.Cond.code ({ cls := "TradeLinkModel", name := "room", desc := "(II)I" } : Jvm.MethodName) prog_12_method_11_code (2 : Nat) (Option.some Jvm.ClassFile.FieldType.int)) ∈ x_Ts := x_wi 851 (by decide +kernel) rfl
theorem w852 : (Jvm.Cond.methodLink "TradeLinkModel" (83 : Nat) ({ cls := "TradeLinkModel", name := "places", desc := "(I)I" } : Jvm.MethodName)) ∈ x_Ts := x_wi 852 (by decide +kernel) rfl
theorem w853 : (Jvm.Cond.static ({ cls := "TradeLinkModel", name := "places", desc := "(I)I" } : Jvm.MethodName)) ∈ x_Ts := x_wi 853 (by decide +kernel) rfl
theorem w854 : (Jvm.Cond.code ({ cls := "TradeLinkModel", name := "places", desc := "(I)I" } : Jvm.MethodName) prog_12_method_9_code (3 : Nat) (Option.some Jvm.ClassFile.FieldType.int)) ∈ x_Ts := x_wi 854 (by decide +kernel) rfl
theorem w855 : (Jvm.Cond.methodLink "TradeLinkModel" (101 : Nat) ({ cls := "TradeLinkModel", name := "body", desc := "(IIIIIZ)I" } : Jvm.MethodName)) ∈ x_Ts := x_wi 855 (by decide +kernel) rfl
theorem w857 : (Jvm.Cond.instanceMethod ({ cls := "TradeLinkModel", name := "body", desc := "(IIIIIZ)I" } : Jvm.MethodName)) ∈ x_Ts := x_wi 857 (by decide +kernel) rfl
theorem w858 : (Jvm.Cond.code ({ cls := "TradeLinkModel", name := "body", desc := "(IIIIIZ)I" } : Jvm.MethodName) prog_12_method_12_code (12 : Nat) (Option.some Jvm.ClassFile.FieldType.int)) ∈ x_Ts := x_wi 858 (by decide +kernel) rfl
theorem w859 : (Jvm.Cond.methodLink "TradeLinkModel" (87 : Nat) ({ cls := "TradeLinkModel", name := "name", desc := "(II)I" } : Jvm.MethodName)) ∈ x_Ts := x_wi 859 (by decide +kernel) rfl
theorem w860 : (Jvm.Cond.static ({ cls := "TradeLinkModel", name := "name", desc := "(II)I" } : Jvm.MethodName)) ∈ x_Ts := x_wi 860 (by decide +kernel) rfl
theorem w861 : (Jvm.Cond.code ({ cls := "TradeLinkModel", name := "name", desc := "(II)I" } : Jvm.MethodName) prog_12_method_13_code (2 : Nat) (Option.some Jvm.ClassFile.FieldType.int)) ∈ x_Ts := x_wi 861 (by decide +kernel) rfl
theorem w862 : (Jvm.Cond.methodLink "TradeLinkModel" (98 : Nat) ({ cls := "TradeLinkModel", name := "field", desc := "(II)V" } : Jvm.MethodName)) ∈ x_Ts := x_wi 862 (by decide +kernel) rfl
theorem w864 : (Jvm.Cond.instanceMethod ({ cls := "TradeLinkModel", name := "field", desc := "(II)V" } : Jvm.MethodName)) ∈ x_Ts := x_wi 864 (by decide +kernel) rfl
theorem w865 : (Jvm.Cond.code ({ cls := "TradeLinkModel", name := "field", desc := "(II)V" } : Jvm.MethodName) prog_12_method_7_code (3 : Nat) (Option.none : Option Jvm.ClassFile.FieldType)) ∈ x_Ts := x_wi 865 (by decide +kernel) rfl
theorem w866 : (Jvm.Cond.methodLink "TradeLinkModel" (105 : Nat) ({ cls := "TradeLinkModel", name := "byteAt", desc := "(I)I" } : Jvm.MethodName)) ∈ x_Ts := x_wi 866 (by decide +kernel) rfl
theorem w868 : (Jvm.Cond.instanceMethod ({ cls := "TradeLinkModel", name := "byteAt", desc := "(I)I" } : Jvm.MethodName)) ∈ x_Ts := x_wi 868 (by decide +kernel) rfl
theorem w869 : (Jvm.Cond.code ({ cls := "TradeLinkModel", name := "byteAt", desc := "(I)I" } : Jvm.MethodName) prog_12_method_10_code (2 : Nat) (Option.some Jvm.ClassFile.FieldType.int)) ∈ x_Ts := x_wi 869 (by decide +kernel) rfl
theorem w870 : (Jvm.Cond.methodLink "TradeLinkLaw" (64 : Nat) ({ cls := "TradeLinkModel", name := "spoil", desc := "(II)I" } : Jvm.MethodName)) ∈ x_Ts := x_wi 870 (by decide +kernel) rfl
theorem w871 : (Jvm.Cond.instanceMethod ({ cls := "TradeLinkModel", name := "spoil", desc := "(II)I" } : Jvm.MethodName)) ∈ x_Ts := x_wi 871 (by decide +kernel) rfl
theorem w872 : (Jvm.Cond.selects "TradeLinkModel" ({ cls := "TradeLinkModel", name := "spoil", desc := "(II)I" } : Jvm.MethodName) ({ cls := "TradeLinkModel", name := "spoil", desc := "(II)I" } : Jvm.MethodName)) ∈ x_Ts := x_wi 872 (by decide +kernel) rfl
theorem w873 : (Jvm.Cond.code ({ cls := "TradeLinkModel", name := "spoil", desc := "(II)I" } : Jvm.MethodName) prog_12_method_22_code (3 : Nat) (Option.some Jvm.ClassFile.FieldType.int)) ∈ x_Ts := x_wi 873 (by decide +kernel) rfl
theorem w874 : (Jvm.Cond.methodLink "TradeLinkLaw" (68 : Nat) ({ cls := "TradeLinkModel", name := "add", desc := "(I)I" } : Jvm.MethodName)) ∈ x_Ts := x_wi 874 (by decide +kernel) rfl
theorem w875 : (Jvm.Cond.instanceMethod ({ cls := "TradeLinkModel", name := "add", desc := "(I)I" } : Jvm.MethodName)) ∈ x_Ts := x_wi 875 (by decide +kernel) rfl
theorem w876 : (Jvm.Cond.selects "TradeLinkModel" ({ cls := "TradeLinkModel", name := "add", desc := "(I)I" } : Jvm.MethodName) ({ cls := "TradeLinkModel", name := "add", desc := "(I)I" } : Jvm.MethodName)) ∈ x_Ts := x_wi 876 (by decide +kernel) rfl
theorem w877 : (Jvm.Cond.code ({ cls := "TradeLinkModel", name := "add", desc := "(I)I" } : Jvm.MethodName) prog_12_method_23_code (3 : Nat) (Option.some Jvm.ClassFile.FieldType.int)) ∈ x_Ts := x_wi 877 (by decide +kernel) rfl
theorem w878 : (Jvm.Cond.methodLink "TradeLinkLaw" (72 : Nat) ({ cls := "TradeLinkModel", name := "take", desc := "()I" } : Jvm.MethodName)) ∈ x_Ts := x_wi 878 (by decide +kernel) rfl
theorem w879 : (Jvm.Cond.instanceMethod ({ cls := "TradeLinkModel", name := "take", desc := "()I" } : Jvm.MethodName)) ∈ x_Ts := x_wi 879 (by decide +kernel) rfl
theorem w880 : (Jvm.Cond.selects "TradeLinkModel" ({ cls := "TradeLinkModel", name := "take", desc := "()I" } : Jvm.MethodName) ({ cls := "TradeLinkModel", name := "take", desc := "()I" } : Jvm.MethodName)) ∈ x_Ts := x_wi 880 (by decide +kernel) rfl
theorem w881 : (Jvm.Cond.code ({ cls := "TradeLinkModel", name := "take", desc := "()I" } : Jvm.MethodName) prog_12_method_38_code (2 : Nat) (Option.some Jvm.ClassFile.FieldType.int)) ∈ x_Ts := x_wi 881 (by decide +kernel) rfl
theorem w882 : (Jvm.Cond.methodLink "TradeLinkModel" (232 : Nat) ({ cls := "TradeLinkModel", name := "taken", desc := "()I" } : Jvm.MethodName)) ∈ x_Ts := x_wi 882 (by decide +kernel) rfl
theorem w884 : (Jvm.Cond.instanceMethod ({ cls := "TradeLinkModel", name := "taken", desc := "()I" } : Jvm.MethodName)) ∈ x_Ts := x_wi 884 (by decide +kernel) rfl
theorem w885 : (Jvm.Cond.code ({ cls := "TradeLinkModel", name := "taken", desc := "()I" } : Jvm.MethodName) prog_12_method_37_code (1 : Nat) (Option.some Jvm.ClassFile.FieldType.int)) ∈ x_Ts := x_wi 885 (by decide +kernel) rfl
theorem w886 : (Jvm.Cond.methodLink "TradeLinkModel" (214 : Nat) ({ cls := "TradeLinkModel", name := "good", desc := "()Z" } : Jvm.MethodName)) ∈ x_Ts := x_wi 886 (by decide +kernel) rfl
theorem w888 : (Jvm.Cond.instanceMethod ({ cls := "TradeLinkModel", name := "good", desc := "()Z" } : Jvm.MethodName)) ∈ x_Ts := x_wi 888 (by decide +kernel) rfl
theorem w889 : (Jvm.Cond.code ({ cls := "TradeLinkModel", name := "good", desc := "()Z" } : Jvm.MethodName) prog_12_method_29_code (6 : Nat) (Option.some Jvm.ClassFile.FieldType.boolean)) ∈ x_Ts := x_wi 889 (by decide +kernel) rfl
theorem w890 : (Jvm.Cond.methodLink "TradeLinkModel" (158 : Nat) ({ cls := "TradeLinkModel", name := "cut", desc := "()Z" } : Jvm.MethodName)) ∈ x_Ts := x_wi 890 (by decide +kernel) rfl
theorem w892 : (Jvm.Cond.instanceMethod ({ cls := "TradeLinkModel", name := "cut", desc := "()Z" } : Jvm.MethodName)) ∈ x_Ts := x_wi 892 (by decide +kernel) rfl
theorem w893 : (Jvm.Cond.code ({ cls := "TradeLinkModel", name := "cut", desc := "()Z" } : Jvm.MethodName) prog_12_method_25_code (5 : Nat) (Option.some Jvm.ClassFile.FieldType.boolean)) ∈ x_Ts := x_wi 893 (by decide +kernel) rfl
theorem w894 : (Jvm.Cond.methodLink "TradeLinkModel" (152 : Nat) ({ cls := "TradeLinkModel", name := "digit", desc := "(I)Z" } : Jvm.MethodName)) ∈ x_Ts := x_wi 894 (by decide +kernel) rfl
theorem w895 : (Jvm.Cond.static ({ cls := "TradeLinkModel", name := "digit", desc := "(I)Z" } : Jvm.MethodName)) ∈ x_Ts := x_wi 895 (by decide +kernel) rfl
theorem w896 : (Jvm.Cond.code ({ cls := "TradeLinkModel", name := "digit", desc := "(I)Z" } : Jvm.MethodName) prog_12_method_24_code (1 : Nat) (Option.some Jvm.ClassFile.FieldType.boolean)) ∈ x_Ts := x_wi 896 (by decide +kernel) rfl
theorem w897 : (Jvm.Cond.methodLink "TradeLinkModel" (162 : Nat) ({ cls := "TradeLinkModel", name := "closed", desc := "()Z" } : Jvm.MethodName)) ∈ x_Ts := x_wi 897 (by decide +kernel) rfl
theorem w899 : (Jvm.Cond.instanceMethod ({ cls := "TradeLinkModel", name := "closed", desc := "()Z" } : Jvm.MethodName)) ∈ x_Ts := x_wi 899 (by decide +kernel) rfl
theorem w900 : (Jvm.Cond.code ({ cls := "TradeLinkModel", name := "closed", desc := "()Z" } : Jvm.MethodName) prog_12_method_28_code (5 : Nat) (Option.some Jvm.ClassFile.FieldType.boolean)) ∈ x_Ts := x_wi 900 (by decide +kernel) rfl
theorem w901 : (Jvm.Cond.methodLink "TradeLinkModel" (155 : Nat) ({ cls := "TradeLinkModel", name := "numberAt", desc := "(II)I" } : Jvm.MethodName)) ∈ x_Ts := x_wi 901 (by decide +kernel) rfl
theorem w903 : (Jvm.Cond.instanceMethod ({ cls := "TradeLinkModel", name := "numberAt", desc := "(II)I" } : Jvm.MethodName)) ∈ x_Ts := x_wi 903 (by decide +kernel) rfl
theorem w904 : (Jvm.Cond.code ({ cls := "TradeLinkModel", name := "numberAt", desc := "(II)I" } : Jvm.MethodName) prog_12_method_26_code (5 : Nat) (Option.some Jvm.ClassFile.FieldType.int)) ∈ x_Ts := x_wi 904 (by decide +kernel) rfl
theorem w905 : (Jvm.Cond.methodLink "TradeLinkModel" (165 : Nat) ({ cls := "TradeLinkModel", name := "letterAt", desc := "(II)I" } : Jvm.MethodName)) ∈ x_Ts := x_wi 905 (by decide +kernel) rfl
theorem w907 : (Jvm.Cond.instanceMethod ({ cls := "TradeLinkModel", name := "letterAt", desc := "(II)I" } : Jvm.MethodName)) ∈ x_Ts := x_wi 907 (by decide +kernel) rfl
theorem w908 : (Jvm.Cond.code ({ cls := "TradeLinkModel", name := "letterAt", desc := "(II)I" } : Jvm.MethodName) prog_12_method_27_code (3 : Nat) (Option.some Jvm.ClassFile.FieldType.int)) ∈ x_Ts := x_wi 908 (by decide +kernel) rfl
theorem w909 : (Jvm.Cond.methodLink "TradeLinkModel" (220 : Nat) ({ cls := "TradeLinkModel", name := "leave", desc := "()V" } : Jvm.MethodName)) ∈ x_Ts := x_wi 909 (by decide +kernel) rfl
theorem w911 : (Jvm.Cond.instanceMethod ({ cls := "TradeLinkModel", name := "leave", desc := "()V" } : Jvm.MethodName)) ∈ x_Ts := x_wi 911 (by decide +kernel) rfl
theorem w912 : (Jvm.Cond.code ({ cls := "TradeLinkModel", name := "leave", desc := "()V" } : Jvm.MethodName) prog_12_method_17_code (1 : Nat) (Option.none : Option Jvm.ClassFile.FieldType)) ∈ x_Ts := x_wi 912 (by decide +kernel) rfl
theorem w913 : (Jvm.Cond.methodLink "TradeLinkModel" (124 : Nat) ({ cls := "TradeLinkModel", name := "send", desc := "(IIIII)V" } : Jvm.MethodName)) ∈ x_Ts := x_wi 913 (by decide +kernel) rfl
theorem w915 : (Jvm.Cond.instanceMethod ({ cls := "TradeLinkModel", name := "send", desc := "(IIIII)V" } : Jvm.MethodName)) ∈ x_Ts := x_wi 915 (by decide +kernel) rfl
theorem w916 : (Jvm.Cond.code ({ cls := "TradeLinkModel", name := "send", desc := "(IIIII)V" } : Jvm.MethodName) prog_12_method_16_code (6 : Nat) (Option.none : Option Jvm.ClassFile.FieldType)) ∈ x_Ts := x_wi 916 (by decide +kernel) rfl
theorem w917 : (Jvm.Cond.methodLink "TradeLinkModel" (121 : Nat) ({ cls := "TradeLinkModel", name := "goes", desc := "(IIZIIII)V" } : Jvm.MethodName)) ∈ x_Ts := x_wi 917 (by decide +kernel) rfl
theorem w919 : (Jvm.Cond.instanceMethod ({ cls := "TradeLinkModel", name := "goes", desc := "(IIZIIII)V" } : Jvm.MethodName)) ∈ x_Ts := x_wi 919 (by decide +kernel) rfl
theorem w920 : (Jvm.Cond.code ({ cls := "TradeLinkModel", name := "goes", desc := "(IIZIIII)V" } : Jvm.MethodName) prog_12_method_15_code (8 : Nat) (Option.none : Option Jvm.ClassFile.FieldType)) ∈ x_Ts := x_wi 920 (by decide +kernel) rfl
theorem w921 : (Jvm.Cond.methodLink "TradeLinkModel" (223 : Nat) ({ cls := "TradeLinkModel", name := "answer", desc := "(II)V" } : Jvm.MethodName)) ∈ x_Ts := x_wi 921 (by decide +kernel) rfl
theorem w923 : (Jvm.Cond.instanceMethod ({ cls := "TradeLinkModel", name := "answer", desc := "(II)V" } : Jvm.MethodName)) ∈ x_Ts := x_wi 923 (by decide +kernel) rfl
theorem w924 : (Jvm.Cond.code ({ cls := "TradeLinkModel", name := "answer", desc := "(II)V" } : Jvm.MethodName) prog_12_method_19_code (6 : Nat) (Option.none : Option Jvm.ClassFile.FieldType)) ∈ x_Ts := x_wi 924 (by decide +kernel) rfl
theorem w925 : (Jvm.Cond.methodLink "TradeLinkModel" (226 : Nat) ({ cls := "TradeLinkModel", name := "ask", desc := "()V" } : Jvm.MethodName)) ∈ x_Ts := x_wi 925 (by decide +kernel) rfl
theorem w927 : (Jvm.Cond.instanceMethod ({ cls := "TradeLinkModel", name := "ask", desc := "()V" } : Jvm.MethodName)) ∈ x_Ts := x_wi 927 (by decide +kernel) rfl
theorem w928 : (Jvm.Cond.code ({ cls := "TradeLinkModel", name := "ask", desc := "()V" } : Jvm.MethodName) prog_12_method_18_code (1 : Nat) (Option.none : Option Jvm.ClassFile.FieldType)) ∈ x_Ts := x_wi 928 (by decide +kernel) rfl
theorem w929 : (Jvm.Cond.methodLink "TradeLinkModel" (229 : Nat) ({ cls := "TradeLinkModel", name := "orderMessage", desc := "()V" } : Jvm.MethodName)) ∈ x_Ts := x_wi 929 (by decide +kernel) rfl
theorem w931 : (Jvm.Cond.instanceMethod ({ cls := "TradeLinkModel", name := "orderMessage", desc := "()V" } : Jvm.MethodName)) ∈ x_Ts := x_wi 931 (by decide +kernel) rfl
theorem w932 : (Jvm.Cond.code ({ cls := "TradeLinkModel", name := "orderMessage", desc := "()V" } : Jvm.MethodName) prog_12_method_35_code (2 : Nat) (Option.none : Option Jvm.ClassFile.FieldType)) ∈ x_Ts := x_wi 932 (by decide +kernel) rfl
theorem w933 : (Jvm.Cond.methodLink "TradeLinkModel" (207 : Nat) ({ cls := "TradeLinkModel", name := "ordered", desc := "()I" } : Jvm.MethodName)) ∈ x_Ts := x_wi 933 (by decide +kernel) rfl
theorem w935 : (Jvm.Cond.instanceMethod ({ cls := "TradeLinkModel", name := "ordered", desc := "()I" } : Jvm.MethodName)) ∈ x_Ts := x_wi 935 (by decide +kernel) rfl
theorem w936 : (Jvm.Cond.code ({ cls := "TradeLinkModel", name := "ordered", desc := "()I" } : Jvm.MethodName) prog_12_method_34_code (2 : Nat) (Option.some Jvm.ClassFile.FieldType.int)) ∈ x_Ts := x_wi 936 (by decide +kernel) rfl
theorem w937 : (Jvm.Cond.methodLink "TradeLinkModel" (198 : Nat) ({ cls := "TradeLinkModel", name := "isUsed", desc := "(I)Z" } : Jvm.MethodName)) ∈ x_Ts := x_wi 937 (by decide +kernel) rfl
theorem w939 : (Jvm.Cond.instanceMethod ({ cls := "TradeLinkModel", name := "isUsed", desc := "(I)Z" } : Jvm.MethodName)) ∈ x_Ts := x_wi 939 (by decide +kernel) rfl
theorem w940 : (Jvm.Cond.code ({ cls := "TradeLinkModel", name := "isUsed", desc := "(I)Z" } : Jvm.MethodName) prog_12_method_30_code (4 : Nat) (Option.some Jvm.ClassFile.FieldType.boolean)) ∈ x_Ts := x_wi 940 (by decide +kernel) rfl
theorem w941 : (Jvm.Cond.methodLink "TradeLinkModel" (201 : Nat) ({ cls := "TradeLinkModel", name := "openOrder", desc := "(I)I" } : Jvm.MethodName)) ∈ x_Ts := x_wi 941 (by decide +kernel) rfl
theorem w943 : (Jvm.Cond.instanceMethod ({ cls := "TradeLinkModel", name := "openOrder", desc := "(I)I" } : Jvm.MethodName)) ∈ x_Ts := x_wi 943 (by decide +kernel) rfl
theorem w944 : (Jvm.Cond.code ({ cls := "TradeLinkModel", name := "openOrder", desc := "(I)I" } : Jvm.MethodName) prog_12_method_32_code (4 : Nat) (Option.some Jvm.ClassFile.FieldType.int)) ∈ x_Ts := x_wi 944 (by decide +kernel) rfl
theorem w945 : (Jvm.Cond.methodLink "TradeLinkModel" (195 : Nat) ({ cls := "TradeLinkModel", name := "state", desc := "(I)I" } : Jvm.MethodName)) ∈ x_Ts := x_wi 945 (by decide +kernel) rfl
theorem w947 : (Jvm.Cond.instanceMethod ({ cls := "TradeLinkModel", name := "state", desc := "(I)I" } : Jvm.MethodName)) ∈ x_Ts := x_wi 947 (by decide +kernel) rfl
theorem w948 : (Jvm.Cond.code ({ cls := "TradeLinkModel", name := "state", desc := "(I)I" } : Jvm.MethodName) prog_12_method_31_code (2 : Nat) (Option.some Jvm.ClassFile.FieldType.int)) ∈ x_Ts := x_wi 948 (by decide +kernel) rfl
theorem w949 : (Jvm.Cond.methodLink "TradeLinkModel" (211 : Nat) ({ cls := "TradeLinkModel", name := "tell", desc := "(I)V" } : Jvm.MethodName)) ∈ x_Ts := x_wi 949 (by decide +kernel) rfl
theorem w951 : (Jvm.Cond.instanceMethod ({ cls := "TradeLinkModel", name := "tell", desc := "(I)V" } : Jvm.MethodName)) ∈ x_Ts := x_wi 951 (by decide +kernel) rfl
theorem w952 : (Jvm.Cond.code ({ cls := "TradeLinkModel", name := "tell", desc := "(I)V" } : Jvm.MethodName) prog_12_method_33_code (2 : Nat) (Option.none : Option Jvm.ClassFile.FieldType)) ∈ x_Ts := x_wi 952 (by decide +kernel) rfl
theorem w953 : (Jvm.Cond.methodLink "TradeLinkModel" (235 : Nat) ({ cls := "TradeLinkModel", name := "settle", desc := "()V" } : Jvm.MethodName)) ∈ x_Ts := x_wi 953 (by decide +kernel) rfl
theorem w955 : (Jvm.Cond.instanceMethod ({ cls := "TradeLinkModel", name := "settle", desc := "()V" } : Jvm.MethodName)) ∈ x_Ts := x_wi 955 (by decide +kernel) rfl
theorem w956 : (Jvm.Cond.code ({ cls := "TradeLinkModel", name := "settle", desc := "()V" } : Jvm.MethodName) prog_12_method_36_code (1 : Nat) (Option.none : Option Jvm.ClassFile.FieldType)) ∈ x_Ts := x_wi 956 (by decide +kernel) rfl
theorem w957 : (Jvm.Cond.methodLink "TradeLinkLaw" (76 : Nat) ({ cls := "TradeLinkModel", name := "tick", desc := "()I" } : Jvm.MethodName)) ∈ x_Ts := x_wi 957 (by decide +kernel) rfl
theorem w958 : (Jvm.Cond.instanceMethod ({ cls := "TradeLinkModel", name := "tick", desc := "()I" } : Jvm.MethodName)) ∈ x_Ts := x_wi 958 (by decide +kernel) rfl
theorem w959 : (Jvm.Cond.selects "TradeLinkModel" ({ cls := "TradeLinkModel", name := "tick", desc := "()I" } : Jvm.MethodName) ({ cls := "TradeLinkModel", name := "tick", desc := "()I" } : Jvm.MethodName)) ∈ x_Ts := x_wi 959 (by decide +kernel) rfl
theorem w960 : (Jvm.Cond.code ({ cls := "TradeLinkModel", name := "tick", desc := "()I" } : Jvm.MethodName) prog_12_method_39_code (1 : Nat) (Option.some Jvm.ClassFile.FieldType.int)) ∈ x_Ts := x_wi 960 (by decide +kernel) rfl
theorem w961 : (Jvm.Cond.methodLink "TradeLinkLaw" (81 : Nat) ({ cls := "TradeLinkModel", name := "restart", desc := "()Z" } : Jvm.MethodName)) ∈ x_Ts := x_wi 961 (by decide +kernel) rfl
theorem w962 : (Jvm.Cond.instanceMethod ({ cls := "TradeLinkModel", name := "restart", desc := "()Z" } : Jvm.MethodName)) ∈ x_Ts := x_wi 962 (by decide +kernel) rfl
theorem w963 : (Jvm.Cond.selects "TradeLinkModel" ({ cls := "TradeLinkModel", name := "restart", desc := "()Z" } : Jvm.MethodName) ({ cls := "TradeLinkModel", name := "restart", desc := "()Z" } : Jvm.MethodName)) ∈ x_Ts := x_wi 963 (by decide +kernel) rfl
theorem w964 : (Jvm.Cond.code ({ cls := "TradeLinkModel", name := "restart", desc := "()Z" } : Jvm.MethodName) prog_12_method_40_code (2 : Nat) (Option.some Jvm.ClassFile.FieldType.boolean)) ∈ x_Ts := x_wi 964 (by decide +kernel) rfl
theorem w965 : (Jvm.Cond.methodLink "TradeLinkLaw" (84 : Nat) ({ cls := "TradeLinkModel", name := "fill", desc := "(II)I" } : Jvm.MethodName)) ∈ x_Ts := x_wi 965 (by decide +kernel) rfl
theorem w966 : (Jvm.Cond.instanceMethod ({ cls := "TradeLinkModel", name := "fill", desc := "(II)I" } : Jvm.MethodName)) ∈ x_Ts := x_wi 966 (by decide +kernel) rfl
theorem w967 : (Jvm.Cond.selects "TradeLinkModel" ({ cls := "TradeLinkModel", name := "fill", desc := "(II)I" } : Jvm.MethodName) ({ cls := "TradeLinkModel", name := "fill", desc := "(II)I" } : Jvm.MethodName)) ∈ x_Ts := x_wi 967 (by decide +kernel) rfl
theorem w968 : (Jvm.Cond.code ({ cls := "TradeLinkModel", name := "fill", desc := "(II)I" } : Jvm.MethodName) prog_12_method_41_code (4 : Nat) (Option.some Jvm.ClassFile.FieldType.int)) ∈ x_Ts := x_wi 968 (by decide +kernel) rfl
theorem w969 : (Jvm.Cond.methodLink "TradeLinkLaw" (88 : Nat) ({ cls := "TradeLinkModel", name := "frames", desc := "()I" } : Jvm.MethodName)) ∈ x_Ts := x_wi 969 (by decide +kernel) rfl
theorem w970 : (Jvm.Cond.instanceMethod ({ cls := "TradeLinkModel", name := "frames", desc := "()I" } : Jvm.MethodName)) ∈ x_Ts := x_wi 970 (by decide +kernel) rfl
theorem w971 : (Jvm.Cond.selects "TradeLinkModel" ({ cls := "TradeLinkModel", name := "frames", desc := "()I" } : Jvm.MethodName) ({ cls := "TradeLinkModel", name := "frames", desc := "()I" } : Jvm.MethodName)) ∈ x_Ts := x_wi 971 (by decide +kernel) rfl
theorem w972 : (Jvm.Cond.code ({ cls := "TradeLinkModel", name := "frames", desc := "()I" } : Jvm.MethodName) prog_12_method_42_code (1 : Nat) (Option.some Jvm.ClassFile.FieldType.int)) ∈ x_Ts := x_wi 972 (by decide +kernel) rfl
theorem w973 : (Jvm.Cond.methodLink "TradeLinkLaw" (91 : Nat) ({ cls := "TradeLinkModel", name := "length", desc := "(I)I" } : Jvm.MethodName)) ∈ x_Ts := x_wi 973 (by decide +kernel) rfl
theorem w974 : (Jvm.Cond.instanceMethod ({ cls := "TradeLinkModel", name := "length", desc := "(I)I" } : Jvm.MethodName)) ∈ x_Ts := x_wi 974 (by decide +kernel) rfl
theorem w975 : (Jvm.Cond.selects "TradeLinkModel" ({ cls := "TradeLinkModel", name := "length", desc := "(I)I" } : Jvm.MethodName) ({ cls := "TradeLinkModel", name := "length", desc := "(I)I" } : Jvm.MethodName)) ∈ x_Ts := x_wi 975 (by decide +kernel) rfl
theorem w976 : (Jvm.Cond.code ({ cls := "TradeLinkModel", name := "length", desc := "(I)I" } : Jvm.MethodName) prog_12_method_43_code (2 : Nat) (Option.some Jvm.ClassFile.FieldType.int)) ∈ x_Ts := x_wi 976 (by decide +kernel) rfl
theorem w977 : (Jvm.Cond.methodLink "TradeLinkLaw" (94 : Nat) ({ cls := "TradeLinkModel", name := "octet", desc := "(II)I" } : Jvm.MethodName)) ∈ x_Ts := x_wi 977 (by decide +kernel) rfl
theorem w978 : (Jvm.Cond.instanceMethod ({ cls := "TradeLinkModel", name := "octet", desc := "(II)I" } : Jvm.MethodName)) ∈ x_Ts := x_wi 978 (by decide +kernel) rfl
theorem w979 : (Jvm.Cond.selects "TradeLinkModel" ({ cls := "TradeLinkModel", name := "octet", desc := "(II)I" } : Jvm.MethodName) ({ cls := "TradeLinkModel", name := "octet", desc := "(II)I" } : Jvm.MethodName)) ∈ x_Ts := x_wi 979 (by decide +kernel) rfl
theorem w980 : (Jvm.Cond.code ({ cls := "TradeLinkModel", name := "octet", desc := "(II)I" } : Jvm.MethodName) prog_12_method_44_code (3 : Nat) (Option.some Jvm.ClassFile.FieldType.int)) ∈ x_Ts := x_wi 980 (by decide +kernel) rfl
theorem w981 : (Jvm.Cond.methodLink "TradeLinkLaw" (97 : Nat) ({ cls := "TradeLinkModel", name := "session", desc := "(I)I" } : Jvm.MethodName)) ∈ x_Ts := x_wi 981 (by decide +kernel) rfl
theorem w982 : (Jvm.Cond.instanceMethod ({ cls := "TradeLinkModel", name := "session", desc := "(I)I" } : Jvm.MethodName)) ∈ x_Ts := x_wi 982 (by decide +kernel) rfl
theorem w983 : (Jvm.Cond.selects "TradeLinkModel" ({ cls := "TradeLinkModel", name := "session", desc := "(I)I" } : Jvm.MethodName) ({ cls := "TradeLinkModel", name := "session", desc := "(I)I" } : Jvm.MethodName)) ∈ x_Ts := x_wi 983 (by decide +kernel) rfl
theorem w984 : (Jvm.Cond.code ({ cls := "TradeLinkModel", name := "session", desc := "(I)I" } : Jvm.MethodName) prog_12_method_45_code (2 : Nat) (Option.some Jvm.ClassFile.FieldType.int)) ∈ x_Ts := x_wi 984 (by decide +kernel) rfl
theorem w985 : (Jvm.Cond.methodLink "TradeLinkLaw" (100 : Nat) ({ cls := "TradeLinkModel", name := "order", desc := "(II)I" } : Jvm.MethodName)) ∈ x_Ts := x_wi 985 (by decide +kernel) rfl
theorem w986 : (Jvm.Cond.instanceMethod ({ cls := "TradeLinkModel", name := "order", desc := "(II)I" } : Jvm.MethodName)) ∈ x_Ts := x_wi 986 (by decide +kernel) rfl
theorem w987 : (Jvm.Cond.selects "TradeLinkModel" ({ cls := "TradeLinkModel", name := "order", desc := "(II)I" } : Jvm.MethodName) ({ cls := "TradeLinkModel", name := "order", desc := "(II)I" } : Jvm.MethodName)) ∈ x_Ts := x_wi 987 (by decide +kernel) rfl
theorem w988 : (Jvm.Cond.code ({ cls := "TradeLinkModel", name := "order", desc := "(II)I" } : Jvm.MethodName) prog_12_method_46_code (5 : Nat) (Option.some Jvm.ClassFile.FieldType.int)) ∈ x_Ts := x_wi 988 (by decide +kernel) rfl
theorem w989 : (Jvm.Cond.arrayClass Jvm.ClassFile.FieldType.long) ∈ x_Ts := x_wi 989 (by decide +kernel) rfl
theorem wp0 : (Jvm.Cond.selects "TradeLink$Session" ({ cls := "TradeLink$Session", name := "logOut", desc := "()V" } : Jvm.MethodName) ({ cls := "TradeLink$Session", name := "logOut", desc := "()V" } : Jvm.MethodName)) ∈ x_Ts := x_wp 0 (by decide +kernel) rfl
theorem wp1 : (Jvm.Cond.selects "TradeLink$Session" ({ cls := "TradeLink$Session", name := "send", desc := "(III)V" } : Jvm.MethodName) ({ cls := "TradeLink$Session", name := "send", desc := "(III)V" } : Jvm.MethodName)) ∈ x_Ts := x_wp 1 (by decide +kernel) rfl
theorem wp2 : (Jvm.Cond.selects "TradeLink$Session" ({ cls := "TradeLink$Session", name := "post", desc := "(IIZ)LTradeLink$Message;" } : Jvm.MethodName) ({ cls := "TradeLink$Session", name := "post", desc := "(IIZ)LTradeLink$Message;" } : Jvm.MethodName)) ∈ x_Ts := x_wp 2 (by decide +kernel) rfl
theorem wp3 : (Jvm.Cond.selects "TradeLink$Session" ({ cls := "TradeLink$Session", name := "ask", desc := "()V" } : Jvm.MethodName) ({ cls := "TradeLink$Session", name := "ask", desc := "()V" } : Jvm.MethodName)) ∈ x_Ts := x_wp 3 (by decide +kernel) rfl
theorem wp4 : (Jvm.Cond.selects "java/lang/Throwable" ({ cls := "java/lang/Throwable", name := "fillInStackTrace", desc := "(I)Ljava/lang/Throwable;" } : Jvm.MethodName) ({ cls := "java/lang/Throwable", name := "fillInStackTrace", desc := "(I)Ljava/lang/Throwable;" } : Jvm.MethodName)) ∈ x_Ts := x_wp 4 (by decide +kernel) rfl
theorem wp5 : (Jvm.Cond.selects "TradeLink$Message" ({ cls := "TradeLink$Message", name := "writeOwnFields", desc := "(LTradeLink$Row;)V" } : Jvm.MethodName) ({ cls := "TradeLink$Message", name := "writeOwnFields", desc := "(LTradeLink$Row;)V" } : Jvm.MethodName)) ∈ x_Ts := x_wp 5 (by decide +kernel) rfl
theorem wp6 : (Jvm.Cond.selects "TradeLink$Inbox" ({ cls := "TradeLink$Inbox", name := "opens", desc := "(I)Z" } : Jvm.MethodName) ({ cls := "TradeLink$Inbox", name := "opens", desc := "(I)Z" } : Jvm.MethodName)) ∈ x_Ts := x_wp 6 (by decide +kernel) rfl
theorem wp7 : (Jvm.Cond.selects "TradeLink$Inbox" ({ cls := "TradeLink$Inbox", name := "character", desc := "()I" } : Jvm.MethodName) ({ cls := "TradeLink$Inbox", name := "character", desc := "()I" } : Jvm.MethodName)) ∈ x_Ts := x_wp 7 (by decide +kernel) rfl
theorem wp8 : (Jvm.Cond.selects "TradeLink$Inbox" ({ cls := "TradeLink$Inbox", name := "closes", desc := "()Z" } : Jvm.MethodName) ({ cls := "TradeLink$Inbox", name := "closes", desc := "()Z" } : Jvm.MethodName)) ∈ x_Ts := x_wp 8 (by decide +kernel) rfl
theorem wp9 : (Jvm.Cond.selects "TradeLink$Inbox" ({ cls := "TradeLink$Inbox", name := "number", desc := "()I" } : Jvm.MethodName) ({ cls := "TradeLink$Inbox", name := "number", desc := "()I" } : Jvm.MethodName)) ∈ x_Ts := x_wp 9 (by decide +kernel) rfl
theorem wp10 : (Jvm.Cond.selects "TradeLink$Inbox" ({ cls := "TradeLink$Inbox", name := "scanHead", desc := "(LTradeLink$Message;)Z" } : Jvm.MethodName) ({ cls := "TradeLink$Inbox", name := "scanHead", desc := "(LTradeLink$Message;)Z" } : Jvm.MethodName)) ∈ x_Ts := x_wp 10 (by decide +kernel) rfl
theorem wp11 : (Jvm.Cond.selects "TradeLink$Inbox" ({ cls := "TradeLink$Inbox", name := "scanOwnFields", desc := "(LTradeLink$Message;)Z" } : Jvm.MethodName) ({ cls := "TradeLink$Inbox", name := "scanOwnFields", desc := "(LTradeLink$Message;)Z" } : Jvm.MethodName)) ∈ x_Ts := x_wp 11 (by decide +kernel) rfl
theorem wp12 : (Jvm.Cond.selects "TradeLink$Inbox" ({ cls := "TradeLink$Inbox", name := "yesOrNo", desc := "()I" } : Jvm.MethodName) ({ cls := "TradeLink$Inbox", name := "yesOrNo", desc := "()I" } : Jvm.MethodName)) ∈ x_Ts := x_wp 12 (by decide +kernel) rfl
theorem wp13 : (Jvm.Cond.selects "TradeLink$Inbox" ({ cls := "TradeLink$Inbox", name := "scanSum", desc := "()Z" } : Jvm.MethodName) ({ cls := "TradeLink$Inbox", name := "scanSum", desc := "()Z" } : Jvm.MethodName)) ∈ x_Ts := x_wp 13 (by decide +kernel) rfl
theorem wp14 : (Jvm.Cond.selects "TradeLink$Session" ({ cls := "TradeLink$Session", name := "raiseAwaited", desc := "(I)Z" } : Jvm.MethodName) ({ cls := "TradeLink$Session", name := "raiseAwaited", desc := "(I)Z" } : Jvm.MethodName)) ∈ x_Ts := x_wp 14 (by decide +kernel) rfl
theorem wp15 : (Jvm.Cond.selects "TradeLink$Session" ({ cls := "TradeLink$Session", name := "receiveLow", desc := "(Z)I" } : Jvm.MethodName) ({ cls := "TradeLink$Session", name := "receiveLow", desc := "(Z)I" } : Jvm.MethodName)) ∈ x_Ts := x_wp 15 (by decide +kernel) rfl
theorem wp16 : (Jvm.Cond.selects "TradeLink$Session" ({ cls := "TradeLink$Session", name := "receiveEarly", desc := "(LTradeLink$Message;)I" } : Jvm.MethodName) ({ cls := "TradeLink$Session", name := "receiveEarly", desc := "(LTradeLink$Message;)I" } : Jvm.MethodName)) ∈ x_Ts := x_wp 16 (by decide +kernel) rfl
theorem wp17 : (Jvm.Cond.selects "TradeLink$Session" ({ cls := "TradeLink$Session", name := "answerResend", desc := "(II)V" } : Jvm.MethodName) ({ cls := "TradeLink$Session", name := "answerResend", desc := "(II)V" } : Jvm.MethodName)) ∈ x_Ts := x_wp 17 (by decide +kernel) rfl
theorem wp18 : (Jvm.Cond.selects "TradeLink$Session" ({ cls := "TradeLink$Session", name := "postGap", desc := "(II)V" } : Jvm.MethodName) ({ cls := "TradeLink$Session", name := "postGap", desc := "(II)V" } : Jvm.MethodName)) ∈ x_Ts := x_wp 18 (by decide +kernel) rfl
theorem wp19 : (Jvm.Cond.selects "TradeLink$Session" ({ cls := "TradeLink$Session", name := "receiveInTurn", desc := "(LTradeLink$Message;)V" } : Jvm.MethodName) ({ cls := "TradeLink$Session", name := "receiveInTurn", desc := "(LTradeLink$Message;)V" } : Jvm.MethodName)) ∈ x_Ts := x_wp 19 (by decide +kernel) rfl
theorem wp20 : (Jvm.Cond.selects "TradeLink$Book" ({ cls := "TradeLink$Book", name := "isUsed", desc := "(I)Z" } : Jvm.MethodName) ({ cls := "TradeLink$Book", name := "isUsed", desc := "(I)Z" } : Jvm.MethodName)) ∈ x_Ts := x_wp 20 (by decide +kernel) rfl
theorem wp21 : (Jvm.Cond.selects "TradeLink$Book" ({ cls := "TradeLink$Book", name := "enter", desc := "(II)LTradeLink$Order;" } : Jvm.MethodName) ({ cls := "TradeLink$Book", name := "enter", desc := "(II)LTradeLink$Order;" } : Jvm.MethodName)) ∈ x_Ts := x_wp 21 (by decide +kernel) rfl
theorem wp22 : (Jvm.Cond.selects "TradeLink$Book" ({ cls := "TradeLink$Book", name := "amend", desc := "(IZI)LTradeLink$Order;" } : Jvm.MethodName) ({ cls := "TradeLink$Book", name := "amend", desc := "(IZI)LTradeLink$Order;" } : Jvm.MethodName)) ∈ x_Ts := x_wp 22 (by decide +kernel) rfl
theorem wp23 : (Jvm.Cond.selects "TradeLink$Book" ({ cls := "TradeLink$Book", name := "use", desc := "(I)V" } : Jvm.MethodName) ({ cls := "TradeLink$Book", name := "use", desc := "(I)V" } : Jvm.MethodName)) ∈ x_Ts := x_wp 23 (by decide +kernel) rfl
theorem wp24 : (Jvm.Cond.selects "TradeLinkModel" ({ cls := "TradeLinkModel", name := "fail", desc := "(I)I" } : Jvm.MethodName) ({ cls := "TradeLinkModel", name := "fail", desc := "(I)I" } : Jvm.MethodName)) ∈ x_Ts := x_wp 24 (by decide +kernel) rfl
theorem wp25 : (Jvm.Cond.selects "TradeLinkModel" ({ cls := "TradeLinkModel", name := "make", desc := "(IIZIIII)V" } : Jvm.MethodName) ({ cls := "TradeLinkModel", name := "make", desc := "(IIZIIII)V" } : Jvm.MethodName)) ∈ x_Ts := x_wp 25 (by decide +kernel) rfl
theorem wp26 : (Jvm.Cond.selects "TradeLinkModel" ({ cls := "TradeLinkModel", name := "letter", desc := "(II)V" } : Jvm.MethodName) ({ cls := "TradeLinkModel", name := "letter", desc := "(II)V" } : Jvm.MethodName)) ∈ x_Ts := x_wp 26 (by decide +kernel) rfl
theorem wp27 : (Jvm.Cond.selects "TradeLinkModel" ({ cls := "TradeLinkModel", name := "digits", desc := "(I)V" } : Jvm.MethodName) ({ cls := "TradeLinkModel", name := "digits", desc := "(I)V" } : Jvm.MethodName)) ∈ x_Ts := x_wp 27 (by decide +kernel) rfl
theorem wp28 : (Jvm.Cond.selects "TradeLinkModel" ({ cls := "TradeLinkModel", name := "put", desc := "(I)V" } : Jvm.MethodName) ({ cls := "TradeLinkModel", name := "put", desc := "(I)V" } : Jvm.MethodName)) ∈ x_Ts := x_wp 28 (by decide +kernel) rfl
theorem wp29 : (Jvm.Cond.selects "TradeLinkModel" ({ cls := "TradeLinkModel", name := "body", desc := "(IIIIIZ)I" } : Jvm.MethodName) ({ cls := "TradeLinkModel", name := "body", desc := "(IIIIIZ)I" } : Jvm.MethodName)) ∈ x_Ts := x_wp 29 (by decide +kernel) rfl
theorem wp30 : (Jvm.Cond.selects "TradeLinkModel" ({ cls := "TradeLinkModel", name := "field", desc := "(II)V" } : Jvm.MethodName) ({ cls := "TradeLinkModel", name := "field", desc := "(II)V" } : Jvm.MethodName)) ∈ x_Ts := x_wp 30 (by decide +kernel) rfl
theorem wp31 : (Jvm.Cond.selects "TradeLinkModel" ({ cls := "TradeLinkModel", name := "byteAt", desc := "(I)I" } : Jvm.MethodName) ({ cls := "TradeLinkModel", name := "byteAt", desc := "(I)I" } : Jvm.MethodName)) ∈ x_Ts := x_wp 31 (by decide +kernel) rfl
theorem wp32 : (Jvm.Cond.selects "TradeLinkModel" ({ cls := "TradeLinkModel", name := "taken", desc := "()I" } : Jvm.MethodName) ({ cls := "TradeLinkModel", name := "taken", desc := "()I" } : Jvm.MethodName)) ∈ x_Ts := x_wp 32 (by decide +kernel) rfl
theorem wp33 : (Jvm.Cond.selects "TradeLinkModel" ({ cls := "TradeLinkModel", name := "good", desc := "()Z" } : Jvm.MethodName) ({ cls := "TradeLinkModel", name := "good", desc := "()Z" } : Jvm.MethodName)) ∈ x_Ts := x_wp 33 (by decide +kernel) rfl
theorem wp34 : (Jvm.Cond.selects "TradeLinkModel" ({ cls := "TradeLinkModel", name := "cut", desc := "()Z" } : Jvm.MethodName) ({ cls := "TradeLinkModel", name := "cut", desc := "()Z" } : Jvm.MethodName)) ∈ x_Ts := x_wp 34 (by decide +kernel) rfl
theorem wp35 : (Jvm.Cond.selects "TradeLinkModel" ({ cls := "TradeLinkModel", name := "closed", desc := "()Z" } : Jvm.MethodName) ({ cls := "TradeLinkModel", name := "closed", desc := "()Z" } : Jvm.MethodName)) ∈ x_Ts := x_wp 35 (by decide +kernel) rfl
theorem wp36 : (Jvm.Cond.selects "TradeLinkModel" ({ cls := "TradeLinkModel", name := "numberAt", desc := "(II)I" } : Jvm.MethodName) ({ cls := "TradeLinkModel", name := "numberAt", desc := "(II)I" } : Jvm.MethodName)) ∈ x_Ts := x_wp 36 (by decide +kernel) rfl
theorem wp37 : (Jvm.Cond.selects "TradeLinkModel" ({ cls := "TradeLinkModel", name := "letterAt", desc := "(II)I" } : Jvm.MethodName) ({ cls := "TradeLinkModel", name := "letterAt", desc := "(II)I" } : Jvm.MethodName)) ∈ x_Ts := x_wp 37 (by decide +kernel) rfl
theorem wp38 : (Jvm.Cond.selects "TradeLinkModel" ({ cls := "TradeLinkModel", name := "leave", desc := "()V" } : Jvm.MethodName) ({ cls := "TradeLinkModel", name := "leave", desc := "()V" } : Jvm.MethodName)) ∈ x_Ts := x_wp 38 (by decide +kernel) rfl
theorem wp39 : (Jvm.Cond.selects "TradeLinkModel" ({ cls := "TradeLinkModel", name := "send", desc := "(IIIII)V" } : Jvm.MethodName) ({ cls := "TradeLinkModel", name := "send", desc := "(IIIII)V" } : Jvm.MethodName)) ∈ x_Ts := x_wp 39 (by decide +kernel) rfl
theorem wp40 : (Jvm.Cond.selects "TradeLinkModel" ({ cls := "TradeLinkModel", name := "goes", desc := "(IIZIIII)V" } : Jvm.MethodName) ({ cls := "TradeLinkModel", name := "goes", desc := "(IIZIIII)V" } : Jvm.MethodName)) ∈ x_Ts := x_wp 40 (by decide +kernel) rfl
theorem wp41 : (Jvm.Cond.selects "TradeLinkModel" ({ cls := "TradeLinkModel", name := "answer", desc := "(II)V" } : Jvm.MethodName) ({ cls := "TradeLinkModel", name := "answer", desc := "(II)V" } : Jvm.MethodName)) ∈ x_Ts := x_wp 41 (by decide +kernel) rfl
theorem wp42 : (Jvm.Cond.selects "TradeLinkModel" ({ cls := "TradeLinkModel", name := "ask", desc := "()V" } : Jvm.MethodName) ({ cls := "TradeLinkModel", name := "ask", desc := "()V" } : Jvm.MethodName)) ∈ x_Ts := x_wp 42 (by decide +kernel) rfl
theorem wp43 : (Jvm.Cond.selects "TradeLinkModel" ({ cls := "TradeLinkModel", name := "orderMessage", desc := "()V" } : Jvm.MethodName) ({ cls := "TradeLinkModel", name := "orderMessage", desc := "()V" } : Jvm.MethodName)) ∈ x_Ts := x_wp 43 (by decide +kernel) rfl
theorem wp44 : (Jvm.Cond.selects "TradeLinkModel" ({ cls := "TradeLinkModel", name := "ordered", desc := "()I" } : Jvm.MethodName) ({ cls := "TradeLinkModel", name := "ordered", desc := "()I" } : Jvm.MethodName)) ∈ x_Ts := x_wp 44 (by decide +kernel) rfl
theorem wp45 : (Jvm.Cond.selects "TradeLinkModel" ({ cls := "TradeLinkModel", name := "isUsed", desc := "(I)Z" } : Jvm.MethodName) ({ cls := "TradeLinkModel", name := "isUsed", desc := "(I)Z" } : Jvm.MethodName)) ∈ x_Ts := x_wp 45 (by decide +kernel) rfl
theorem wp46 : (Jvm.Cond.selects "TradeLinkModel" ({ cls := "TradeLinkModel", name := "openOrder", desc := "(I)I" } : Jvm.MethodName) ({ cls := "TradeLinkModel", name := "openOrder", desc := "(I)I" } : Jvm.MethodName)) ∈ x_Ts := x_wp 46 (by decide +kernel) rfl
theorem wp47 : (Jvm.Cond.selects "TradeLinkModel" ({ cls := "TradeLinkModel", name := "state", desc := "(I)I" } : Jvm.MethodName) ({ cls := "TradeLinkModel", name := "state", desc := "(I)I" } : Jvm.MethodName)) ∈ x_Ts := x_wp 47 (by decide +kernel) rfl
theorem wp48 : (Jvm.Cond.selects "TradeLinkModel" ({ cls := "TradeLinkModel", name := "tell", desc := "(I)V" } : Jvm.MethodName) ({ cls := "TradeLinkModel", name := "tell", desc := "(I)V" } : Jvm.MethodName)) ∈ x_Ts := x_wp 48 (by decide +kernel) rfl
theorem wp49 : (Jvm.Cond.selects "TradeLinkModel" ({ cls := "TradeLinkModel", name := "settle", desc := "()V" } : Jvm.MethodName) ({ cls := "TradeLinkModel", name := "settle", desc := "()V" } : Jvm.MethodName)) ∈ x_Ts := x_wp 49 (by decide +kernel) rfl
theorem xin0 : ∀ q ∈ u_ws "TradeLink" xT0 3, q ∈ x_Ts := by
  have h : (u_ws "TradeLink" xT0 3).all (fun q => decide (q ∈ x_Ts)) = true := by decide +kernel
  exact fun q hq => of_decide_eq_true (List.all_eq_true.mp h q hq)
theorem cf0 : x_CF 0 "TradeLink" xT0 3 xt0 := ⟨rfl, xin0, by decide +kernel, by decide +kernel, by decide, w21, w1⟩
theorem xin1 : ∀ q ∈ u_ws "TradeLink$Inbox" xT1 2, q ∈ x_Ts := by
  have h : (u_ws "TradeLink$Inbox" xT1 2).all (fun q => decide (q ∈ x_Ts)) = true := by decide +kernel
  exact fun q hq => of_decide_eq_true (List.all_eq_true.mp h q hq)
theorem cf1 : x_CF 1 "TradeLink$Inbox" xT1 2 xt1 := ⟨rfl, xin1, by decide +kernel, by decide +kernel, by decide, w29, w2⟩
theorem xin2 : ∀ q ∈ u_ws "TradeLink$Row" xT2 2, q ∈ x_Ts := by
  have h : (u_ws "TradeLink$Row" xT2 2).all (fun q => decide (q ∈ x_Ts)) = true := by decide +kernel
  exact fun q hq => of_decide_eq_true (List.all_eq_true.mp h q hq)
theorem cf2 : x_CF 2 "TradeLink$Row" xT2 2 xt2 := ⟨rfl, xin2, by decide +kernel, by decide +kernel, by decide, w35, w3⟩
theorem xin3 : ∀ q ∈ u_ws "TradeLink$Message" xT3 4, q ∈ x_Ts := by
  have h : (u_ws "TradeLink$Message" xT3 4).all (fun q => decide (q ∈ x_Ts)) = true := by decide +kernel
  exact fun q hq => of_decide_eq_true (List.all_eq_true.mp h q hq)
theorem cf3 : x_CF 3 "TradeLink$Message" xT3 4 xt3 := ⟨rfl, xin3, by decide +kernel, by decide +kernel, by decide, w60, w4⟩
theorem xin4 : ∀ q ∈ u_ws "TradeLink$Session" xT4 12, q ∈ x_Ts := by
  have h : (u_ws "TradeLink$Session" xT4 12).all (fun q => decide (q ∈ x_Ts)) = true := by decide +kernel
  exact fun q hq => of_decide_eq_true (List.all_eq_true.mp h q hq)
theorem cf4 : x_CF 4 "TradeLink$Session" xT4 12 xt4 := ⟨rfl, xin4, by decide +kernel, by decide +kernel, by decide, w87, w5⟩
theorem xin5 : ∀ q ∈ u_ws "TradeLink$Outbox" xT5 3, q ∈ x_Ts := by
  have h : (u_ws "TradeLink$Outbox" xT5 3).all (fun q => decide (q ∈ x_Ts)) = true := by decide +kernel
  exact fun q hq => of_decide_eq_true (List.all_eq_true.mp h q hq)
theorem cf5 : x_CF 5 "TradeLink$Outbox" xT5 3 xt5 := ⟨rfl, xin5, by decide +kernel, by decide +kernel, by decide, w93, w6⟩
theorem xin6 : ∀ q ∈ u_ws "TradeLink$Book" xT6 4, q ∈ x_Ts := by
  have h : (u_ws "TradeLink$Book" xT6 4).all (fun q => decide (q ∈ x_Ts)) = true := by decide +kernel
  exact fun q hq => of_decide_eq_true (List.all_eq_true.mp h q hq)
theorem cf6 : x_CF 6 "TradeLink$Book" xT6 4 xt6 := ⟨rfl, xin6, by decide +kernel, by decide +kernel, by decide, w115, w7⟩
theorem xin7 : ∀ q ∈ u_ws "TradeLink$Order" xT7 5, q ∈ x_Ts := by
  have h : (u_ws "TradeLink$Order" xT7 5).all (fun q => decide (q ∈ x_Ts)) = true := by decide +kernel
  exact fun q hq => of_decide_eq_true (List.all_eq_true.mp h q hq)
theorem cf7 : x_CF 7 "TradeLink$Order" xT7 5 xt7 := ⟨rfl, xin7, by decide +kernel, by decide +kernel, by decide, w122, w8⟩
theorem xin8 : ∀ q ∈ u_ws "TradeLink$Store" xT8 2, q ∈ x_Ts := by
  have h : (u_ws "TradeLink$Store" xT8 2).all (fun q => decide (q ∈ x_Ts)) = true := by decide +kernel
  exact fun q hq => of_decide_eq_true (List.all_eq_true.mp h q hq)
theorem cf8 : x_CF 8 "TradeLink$Store" xT8 2 xt8 := ⟨rfl, xin8, by decide +kernel, by decide +kernel, by decide, w165, w9⟩
theorem xin9 : ∀ q ∈ u_ws "TradeLinkModel" xT9 39, q ∈ x_Ts := by
  have h : (u_ws "TradeLinkModel" xT9 39).all (fun q => decide (q ∈ x_Ts)) = true := by decide +kernel
  exact fun q hq => of_decide_eq_true (List.all_eq_true.mp h q hq)
theorem cf9 : x_CF 9 "TradeLinkModel" xT9 39 xt9 := ⟨rfl, xin9, by decide +kernel, by decide +kernel, by decide, w690, w10⟩
end
section
/-! 10.s-leaf: decode rows and step rows of java/lang/Math, TradeLink$Layout, TradeLink$Row, TradeLink$Order; laid by a program. -/
theorem mC_0 : mC 0 = prog_17_method_65_code := rfl
theorem d0_0 : decode (mC 0) 0 = .ok (.iload_n 0, 1) := by rw [mC_0]; decide +kernel
theorem d0_1 : decode (mC 0) 1 = .ok (.iload_n 1, 1) := by rw [mC_0]; decide +kernel
theorem d0_2 : decode (mC 0) 2 = .ok (.if_icmp .lt 7, 3) := by rw [mC_0]; decide +kernel
theorem d0_5 : decode (mC 0) 5 = .ok (.iload_n 0, 1) := by rw [mC_0]; decide +kernel
theorem d0_6 : decode (mC 0) 6 = .ok (.goto 4, 3) := by rw [mC_0]; decide +kernel
theorem d0_9 : decode (mC 0) 9 = .ok (.iload_n 1, 1) := by rw [mC_0]; decide +kernel
theorem d0_10 : decode (mC 0) 10 = .ok (.ireturn, 1) := by rw [mC_0]; decide +kernel
theorem s0_0 {S : Nat × (Nat → Int32)} {L : List (Option Value)} {st : List Value} {n : Nat} {Q : xQ} {μ : xM} {x : Int32} (hl : L[0]? = some (some (.int x))) (h : x_V S 0 1 L (.int x :: st) μ n Q) : x_V S 0 0 L (st) μ n Q := x_iload_n d0_0 hl h
theorem s0_1 {S : Nat × (Nat → Int32)} {L : List (Option Value)} {st : List Value} {n : Nat} {Q : xQ} {μ : xM} {x : Int32} (hl : L[1]? = some (some (.int x))) (h : x_V S 0 2 L (.int x :: st) μ n Q) : x_V S 0 1 L (st) μ n Q := x_iload_n d0_1 hl h
theorem s0_2 {S : Nat × (Nat → Int32)} {L : List (Option Value)} {st : List Value} {n : Nat} {Q : xQ} {μ : xM} {x y : Int} (hx : ib x) (hy : ib y) (kt : x < y → x_V S 0 9 L (st) μ n Q) (kf : y ≤ x → x_V S 0 5 L (st) μ n Q) : x_V S 0 2 L (.int (I y) :: .int (I x) :: st) μ n Q := v_icmp_lt d0_2 (by decide) hx hy kt kf
theorem s0_5 {S : Nat × (Nat → Int32)} {L : List (Option Value)} {st : List Value} {n : Nat} {Q : xQ} {μ : xM} {x : Int32} (hl : L[0]? = some (some (.int x))) (h : x_V S 0 6 L (.int x :: st) μ n Q) : x_V S 0 5 L (st) μ n Q := x_iload_n d0_5 hl h
theorem s0_6 {S : Nat × (Nat → Int32)} {L : List (Option Value)} {st : List Value} {n : Nat} {Q : xQ} {μ : xM}  (h : x_V S 0 10 L (st) μ n Q) : x_V S 0 6 L (st) μ n Q := x_goto (tgt := 10) (by decide) d0_6 h
theorem s0_9 {S : Nat × (Nat → Int32)} {L : List (Option Value)} {st : List Value} {n : Nat} {Q : xQ} {μ : xM} {x : Int32} (hl : L[1]? = some (some (.int x))) (h : x_V S 0 10 L (.int x :: st) μ n Q) : x_V S 0 9 L (st) μ n Q := x_iload_n d0_9 hl h
theorem s0_10 {S : Nat × (Nat → Int32)} {L : List (Option Value)} {st : List Value} {n : Nat} {Q : xQ} {μ : xM} {x : Int32} (h : Q (.inl (some (.int x))) μ n) : x_V S 0 10 L (.int x :: []) μ n Q := x_ireturn d0_10 rfl rfl h
theorem mC_1 : mC 1 = prog_4_method_2_code := rfl
theorem d1_0 : decode (mC 1) 0 = .ok (.iload_n 0, 1) := by rw [mC_1]; decide +kernel
theorem d1_1 : decode (mC 1) 1 = .ok (.bipush 56, 2) := by rw [mC_1]; decide +kernel
theorem d1_3 : decode (mC 1) 3 = .ok (.if_icmp .eq 15, 3) := by rw [mC_1]; decide +kernel
theorem d1_6 : decode (mC 1) 6 = .ok (.iload_n 0, 1) := by rw [mC_1]; decide +kernel
theorem d1_7 : decode (mC 1) 7 = .ok (.invokestatic 11, 3) := by rw [mC_1]; decide +kernel
theorem d1_10 : decode (mC 1) 10 = .ok (.iconst (-1), 1) := by rw [mC_1]; decide +kernel
theorem d1_11 : decode (mC 1) 11 = .ok (.if_icmp .eq 7, 3) := by rw [mC_1]; decide +kernel
theorem d1_14 : decode (mC 1) 14 = .ok (.iconst 1, 1) := by rw [mC_1]; decide +kernel
theorem d1_15 : decode (mC 1) 15 = .ok (.goto 4, 3) := by rw [mC_1]; decide +kernel
theorem d1_18 : decode (mC 1) 18 = .ok (.iconst 0, 1) := by rw [mC_1]; decide +kernel
theorem d1_19 : decode (mC 1) 19 = .ok (.ireturn, 1) := by rw [mC_1]; decide +kernel
theorem s1_0 {S : Nat × (Nat → Int32)} {L : List (Option Value)} {st : List Value} {n : Nat} {Q : xQ} {μ : xM} {x : Int32} (hl : L[0]? = some (some (.int x))) (h : x_V S 1 1 L (.int x :: st) μ n Q) : x_V S 1 0 L (st) μ n Q := x_iload_n d1_0 hl h
theorem s1_1 {S : Nat × (Nat → Int32)} {L : List (Option Value)} {st : List Value} {n : Nat} {Q : xQ} {μ : xM}  (h : x_V S 1 3 L (.int (I 56) :: st) μ n Q) : x_V S 1 1 L (st) μ n Q := x_bipush (by decide +kernel) d1_1 h
theorem s1_3 {S : Nat × (Nat → Int32)} {L : List (Option Value)} {st : List Value} {n : Nat} {Q : xQ} {μ : xM} {x y : Int} (hx : ib x) (hy : ib y) (kt : x = y → x_V S 1 18 L (st) μ n Q) (kf : x ≠ y → x_V S 1 6 L (st) μ n Q) : x_V S 1 3 L (.int (I y) :: .int (I x) :: st) μ n Q := v_icmp_eq d1_3 (by decide) hx hy kt kf
theorem s1_6 {S : Nat × (Nat → Int32)} {L : List (Option Value)} {st : List Value} {n : Nat} {Q : xQ} {μ : xM} {x : Int32} (hl : L[0]? = some (some (.int x))) (h : x_V S 1 7 L (.int x :: st) μ n Q) : x_V S 1 6 L (st) μ n Q := x_iload_n d1_6 hl h
theorem s1_7 {S : Nat × (Nat → Int32)} {L : List (Option Value)} {st : List Value} {n : Nat} {Q : xQ} {μ : xM} {x0 : Int32} (hst : st.length ≤ 4) (h : x_V S 4 0 [some (.int x0), none] [] μ n (x_bk S 1 7 L st Q)) : x_V S 1 7 L (.int x0 :: st) μ n Q := x_callS (k' := 4) (as := [.int x0]) (na := 1) d1_7 ⟨w299, by decide +kernel, by decide, by decide, by decide, by decide, by decide⟩ w297 w298 w11 (by decide +kernel) rfl (fun v hv => by
    simp only [List.mem_cons, List.not_mem_nil, or_false] at hv
    rcases hv with rfl <;> first | rfl | assumption) hst h
theorem s1_10 {S : Nat × (Nat → Int32)} {L : List (Option Value)} {st : List Value} {n : Nat} {Q : xQ} {μ : xM}  (h : x_V S 1 11 L (.int (I (-1)) :: st) μ n Q) : x_V S 1 10 L (st) μ n Q := x_iconst (by decide +kernel) d1_10 h
theorem s1_11 {S : Nat × (Nat → Int32)} {L : List (Option Value)} {st : List Value} {n : Nat} {Q : xQ} {μ : xM} {x y : Int} (hx : ib x) (hy : ib y) (kt : x = y → x_V S 1 18 L (st) μ n Q) (kf : x ≠ y → x_V S 1 14 L (st) μ n Q) : x_V S 1 11 L (.int (I y) :: .int (I x) :: st) μ n Q := v_icmp_eq d1_11 (by decide) hx hy kt kf
theorem s1_14 {S : Nat × (Nat → Int32)} {L : List (Option Value)} {st : List Value} {n : Nat} {Q : xQ} {μ : xM}  (h : x_V S 1 15 L (.int (I 1) :: st) μ n Q) : x_V S 1 14 L (st) μ n Q := x_iconst (by decide +kernel) d1_14 h
theorem s1_15 {S : Nat × (Nat → Int32)} {L : List (Option Value)} {st : List Value} {n : Nat} {Q : xQ} {μ : xM}  (h : x_V S 1 19 L (st) μ n Q) : x_V S 1 15 L (st) μ n Q := x_goto (tgt := 19) (by decide) d1_15 h
theorem s1_18 {S : Nat × (Nat → Int32)} {L : List (Option Value)} {st : List Value} {n : Nat} {Q : xQ} {μ : xM}  (h : x_V S 1 19 L (.int (I 0) :: st) μ n Q) : x_V S 1 18 L (st) μ n Q := x_iconst (by decide +kernel) d1_18 h
theorem s1_19 {S : Nat × (Nat → Int32)} {L : List (Option Value)} {st : List Value} {n : Nat} {Q : xQ} {μ : xM} {v : Int} (hv : v = 0 ∨ v = 1) (h : Q (.inl (some (.int (I v)))) μ n) : x_V S 1 19 L (.int (I v) :: []) μ n Q := v_zreturn d1_19 rfl hv h
theorem mC_2 : mC 2 = prog_4_method_3_code := rfl
theorem d2_0 : decode (mC 2) 0 = .ok (.iload_n 0, 1) := by rw [mC_2]; decide +kernel
theorem d2_1 : decode (mC 2) 1 = .ok (.invokestatic 11, 3) := by rw [mC_2]; decide +kernel
theorem d2_4 : decode (mC 2) 4 = .ok (.istore_n 1, 1) := by rw [mC_2]; decide +kernel
theorem d2_5 : decode (mC 2) 5 = .ok (.iload_n 1, 1) := by rw [mC_2]; decide +kernel
theorem d2_6 : decode (mC 2) 6 = .ok (.iconst (-1), 1) := by rw [mC_2]; decide +kernel
theorem d2_7 : decode (mC 2) 7 = .ok (.if_icmp .ne 7, 3) := by rw [mC_2]; decide +kernel
theorem d2_10 : decode (mC 2) 10 = .ok (.iconst 0, 1) := by rw [mC_2]; decide +kernel
theorem d2_11 : decode (mC 2) 11 = .ok (.goto 10, 3) := by rw [mC_2]; decide +kernel
theorem d2_14 : decode (mC 2) 14 = .ok (.getstatic 15, 3) := by rw [mC_2]; decide +kernel
theorem d2_17 : decode (mC 2) 17 = .ok (.iload_n 1, 1) := by rw [mC_2]; decide +kernel
theorem d2_18 : decode (mC 2) 18 = .ok (.iconst 1, 1) := by rw [mC_2]; decide +kernel
theorem d2_19 : decode (mC 2) 19 = .ok (.iadd, 1) := by rw [mC_2]; decide +kernel
theorem d2_20 : decode (mC 2) 20 = .ok (.iaload, 1) := by rw [mC_2]; decide +kernel
theorem d2_21 : decode (mC 2) 21 = .ok (.ireturn, 1) := by rw [mC_2]; decide +kernel
theorem s2_0 {S : Nat × (Nat → Int32)} {L : List (Option Value)} {st : List Value} {n : Nat} {Q : xQ} {μ : xM} {x : Int32} (hl : L[0]? = some (some (.int x))) (h : x_V S 2 1 L (.int x :: st) μ n Q) : x_V S 2 0 L (st) μ n Q := x_iload_n d2_0 hl h
theorem s2_1 {S : Nat × (Nat → Int32)} {L : List (Option Value)} {st : List Value} {n : Nat} {Q : xQ} {μ : xM} {x0 : Int32} (hst : st.length ≤ 4) (h : x_V S 4 0 [some (.int x0), none] [] μ n (x_bk S 2 1 L st Q)) : x_V S 2 1 L (.int x0 :: st) μ n Q := x_callS (k' := 4) (as := [.int x0]) (na := 1) d2_1 ⟨w299, by decide +kernel, by decide, by decide, by decide, by decide, by decide⟩ w297 w298 w11 (by decide +kernel) rfl (fun v hv => by
    simp only [List.mem_cons, List.not_mem_nil, or_false] at hv
    rcases hv with rfl <;> first | rfl | assumption) hst h
theorem s2_4 {S : Nat × (Nat → Int32)} {L : List (Option Value)} {st : List Value} {n : Nat} {Q : xQ} {μ : xM} {x : Int32} (h : x_V S 2 5 (L.set 1 (some (.int x))) (st) μ n Q) : x_V S 2 4 L (.int x :: st) μ n Q := x_istore_n d2_4 (by decide) h
theorem s2_5 {S : Nat × (Nat → Int32)} {L : List (Option Value)} {st : List Value} {n : Nat} {Q : xQ} {μ : xM} {x : Int32} (hl : L[1]? = some (some (.int x))) (h : x_V S 2 6 L (.int x :: st) μ n Q) : x_V S 2 5 L (st) μ n Q := x_iload_n d2_5 hl h
theorem s2_6 {S : Nat × (Nat → Int32)} {L : List (Option Value)} {st : List Value} {n : Nat} {Q : xQ} {μ : xM}  (h : x_V S 2 7 L (.int (I (-1)) :: st) μ n Q) : x_V S 2 6 L (st) μ n Q := x_iconst (by decide +kernel) d2_6 h
theorem s2_7 {S : Nat × (Nat → Int32)} {L : List (Option Value)} {st : List Value} {n : Nat} {Q : xQ} {μ : xM} {x y : Int} (hx : ib x) (hy : ib y) (kt : x ≠ y → x_V S 2 14 L (st) μ n Q) (kf : x = y → x_V S 2 10 L (st) μ n Q) : x_V S 2 7 L (.int (I y) :: .int (I x) :: st) μ n Q := v_icmp_ne d2_7 (by decide) hx hy kt kf
theorem s2_10 {S : Nat × (Nat → Int32)} {L : List (Option Value)} {st : List Value} {n : Nat} {Q : xQ} {μ : xM}  (h : x_V S 2 11 L (.int (I 0) :: st) μ n Q) : x_V S 2 10 L (st) μ n Q := x_iconst (by decide +kernel) d2_10 h
theorem s2_11 {S : Nat × (Nat → Int32)} {L : List (Option Value)} {st : List Value} {n : Nat} {Q : xQ} {μ : xM}  (h : x_V S 2 21 L (st) μ n Q) : x_V S 2 11 L (st) μ n Q := x_goto (tgt := 21) (by decide) d2_11 h
theorem s2_14 {S : Nat × (Nat → Int32)} {L : List (Option Value)} {st : List Value} {n : Nat} {Q : xQ} {μ : xM}  (h : x_V S 2 17 L (.ref 0 :: st) μ n Q) : x_V S 2 14 L (st) μ n Q := x_gets d2_14 w300 h
theorem s2_17 {S : Nat × (Nat → Int32)} {L : List (Option Value)} {st : List Value} {n : Nat} {Q : xQ} {μ : xM} {x : Int32} (hl : L[1]? = some (some (.int x))) (h : x_V S 2 18 L (.int x :: st) μ n Q) : x_V S 2 17 L (st) μ n Q := x_iload_n d2_17 hl h
theorem s2_18 {S : Nat × (Nat → Int32)} {L : List (Option Value)} {st : List Value} {n : Nat} {Q : xQ} {μ : xM}  (h : x_V S 2 19 L (.int (I 1) :: st) μ n Q) : x_V S 2 18 L (st) μ n Q := x_iconst (by decide +kernel) d2_18 h
theorem s2_19 {S : Nat × (Nat → Int32)} {L : List (Option Value)} {st : List Value} {n : Nat} {Q : xQ} {μ : xM} {x y : Int} (h : x_V S 2 20 L (.int (I (x + y)) :: st) μ n Q) : x_V S 2 19 L (.int (I y) :: .int (I x) :: st) μ n Q := v_iadd d2_19 h
theorem s2_21 {S : Nat × (Nat → Int32)} {L : List (Option Value)} {st : List Value} {n : Nat} {Q : xQ} {μ : xM} {x : Int32} (h : Q (.inl (some (.int x))) μ n) : x_V S 2 21 L (.int x :: []) μ n Q := x_ireturn d2_21 rfl rfl h
theorem mC_3 : mC 3 = prog_4_method_4_code := rfl
theorem d3_0 : decode (mC 3) 0 = .ok (.iload_n 0, 1) := by rw [mC_3]; decide +kernel
theorem d3_1 : decode (mC 3) 1 = .ok (.invokestatic 11, 3) := by rw [mC_3]; decide +kernel
theorem d3_4 : decode (mC 3) 4 = .ok (.istore_n 2, 1) := by rw [mC_3]; decide +kernel
theorem d3_5 : decode (mC 3) 5 = .ok (.iload_n 2, 1) := by rw [mC_3]; decide +kernel
theorem d3_6 : decode (mC 3) 6 = .ok (.iconst (-1), 1) := by rw [mC_3]; decide +kernel
theorem d3_7 : decode (mC 3) 7 = .ok (.if_icmp .eq 12, 3) := by rw [mC_3]; decide +kernel
theorem d3_10 : decode (mC 3) 10 = .ok (.iload_n 1, 1) := by rw [mC_3]; decide +kernel
theorem d3_11 : decode (mC 3) 11 = .ok (.ifCond .lt 8, 3) := by rw [mC_3]; decide +kernel
theorem d3_14 : decode (mC 3) 14 = .ok (.iload_n 1, 1) := by rw [mC_3]; decide +kernel
theorem d3_15 : decode (mC 3) 15 = .ok (.iconst 4, 1) := by rw [mC_3]; decide +kernel
theorem d3_16 : decode (mC 3) 16 = .ok (.if_icmp .lt 7, 3) := by rw [mC_3]; decide +kernel
theorem d3_19 : decode (mC 3) 19 = .ok (.iconst 0, 1) := by rw [mC_3]; decide +kernel
theorem d3_20 : decode (mC 3) 20 = .ok (.goto 12, 3) := by rw [mC_3]; decide +kernel
theorem d3_23 : decode (mC 3) 23 = .ok (.getstatic 15, 3) := by rw [mC_3]; decide +kernel
theorem d3_26 : decode (mC 3) 26 = .ok (.iload_n 2, 1) := by rw [mC_3]; decide +kernel
theorem d3_27 : decode (mC 3) 27 = .ok (.iconst 2, 1) := by rw [mC_3]; decide +kernel
theorem d3_28 : decode (mC 3) 28 = .ok (.iadd, 1) := by rw [mC_3]; decide +kernel
theorem d3_29 : decode (mC 3) 29 = .ok (.iload_n 1, 1) := by rw [mC_3]; decide +kernel
theorem d3_30 : decode (mC 3) 30 = .ok (.iadd, 1) := by rw [mC_3]; decide +kernel
theorem d3_31 : decode (mC 3) 31 = .ok (.iaload, 1) := by rw [mC_3]; decide +kernel
theorem d3_32 : decode (mC 3) 32 = .ok (.ireturn, 1) := by rw [mC_3]; decide +kernel
theorem s3_0 {S : Nat × (Nat → Int32)} {L : List (Option Value)} {st : List Value} {n : Nat} {Q : xQ} {μ : xM} {x : Int32} (hl : L[0]? = some (some (.int x))) (h : x_V S 3 1 L (.int x :: st) μ n Q) : x_V S 3 0 L (st) μ n Q := x_iload_n d3_0 hl h
theorem s3_1 {S : Nat × (Nat → Int32)} {L : List (Option Value)} {st : List Value} {n : Nat} {Q : xQ} {μ : xM} {x0 : Int32} (hst : st.length ≤ 4) (h : x_V S 4 0 [some (.int x0), none] [] μ n (x_bk S 3 1 L st Q)) : x_V S 3 1 L (.int x0 :: st) μ n Q := x_callS (k' := 4) (as := [.int x0]) (na := 1) d3_1 ⟨w299, by decide +kernel, by decide, by decide, by decide, by decide, by decide⟩ w297 w298 w11 (by decide +kernel) rfl (fun v hv => by
    simp only [List.mem_cons, List.not_mem_nil, or_false] at hv
    rcases hv with rfl <;> first | rfl | assumption) hst h
theorem s3_4 {S : Nat × (Nat → Int32)} {L : List (Option Value)} {st : List Value} {n : Nat} {Q : xQ} {μ : xM} {x : Int32} (h : x_V S 3 5 (L.set 2 (some (.int x))) (st) μ n Q) : x_V S 3 4 L (.int x :: st) μ n Q := x_istore_n d3_4 (by decide) h
theorem s3_5 {S : Nat × (Nat → Int32)} {L : List (Option Value)} {st : List Value} {n : Nat} {Q : xQ} {μ : xM} {x : Int32} (hl : L[2]? = some (some (.int x))) (h : x_V S 3 6 L (.int x :: st) μ n Q) : x_V S 3 5 L (st) μ n Q := x_iload_n d3_5 hl h
theorem s3_6 {S : Nat × (Nat → Int32)} {L : List (Option Value)} {st : List Value} {n : Nat} {Q : xQ} {μ : xM}  (h : x_V S 3 7 L (.int (I (-1)) :: st) μ n Q) : x_V S 3 6 L (st) μ n Q := x_iconst (by decide +kernel) d3_6 h
theorem s3_7 {S : Nat × (Nat → Int32)} {L : List (Option Value)} {st : List Value} {n : Nat} {Q : xQ} {μ : xM} {x y : Int} (hx : ib x) (hy : ib y) (kt : x = y → x_V S 3 19 L (st) μ n Q) (kf : x ≠ y → x_V S 3 10 L (st) μ n Q) : x_V S 3 7 L (.int (I y) :: .int (I x) :: st) μ n Q := v_icmp_eq d3_7 (by decide) hx hy kt kf
theorem s3_10 {S : Nat × (Nat → Int32)} {L : List (Option Value)} {st : List Value} {n : Nat} {Q : xQ} {μ : xM} {x : Int32} (hl : L[1]? = some (some (.int x))) (h : x_V S 3 11 L (.int x :: st) μ n Q) : x_V S 3 10 L (st) μ n Q := x_iload_n d3_10 hl h
theorem s3_11 {S : Nat × (Nat → Int32)} {L : List (Option Value)} {st : List Value} {n : Nat} {Q : xQ} {μ : xM} {x : Int} (hx : ib x) (kt : x < 0 → x_V S 3 19 L (st) μ n Q) (kf : 0 ≤ x → x_V S 3 14 L (st) μ n Q) : x_V S 3 11 L (.int (I x) :: st) μ n Q := v_if_lt d3_11 (by decide) hx kt kf
theorem s3_14 {S : Nat × (Nat → Int32)} {L : List (Option Value)} {st : List Value} {n : Nat} {Q : xQ} {μ : xM} {x : Int32} (hl : L[1]? = some (some (.int x))) (h : x_V S 3 15 L (.int x :: st) μ n Q) : x_V S 3 14 L (st) μ n Q := x_iload_n d3_14 hl h
theorem s3_15 {S : Nat × (Nat → Int32)} {L : List (Option Value)} {st : List Value} {n : Nat} {Q : xQ} {μ : xM}  (h : x_V S 3 16 L (.int (I 4) :: st) μ n Q) : x_V S 3 15 L (st) μ n Q := x_iconst (by decide +kernel) d3_15 h
theorem s3_16 {S : Nat × (Nat → Int32)} {L : List (Option Value)} {st : List Value} {n : Nat} {Q : xQ} {μ : xM} {x y : Int} (hx : ib x) (hy : ib y) (kt : x < y → x_V S 3 23 L (st) μ n Q) (kf : y ≤ x → x_V S 3 19 L (st) μ n Q) : x_V S 3 16 L (.int (I y) :: .int (I x) :: st) μ n Q := v_icmp_lt d3_16 (by decide) hx hy kt kf
theorem s3_19 {S : Nat × (Nat → Int32)} {L : List (Option Value)} {st : List Value} {n : Nat} {Q : xQ} {μ : xM}  (h : x_V S 3 20 L (.int (I 0) :: st) μ n Q) : x_V S 3 19 L (st) μ n Q := x_iconst (by decide +kernel) d3_19 h
theorem s3_20 {S : Nat × (Nat → Int32)} {L : List (Option Value)} {st : List Value} {n : Nat} {Q : xQ} {μ : xM}  (h : x_V S 3 32 L (st) μ n Q) : x_V S 3 20 L (st) μ n Q := x_goto (tgt := 32) (by decide) d3_20 h
theorem s3_23 {S : Nat × (Nat → Int32)} {L : List (Option Value)} {st : List Value} {n : Nat} {Q : xQ} {μ : xM}  (h : x_V S 3 26 L (.ref 0 :: st) μ n Q) : x_V S 3 23 L (st) μ n Q := x_gets d3_23 w300 h
theorem s3_26 {S : Nat × (Nat → Int32)} {L : List (Option Value)} {st : List Value} {n : Nat} {Q : xQ} {μ : xM} {x : Int32} (hl : L[2]? = some (some (.int x))) (h : x_V S 3 27 L (.int x :: st) μ n Q) : x_V S 3 26 L (st) μ n Q := x_iload_n d3_26 hl h
theorem s3_27 {S : Nat × (Nat → Int32)} {L : List (Option Value)} {st : List Value} {n : Nat} {Q : xQ} {μ : xM}  (h : x_V S 3 28 L (.int (I 2) :: st) μ n Q) : x_V S 3 27 L (st) μ n Q := x_iconst (by decide +kernel) d3_27 h
theorem s3_28 {S : Nat × (Nat → Int32)} {L : List (Option Value)} {st : List Value} {n : Nat} {Q : xQ} {μ : xM} {x y : Int} (h : x_V S 3 29 L (.int (I (x + y)) :: st) μ n Q) : x_V S 3 28 L (.int (I y) :: .int (I x) :: st) μ n Q := v_iadd d3_28 h
theorem s3_29 {S : Nat × (Nat → Int32)} {L : List (Option Value)} {st : List Value} {n : Nat} {Q : xQ} {μ : xM} {x : Int32} (hl : L[1]? = some (some (.int x))) (h : x_V S 3 30 L (.int x :: st) μ n Q) : x_V S 3 29 L (st) μ n Q := x_iload_n d3_29 hl h
theorem s3_30 {S : Nat × (Nat → Int32)} {L : List (Option Value)} {st : List Value} {n : Nat} {Q : xQ} {μ : xM} {x y : Int} (h : x_V S 3 31 L (.int (I (x + y)) :: st) μ n Q) : x_V S 3 30 L (.int (I y) :: .int (I x) :: st) μ n Q := v_iadd d3_30 h
theorem s3_32 {S : Nat × (Nat → Int32)} {L : List (Option Value)} {st : List Value} {n : Nat} {Q : xQ} {μ : xM} {x : Int32} (h : Q (.inl (some (.int x))) μ n) : x_V S 3 32 L (.int x :: []) μ n Q := x_ireturn d3_32 rfl rfl h
theorem mC_4 : mC 4 = prog_4_method_5_code := rfl
theorem d4_0 : decode (mC 4) 0 = .ok (.iconst 0, 1) := by rw [mC_4]; decide +kernel
theorem d4_1 : decode (mC 4) 1 = .ok (.istore_n 1, 1) := by rw [mC_4]; decide +kernel
theorem d4_2 : decode (mC 4) 2 = .ok (.iload_n 1, 1) := by rw [mC_4]; decide +kernel
theorem d4_3 : decode (mC 4) 3 = .ok (.getstatic 15, 3) := by rw [mC_4]; decide +kernel
theorem d4_6 : decode (mC 4) 6 = .ok (.arraylength, 1) := by rw [mC_4]; decide +kernel
theorem d4_7 : decode (mC 4) 7 = .ok (.if_icmp .ge 20, 3) := by rw [mC_4]; decide +kernel
theorem d4_10 : decode (mC 4) 10 = .ok (.getstatic 15, 3) := by rw [mC_4]; decide +kernel
theorem d4_13 : decode (mC 4) 13 = .ok (.iload_n 1, 1) := by rw [mC_4]; decide +kernel
theorem d4_14 : decode (mC 4) 14 = .ok (.iaload, 1) := by rw [mC_4]; decide +kernel
theorem d4_15 : decode (mC 4) 15 = .ok (.iload_n 0, 1) := by rw [mC_4]; decide +kernel
theorem d4_16 : decode (mC 4) 16 = .ok (.if_icmp .ne 5, 3) := by rw [mC_4]; decide +kernel
theorem d4_19 : decode (mC 4) 19 = .ok (.iload_n 1, 1) := by rw [mC_4]; decide +kernel
theorem d4_20 : decode (mC 4) 20 = .ok (.ireturn, 1) := by rw [mC_4]; decide +kernel
theorem d4_21 : decode (mC 4) 21 = .ok (.iinc 1 6, 3) := by rw [mC_4]; decide +kernel
theorem d4_24 : decode (mC 4) 24 = .ok (.goto (-22), 3) := by rw [mC_4]; decide +kernel
theorem d4_27 : decode (mC 4) 27 = .ok (.iconst (-1), 1) := by rw [mC_4]; decide +kernel
theorem d4_28 : decode (mC 4) 28 = .ok (.ireturn, 1) := by rw [mC_4]; decide +kernel
theorem s4_0 {S : Nat × (Nat → Int32)} {L : List (Option Value)} {st : List Value} {n : Nat} {Q : xQ} {μ : xM}  (h : x_V S 4 1 L (.int (I 0) :: st) μ n Q) : x_V S 4 0 L (st) μ n Q := x_iconst (by decide +kernel) d4_0 h
theorem s4_1 {S : Nat × (Nat → Int32)} {L : List (Option Value)} {st : List Value} {n : Nat} {Q : xQ} {μ : xM} {x : Int32} (h : x_V S 4 2 (L.set 1 (some (.int x))) (st) μ n Q) : x_V S 4 1 L (.int x :: st) μ n Q := x_istore_n d4_1 (by decide) h
theorem s4_2 {S : Nat × (Nat → Int32)} {L : List (Option Value)} {st : List Value} {n : Nat} {Q : xQ} {μ : xM} {x : Int32} (hl : L[1]? = some (some (.int x))) (h : x_V S 4 3 L (.int x :: st) μ n Q) : x_V S 4 2 L (st) μ n Q := x_iload_n d4_2 hl h
theorem s4_3 {S : Nat × (Nat → Int32)} {L : List (Option Value)} {st : List Value} {n : Nat} {Q : xQ} {μ : xM}  (h : x_V S 4 6 L (.ref 0 :: st) μ n Q) : x_V S 4 3 L (st) μ n Q := x_gets d4_3 w300 h
theorem s4_7 {S : Nat × (Nat → Int32)} {L : List (Option Value)} {st : List Value} {n : Nat} {Q : xQ} {μ : xM} {x y : Int} (hx : ib x) (hy : ib y) (kt : y ≤ x → x_V S 4 27 L (st) μ n Q) (kf : x < y → x_V S 4 10 L (st) μ n Q) : x_V S 4 7 L (.int (I y) :: .int (I x) :: st) μ n Q := v_icmp_ge d4_7 (by decide) hx hy kt kf
theorem s4_10 {S : Nat × (Nat → Int32)} {L : List (Option Value)} {st : List Value} {n : Nat} {Q : xQ} {μ : xM}  (h : x_V S 4 13 L (.ref 0 :: st) μ n Q) : x_V S 4 10 L (st) μ n Q := x_gets d4_10 w300 h
theorem s4_13 {S : Nat × (Nat → Int32)} {L : List (Option Value)} {st : List Value} {n : Nat} {Q : xQ} {μ : xM} {x : Int32} (hl : L[1]? = some (some (.int x))) (h : x_V S 4 14 L (.int x :: st) μ n Q) : x_V S 4 13 L (st) μ n Q := x_iload_n d4_13 hl h
theorem s4_15 {S : Nat × (Nat → Int32)} {L : List (Option Value)} {st : List Value} {n : Nat} {Q : xQ} {μ : xM} {x : Int32} (hl : L[0]? = some (some (.int x))) (h : x_V S 4 16 L (.int x :: st) μ n Q) : x_V S 4 15 L (st) μ n Q := x_iload_n d4_15 hl h
theorem s4_16 {S : Nat × (Nat → Int32)} {L : List (Option Value)} {st : List Value} {n : Nat} {Q : xQ} {μ : xM} {x y : Int} (hx : ib x) (hy : ib y) (kt : x ≠ y → x_V S 4 21 L (st) μ n Q) (kf : x = y → x_V S 4 19 L (st) μ n Q) : x_V S 4 16 L (.int (I y) :: .int (I x) :: st) μ n Q := v_icmp_ne d4_16 (by decide) hx hy kt kf
theorem s4_19 {S : Nat × (Nat → Int32)} {L : List (Option Value)} {st : List Value} {n : Nat} {Q : xQ} {μ : xM} {x : Int32} (hl : L[1]? = some (some (.int x))) (h : x_V S 4 20 L (.int x :: st) μ n Q) : x_V S 4 19 L (st) μ n Q := x_iload_n d4_19 hl h
theorem s4_20 {S : Nat × (Nat → Int32)} {L : List (Option Value)} {st : List Value} {n : Nat} {Q : xQ} {μ : xM} {x : Int32} (h : Q (.inl (some (.int x))) μ n) : x_V S 4 20 L (.int x :: []) μ n Q := x_ireturn d4_20 rfl rfl h
theorem s4_21 {S : Nat × (Nat → Int32)} {L : List (Option Value)} {st : List Value} {n : Nat} {Q : xQ} {μ : xM} {x : Int} (hl : L[1]? = some (some (.int (I x)))) (h : x_V S 4 24 (L.set 1 (some (.int (I (x + 6))))) (st) μ n Q) : x_V S 4 21 L (st) μ n Q := v_iinc d4_21 hl (by decide) h
theorem s4_24 {S : Nat × (Nat → Int32)} {L : List (Option Value)} {st : List Value} {n : Nat} {Q : xQ} {μ : xM}  (h : x_V S 4 2 L (st) μ n Q) : x_V S 4 24 L (st) μ n Q := x_goto (tgt := 2) (by decide) d4_24 h
theorem s4_27 {S : Nat × (Nat → Int32)} {L : List (Option Value)} {st : List Value} {n : Nat} {Q : xQ} {μ : xM}  (h : x_V S 4 28 L (.int (I (-1)) :: st) μ n Q) : x_V S 4 27 L (st) μ n Q := x_iconst (by decide +kernel) d4_27 h
theorem s4_28 {S : Nat × (Nat → Int32)} {L : List (Option Value)} {st : List Value} {n : Nat} {Q : xQ} {μ : xM} {x : Int32} (h : Q (.inl (some (.int x))) μ n) : x_V S 4 28 L (.int x :: []) μ n Q := x_ireturn d4_28 rfl rfl h
theorem mC_5 : mC 5 = prog_8_method_1_code := rfl
theorem d5_0 : decode (mC 5) 0 = .ok (.aload_n 0, 1) := by rw [mC_5]; decide +kernel
theorem d5_1 : decode (mC 5) 1 = .ok (.invokespecial 3, 3) := by rw [mC_5]; decide +kernel
theorem d5_4 : decode (mC 5) 4 = .ok (.aload_n 0, 1) := by rw [mC_5]; decide +kernel
theorem d5_5 : decode (mC 5) 5 = .ok (.bipush 120, 2) := by rw [mC_5]; decide +kernel
theorem d5_7 : decode (mC 5) 7 = .ok (.newarray .int, 2) := by rw [mC_5]; decide +kernel
theorem d5_9 : decode (mC 5) 9 = .ok (.putfield 11, 3) := by rw [mC_5]; decide +kernel
theorem d5_12 : decode (mC 5) 12 = .ok (.return_, 1) := by rw [mC_5]; decide +kernel
theorem s5_0 {S : Nat × (Nat → Int32)} {L : List (Option Value)} {st : List Value} {n : Nat} {Q : xQ} {μ : xM} {a : Nat} (hl : L[0]? = some (some (.ref a))) (h : x_V S 5 1 L (.ref a :: st) μ n Q) : x_V S 5 0 L (st) μ n Q := x_aload_n d5_0 hl h
theorem s5_0N {S : Nat × (Nat → Int32)} {L : List (Option Value)} {st : List Value} {n : Nat} {Q : xQ} {μ : xM} (hl : L[0]? = some (some .null)) (h : x_V S 5 1 L (.null :: st) μ n Q) : x_V S 5 0 L st μ n Q := x_aload_nN d5_0 hl h
theorem s5_1 {S : Nat × (Nat → Int32)} {L : List (Option Value)} {st : List Value} {n : Nat} {Q : xQ} {μ : xM} {a : Nat} (hst : st.length ≤ 4) (h : x_V S 5 4 L (st) μ n Q) : x_V S 5 1 L (.ref a :: st) μ n Q := x_objInit d5_1 w39 w26 w27 ⟨by decide, by decide⟩ hst h
theorem s5_4 {S : Nat × (Nat → Int32)} {L : List (Option Value)} {st : List Value} {n : Nat} {Q : xQ} {μ : xM} {a : Nat} (hl : L[0]? = some (some (.ref a))) (h : x_V S 5 5 L (.ref a :: st) μ n Q) : x_V S 5 4 L (st) μ n Q := x_aload_n d5_4 hl h
theorem s5_4N {S : Nat × (Nat → Int32)} {L : List (Option Value)} {st : List Value} {n : Nat} {Q : xQ} {μ : xM} (hl : L[0]? = some (some .null)) (h : x_V S 5 5 L (.null :: st) μ n Q) : x_V S 5 4 L st μ n Q := x_aload_nN d5_4 hl h
theorem s5_5 {S : Nat × (Nat → Int32)} {L : List (Option Value)} {st : List Value} {n : Nat} {Q : xQ} {μ : xM}  (h : x_V S 5 7 L (.int (I 120) :: st) μ n Q) : x_V S 5 5 L (st) μ n Q := x_bipush (by decide +kernel) d5_5 h
theorem s5_7 {S : Nat × (Nat → Int32)} {L : List (Option Value)} {st : List Value} {n : Nat} {Q : xQ} {μ : xM} {N : Nat} {i : Int32} (hs : x_sh n = (100, N)) (hi : ¬ i < 0) (hN : i.toNatClampNeg = N) (hb : N ≤ 8000) (hn : n < x_NM) (h : x_V S 5 9 L (.ref n :: st) (x_nw μ n (fun _ => defaultValue (x_ty 100))) (n + 1) Q) : x_V S 5 7 L (.int i :: st) μ n Q := x_newa (kd := 100) d5_7 w50 rfl (by decide) hs hi hN (Nat.le_trans (Nat.mul_le_mul_right _ hb) (by decide)) hn h
theorem s5_9 {S : Nat × (Nat → Int32)} {L : List (Option Value)} {st : List Value} {n : Nat} {Q : xQ} {μ : xM} {a b : Nat} (hs : x_sh a = (2, 2)) (h : x_V S 5 12 L (st) (x_up μ a 0 (.ref b)) n Q) : x_V S 5 9 L (.ref b :: .ref a :: st) μ n Q := x_putF (i := 0) cf2 d5_9 (by decide) rfl rfl rfl w40 hs (fun _ => ⟨rfl, rfl⟩) h
theorem s5_12 {S : Nat × (Nat → Int32)} {L : List (Option Value)} {st : List Value} {n : Nat} {Q : xQ} {μ : xM}  (h : Q (.inl none) μ n) : x_V S 5 12 L ([]) μ n Q := x_return d5_12 rfl h
theorem mC_6 : mC 6 = prog_8_method_2_code := rfl
theorem d6_0 : decode (mC 6) 0 = .ok (.aload_n 0, 1) := by rw [mC_6]; decide +kernel
theorem d6_1 : decode (mC 6) 1 = .ok (.iconst 0, 1) := by rw [mC_6]; decide +kernel
theorem d6_2 : decode (mC 6) 2 = .ok (.putfield 15, 3) := by rw [mC_6]; decide +kernel
theorem d6_5 : decode (mC 6) 5 = .ok (.return_, 1) := by rw [mC_6]; decide +kernel
theorem s6_0 {S : Nat × (Nat → Int32)} {L : List (Option Value)} {st : List Value} {n : Nat} {Q : xQ} {μ : xM} {a : Nat} (hl : L[0]? = some (some (.ref a))) (h : x_V S 6 1 L (.ref a :: st) μ n Q) : x_V S 6 0 L (st) μ n Q := x_aload_n d6_0 hl h
theorem s6_0N {S : Nat × (Nat → Int32)} {L : List (Option Value)} {st : List Value} {n : Nat} {Q : xQ} {μ : xM} (hl : L[0]? = some (some .null)) (h : x_V S 6 1 L (.null :: st) μ n Q) : x_V S 6 0 L st μ n Q := x_aload_nN d6_0 hl h
theorem s6_1 {S : Nat × (Nat → Int32)} {L : List (Option Value)} {st : List Value} {n : Nat} {Q : xQ} {μ : xM}  (h : x_V S 6 2 L (.int (I 0) :: st) μ n Q) : x_V S 6 1 L (st) μ n Q := x_iconst (by decide +kernel) d6_1 h
theorem s6_2 {S : Nat × (Nat → Int32)} {L : List (Option Value)} {st : List Value} {n : Nat} {Q : xQ} {g : Nat → Nat → Int} {a : Nat} {x : Int} (hs : x_sh a = (2, 2)) (hp : x_pt a 1 = none) (ha : a ≠ x_out) (h : x_V S 6 5 L (st) (x_vm (x_uf g a 1 x)) n Q) : x_V S 6 2 L (.int (I x) :: .ref a :: st) (x_vm g) n Q := v_put (i := 1) cf2 d6_2 (by decide) rfl w41 hs rfl hp ha h
theorem s6_5 {S : Nat × (Nat → Int32)} {L : List (Option Value)} {st : List Value} {n : Nat} {Q : xQ} {μ : xM}  (h : Q (.inl none) μ n) : x_V S 6 5 L ([]) μ n Q := x_return d6_5 rfl h
theorem mC_7 : mC 7 = prog_8_method_3_code := rfl
theorem d7_0 : decode (mC 7) 0 = .ok (.aload_n 0, 1) := by rw [mC_7]; decide +kernel
theorem d7_1 : decode (mC 7) 1 = .ok (.getfield 15, 3) := by rw [mC_7]; decide +kernel
theorem d7_4 : decode (mC 7) 4 = .ok (.bipush 120, 2) := by rw [mC_7]; decide +kernel
theorem d7_6 : decode (mC 7) 6 = .ok (.if_icmp .lt 7, 3) := by rw [mC_7]; decide +kernel
theorem d7_9 : decode (mC 7) 9 = .ok (.iconst 1, 1) := by rw [mC_7]; decide +kernel
theorem d7_10 : decode (mC 7) 10 = .ok (.goto 4, 3) := by rw [mC_7]; decide +kernel
theorem d7_13 : decode (mC 7) 13 = .ok (.iconst 0, 1) := by rw [mC_7]; decide +kernel
theorem d7_14 : decode (mC 7) 14 = .ok (.ireturn, 1) := by rw [mC_7]; decide +kernel
theorem s7_0 {S : Nat × (Nat → Int32)} {L : List (Option Value)} {st : List Value} {n : Nat} {Q : xQ} {μ : xM} {a : Nat} (hl : L[0]? = some (some (.ref a))) (h : x_V S 7 1 L (.ref a :: st) μ n Q) : x_V S 7 0 L (st) μ n Q := x_aload_n d7_0 hl h
theorem s7_0N {S : Nat × (Nat → Int32)} {L : List (Option Value)} {st : List Value} {n : Nat} {Q : xQ} {μ : xM} (hl : L[0]? = some (some .null)) (h : x_V S 7 1 L (.null :: st) μ n Q) : x_V S 7 0 L st μ n Q := x_aload_nN d7_0 hl h
theorem s7_1 {S : Nat × (Nat → Int32)} {L : List (Option Value)} {st : List Value} {n : Nat} {Q : xQ} {g : Nat → Nat → Int} {a : Nat} (hs : x_sh a = (2, 2)) (hp : x_pt a 1 = none) (ha : a ≠ x_out) (h : x_V S 7 4 L (.int (I (g a 1)) :: st) (x_vm g) n Q) : x_V S 7 1 L (.ref a :: st) (x_vm g) n Q := v_get (i := 1) cf2 d7_1 (by decide) w41 hs hp ha h
theorem s7_4 {S : Nat × (Nat → Int32)} {L : List (Option Value)} {st : List Value} {n : Nat} {Q : xQ} {μ : xM}  (h : x_V S 7 6 L (.int (I 120) :: st) μ n Q) : x_V S 7 4 L (st) μ n Q := x_bipush (by decide +kernel) d7_4 h
theorem s7_6 {S : Nat × (Nat → Int32)} {L : List (Option Value)} {st : List Value} {n : Nat} {Q : xQ} {μ : xM} {x y : Int} (hx : ib x) (hy : ib y) (kt : x < y → x_V S 7 13 L (st) μ n Q) (kf : y ≤ x → x_V S 7 9 L (st) μ n Q) : x_V S 7 6 L (.int (I y) :: .int (I x) :: st) μ n Q := v_icmp_lt d7_6 (by decide) hx hy kt kf
theorem s7_9 {S : Nat × (Nat → Int32)} {L : List (Option Value)} {st : List Value} {n : Nat} {Q : xQ} {μ : xM}  (h : x_V S 7 10 L (.int (I 1) :: st) μ n Q) : x_V S 7 9 L (st) μ n Q := x_iconst (by decide +kernel) d7_9 h
theorem s7_10 {S : Nat × (Nat → Int32)} {L : List (Option Value)} {st : List Value} {n : Nat} {Q : xQ} {μ : xM}  (h : x_V S 7 14 L (st) μ n Q) : x_V S 7 10 L (st) μ n Q := x_goto (tgt := 14) (by decide) d7_10 h
theorem s7_13 {S : Nat × (Nat → Int32)} {L : List (Option Value)} {st : List Value} {n : Nat} {Q : xQ} {μ : xM}  (h : x_V S 7 14 L (.int (I 0) :: st) μ n Q) : x_V S 7 13 L (st) μ n Q := x_iconst (by decide +kernel) d7_13 h
theorem s7_14 {S : Nat × (Nat → Int32)} {L : List (Option Value)} {st : List Value} {n : Nat} {Q : xQ} {μ : xM} {v : Int} (hv : v = 0 ∨ v = 1) (h : Q (.inl (some (.int (I v)))) μ n) : x_V S 7 14 L (.int (I v) :: []) μ n Q := v_zreturn d7_14 rfl hv h
theorem mC_8 : mC 8 = prog_8_method_4_code := rfl
theorem d8_0 : decode (mC 8) 0 = .ok (.iload_n 1, 1) := by rw [mC_8]; decide +kernel
theorem d8_1 : decode (mC 8) 1 = .ok (.ifCond .lt 15, 3) := by rw [mC_8]; decide +kernel
theorem d8_4 : decode (mC 8) 4 = .ok (.iload_n 1, 1) := by rw [mC_8]; decide +kernel
theorem d8_5 : decode (mC 8) 5 = .ok (.aload_n 0, 1) := by rw [mC_8]; decide +kernel
theorem d8_6 : decode (mC 8) 6 = .ok (.getfield 15, 3) := by rw [mC_8]; decide +kernel
theorem d8_9 : decode (mC 8) 9 = .ok (.if_icmp .ge 7, 3) := by rw [mC_8]; decide +kernel
theorem d8_12 : decode (mC 8) 12 = .ok (.iconst 1, 1) := by rw [mC_8]; decide +kernel
theorem d8_13 : decode (mC 8) 13 = .ok (.goto 4, 3) := by rw [mC_8]; decide +kernel
theorem d8_16 : decode (mC 8) 16 = .ok (.iconst 0, 1) := by rw [mC_8]; decide +kernel
theorem d8_17 : decode (mC 8) 17 = .ok (.ireturn, 1) := by rw [mC_8]; decide +kernel
theorem s8_0 {S : Nat × (Nat → Int32)} {L : List (Option Value)} {st : List Value} {n : Nat} {Q : xQ} {μ : xM} {x : Int32} (hl : L[1]? = some (some (.int x))) (h : x_V S 8 1 L (.int x :: st) μ n Q) : x_V S 8 0 L (st) μ n Q := x_iload_n d8_0 hl h
theorem s8_1 {S : Nat × (Nat → Int32)} {L : List (Option Value)} {st : List Value} {n : Nat} {Q : xQ} {μ : xM} {x : Int} (hx : ib x) (kt : x < 0 → x_V S 8 16 L (st) μ n Q) (kf : 0 ≤ x → x_V S 8 4 L (st) μ n Q) : x_V S 8 1 L (.int (I x) :: st) μ n Q := v_if_lt d8_1 (by decide) hx kt kf
theorem s8_4 {S : Nat × (Nat → Int32)} {L : List (Option Value)} {st : List Value} {n : Nat} {Q : xQ} {μ : xM} {x : Int32} (hl : L[1]? = some (some (.int x))) (h : x_V S 8 5 L (.int x :: st) μ n Q) : x_V S 8 4 L (st) μ n Q := x_iload_n d8_4 hl h
theorem s8_5 {S : Nat × (Nat → Int32)} {L : List (Option Value)} {st : List Value} {n : Nat} {Q : xQ} {μ : xM} {a : Nat} (hl : L[0]? = some (some (.ref a))) (h : x_V S 8 6 L (.ref a :: st) μ n Q) : x_V S 8 5 L (st) μ n Q := x_aload_n d8_5 hl h
theorem s8_5N {S : Nat × (Nat → Int32)} {L : List (Option Value)} {st : List Value} {n : Nat} {Q : xQ} {μ : xM} (hl : L[0]? = some (some .null)) (h : x_V S 8 6 L (.null :: st) μ n Q) : x_V S 8 5 L st μ n Q := x_aload_nN d8_5 hl h
theorem s8_6 {S : Nat × (Nat → Int32)} {L : List (Option Value)} {st : List Value} {n : Nat} {Q : xQ} {g : Nat → Nat → Int} {a : Nat} (hs : x_sh a = (2, 2)) (hp : x_pt a 1 = none) (ha : a ≠ x_out) (h : x_V S 8 9 L (.int (I (g a 1)) :: st) (x_vm g) n Q) : x_V S 8 6 L (.ref a :: st) (x_vm g) n Q := v_get (i := 1) cf2 d8_6 (by decide) w41 hs hp ha h
theorem s8_9 {S : Nat × (Nat → Int32)} {L : List (Option Value)} {st : List Value} {n : Nat} {Q : xQ} {μ : xM} {x y : Int} (hx : ib x) (hy : ib y) (kt : y ≤ x → x_V S 8 16 L (st) μ n Q) (kf : x < y → x_V S 8 12 L (st) μ n Q) : x_V S 8 9 L (.int (I y) :: .int (I x) :: st) μ n Q := v_icmp_ge d8_9 (by decide) hx hy kt kf
theorem s8_12 {S : Nat × (Nat → Int32)} {L : List (Option Value)} {st : List Value} {n : Nat} {Q : xQ} {μ : xM}  (h : x_V S 8 13 L (.int (I 1) :: st) μ n Q) : x_V S 8 12 L (st) μ n Q := x_iconst (by decide +kernel) d8_12 h
theorem s8_13 {S : Nat × (Nat → Int32)} {L : List (Option Value)} {st : List Value} {n : Nat} {Q : xQ} {μ : xM}  (h : x_V S 8 17 L (st) μ n Q) : x_V S 8 13 L (st) μ n Q := x_goto (tgt := 17) (by decide) d8_13 h
theorem s8_16 {S : Nat × (Nat → Int32)} {L : List (Option Value)} {st : List Value} {n : Nat} {Q : xQ} {μ : xM}  (h : x_V S 8 17 L (.int (I 0) :: st) μ n Q) : x_V S 8 16 L (st) μ n Q := x_iconst (by decide +kernel) d8_16 h
theorem s8_17 {S : Nat × (Nat → Int32)} {L : List (Option Value)} {st : List Value} {n : Nat} {Q : xQ} {μ : xM} {v : Int} (hv : v = 0 ∨ v = 1) (h : Q (.inl (some (.int (I v)))) μ n) : x_V S 8 17 L (.int (I v) :: []) μ n Q := v_zreturn d8_17 rfl hv h
theorem mC_9 : mC 9 = prog_8_method_5_code := rfl
theorem d9_0 : decode (mC 9) 0 = .ok (.iload_n 1, 1) := by rw [mC_9]; decide +kernel
theorem d9_1 : decode (mC 9) 1 = .ok (.ifCond .lt 20, 3) := by rw [mC_9]; decide +kernel
theorem d9_4 : decode (mC 9) 4 = .ok (.iload_n 1, 1) := by rw [mC_9]; decide +kernel
theorem d9_5 : decode (mC 9) 5 = .ok (.aload_n 0, 1) := by rw [mC_9]; decide +kernel
theorem d9_6 : decode (mC 9) 6 = .ok (.getfield 15, 3) := by rw [mC_9]; decide +kernel
theorem d9_9 : decode (mC 9) 9 = .ok (.if_icmp .ge 12, 3) := by rw [mC_9]; decide +kernel
theorem d9_12 : decode (mC 9) 12 = .ok (.aload_n 0, 1) := by rw [mC_9]; decide +kernel
theorem d9_13 : decode (mC 9) 13 = .ok (.getfield 11, 3) := by rw [mC_9]; decide +kernel
theorem d9_16 : decode (mC 9) 16 = .ok (.iload_n 1, 1) := by rw [mC_9]; decide +kernel
theorem d9_17 : decode (mC 9) 17 = .ok (.iaload, 1) := by rw [mC_9]; decide +kernel
theorem d9_18 : decode (mC 9) 18 = .ok (.goto 4, 3) := by rw [mC_9]; decide +kernel
theorem d9_21 : decode (mC 9) 21 = .ok (.iconst (-1), 1) := by rw [mC_9]; decide +kernel
theorem d9_22 : decode (mC 9) 22 = .ok (.ireturn, 1) := by rw [mC_9]; decide +kernel
theorem s9_0 {S : Nat × (Nat → Int32)} {L : List (Option Value)} {st : List Value} {n : Nat} {Q : xQ} {μ : xM} {x : Int32} (hl : L[1]? = some (some (.int x))) (h : x_V S 9 1 L (.int x :: st) μ n Q) : x_V S 9 0 L (st) μ n Q := x_iload_n d9_0 hl h
theorem s9_1 {S : Nat × (Nat → Int32)} {L : List (Option Value)} {st : List Value} {n : Nat} {Q : xQ} {μ : xM} {x : Int} (hx : ib x) (kt : x < 0 → x_V S 9 21 L (st) μ n Q) (kf : 0 ≤ x → x_V S 9 4 L (st) μ n Q) : x_V S 9 1 L (.int (I x) :: st) μ n Q := v_if_lt d9_1 (by decide) hx kt kf
theorem s9_4 {S : Nat × (Nat → Int32)} {L : List (Option Value)} {st : List Value} {n : Nat} {Q : xQ} {μ : xM} {x : Int32} (hl : L[1]? = some (some (.int x))) (h : x_V S 9 5 L (.int x :: st) μ n Q) : x_V S 9 4 L (st) μ n Q := x_iload_n d9_4 hl h
theorem s9_5 {S : Nat × (Nat → Int32)} {L : List (Option Value)} {st : List Value} {n : Nat} {Q : xQ} {μ : xM} {a : Nat} (hl : L[0]? = some (some (.ref a))) (h : x_V S 9 6 L (.ref a :: st) μ n Q) : x_V S 9 5 L (st) μ n Q := x_aload_n d9_5 hl h
theorem s9_5N {S : Nat × (Nat → Int32)} {L : List (Option Value)} {st : List Value} {n : Nat} {Q : xQ} {μ : xM} (hl : L[0]? = some (some .null)) (h : x_V S 9 6 L (.null :: st) μ n Q) : x_V S 9 5 L st μ n Q := x_aload_nN d9_5 hl h
theorem s9_6 {S : Nat × (Nat → Int32)} {L : List (Option Value)} {st : List Value} {n : Nat} {Q : xQ} {g : Nat → Nat → Int} {a : Nat} (hs : x_sh a = (2, 2)) (hp : x_pt a 1 = none) (ha : a ≠ x_out) (h : x_V S 9 9 L (.int (I (g a 1)) :: st) (x_vm g) n Q) : x_V S 9 6 L (.ref a :: st) (x_vm g) n Q := v_get (i := 1) cf2 d9_6 (by decide) w41 hs hp ha h
theorem s9_9 {S : Nat × (Nat → Int32)} {L : List (Option Value)} {st : List Value} {n : Nat} {Q : xQ} {μ : xM} {x y : Int} (hx : ib x) (hy : ib y) (kt : y ≤ x → x_V S 9 21 L (st) μ n Q) (kf : x < y → x_V S 9 12 L (st) μ n Q) : x_V S 9 9 L (.int (I y) :: .int (I x) :: st) μ n Q := v_icmp_ge d9_9 (by decide) hx hy kt kf
theorem s9_12 {S : Nat × (Nat → Int32)} {L : List (Option Value)} {st : List Value} {n : Nat} {Q : xQ} {μ : xM} {a : Nat} (hl : L[0]? = some (some (.ref a))) (h : x_V S 9 13 L (.ref a :: st) μ n Q) : x_V S 9 12 L (st) μ n Q := x_aload_n d9_12 hl h
theorem s9_12N {S : Nat × (Nat → Int32)} {L : List (Option Value)} {st : List Value} {n : Nat} {Q : xQ} {μ : xM} (hl : L[0]? = some (some .null)) (h : x_V S 9 13 L (.null :: st) μ n Q) : x_V S 9 12 L st μ n Q := x_aload_nN d9_12 hl h
theorem s9_13 {S : Nat × (Nat → Int32)} {L : List (Option Value)} {st : List Value} {n : Nat} {Q : xQ} {g : Nat → Nat → Int} {a : Nat} {v : Value} (hs : x_sh a = (2, 2)) (hp : x_pt a 0 = some v) (h : x_V S 9 16 L (v :: st) (x_vm g) n Q) : x_V S 9 13 L (.ref a :: st) (x_vm g) n Q := v_getp (i := 0) cf2 d9_13 (by decide) w40 hs hp h
theorem s9_16 {S : Nat × (Nat → Int32)} {L : List (Option Value)} {st : List Value} {n : Nat} {Q : xQ} {μ : xM} {x : Int32} (hl : L[1]? = some (some (.int x))) (h : x_V S 9 17 L (.int x :: st) μ n Q) : x_V S 9 16 L (st) μ n Q := x_iload_n d9_16 hl h
theorem s9_18 {S : Nat × (Nat → Int32)} {L : List (Option Value)} {st : List Value} {n : Nat} {Q : xQ} {μ : xM}  (h : x_V S 9 22 L (st) μ n Q) : x_V S 9 18 L (st) μ n Q := x_goto (tgt := 22) (by decide) d9_18 h
theorem s9_21 {S : Nat × (Nat → Int32)} {L : List (Option Value)} {st : List Value} {n : Nat} {Q : xQ} {μ : xM}  (h : x_V S 9 22 L (.int (I (-1)) :: st) μ n Q) : x_V S 9 21 L (st) μ n Q := x_iconst (by decide +kernel) d9_21 h
theorem s9_22 {S : Nat × (Nat → Int32)} {L : List (Option Value)} {st : List Value} {n : Nat} {Q : xQ} {μ : xM} {x : Int32} (h : Q (.inl (some (.int x))) μ n) : x_V S 9 22 L (.int x :: []) μ n Q := x_ireturn d9_22 rfl rfl h
theorem mC_10 : mC 10 = prog_8_method_6_code := rfl
theorem d10_0 : decode (mC 10) 0 = .ok (.aload_n 0, 1) := by rw [mC_10]; decide +kernel
theorem d10_1 : decode (mC 10) 1 = .ok (.iload_n 1, 1) := by rw [mC_10]; decide +kernel
theorem d10_2 : decode (mC 10) 2 = .ok (.invokevirtual 19, 3) := by rw [mC_10]; decide +kernel
theorem d10_5 : decode (mC 10) 5 = .ok (.ifCond .eq 10, 3) := by rw [mC_10]; decide +kernel
theorem d10_8 : decode (mC 10) 8 = .ok (.aload_n 0, 1) := by rw [mC_10]; decide +kernel
theorem d10_9 : decode (mC 10) 9 = .ok (.getfield 11, 3) := by rw [mC_10]; decide +kernel
theorem d10_12 : decode (mC 10) 12 = .ok (.iload_n 1, 1) := by rw [mC_10]; decide +kernel
theorem d10_13 : decode (mC 10) 13 = .ok (.iload_n 2, 1) := by rw [mC_10]; decide +kernel
theorem d10_14 : decode (mC 10) 14 = .ok (.iastore, 1) := by rw [mC_10]; decide +kernel
theorem d10_15 : decode (mC 10) 15 = .ok (.return_, 1) := by rw [mC_10]; decide +kernel
theorem s10_0 {S : Nat × (Nat → Int32)} {L : List (Option Value)} {st : List Value} {n : Nat} {Q : xQ} {μ : xM} {a : Nat} (hl : L[0]? = some (some (.ref a))) (h : x_V S 10 1 L (.ref a :: st) μ n Q) : x_V S 10 0 L (st) μ n Q := x_aload_n d10_0 hl h
theorem s10_0N {S : Nat × (Nat → Int32)} {L : List (Option Value)} {st : List Value} {n : Nat} {Q : xQ} {μ : xM} (hl : L[0]? = some (some .null)) (h : x_V S 10 1 L (.null :: st) μ n Q) : x_V S 10 0 L st μ n Q := x_aload_nN d10_0 hl h
theorem s10_1 {S : Nat × (Nat → Int32)} {L : List (Option Value)} {st : List Value} {n : Nat} {Q : xQ} {μ : xM} {x : Int32} (hl : L[1]? = some (some (.int x))) (h : x_V S 10 2 L (.int x :: st) μ n Q) : x_V S 10 1 L (st) μ n Q := x_iload_n d10_1 hl h
theorem s10_2 {S : Nat × (Nat → Int32)} {L : List (Option Value)} {st : List Value} {n : Nat} {Q : xQ} {μ : xM} {x0 : Int32} {a : Nat} (hs : x_sh a = (2, 2)) (hst : st.length ≤ 4) (h : x_V S 8 0 [some (.ref a), some (.int x0)] [] μ n (x_bk S 10 2 L st Q)) : x_V S 10 2 L (.int x0 :: .ref a :: st) μ n Q := x_callV (k' := 8) (as := [.int x0]) (na := 1) d10_2 ⟨w418, by decide +kernel, by decide, by decide, by decide, by decide, by decide⟩ cf2 w415 w416 w417 (by decide +kernel) rfl hs (fun v hv => by
    simp only [List.mem_cons, List.not_mem_nil, or_false] at hv
    rcases hv with rfl <;> first | rfl | assumption) hst h
theorem s10_5 {S : Nat × (Nat → Int32)} {L : List (Option Value)} {st : List Value} {n : Nat} {Q : xQ} {μ : xM} {x : Int} (hx : ib x) (kt : x = 0 → x_V S 10 15 L (st) μ n Q) (kf : x ≠ 0 → x_V S 10 8 L (st) μ n Q) : x_V S 10 5 L (.int (I x) :: st) μ n Q := v_if_eq d10_5 (by decide) hx kt kf
theorem s10_8 {S : Nat × (Nat → Int32)} {L : List (Option Value)} {st : List Value} {n : Nat} {Q : xQ} {μ : xM} {a : Nat} (hl : L[0]? = some (some (.ref a))) (h : x_V S 10 9 L (.ref a :: st) μ n Q) : x_V S 10 8 L (st) μ n Q := x_aload_n d10_8 hl h
theorem s10_8N {S : Nat × (Nat → Int32)} {L : List (Option Value)} {st : List Value} {n : Nat} {Q : xQ} {μ : xM} (hl : L[0]? = some (some .null)) (h : x_V S 10 9 L (.null :: st) μ n Q) : x_V S 10 8 L st μ n Q := x_aload_nN d10_8 hl h
theorem s10_9 {S : Nat × (Nat → Int32)} {L : List (Option Value)} {st : List Value} {n : Nat} {Q : xQ} {g : Nat → Nat → Int} {a : Nat} {v : Value} (hs : x_sh a = (2, 2)) (hp : x_pt a 0 = some v) (h : x_V S 10 12 L (v :: st) (x_vm g) n Q) : x_V S 10 9 L (.ref a :: st) (x_vm g) n Q := v_getp (i := 0) cf2 d10_9 (by decide) w40 hs hp h
theorem s10_12 {S : Nat × (Nat → Int32)} {L : List (Option Value)} {st : List Value} {n : Nat} {Q : xQ} {μ : xM} {x : Int32} (hl : L[1]? = some (some (.int x))) (h : x_V S 10 13 L (.int x :: st) μ n Q) : x_V S 10 12 L (st) μ n Q := x_iload_n d10_12 hl h
theorem s10_13 {S : Nat × (Nat → Int32)} {L : List (Option Value)} {st : List Value} {n : Nat} {Q : xQ} {μ : xM} {x : Int32} (hl : L[2]? = some (some (.int x))) (h : x_V S 10 14 L (.int x :: st) μ n Q) : x_V S 10 13 L (st) μ n Q := x_iload_n d10_13 hl h
theorem s10_15 {S : Nat × (Nat → Int32)} {L : List (Option Value)} {st : List Value} {n : Nat} {Q : xQ} {μ : xM}  (h : Q (.inl none) μ n) : x_V S 10 15 L ([]) μ n Q := x_return d10_15 rfl h
theorem mC_11 : mC 11 = prog_8_method_7_code := rfl
theorem d11_0 : decode (mC 11) 0 = .ok (.aload_n 0, 1) := by rw [mC_11]; decide +kernel
theorem d11_1 : decode (mC 11) 1 = .ok (.getfield 15, 3) := by rw [mC_11]; decide +kernel
theorem d11_4 : decode (mC 11) 4 = .ok (.bipush 120, 2) := by rw [mC_11]; decide +kernel
theorem d11_6 : decode (mC 11) 6 = .ok (.if_icmp .ge 23, 3) := by rw [mC_11]; decide +kernel
theorem d11_9 : decode (mC 11) 9 = .ok (.aload_n 0, 1) := by rw [mC_11]; decide +kernel
theorem d11_10 : decode (mC 11) 10 = .ok (.getfield 11, 3) := by rw [mC_11]; decide +kernel
theorem d11_13 : decode (mC 11) 13 = .ok (.aload_n 0, 1) := by rw [mC_11]; decide +kernel
theorem d11_14 : decode (mC 11) 14 = .ok (.getfield 15, 3) := by rw [mC_11]; decide +kernel
theorem d11_17 : decode (mC 11) 17 = .ok (.iload_n 1, 1) := by rw [mC_11]; decide +kernel
theorem d11_18 : decode (mC 11) 18 = .ok (.iastore, 1) := by rw [mC_11]; decide +kernel
theorem d11_19 : decode (mC 11) 19 = .ok (.aload_n 0, 1) := by rw [mC_11]; decide +kernel
theorem d11_20 : decode (mC 11) 20 = .ok (.dup, 1) := by rw [mC_11]; decide +kernel
theorem d11_21 : decode (mC 11) 21 = .ok (.getfield 15, 3) := by rw [mC_11]; decide +kernel
theorem d11_24 : decode (mC 11) 24 = .ok (.iconst 1, 1) := by rw [mC_11]; decide +kernel
theorem d11_25 : decode (mC 11) 25 = .ok (.iadd, 1) := by rw [mC_11]; decide +kernel
theorem d11_26 : decode (mC 11) 26 = .ok (.putfield 15, 3) := by rw [mC_11]; decide +kernel
theorem d11_29 : decode (mC 11) 29 = .ok (.return_, 1) := by rw [mC_11]; decide +kernel
theorem s11_0 {S : Nat × (Nat → Int32)} {L : List (Option Value)} {st : List Value} {n : Nat} {Q : xQ} {μ : xM} {a : Nat} (hl : L[0]? = some (some (.ref a))) (h : x_V S 11 1 L (.ref a :: st) μ n Q) : x_V S 11 0 L (st) μ n Q := x_aload_n d11_0 hl h
theorem s11_0N {S : Nat × (Nat → Int32)} {L : List (Option Value)} {st : List Value} {n : Nat} {Q : xQ} {μ : xM} (hl : L[0]? = some (some .null)) (h : x_V S 11 1 L (.null :: st) μ n Q) : x_V S 11 0 L st μ n Q := x_aload_nN d11_0 hl h
theorem s11_1 {S : Nat × (Nat → Int32)} {L : List (Option Value)} {st : List Value} {n : Nat} {Q : xQ} {g : Nat → Nat → Int} {a : Nat} (hs : x_sh a = (2, 2)) (hp : x_pt a 1 = none) (ha : a ≠ x_out) (h : x_V S 11 4 L (.int (I (g a 1)) :: st) (x_vm g) n Q) : x_V S 11 1 L (.ref a :: st) (x_vm g) n Q := v_get (i := 1) cf2 d11_1 (by decide) w41 hs hp ha h
theorem s11_4 {S : Nat × (Nat → Int32)} {L : List (Option Value)} {st : List Value} {n : Nat} {Q : xQ} {μ : xM}  (h : x_V S 11 6 L (.int (I 120) :: st) μ n Q) : x_V S 11 4 L (st) μ n Q := x_bipush (by decide +kernel) d11_4 h
theorem s11_6 {S : Nat × (Nat → Int32)} {L : List (Option Value)} {st : List Value} {n : Nat} {Q : xQ} {μ : xM} {x y : Int} (hx : ib x) (hy : ib y) (kt : y ≤ x → x_V S 11 29 L (st) μ n Q) (kf : x < y → x_V S 11 9 L (st) μ n Q) : x_V S 11 6 L (.int (I y) :: .int (I x) :: st) μ n Q := v_icmp_ge d11_6 (by decide) hx hy kt kf
theorem s11_9 {S : Nat × (Nat → Int32)} {L : List (Option Value)} {st : List Value} {n : Nat} {Q : xQ} {μ : xM} {a : Nat} (hl : L[0]? = some (some (.ref a))) (h : x_V S 11 10 L (.ref a :: st) μ n Q) : x_V S 11 9 L (st) μ n Q := x_aload_n d11_9 hl h
theorem s11_9N {S : Nat × (Nat → Int32)} {L : List (Option Value)} {st : List Value} {n : Nat} {Q : xQ} {μ : xM} (hl : L[0]? = some (some .null)) (h : x_V S 11 10 L (.null :: st) μ n Q) : x_V S 11 9 L st μ n Q := x_aload_nN d11_9 hl h
theorem s11_10 {S : Nat × (Nat → Int32)} {L : List (Option Value)} {st : List Value} {n : Nat} {Q : xQ} {g : Nat → Nat → Int} {a : Nat} {v : Value} (hs : x_sh a = (2, 2)) (hp : x_pt a 0 = some v) (h : x_V S 11 13 L (v :: st) (x_vm g) n Q) : x_V S 11 10 L (.ref a :: st) (x_vm g) n Q := v_getp (i := 0) cf2 d11_10 (by decide) w40 hs hp h
theorem s11_13 {S : Nat × (Nat → Int32)} {L : List (Option Value)} {st : List Value} {n : Nat} {Q : xQ} {μ : xM} {a : Nat} (hl : L[0]? = some (some (.ref a))) (h : x_V S 11 14 L (.ref a :: st) μ n Q) : x_V S 11 13 L (st) μ n Q := x_aload_n d11_13 hl h
theorem s11_13N {S : Nat × (Nat → Int32)} {L : List (Option Value)} {st : List Value} {n : Nat} {Q : xQ} {μ : xM} (hl : L[0]? = some (some .null)) (h : x_V S 11 14 L (.null :: st) μ n Q) : x_V S 11 13 L st μ n Q := x_aload_nN d11_13 hl h
theorem s11_14 {S : Nat × (Nat → Int32)} {L : List (Option Value)} {st : List Value} {n : Nat} {Q : xQ} {g : Nat → Nat → Int} {a : Nat} (hs : x_sh a = (2, 2)) (hp : x_pt a 1 = none) (ha : a ≠ x_out) (h : x_V S 11 17 L (.int (I (g a 1)) :: st) (x_vm g) n Q) : x_V S 11 14 L (.ref a :: st) (x_vm g) n Q := v_get (i := 1) cf2 d11_14 (by decide) w41 hs hp ha h
theorem s11_17 {S : Nat × (Nat → Int32)} {L : List (Option Value)} {st : List Value} {n : Nat} {Q : xQ} {μ : xM} {x : Int32} (hl : L[1]? = some (some (.int x))) (h : x_V S 11 18 L (.int x :: st) μ n Q) : x_V S 11 17 L (st) μ n Q := x_iload_n d11_17 hl h
theorem s11_19 {S : Nat × (Nat → Int32)} {L : List (Option Value)} {st : List Value} {n : Nat} {Q : xQ} {μ : xM} {a : Nat} (hl : L[0]? = some (some (.ref a))) (h : x_V S 11 20 L (.ref a :: st) μ n Q) : x_V S 11 19 L (st) μ n Q := x_aload_n d11_19 hl h
theorem s11_19N {S : Nat × (Nat → Int32)} {L : List (Option Value)} {st : List Value} {n : Nat} {Q : xQ} {μ : xM} (hl : L[0]? = some (some .null)) (h : x_V S 11 20 L (.null :: st) μ n Q) : x_V S 11 19 L st μ n Q := x_aload_nN d11_19 hl h
theorem s11_20 {S : Nat × (Nat → Int32)} {L : List (Option Value)} {st : List Value} {n : Nat} {Q : xQ} {μ : xM} {v : Value} (hc : v.category = 1) (h : x_V S 11 21 L (v :: v :: st) μ n Q) : x_V S 11 20 L (v :: st) μ n Q := x_dup hc d11_20 h
theorem s11_21 {S : Nat × (Nat → Int32)} {L : List (Option Value)} {st : List Value} {n : Nat} {Q : xQ} {g : Nat → Nat → Int} {a : Nat} (hs : x_sh a = (2, 2)) (hp : x_pt a 1 = none) (ha : a ≠ x_out) (h : x_V S 11 24 L (.int (I (g a 1)) :: st) (x_vm g) n Q) : x_V S 11 21 L (.ref a :: st) (x_vm g) n Q := v_get (i := 1) cf2 d11_21 (by decide) w41 hs hp ha h
theorem s11_24 {S : Nat × (Nat → Int32)} {L : List (Option Value)} {st : List Value} {n : Nat} {Q : xQ} {μ : xM}  (h : x_V S 11 25 L (.int (I 1) :: st) μ n Q) : x_V S 11 24 L (st) μ n Q := x_iconst (by decide +kernel) d11_24 h
theorem s11_25 {S : Nat × (Nat → Int32)} {L : List (Option Value)} {st : List Value} {n : Nat} {Q : xQ} {μ : xM} {x y : Int} (h : x_V S 11 26 L (.int (I (x + y)) :: st) μ n Q) : x_V S 11 25 L (.int (I y) :: .int (I x) :: st) μ n Q := v_iadd d11_25 h
theorem s11_26 {S : Nat × (Nat → Int32)} {L : List (Option Value)} {st : List Value} {n : Nat} {Q : xQ} {g : Nat → Nat → Int} {a : Nat} {x : Int} (hs : x_sh a = (2, 2)) (hp : x_pt a 1 = none) (ha : a ≠ x_out) (h : x_V S 11 29 L (st) (x_vm (x_uf g a 1 x)) n Q) : x_V S 11 26 L (.int (I x) :: .ref a :: st) (x_vm g) n Q := v_put (i := 1) cf2 d11_26 (by decide) rfl w41 hs rfl hp ha h
theorem s11_29 {S : Nat × (Nat → Int32)} {L : List (Option Value)} {st : List Value} {n : Nat} {Q : xQ} {μ : xM}  (h : Q (.inl none) μ n) : x_V S 11 29 L ([]) μ n Q := x_return d11_29 rfl h
theorem mC_12 : mC 12 = prog_8_method_8_code := rfl
theorem d12_0 : decode (mC 12) 0 = .ok (.iconst 0, 1) := by rw [mC_12]; decide +kernel
theorem d12_1 : decode (mC 12) 1 = .ok (.istore_n 2, 1) := by rw [mC_12]; decide +kernel
theorem d12_2 : decode (mC 12) 2 = .ok (.ldc 23, 2) := by rw [mC_12]; decide +kernel
theorem d12_4 : decode (mC 12) 4 = .ok (.istore_n 3, 1) := by rw [mC_12]; decide +kernel
theorem d12_5 : decode (mC 12) 5 = .ok (.iload_n 3, 1) := by rw [mC_12]; decide +kernel
theorem d12_6 : decode (mC 12) 6 = .ok (.ifCond .le 52, 3) := by rw [mC_12]; decide +kernel
theorem d12_9 : decode (mC 12) 9 = .ok (.iload_n 1, 1) := by rw [mC_12]; decide +kernel
theorem d12_10 : decode (mC 12) 10 = .ok (.iload_n 3, 1) := by rw [mC_12]; decide +kernel
theorem d12_11 : decode (mC 12) 11 = .ok (.idiv, 1) := by rw [mC_12]; decide +kernel
theorem d12_12 : decode (mC 12) 12 = .ok (.bipush 10, 2) := by rw [mC_12]; decide +kernel
theorem d12_14 : decode (mC 12) 14 = .ok (.irem, 1) := by rw [mC_12]; decide +kernel
theorem d12_15 : decode (mC 12) 15 = .ok (.istore 4, 2) := by rw [mC_12]; decide +kernel
theorem d12_17 : decode (mC 12) 17 = .ok (.iload_n 2, 1) := by rw [mC_12]; decide +kernel
theorem d12_18 : decode (mC 12) 18 = .ok (.ifCond .ne 13, 3) := by rw [mC_12]; decide +kernel
theorem d12_21 : decode (mC 12) 21 = .ok (.iload 4, 2) := by rw [mC_12]; decide +kernel
theorem d12_23 : decode (mC 12) 23 = .ok (.ifCond .ne 8, 3) := by rw [mC_12]; decide +kernel
theorem d12_26 : decode (mC 12) 26 = .ok (.iload_n 3, 1) := by rw [mC_12]; decide +kernel
theorem d12_27 : decode (mC 12) 27 = .ok (.iconst 1, 1) := by rw [mC_12]; decide +kernel
theorem d12_28 : decode (mC 12) 28 = .ok (.if_icmp .ne 7, 3) := by rw [mC_12]; decide +kernel
theorem d12_31 : decode (mC 12) 31 = .ok (.iconst 1, 1) := by rw [mC_12]; decide +kernel
theorem d12_32 : decode (mC 12) 32 = .ok (.goto 4, 3) := by rw [mC_12]; decide +kernel
theorem d12_35 : decode (mC 12) 35 = .ok (.iconst 0, 1) := by rw [mC_12]; decide +kernel
theorem d12_36 : decode (mC 12) 36 = .ok (.istore_n 2, 1) := by rw [mC_12]; decide +kernel
theorem d12_37 : decode (mC 12) 37 = .ok (.iload_n 2, 1) := by rw [mC_12]; decide +kernel
theorem d12_38 : decode (mC 12) 38 = .ok (.ifCond .eq 12, 3) := by rw [mC_12]; decide +kernel
theorem d12_41 : decode (mC 12) 41 = .ok (.aload_n 0, 1) := by rw [mC_12]; decide +kernel
theorem d12_42 : decode (mC 12) 42 = .ok (.bipush 48, 2) := by rw [mC_12]; decide +kernel
theorem d12_44 : decode (mC 12) 44 = .ok (.iload 4, 2) := by rw [mC_12]; decide +kernel
theorem d12_46 : decode (mC 12) 46 = .ok (.iadd, 1) := by rw [mC_12]; decide +kernel
theorem d12_47 : decode (mC 12) 47 = .ok (.invokevirtual 24, 3) := by rw [mC_12]; decide +kernel
theorem d12_50 : decode (mC 12) 50 = .ok (.iload_n 3, 1) := by rw [mC_12]; decide +kernel
theorem d12_51 : decode (mC 12) 51 = .ok (.bipush 10, 2) := by rw [mC_12]; decide +kernel
theorem d12_53 : decode (mC 12) 53 = .ok (.idiv, 1) := by rw [mC_12]; decide +kernel
theorem d12_54 : decode (mC 12) 54 = .ok (.istore_n 3, 1) := by rw [mC_12]; decide +kernel
theorem d12_55 : decode (mC 12) 55 = .ok (.goto (-50), 3) := by rw [mC_12]; decide +kernel
theorem d12_58 : decode (mC 12) 58 = .ok (.return_, 1) := by rw [mC_12]; decide +kernel
theorem s12_0 {S : Nat × (Nat → Int32)} {L : List (Option Value)} {st : List Value} {n : Nat} {Q : xQ} {μ : xM}  (h : x_V S 12 1 L (.int (I 0) :: st) μ n Q) : x_V S 12 0 L (st) μ n Q := x_iconst (by decide +kernel) d12_0 h
theorem s12_1 {S : Nat × (Nat → Int32)} {L : List (Option Value)} {st : List Value} {n : Nat} {Q : xQ} {μ : xM} {x : Int32} (h : x_V S 12 2 (L.set 2 (some (.int x))) (st) μ n Q) : x_V S 12 1 L (.int x :: st) μ n Q := x_istore_n d12_1 (by decide) h
theorem s12_2 {S : Nat × (Nat → Int32)} {L : List (Option Value)} {st : List Value} {n : Nat} {Q : xQ} {μ : xM}  (h : x_V S 12 4 L (.int (I 100000) :: st) μ n Q) : x_V S 12 2 L (st) μ n Q := x_ldc (v := I 100000) d12_2 (by rw [show I 100000 = (100000 : Int32) from by decide +kernel]; exact w388) h
theorem s12_4 {S : Nat × (Nat → Int32)} {L : List (Option Value)} {st : List Value} {n : Nat} {Q : xQ} {μ : xM} {x : Int32} (h : x_V S 12 5 (L.set 3 (some (.int x))) (st) μ n Q) : x_V S 12 4 L (.int x :: st) μ n Q := x_istore_n d12_4 (by decide) h
theorem s12_5 {S : Nat × (Nat → Int32)} {L : List (Option Value)} {st : List Value} {n : Nat} {Q : xQ} {μ : xM} {x : Int32} (hl : L[3]? = some (some (.int x))) (h : x_V S 12 6 L (.int x :: st) μ n Q) : x_V S 12 5 L (st) μ n Q := x_iload_n d12_5 hl h
theorem s12_6 {S : Nat × (Nat → Int32)} {L : List (Option Value)} {st : List Value} {n : Nat} {Q : xQ} {μ : xM} {x : Int} (hx : ib x) (kt : x ≤ 0 → x_V S 12 58 L (st) μ n Q) (kf : 0 < x → x_V S 12 9 L (st) μ n Q) : x_V S 12 6 L (.int (I x) :: st) μ n Q := v_if_le d12_6 (by decide) hx kt kf
theorem s12_9 {S : Nat × (Nat → Int32)} {L : List (Option Value)} {st : List Value} {n : Nat} {Q : xQ} {μ : xM} {x : Int32} (hl : L[1]? = some (some (.int x))) (h : x_V S 12 10 L (.int x :: st) μ n Q) : x_V S 12 9 L (st) μ n Q := x_iload_n d12_9 hl h
theorem s12_10 {S : Nat × (Nat → Int32)} {L : List (Option Value)} {st : List Value} {n : Nat} {Q : xQ} {μ : xM} {x : Int32} (hl : L[3]? = some (some (.int x))) (h : x_V S 12 11 L (.int x :: st) μ n Q) : x_V S 12 10 L (st) μ n Q := x_iload_n d12_10 hl h
theorem s12_11 {S : Nat × (Nat → Int32)} {L : List (Option Value)} {st : List Value} {n : Nat} {Q : xQ} {μ : xM} {x y : Int} (hx : ib x) (hy : ib y) (hx0 : 0 ≤ x) (hy0 : 0 < y) (h : x_V S 12 12 L (.int (I (x / y)) :: st) μ n Q) : x_V S 12 11 L (.int (I y) :: .int (I x) :: st) μ n Q := v_idiv d12_11 hx hy hx0 hy0 h
theorem s12_12 {S : Nat × (Nat → Int32)} {L : List (Option Value)} {st : List Value} {n : Nat} {Q : xQ} {μ : xM}  (h : x_V S 12 14 L (.int (I 10) :: st) μ n Q) : x_V S 12 12 L (st) μ n Q := x_bipush (by decide +kernel) d12_12 h
theorem s12_14 {S : Nat × (Nat → Int32)} {L : List (Option Value)} {st : List Value} {n : Nat} {Q : xQ} {μ : xM} {x y : Int} (hx : ib x) (hy : ib y) (hx0 : 0 ≤ x) (hy0 : 0 < y) (h : x_V S 12 15 L (.int (I (x % y)) :: st) μ n Q) : x_V S 12 14 L (.int (I y) :: .int (I x) :: st) μ n Q := v_irem d12_14 hx hy hx0 hy0 h
theorem s12_15 {S : Nat × (Nat → Int32)} {L : List (Option Value)} {st : List Value} {n : Nat} {Q : xQ} {μ : xM} {x : Int32} (h : x_V S 12 17 (L.set 4 (some (.int x))) (st) μ n Q) : x_V S 12 15 L (.int x :: st) μ n Q := x_istore d12_15 (by decide) h
theorem s12_17 {S : Nat × (Nat → Int32)} {L : List (Option Value)} {st : List Value} {n : Nat} {Q : xQ} {μ : xM} {x : Int32} (hl : L[2]? = some (some (.int x))) (h : x_V S 12 18 L (.int x :: st) μ n Q) : x_V S 12 17 L (st) μ n Q := x_iload_n d12_17 hl h
theorem s12_18 {S : Nat × (Nat → Int32)} {L : List (Option Value)} {st : List Value} {n : Nat} {Q : xQ} {μ : xM} {x : Int} (hx : ib x) (kt : x ≠ 0 → x_V S 12 31 L (st) μ n Q) (kf : x = 0 → x_V S 12 21 L (st) μ n Q) : x_V S 12 18 L (.int (I x) :: st) μ n Q := v_if_ne d12_18 (by decide) hx kt kf
theorem s12_21 {S : Nat × (Nat → Int32)} {L : List (Option Value)} {st : List Value} {n : Nat} {Q : xQ} {μ : xM} {x : Int32} (hl : L[4]? = some (some (.int x))) (h : x_V S 12 23 L (.int x :: st) μ n Q) : x_V S 12 21 L (st) μ n Q := x_iload d12_21 hl h
theorem s12_23 {S : Nat × (Nat → Int32)} {L : List (Option Value)} {st : List Value} {n : Nat} {Q : xQ} {μ : xM} {x : Int} (hx : ib x) (kt : x ≠ 0 → x_V S 12 31 L (st) μ n Q) (kf : x = 0 → x_V S 12 26 L (st) μ n Q) : x_V S 12 23 L (.int (I x) :: st) μ n Q := v_if_ne d12_23 (by decide) hx kt kf
theorem s12_26 {S : Nat × (Nat → Int32)} {L : List (Option Value)} {st : List Value} {n : Nat} {Q : xQ} {μ : xM} {x : Int32} (hl : L[3]? = some (some (.int x))) (h : x_V S 12 27 L (.int x :: st) μ n Q) : x_V S 12 26 L (st) μ n Q := x_iload_n d12_26 hl h
theorem s12_27 {S : Nat × (Nat → Int32)} {L : List (Option Value)} {st : List Value} {n : Nat} {Q : xQ} {μ : xM}  (h : x_V S 12 28 L (.int (I 1) :: st) μ n Q) : x_V S 12 27 L (st) μ n Q := x_iconst (by decide +kernel) d12_27 h
theorem s12_28 {S : Nat × (Nat → Int32)} {L : List (Option Value)} {st : List Value} {n : Nat} {Q : xQ} {μ : xM} {x y : Int} (hx : ib x) (hy : ib y) (kt : x ≠ y → x_V S 12 35 L (st) μ n Q) (kf : x = y → x_V S 12 31 L (st) μ n Q) : x_V S 12 28 L (.int (I y) :: .int (I x) :: st) μ n Q := v_icmp_ne d12_28 (by decide) hx hy kt kf
theorem s12_31 {S : Nat × (Nat → Int32)} {L : List (Option Value)} {st : List Value} {n : Nat} {Q : xQ} {μ : xM}  (h : x_V S 12 32 L (.int (I 1) :: st) μ n Q) : x_V S 12 31 L (st) μ n Q := x_iconst (by decide +kernel) d12_31 h
theorem s12_32 {S : Nat × (Nat → Int32)} {L : List (Option Value)} {st : List Value} {n : Nat} {Q : xQ} {μ : xM}  (h : x_V S 12 36 L (st) μ n Q) : x_V S 12 32 L (st) μ n Q := x_goto (tgt := 36) (by decide) d12_32 h
theorem s12_35 {S : Nat × (Nat → Int32)} {L : List (Option Value)} {st : List Value} {n : Nat} {Q : xQ} {μ : xM}  (h : x_V S 12 36 L (.int (I 0) :: st) μ n Q) : x_V S 12 35 L (st) μ n Q := x_iconst (by decide +kernel) d12_35 h
theorem s12_36 {S : Nat × (Nat → Int32)} {L : List (Option Value)} {st : List Value} {n : Nat} {Q : xQ} {μ : xM} {x : Int32} (h : x_V S 12 37 (L.set 2 (some (.int x))) (st) μ n Q) : x_V S 12 36 L (.int x :: st) μ n Q := x_istore_n d12_36 (by decide) h
theorem s12_37 {S : Nat × (Nat → Int32)} {L : List (Option Value)} {st : List Value} {n : Nat} {Q : xQ} {μ : xM} {x : Int32} (hl : L[2]? = some (some (.int x))) (h : x_V S 12 38 L (.int x :: st) μ n Q) : x_V S 12 37 L (st) μ n Q := x_iload_n d12_37 hl h
theorem s12_38 {S : Nat × (Nat → Int32)} {L : List (Option Value)} {st : List Value} {n : Nat} {Q : xQ} {μ : xM} {x : Int} (hx : ib x) (kt : x = 0 → x_V S 12 50 L (st) μ n Q) (kf : x ≠ 0 → x_V S 12 41 L (st) μ n Q) : x_V S 12 38 L (.int (I x) :: st) μ n Q := v_if_eq d12_38 (by decide) hx kt kf
theorem s12_41 {S : Nat × (Nat → Int32)} {L : List (Option Value)} {st : List Value} {n : Nat} {Q : xQ} {μ : xM} {a : Nat} (hl : L[0]? = some (some (.ref a))) (h : x_V S 12 42 L (.ref a :: st) μ n Q) : x_V S 12 41 L (st) μ n Q := x_aload_n d12_41 hl h
theorem s12_41N {S : Nat × (Nat → Int32)} {L : List (Option Value)} {st : List Value} {n : Nat} {Q : xQ} {μ : xM} (hl : L[0]? = some (some .null)) (h : x_V S 12 42 L (.null :: st) μ n Q) : x_V S 12 41 L st μ n Q := x_aload_nN d12_41 hl h
theorem s12_42 {S : Nat × (Nat → Int32)} {L : List (Option Value)} {st : List Value} {n : Nat} {Q : xQ} {μ : xM}  (h : x_V S 12 44 L (.int (I 48) :: st) μ n Q) : x_V S 12 42 L (st) μ n Q := x_bipush (by decide +kernel) d12_42 h
theorem s12_44 {S : Nat × (Nat → Int32)} {L : List (Option Value)} {st : List Value} {n : Nat} {Q : xQ} {μ : xM} {x : Int32} (hl : L[4]? = some (some (.int x))) (h : x_V S 12 46 L (.int x :: st) μ n Q) : x_V S 12 44 L (st) μ n Q := x_iload d12_44 hl h
theorem s12_46 {S : Nat × (Nat → Int32)} {L : List (Option Value)} {st : List Value} {n : Nat} {Q : xQ} {μ : xM} {x y : Int} (h : x_V S 12 47 L (.int (I (x + y)) :: st) μ n Q) : x_V S 12 46 L (.int (I y) :: .int (I x) :: st) μ n Q := v_iadd d12_46 h
theorem s12_47 {S : Nat × (Nat → Int32)} {L : List (Option Value)} {st : List Value} {n : Nat} {Q : xQ} {μ : xM} {x0 : Int32} {a : Nat} (hs : x_sh a = (2, 2)) (hst : st.length ≤ 4) (h : x_V S 11 0 [some (.ref a), some (.int x0)] [] μ n (x_bk S 12 47 L st Q)) : x_V S 12 47 L (.int x0 :: .ref a :: st) μ n Q := x_callV (k' := 11) (as := [.int x0]) (na := 1) d12_47 ⟨w392, by decide +kernel, by decide, by decide, by decide, by decide, by decide⟩ cf2 w389 w390 w391 (by decide +kernel) rfl hs (fun v hv => by
    simp only [List.mem_cons, List.not_mem_nil, or_false] at hv
    rcases hv with rfl <;> first | rfl | assumption) hst h
theorem s12_50 {S : Nat × (Nat → Int32)} {L : List (Option Value)} {st : List Value} {n : Nat} {Q : xQ} {μ : xM} {x : Int32} (hl : L[3]? = some (some (.int x))) (h : x_V S 12 51 L (.int x :: st) μ n Q) : x_V S 12 50 L (st) μ n Q := x_iload_n d12_50 hl h
theorem s12_51 {S : Nat × (Nat → Int32)} {L : List (Option Value)} {st : List Value} {n : Nat} {Q : xQ} {μ : xM}  (h : x_V S 12 53 L (.int (I 10) :: st) μ n Q) : x_V S 12 51 L (st) μ n Q := x_bipush (by decide +kernel) d12_51 h
theorem s12_53 {S : Nat × (Nat → Int32)} {L : List (Option Value)} {st : List Value} {n : Nat} {Q : xQ} {μ : xM} {x y : Int} (hx : ib x) (hy : ib y) (hx0 : 0 ≤ x) (hy0 : 0 < y) (h : x_V S 12 54 L (.int (I (x / y)) :: st) μ n Q) : x_V S 12 53 L (.int (I y) :: .int (I x) :: st) μ n Q := v_idiv d12_53 hx hy hx0 hy0 h
theorem s12_54 {S : Nat × (Nat → Int32)} {L : List (Option Value)} {st : List Value} {n : Nat} {Q : xQ} {μ : xM} {x : Int32} (h : x_V S 12 55 (L.set 3 (some (.int x))) (st) μ n Q) : x_V S 12 54 L (.int x :: st) μ n Q := x_istore_n d12_54 (by decide) h
theorem s12_55 {S : Nat × (Nat → Int32)} {L : List (Option Value)} {st : List Value} {n : Nat} {Q : xQ} {μ : xM}  (h : x_V S 12 5 L (st) μ n Q) : x_V S 12 55 L (st) μ n Q := x_goto (tgt := 5) (by decide) d12_55 h
theorem s12_58 {S : Nat × (Nat → Int32)} {L : List (Option Value)} {st : List Value} {n : Nat} {Q : xQ} {μ : xM}  (h : Q (.inl none) μ n) : x_V S 12 58 L ([]) μ n Q := x_return d12_58 rfl h
theorem mC_13 : mC 13 = prog_8_method_9_code := rfl
theorem d13_0 : decode (mC 13) 0 = .ok (.aload_n 0, 1) := by rw [mC_13]; decide +kernel
theorem d13_1 : decode (mC 13) 1 = .ok (.iload_n 1, 1) := by rw [mC_13]; decide +kernel
theorem d13_2 : decode (mC 13) 2 = .ok (.invokevirtual 28, 3) := by rw [mC_13]; decide +kernel
theorem d13_5 : decode (mC 13) 5 = .ok (.aload_n 0, 1) := by rw [mC_13]; decide +kernel
theorem d13_6 : decode (mC 13) 6 = .ok (.bipush 61, 2) := by rw [mC_13]; decide +kernel
theorem d13_8 : decode (mC 13) 8 = .ok (.invokevirtual 24, 3) := by rw [mC_13]; decide +kernel
theorem d13_11 : decode (mC 13) 11 = .ok (.aload_n 0, 1) := by rw [mC_13]; decide +kernel
theorem d13_12 : decode (mC 13) 12 = .ok (.iload_n 2, 1) := by rw [mC_13]; decide +kernel
theorem d13_13 : decode (mC 13) 13 = .ok (.invokevirtual 28, 3) := by rw [mC_13]; decide +kernel
theorem d13_16 : decode (mC 13) 16 = .ok (.aload_n 0, 1) := by rw [mC_13]; decide +kernel
theorem d13_17 : decode (mC 13) 17 = .ok (.iconst 1, 1) := by rw [mC_13]; decide +kernel
theorem d13_18 : decode (mC 13) 18 = .ok (.invokevirtual 24, 3) := by rw [mC_13]; decide +kernel
theorem d13_21 : decode (mC 13) 21 = .ok (.return_, 1) := by rw [mC_13]; decide +kernel
theorem s13_0 {S : Nat × (Nat → Int32)} {L : List (Option Value)} {st : List Value} {n : Nat} {Q : xQ} {μ : xM} {a : Nat} (hl : L[0]? = some (some (.ref a))) (h : x_V S 13 1 L (.ref a :: st) μ n Q) : x_V S 13 0 L (st) μ n Q := x_aload_n d13_0 hl h
theorem s13_0N {S : Nat × (Nat → Int32)} {L : List (Option Value)} {st : List Value} {n : Nat} {Q : xQ} {μ : xM} (hl : L[0]? = some (some .null)) (h : x_V S 13 1 L (.null :: st) μ n Q) : x_V S 13 0 L st μ n Q := x_aload_nN d13_0 hl h
theorem s13_1 {S : Nat × (Nat → Int32)} {L : List (Option Value)} {st : List Value} {n : Nat} {Q : xQ} {μ : xM} {x : Int32} (hl : L[1]? = some (some (.int x))) (h : x_V S 13 2 L (.int x :: st) μ n Q) : x_V S 13 1 L (st) μ n Q := x_iload_n d13_1 hl h
theorem s13_2 {S : Nat × (Nat → Int32)} {L : List (Option Value)} {st : List Value} {n : Nat} {Q : xQ} {μ : xM} {x0 : Int32} {a : Nat} (hs : x_sh a = (2, 2)) (hst : st.length ≤ 4) (h : x_V S 12 0 [some (.ref a), some (.int x0), none, none, none] [] μ n (x_bk S 13 2 L st Q)) : x_V S 13 2 L (.int x0 :: .ref a :: st) μ n Q := x_callV (k' := 12) (as := [.int x0]) (na := 1) d13_2 ⟨w387, by decide +kernel, by decide, by decide, by decide, by decide, by decide⟩ cf2 w384 w385 w386 (by decide +kernel) rfl hs (fun v hv => by
    simp only [List.mem_cons, List.not_mem_nil, or_false] at hv
    rcases hv with rfl <;> first | rfl | assumption) hst h
theorem s13_5 {S : Nat × (Nat → Int32)} {L : List (Option Value)} {st : List Value} {n : Nat} {Q : xQ} {μ : xM} {a : Nat} (hl : L[0]? = some (some (.ref a))) (h : x_V S 13 6 L (.ref a :: st) μ n Q) : x_V S 13 5 L (st) μ n Q := x_aload_n d13_5 hl h
theorem s13_5N {S : Nat × (Nat → Int32)} {L : List (Option Value)} {st : List Value} {n : Nat} {Q : xQ} {μ : xM} (hl : L[0]? = some (some .null)) (h : x_V S 13 6 L (.null :: st) μ n Q) : x_V S 13 5 L st μ n Q := x_aload_nN d13_5 hl h
theorem s13_6 {S : Nat × (Nat → Int32)} {L : List (Option Value)} {st : List Value} {n : Nat} {Q : xQ} {μ : xM}  (h : x_V S 13 8 L (.int (I 61) :: st) μ n Q) : x_V S 13 6 L (st) μ n Q := x_bipush (by decide +kernel) d13_6 h
theorem s13_8 {S : Nat × (Nat → Int32)} {L : List (Option Value)} {st : List Value} {n : Nat} {Q : xQ} {μ : xM} {x0 : Int32} {a : Nat} (hs : x_sh a = (2, 2)) (hst : st.length ≤ 4) (h : x_V S 11 0 [some (.ref a), some (.int x0)] [] μ n (x_bk S 13 8 L st Q)) : x_V S 13 8 L (.int x0 :: .ref a :: st) μ n Q := x_callV (k' := 11) (as := [.int x0]) (na := 1) d13_8 ⟨w392, by decide +kernel, by decide, by decide, by decide, by decide, by decide⟩ cf2 w389 w390 w391 (by decide +kernel) rfl hs (fun v hv => by
    simp only [List.mem_cons, List.not_mem_nil, or_false] at hv
    rcases hv with rfl <;> first | rfl | assumption) hst h
theorem s13_11 {S : Nat × (Nat → Int32)} {L : List (Option Value)} {st : List Value} {n : Nat} {Q : xQ} {μ : xM} {a : Nat} (hl : L[0]? = some (some (.ref a))) (h : x_V S 13 12 L (.ref a :: st) μ n Q) : x_V S 13 11 L (st) μ n Q := x_aload_n d13_11 hl h
theorem s13_11N {S : Nat × (Nat → Int32)} {L : List (Option Value)} {st : List Value} {n : Nat} {Q : xQ} {μ : xM} (hl : L[0]? = some (some .null)) (h : x_V S 13 12 L (.null :: st) μ n Q) : x_V S 13 11 L st μ n Q := x_aload_nN d13_11 hl h
theorem s13_12 {S : Nat × (Nat → Int32)} {L : List (Option Value)} {st : List Value} {n : Nat} {Q : xQ} {μ : xM} {x : Int32} (hl : L[2]? = some (some (.int x))) (h : x_V S 13 13 L (.int x :: st) μ n Q) : x_V S 13 12 L (st) μ n Q := x_iload_n d13_12 hl h
theorem s13_13 {S : Nat × (Nat → Int32)} {L : List (Option Value)} {st : List Value} {n : Nat} {Q : xQ} {μ : xM} {x0 : Int32} {a : Nat} (hs : x_sh a = (2, 2)) (hst : st.length ≤ 4) (h : x_V S 12 0 [some (.ref a), some (.int x0), none, none, none] [] μ n (x_bk S 13 13 L st Q)) : x_V S 13 13 L (.int x0 :: .ref a :: st) μ n Q := x_callV (k' := 12) (as := [.int x0]) (na := 1) d13_13 ⟨w387, by decide +kernel, by decide, by decide, by decide, by decide, by decide⟩ cf2 w384 w385 w386 (by decide +kernel) rfl hs (fun v hv => by
    simp only [List.mem_cons, List.not_mem_nil, or_false] at hv
    rcases hv with rfl <;> first | rfl | assumption) hst h
theorem s13_16 {S : Nat × (Nat → Int32)} {L : List (Option Value)} {st : List Value} {n : Nat} {Q : xQ} {μ : xM} {a : Nat} (hl : L[0]? = some (some (.ref a))) (h : x_V S 13 17 L (.ref a :: st) μ n Q) : x_V S 13 16 L (st) μ n Q := x_aload_n d13_16 hl h
theorem s13_16N {S : Nat × (Nat → Int32)} {L : List (Option Value)} {st : List Value} {n : Nat} {Q : xQ} {μ : xM} (hl : L[0]? = some (some .null)) (h : x_V S 13 17 L (.null :: st) μ n Q) : x_V S 13 16 L st μ n Q := x_aload_nN d13_16 hl h
theorem s13_17 {S : Nat × (Nat → Int32)} {L : List (Option Value)} {st : List Value} {n : Nat} {Q : xQ} {μ : xM}  (h : x_V S 13 18 L (.int (I 1) :: st) μ n Q) : x_V S 13 17 L (st) μ n Q := x_iconst (by decide +kernel) d13_17 h
theorem s13_18 {S : Nat × (Nat → Int32)} {L : List (Option Value)} {st : List Value} {n : Nat} {Q : xQ} {μ : xM} {x0 : Int32} {a : Nat} (hs : x_sh a = (2, 2)) (hst : st.length ≤ 4) (h : x_V S 11 0 [some (.ref a), some (.int x0)] [] μ n (x_bk S 13 18 L st Q)) : x_V S 13 18 L (.int x0 :: .ref a :: st) μ n Q := x_callV (k' := 11) (as := [.int x0]) (na := 1) d13_18 ⟨w392, by decide +kernel, by decide, by decide, by decide, by decide, by decide⟩ cf2 w389 w390 w391 (by decide +kernel) rfl hs (fun v hv => by
    simp only [List.mem_cons, List.not_mem_nil, or_false] at hv
    rcases hv with rfl <;> first | rfl | assumption) hst h
theorem s13_21 {S : Nat × (Nat → Int32)} {L : List (Option Value)} {st : List Value} {n : Nat} {Q : xQ} {μ : xM}  (h : Q (.inl none) μ n) : x_V S 13 21 L ([]) μ n Q := x_return d13_21 rfl h
theorem mC_14 : mC 14 = prog_8_method_10_code := rfl
theorem d14_0 : decode (mC 14) 0 = .ok (.aload_n 0, 1) := by rw [mC_14]; decide +kernel
theorem d14_1 : decode (mC 14) 1 = .ok (.iload_n 1, 1) := by rw [mC_14]; decide +kernel
theorem d14_2 : decode (mC 14) 2 = .ok (.invokevirtual 28, 3) := by rw [mC_14]; decide +kernel
theorem d14_5 : decode (mC 14) 5 = .ok (.aload_n 0, 1) := by rw [mC_14]; decide +kernel
theorem d14_6 : decode (mC 14) 6 = .ok (.bipush 61, 2) := by rw [mC_14]; decide +kernel
theorem d14_8 : decode (mC 14) 8 = .ok (.invokevirtual 24, 3) := by rw [mC_14]; decide +kernel
theorem d14_11 : decode (mC 14) 11 = .ok (.aload_n 0, 1) := by rw [mC_14]; decide +kernel
theorem d14_12 : decode (mC 14) 12 = .ok (.iload_n 2, 1) := by rw [mC_14]; decide +kernel
theorem d14_13 : decode (mC 14) 13 = .ok (.invokevirtual 24, 3) := by rw [mC_14]; decide +kernel
theorem d14_16 : decode (mC 14) 16 = .ok (.aload_n 0, 1) := by rw [mC_14]; decide +kernel
theorem d14_17 : decode (mC 14) 17 = .ok (.iconst 1, 1) := by rw [mC_14]; decide +kernel
theorem d14_18 : decode (mC 14) 18 = .ok (.invokevirtual 24, 3) := by rw [mC_14]; decide +kernel
theorem d14_21 : decode (mC 14) 21 = .ok (.return_, 1) := by rw [mC_14]; decide +kernel
theorem s14_0 {S : Nat × (Nat → Int32)} {L : List (Option Value)} {st : List Value} {n : Nat} {Q : xQ} {μ : xM} {a : Nat} (hl : L[0]? = some (some (.ref a))) (h : x_V S 14 1 L (.ref a :: st) μ n Q) : x_V S 14 0 L (st) μ n Q := x_aload_n d14_0 hl h
theorem s14_0N {S : Nat × (Nat → Int32)} {L : List (Option Value)} {st : List Value} {n : Nat} {Q : xQ} {μ : xM} (hl : L[0]? = some (some .null)) (h : x_V S 14 1 L (.null :: st) μ n Q) : x_V S 14 0 L st μ n Q := x_aload_nN d14_0 hl h
theorem s14_1 {S : Nat × (Nat → Int32)} {L : List (Option Value)} {st : List Value} {n : Nat} {Q : xQ} {μ : xM} {x : Int32} (hl : L[1]? = some (some (.int x))) (h : x_V S 14 2 L (.int x :: st) μ n Q) : x_V S 14 1 L (st) μ n Q := x_iload_n d14_1 hl h
theorem s14_2 {S : Nat × (Nat → Int32)} {L : List (Option Value)} {st : List Value} {n : Nat} {Q : xQ} {μ : xM} {x0 : Int32} {a : Nat} (hs : x_sh a = (2, 2)) (hst : st.length ≤ 4) (h : x_V S 12 0 [some (.ref a), some (.int x0), none, none, none] [] μ n (x_bk S 14 2 L st Q)) : x_V S 14 2 L (.int x0 :: .ref a :: st) μ n Q := x_callV (k' := 12) (as := [.int x0]) (na := 1) d14_2 ⟨w387, by decide +kernel, by decide, by decide, by decide, by decide, by decide⟩ cf2 w384 w385 w386 (by decide +kernel) rfl hs (fun v hv => by
    simp only [List.mem_cons, List.not_mem_nil, or_false] at hv
    rcases hv with rfl <;> first | rfl | assumption) hst h
theorem s14_5 {S : Nat × (Nat → Int32)} {L : List (Option Value)} {st : List Value} {n : Nat} {Q : xQ} {μ : xM} {a : Nat} (hl : L[0]? = some (some (.ref a))) (h : x_V S 14 6 L (.ref a :: st) μ n Q) : x_V S 14 5 L (st) μ n Q := x_aload_n d14_5 hl h
theorem s14_5N {S : Nat × (Nat → Int32)} {L : List (Option Value)} {st : List Value} {n : Nat} {Q : xQ} {μ : xM} (hl : L[0]? = some (some .null)) (h : x_V S 14 6 L (.null :: st) μ n Q) : x_V S 14 5 L st μ n Q := x_aload_nN d14_5 hl h
theorem s14_6 {S : Nat × (Nat → Int32)} {L : List (Option Value)} {st : List Value} {n : Nat} {Q : xQ} {μ : xM}  (h : x_V S 14 8 L (.int (I 61) :: st) μ n Q) : x_V S 14 6 L (st) μ n Q := x_bipush (by decide +kernel) d14_6 h
theorem s14_8 {S : Nat × (Nat → Int32)} {L : List (Option Value)} {st : List Value} {n : Nat} {Q : xQ} {μ : xM} {x0 : Int32} {a : Nat} (hs : x_sh a = (2, 2)) (hst : st.length ≤ 4) (h : x_V S 11 0 [some (.ref a), some (.int x0)] [] μ n (x_bk S 14 8 L st Q)) : x_V S 14 8 L (.int x0 :: .ref a :: st) μ n Q := x_callV (k' := 11) (as := [.int x0]) (na := 1) d14_8 ⟨w392, by decide +kernel, by decide, by decide, by decide, by decide, by decide⟩ cf2 w389 w390 w391 (by decide +kernel) rfl hs (fun v hv => by
    simp only [List.mem_cons, List.not_mem_nil, or_false] at hv
    rcases hv with rfl <;> first | rfl | assumption) hst h
theorem s14_11 {S : Nat × (Nat → Int32)} {L : List (Option Value)} {st : List Value} {n : Nat} {Q : xQ} {μ : xM} {a : Nat} (hl : L[0]? = some (some (.ref a))) (h : x_V S 14 12 L (.ref a :: st) μ n Q) : x_V S 14 11 L (st) μ n Q := x_aload_n d14_11 hl h
theorem s14_11N {S : Nat × (Nat → Int32)} {L : List (Option Value)} {st : List Value} {n : Nat} {Q : xQ} {μ : xM} (hl : L[0]? = some (some .null)) (h : x_V S 14 12 L (.null :: st) μ n Q) : x_V S 14 11 L st μ n Q := x_aload_nN d14_11 hl h
theorem s14_12 {S : Nat × (Nat → Int32)} {L : List (Option Value)} {st : List Value} {n : Nat} {Q : xQ} {μ : xM} {x : Int32} (hl : L[2]? = some (some (.int x))) (h : x_V S 14 13 L (.int x :: st) μ n Q) : x_V S 14 12 L (st) μ n Q := x_iload_n d14_12 hl h
theorem s14_13 {S : Nat × (Nat → Int32)} {L : List (Option Value)} {st : List Value} {n : Nat} {Q : xQ} {μ : xM} {x0 : Int32} {a : Nat} (hs : x_sh a = (2, 2)) (hst : st.length ≤ 4) (h : x_V S 11 0 [some (.ref a), some (.int x0)] [] μ n (x_bk S 14 13 L st Q)) : x_V S 14 13 L (.int x0 :: .ref a :: st) μ n Q := x_callV (k' := 11) (as := [.int x0]) (na := 1) d14_13 ⟨w392, by decide +kernel, by decide, by decide, by decide, by decide, by decide⟩ cf2 w389 w390 w391 (by decide +kernel) rfl hs (fun v hv => by
    simp only [List.mem_cons, List.not_mem_nil, or_false] at hv
    rcases hv with rfl <;> first | rfl | assumption) hst h
theorem s14_16 {S : Nat × (Nat → Int32)} {L : List (Option Value)} {st : List Value} {n : Nat} {Q : xQ} {μ : xM} {a : Nat} (hl : L[0]? = some (some (.ref a))) (h : x_V S 14 17 L (.ref a :: st) μ n Q) : x_V S 14 16 L (st) μ n Q := x_aload_n d14_16 hl h
theorem s14_16N {S : Nat × (Nat → Int32)} {L : List (Option Value)} {st : List Value} {n : Nat} {Q : xQ} {μ : xM} (hl : L[0]? = some (some .null)) (h : x_V S 14 17 L (.null :: st) μ n Q) : x_V S 14 16 L st μ n Q := x_aload_nN d14_16 hl h
theorem s14_17 {S : Nat × (Nat → Int32)} {L : List (Option Value)} {st : List Value} {n : Nat} {Q : xQ} {μ : xM}  (h : x_V S 14 18 L (.int (I 1) :: st) μ n Q) : x_V S 14 17 L (st) μ n Q := x_iconst (by decide +kernel) d14_17 h
theorem s14_18 {S : Nat × (Nat → Int32)} {L : List (Option Value)} {st : List Value} {n : Nat} {Q : xQ} {μ : xM} {x0 : Int32} {a : Nat} (hs : x_sh a = (2, 2)) (hst : st.length ≤ 4) (h : x_V S 11 0 [some (.ref a), some (.int x0)] [] μ n (x_bk S 14 18 L st Q)) : x_V S 14 18 L (.int x0 :: .ref a :: st) μ n Q := x_callV (k' := 11) (as := [.int x0]) (na := 1) d14_18 ⟨w392, by decide +kernel, by decide, by decide, by decide, by decide, by decide⟩ cf2 w389 w390 w391 (by decide +kernel) rfl hs (fun v hv => by
    simp only [List.mem_cons, List.not_mem_nil, or_false] at hv
    rcases hv with rfl <;> first | rfl | assumption) hst h
theorem s14_21 {S : Nat × (Nat → Int32)} {L : List (Option Value)} {st : List Value} {n : Nat} {Q : xQ} {μ : xM}  (h : Q (.inl none) μ n) : x_V S 14 21 L ([]) μ n Q := x_return d14_21 rfl h
theorem mC_15 : mC 15 = prog_8_method_11_code := rfl
theorem d15_0 : decode (mC 15) 0 = .ok (.aload_n 0, 1) := by rw [mC_15]; decide +kernel
theorem d15_1 : decode (mC 15) 1 = .ok (.aload_n 0, 1) := by rw [mC_15]; decide +kernel
theorem d15_2 : decode (mC 15) 2 = .ok (.getfield 15, 3) := by rw [mC_15]; decide +kernel
theorem d15_5 : decode (mC 15) 5 = .ok (.invokevirtual 31, 3) := by rw [mC_15]; decide +kernel
theorem d15_8 : decode (mC 15) 8 = .ok (.istore_n 1, 1) := by rw [mC_15]; decide +kernel
theorem d15_9 : decode (mC 15) 9 = .ok (.aload_n 0, 1) := by rw [mC_15]; decide +kernel
theorem d15_10 : decode (mC 15) 10 = .ok (.bipush 10, 2) := by rw [mC_15]; decide +kernel
theorem d15_12 : decode (mC 15) 12 = .ok (.invokevirtual 28, 3) := by rw [mC_15]; decide +kernel
theorem d15_15 : decode (mC 15) 15 = .ok (.aload_n 0, 1) := by rw [mC_15]; decide +kernel
theorem d15_16 : decode (mC 15) 16 = .ok (.bipush 61, 2) := by rw [mC_15]; decide +kernel
theorem d15_18 : decode (mC 15) 18 = .ok (.invokevirtual 24, 3) := by rw [mC_15]; decide +kernel
theorem d15_21 : decode (mC 15) 21 = .ok (.aload_n 0, 1) := by rw [mC_15]; decide +kernel
theorem d15_22 : decode (mC 15) 22 = .ok (.bipush 48, 2) := by rw [mC_15]; decide +kernel
theorem d15_24 : decode (mC 15) 24 = .ok (.iload_n 1, 1) := by rw [mC_15]; decide +kernel
theorem d15_25 : decode (mC 15) 25 = .ok (.bipush 100, 2) := by rw [mC_15]; decide +kernel
theorem d15_27 : decode (mC 15) 27 = .ok (.idiv, 1) := by rw [mC_15]; decide +kernel
theorem d15_28 : decode (mC 15) 28 = .ok (.iadd, 1) := by rw [mC_15]; decide +kernel
theorem d15_29 : decode (mC 15) 29 = .ok (.invokevirtual 24, 3) := by rw [mC_15]; decide +kernel
theorem d15_32 : decode (mC 15) 32 = .ok (.aload_n 0, 1) := by rw [mC_15]; decide +kernel
theorem d15_33 : decode (mC 15) 33 = .ok (.bipush 48, 2) := by rw [mC_15]; decide +kernel
theorem d15_35 : decode (mC 15) 35 = .ok (.iload_n 1, 1) := by rw [mC_15]; decide +kernel
theorem d15_36 : decode (mC 15) 36 = .ok (.bipush 10, 2) := by rw [mC_15]; decide +kernel
theorem d15_38 : decode (mC 15) 38 = .ok (.idiv, 1) := by rw [mC_15]; decide +kernel
theorem d15_39 : decode (mC 15) 39 = .ok (.bipush 10, 2) := by rw [mC_15]; decide +kernel
theorem d15_41 : decode (mC 15) 41 = .ok (.irem, 1) := by rw [mC_15]; decide +kernel
theorem d15_42 : decode (mC 15) 42 = .ok (.iadd, 1) := by rw [mC_15]; decide +kernel
theorem d15_43 : decode (mC 15) 43 = .ok (.invokevirtual 24, 3) := by rw [mC_15]; decide +kernel
theorem d15_46 : decode (mC 15) 46 = .ok (.aload_n 0, 1) := by rw [mC_15]; decide +kernel
theorem d15_47 : decode (mC 15) 47 = .ok (.bipush 48, 2) := by rw [mC_15]; decide +kernel
theorem d15_49 : decode (mC 15) 49 = .ok (.iload_n 1, 1) := by rw [mC_15]; decide +kernel
theorem d15_50 : decode (mC 15) 50 = .ok (.bipush 10, 2) := by rw [mC_15]; decide +kernel
theorem d15_52 : decode (mC 15) 52 = .ok (.irem, 1) := by rw [mC_15]; decide +kernel
theorem d15_53 : decode (mC 15) 53 = .ok (.iadd, 1) := by rw [mC_15]; decide +kernel
theorem d15_54 : decode (mC 15) 54 = .ok (.invokevirtual 24, 3) := by rw [mC_15]; decide +kernel
theorem d15_57 : decode (mC 15) 57 = .ok (.aload_n 0, 1) := by rw [mC_15]; decide +kernel
theorem d15_58 : decode (mC 15) 58 = .ok (.iconst 1, 1) := by rw [mC_15]; decide +kernel
theorem d15_59 : decode (mC 15) 59 = .ok (.invokevirtual 24, 3) := by rw [mC_15]; decide +kernel
theorem d15_62 : decode (mC 15) 62 = .ok (.return_, 1) := by rw [mC_15]; decide +kernel
theorem s15_0 {S : Nat × (Nat → Int32)} {L : List (Option Value)} {st : List Value} {n : Nat} {Q : xQ} {μ : xM} {a : Nat} (hl : L[0]? = some (some (.ref a))) (h : x_V S 15 1 L (.ref a :: st) μ n Q) : x_V S 15 0 L (st) μ n Q := x_aload_n d15_0 hl h
theorem s15_0N {S : Nat × (Nat → Int32)} {L : List (Option Value)} {st : List Value} {n : Nat} {Q : xQ} {μ : xM} (hl : L[0]? = some (some .null)) (h : x_V S 15 1 L (.null :: st) μ n Q) : x_V S 15 0 L st μ n Q := x_aload_nN d15_0 hl h
theorem s15_1 {S : Nat × (Nat → Int32)} {L : List (Option Value)} {st : List Value} {n : Nat} {Q : xQ} {μ : xM} {a : Nat} (hl : L[0]? = some (some (.ref a))) (h : x_V S 15 2 L (.ref a :: st) μ n Q) : x_V S 15 1 L (st) μ n Q := x_aload_n d15_1 hl h
theorem s15_1N {S : Nat × (Nat → Int32)} {L : List (Option Value)} {st : List Value} {n : Nat} {Q : xQ} {μ : xM} (hl : L[0]? = some (some .null)) (h : x_V S 15 2 L (.null :: st) μ n Q) : x_V S 15 1 L st μ n Q := x_aload_nN d15_1 hl h
theorem s15_2 {S : Nat × (Nat → Int32)} {L : List (Option Value)} {st : List Value} {n : Nat} {Q : xQ} {g : Nat → Nat → Int} {a : Nat} (hs : x_sh a = (2, 2)) (hp : x_pt a 1 = none) (ha : a ≠ x_out) (h : x_V S 15 5 L (.int (I (g a 1)) :: st) (x_vm g) n Q) : x_V S 15 2 L (.ref a :: st) (x_vm g) n Q := v_get (i := 1) cf2 d15_2 (by decide) w41 hs hp ha h
theorem s15_5 {S : Nat × (Nat → Int32)} {L : List (Option Value)} {st : List Value} {n : Nat} {Q : xQ} {μ : xM} {x0 : Int32} {a : Nat} (hs : x_sh a = (2, 2)) (hst : st.length ≤ 4) (h : x_V S 16 0 [some (.ref a), some (.int x0), none, none] [] μ n (x_bk S 15 5 L st Q)) : x_V S 15 5 L (.int x0 :: .ref a :: st) μ n Q := x_callV (k' := 16) (as := [.int x0]) (na := 1) d15_5 ⟨w426, by decide +kernel, by decide, by decide, by decide, by decide, by decide⟩ cf2 w423 w424 w425 (by decide +kernel) rfl hs (fun v hv => by
    simp only [List.mem_cons, List.not_mem_nil, or_false] at hv
    rcases hv with rfl <;> first | rfl | assumption) hst h
theorem s15_8 {S : Nat × (Nat → Int32)} {L : List (Option Value)} {st : List Value} {n : Nat} {Q : xQ} {μ : xM} {x : Int32} (h : x_V S 15 9 (L.set 1 (some (.int x))) (st) μ n Q) : x_V S 15 8 L (.int x :: st) μ n Q := x_istore_n d15_8 (by decide) h
theorem s15_9 {S : Nat × (Nat → Int32)} {L : List (Option Value)} {st : List Value} {n : Nat} {Q : xQ} {μ : xM} {a : Nat} (hl : L[0]? = some (some (.ref a))) (h : x_V S 15 10 L (.ref a :: st) μ n Q) : x_V S 15 9 L (st) μ n Q := x_aload_n d15_9 hl h
theorem s15_9N {S : Nat × (Nat → Int32)} {L : List (Option Value)} {st : List Value} {n : Nat} {Q : xQ} {μ : xM} (hl : L[0]? = some (some .null)) (h : x_V S 15 10 L (.null :: st) μ n Q) : x_V S 15 9 L st μ n Q := x_aload_nN d15_9 hl h
theorem s15_10 {S : Nat × (Nat → Int32)} {L : List (Option Value)} {st : List Value} {n : Nat} {Q : xQ} {μ : xM}  (h : x_V S 15 12 L (.int (I 10) :: st) μ n Q) : x_V S 15 10 L (st) μ n Q := x_bipush (by decide +kernel) d15_10 h
theorem s15_12 {S : Nat × (Nat → Int32)} {L : List (Option Value)} {st : List Value} {n : Nat} {Q : xQ} {μ : xM} {x0 : Int32} {a : Nat} (hs : x_sh a = (2, 2)) (hst : st.length ≤ 4) (h : x_V S 12 0 [some (.ref a), some (.int x0), none, none, none] [] μ n (x_bk S 15 12 L st Q)) : x_V S 15 12 L (.int x0 :: .ref a :: st) μ n Q := x_callV (k' := 12) (as := [.int x0]) (na := 1) d15_12 ⟨w387, by decide +kernel, by decide, by decide, by decide, by decide, by decide⟩ cf2 w384 w385 w386 (by decide +kernel) rfl hs (fun v hv => by
    simp only [List.mem_cons, List.not_mem_nil, or_false] at hv
    rcases hv with rfl <;> first | rfl | assumption) hst h
theorem s15_15 {S : Nat × (Nat → Int32)} {L : List (Option Value)} {st : List Value} {n : Nat} {Q : xQ} {μ : xM} {a : Nat} (hl : L[0]? = some (some (.ref a))) (h : x_V S 15 16 L (.ref a :: st) μ n Q) : x_V S 15 15 L (st) μ n Q := x_aload_n d15_15 hl h
theorem s15_15N {S : Nat × (Nat → Int32)} {L : List (Option Value)} {st : List Value} {n : Nat} {Q : xQ} {μ : xM} (hl : L[0]? = some (some .null)) (h : x_V S 15 16 L (.null :: st) μ n Q) : x_V S 15 15 L st μ n Q := x_aload_nN d15_15 hl h
theorem s15_16 {S : Nat × (Nat → Int32)} {L : List (Option Value)} {st : List Value} {n : Nat} {Q : xQ} {μ : xM}  (h : x_V S 15 18 L (.int (I 61) :: st) μ n Q) : x_V S 15 16 L (st) μ n Q := x_bipush (by decide +kernel) d15_16 h
theorem s15_18 {S : Nat × (Nat → Int32)} {L : List (Option Value)} {st : List Value} {n : Nat} {Q : xQ} {μ : xM} {x0 : Int32} {a : Nat} (hs : x_sh a = (2, 2)) (hst : st.length ≤ 4) (h : x_V S 11 0 [some (.ref a), some (.int x0)] [] μ n (x_bk S 15 18 L st Q)) : x_V S 15 18 L (.int x0 :: .ref a :: st) μ n Q := x_callV (k' := 11) (as := [.int x0]) (na := 1) d15_18 ⟨w392, by decide +kernel, by decide, by decide, by decide, by decide, by decide⟩ cf2 w389 w390 w391 (by decide +kernel) rfl hs (fun v hv => by
    simp only [List.mem_cons, List.not_mem_nil, or_false] at hv
    rcases hv with rfl <;> first | rfl | assumption) hst h
theorem s15_21 {S : Nat × (Nat → Int32)} {L : List (Option Value)} {st : List Value} {n : Nat} {Q : xQ} {μ : xM} {a : Nat} (hl : L[0]? = some (some (.ref a))) (h : x_V S 15 22 L (.ref a :: st) μ n Q) : x_V S 15 21 L (st) μ n Q := x_aload_n d15_21 hl h
theorem s15_21N {S : Nat × (Nat → Int32)} {L : List (Option Value)} {st : List Value} {n : Nat} {Q : xQ} {μ : xM} (hl : L[0]? = some (some .null)) (h : x_V S 15 22 L (.null :: st) μ n Q) : x_V S 15 21 L st μ n Q := x_aload_nN d15_21 hl h
theorem s15_22 {S : Nat × (Nat → Int32)} {L : List (Option Value)} {st : List Value} {n : Nat} {Q : xQ} {μ : xM}  (h : x_V S 15 24 L (.int (I 48) :: st) μ n Q) : x_V S 15 22 L (st) μ n Q := x_bipush (by decide +kernel) d15_22 h
theorem s15_24 {S : Nat × (Nat → Int32)} {L : List (Option Value)} {st : List Value} {n : Nat} {Q : xQ} {μ : xM} {x : Int32} (hl : L[1]? = some (some (.int x))) (h : x_V S 15 25 L (.int x :: st) μ n Q) : x_V S 15 24 L (st) μ n Q := x_iload_n d15_24 hl h
theorem s15_25 {S : Nat × (Nat → Int32)} {L : List (Option Value)} {st : List Value} {n : Nat} {Q : xQ} {μ : xM}  (h : x_V S 15 27 L (.int (I 100) :: st) μ n Q) : x_V S 15 25 L (st) μ n Q := x_bipush (by decide +kernel) d15_25 h
theorem s15_27 {S : Nat × (Nat → Int32)} {L : List (Option Value)} {st : List Value} {n : Nat} {Q : xQ} {μ : xM} {x y : Int} (hx : ib x) (hy : ib y) (hx0 : 0 ≤ x) (hy0 : 0 < y) (h : x_V S 15 28 L (.int (I (x / y)) :: st) μ n Q) : x_V S 15 27 L (.int (I y) :: .int (I x) :: st) μ n Q := v_idiv d15_27 hx hy hx0 hy0 h
theorem s15_28 {S : Nat × (Nat → Int32)} {L : List (Option Value)} {st : List Value} {n : Nat} {Q : xQ} {μ : xM} {x y : Int} (h : x_V S 15 29 L (.int (I (x + y)) :: st) μ n Q) : x_V S 15 28 L (.int (I y) :: .int (I x) :: st) μ n Q := v_iadd d15_28 h
theorem s15_29 {S : Nat × (Nat → Int32)} {L : List (Option Value)} {st : List Value} {n : Nat} {Q : xQ} {μ : xM} {x0 : Int32} {a : Nat} (hs : x_sh a = (2, 2)) (hst : st.length ≤ 4) (h : x_V S 11 0 [some (.ref a), some (.int x0)] [] μ n (x_bk S 15 29 L st Q)) : x_V S 15 29 L (.int x0 :: .ref a :: st) μ n Q := x_callV (k' := 11) (as := [.int x0]) (na := 1) d15_29 ⟨w392, by decide +kernel, by decide, by decide, by decide, by decide, by decide⟩ cf2 w389 w390 w391 (by decide +kernel) rfl hs (fun v hv => by
    simp only [List.mem_cons, List.not_mem_nil, or_false] at hv
    rcases hv with rfl <;> first | rfl | assumption) hst h
theorem s15_32 {S : Nat × (Nat → Int32)} {L : List (Option Value)} {st : List Value} {n : Nat} {Q : xQ} {μ : xM} {a : Nat} (hl : L[0]? = some (some (.ref a))) (h : x_V S 15 33 L (.ref a :: st) μ n Q) : x_V S 15 32 L (st) μ n Q := x_aload_n d15_32 hl h
theorem s15_32N {S : Nat × (Nat → Int32)} {L : List (Option Value)} {st : List Value} {n : Nat} {Q : xQ} {μ : xM} (hl : L[0]? = some (some .null)) (h : x_V S 15 33 L (.null :: st) μ n Q) : x_V S 15 32 L st μ n Q := x_aload_nN d15_32 hl h
theorem s15_33 {S : Nat × (Nat → Int32)} {L : List (Option Value)} {st : List Value} {n : Nat} {Q : xQ} {μ : xM}  (h : x_V S 15 35 L (.int (I 48) :: st) μ n Q) : x_V S 15 33 L (st) μ n Q := x_bipush (by decide +kernel) d15_33 h
theorem s15_35 {S : Nat × (Nat → Int32)} {L : List (Option Value)} {st : List Value} {n : Nat} {Q : xQ} {μ : xM} {x : Int32} (hl : L[1]? = some (some (.int x))) (h : x_V S 15 36 L (.int x :: st) μ n Q) : x_V S 15 35 L (st) μ n Q := x_iload_n d15_35 hl h
theorem s15_36 {S : Nat × (Nat → Int32)} {L : List (Option Value)} {st : List Value} {n : Nat} {Q : xQ} {μ : xM}  (h : x_V S 15 38 L (.int (I 10) :: st) μ n Q) : x_V S 15 36 L (st) μ n Q := x_bipush (by decide +kernel) d15_36 h
theorem s15_38 {S : Nat × (Nat → Int32)} {L : List (Option Value)} {st : List Value} {n : Nat} {Q : xQ} {μ : xM} {x y : Int} (hx : ib x) (hy : ib y) (hx0 : 0 ≤ x) (hy0 : 0 < y) (h : x_V S 15 39 L (.int (I (x / y)) :: st) μ n Q) : x_V S 15 38 L (.int (I y) :: .int (I x) :: st) μ n Q := v_idiv d15_38 hx hy hx0 hy0 h
theorem s15_39 {S : Nat × (Nat → Int32)} {L : List (Option Value)} {st : List Value} {n : Nat} {Q : xQ} {μ : xM}  (h : x_V S 15 41 L (.int (I 10) :: st) μ n Q) : x_V S 15 39 L (st) μ n Q := x_bipush (by decide +kernel) d15_39 h
theorem s15_41 {S : Nat × (Nat → Int32)} {L : List (Option Value)} {st : List Value} {n : Nat} {Q : xQ} {μ : xM} {x y : Int} (hx : ib x) (hy : ib y) (hx0 : 0 ≤ x) (hy0 : 0 < y) (h : x_V S 15 42 L (.int (I (x % y)) :: st) μ n Q) : x_V S 15 41 L (.int (I y) :: .int (I x) :: st) μ n Q := v_irem d15_41 hx hy hx0 hy0 h
theorem s15_42 {S : Nat × (Nat → Int32)} {L : List (Option Value)} {st : List Value} {n : Nat} {Q : xQ} {μ : xM} {x y : Int} (h : x_V S 15 43 L (.int (I (x + y)) :: st) μ n Q) : x_V S 15 42 L (.int (I y) :: .int (I x) :: st) μ n Q := v_iadd d15_42 h
theorem s15_43 {S : Nat × (Nat → Int32)} {L : List (Option Value)} {st : List Value} {n : Nat} {Q : xQ} {μ : xM} {x0 : Int32} {a : Nat} (hs : x_sh a = (2, 2)) (hst : st.length ≤ 4) (h : x_V S 11 0 [some (.ref a), some (.int x0)] [] μ n (x_bk S 15 43 L st Q)) : x_V S 15 43 L (.int x0 :: .ref a :: st) μ n Q := x_callV (k' := 11) (as := [.int x0]) (na := 1) d15_43 ⟨w392, by decide +kernel, by decide, by decide, by decide, by decide, by decide⟩ cf2 w389 w390 w391 (by decide +kernel) rfl hs (fun v hv => by
    simp only [List.mem_cons, List.not_mem_nil, or_false] at hv
    rcases hv with rfl <;> first | rfl | assumption) hst h
theorem s15_46 {S : Nat × (Nat → Int32)} {L : List (Option Value)} {st : List Value} {n : Nat} {Q : xQ} {μ : xM} {a : Nat} (hl : L[0]? = some (some (.ref a))) (h : x_V S 15 47 L (.ref a :: st) μ n Q) : x_V S 15 46 L (st) μ n Q := x_aload_n d15_46 hl h
theorem s15_46N {S : Nat × (Nat → Int32)} {L : List (Option Value)} {st : List Value} {n : Nat} {Q : xQ} {μ : xM} (hl : L[0]? = some (some .null)) (h : x_V S 15 47 L (.null :: st) μ n Q) : x_V S 15 46 L st μ n Q := x_aload_nN d15_46 hl h
theorem s15_47 {S : Nat × (Nat → Int32)} {L : List (Option Value)} {st : List Value} {n : Nat} {Q : xQ} {μ : xM}  (h : x_V S 15 49 L (.int (I 48) :: st) μ n Q) : x_V S 15 47 L (st) μ n Q := x_bipush (by decide +kernel) d15_47 h
theorem s15_49 {S : Nat × (Nat → Int32)} {L : List (Option Value)} {st : List Value} {n : Nat} {Q : xQ} {μ : xM} {x : Int32} (hl : L[1]? = some (some (.int x))) (h : x_V S 15 50 L (.int x :: st) μ n Q) : x_V S 15 49 L (st) μ n Q := x_iload_n d15_49 hl h
theorem s15_50 {S : Nat × (Nat → Int32)} {L : List (Option Value)} {st : List Value} {n : Nat} {Q : xQ} {μ : xM}  (h : x_V S 15 52 L (.int (I 10) :: st) μ n Q) : x_V S 15 50 L (st) μ n Q := x_bipush (by decide +kernel) d15_50 h
theorem s15_52 {S : Nat × (Nat → Int32)} {L : List (Option Value)} {st : List Value} {n : Nat} {Q : xQ} {μ : xM} {x y : Int} (hx : ib x) (hy : ib y) (hx0 : 0 ≤ x) (hy0 : 0 < y) (h : x_V S 15 53 L (.int (I (x % y)) :: st) μ n Q) : x_V S 15 52 L (.int (I y) :: .int (I x) :: st) μ n Q := v_irem d15_52 hx hy hx0 hy0 h
theorem s15_53 {S : Nat × (Nat → Int32)} {L : List (Option Value)} {st : List Value} {n : Nat} {Q : xQ} {μ : xM} {x y : Int} (h : x_V S 15 54 L (.int (I (x + y)) :: st) μ n Q) : x_V S 15 53 L (.int (I y) :: .int (I x) :: st) μ n Q := v_iadd d15_53 h
theorem s15_54 {S : Nat × (Nat → Int32)} {L : List (Option Value)} {st : List Value} {n : Nat} {Q : xQ} {μ : xM} {x0 : Int32} {a : Nat} (hs : x_sh a = (2, 2)) (hst : st.length ≤ 4) (h : x_V S 11 0 [some (.ref a), some (.int x0)] [] μ n (x_bk S 15 54 L st Q)) : x_V S 15 54 L (.int x0 :: .ref a :: st) μ n Q := x_callV (k' := 11) (as := [.int x0]) (na := 1) d15_54 ⟨w392, by decide +kernel, by decide, by decide, by decide, by decide, by decide⟩ cf2 w389 w390 w391 (by decide +kernel) rfl hs (fun v hv => by
    simp only [List.mem_cons, List.not_mem_nil, or_false] at hv
    rcases hv with rfl <;> first | rfl | assumption) hst h
theorem s15_57 {S : Nat × (Nat → Int32)} {L : List (Option Value)} {st : List Value} {n : Nat} {Q : xQ} {μ : xM} {a : Nat} (hl : L[0]? = some (some (.ref a))) (h : x_V S 15 58 L (.ref a :: st) μ n Q) : x_V S 15 57 L (st) μ n Q := x_aload_n d15_57 hl h
theorem s15_57N {S : Nat × (Nat → Int32)} {L : List (Option Value)} {st : List Value} {n : Nat} {Q : xQ} {μ : xM} (hl : L[0]? = some (some .null)) (h : x_V S 15 58 L (.null :: st) μ n Q) : x_V S 15 57 L st μ n Q := x_aload_nN d15_57 hl h
theorem s15_58 {S : Nat × (Nat → Int32)} {L : List (Option Value)} {st : List Value} {n : Nat} {Q : xQ} {μ : xM}  (h : x_V S 15 59 L (.int (I 1) :: st) μ n Q) : x_V S 15 58 L (st) μ n Q := x_iconst (by decide +kernel) d15_58 h
theorem s15_59 {S : Nat × (Nat → Int32)} {L : List (Option Value)} {st : List Value} {n : Nat} {Q : xQ} {μ : xM} {x0 : Int32} {a : Nat} (hs : x_sh a = (2, 2)) (hst : st.length ≤ 4) (h : x_V S 11 0 [some (.ref a), some (.int x0)] [] μ n (x_bk S 15 59 L st Q)) : x_V S 15 59 L (.int x0 :: .ref a :: st) μ n Q := x_callV (k' := 11) (as := [.int x0]) (na := 1) d15_59 ⟨w392, by decide +kernel, by decide, by decide, by decide, by decide, by decide⟩ cf2 w389 w390 w391 (by decide +kernel) rfl hs (fun v hv => by
    simp only [List.mem_cons, List.not_mem_nil, or_false] at hv
    rcases hv with rfl <;> first | rfl | assumption) hst h
theorem s15_62 {S : Nat × (Nat → Int32)} {L : List (Option Value)} {st : List Value} {n : Nat} {Q : xQ} {μ : xM}  (h : Q (.inl none) μ n) : x_V S 15 62 L ([]) μ n Q := x_return d15_62 rfl h
theorem mC_16 : mC 16 = prog_8_method_12_code := rfl
theorem d16_0 : decode (mC 16) 0 = .ok (.iconst 0, 1) := by rw [mC_16]; decide +kernel
theorem d16_1 : decode (mC 16) 1 = .ok (.istore_n 2, 1) := by rw [mC_16]; decide +kernel
theorem d16_2 : decode (mC 16) 2 = .ok (.iconst 0, 1) := by rw [mC_16]; decide +kernel
theorem d16_3 : decode (mC 16) 3 = .ok (.istore_n 3, 1) := by rw [mC_16]; decide +kernel
theorem d16_4 : decode (mC 16) 4 = .ok (.iload_n 3, 1) := by rw [mC_16]; decide +kernel
theorem d16_5 : decode (mC 16) 5 = .ok (.iload_n 1, 1) := by rw [mC_16]; decide +kernel
theorem d16_6 : decode (mC 16) 6 = .ok (.if_icmp .ge 26, 3) := by rw [mC_16]; decide +kernel
theorem d16_9 : decode (mC 16) 9 = .ok (.iload_n 3, 1) := by rw [mC_16]; decide +kernel
theorem d16_10 : decode (mC 16) 10 = .ok (.aload_n 0, 1) := by rw [mC_16]; decide +kernel
theorem d16_11 : decode (mC 16) 11 = .ok (.getfield 15, 3) := by rw [mC_16]; decide +kernel
theorem d16_14 : decode (mC 16) 14 = .ok (.if_icmp .ge 18, 3) := by rw [mC_16]; decide +kernel
theorem d16_17 : decode (mC 16) 17 = .ok (.iload_n 2, 1) := by rw [mC_16]; decide +kernel
theorem d16_18 : decode (mC 16) 18 = .ok (.aload_n 0, 1) := by rw [mC_16]; decide +kernel
theorem d16_19 : decode (mC 16) 19 = .ok (.getfield 11, 3) := by rw [mC_16]; decide +kernel
theorem d16_22 : decode (mC 16) 22 = .ok (.iload_n 3, 1) := by rw [mC_16]; decide +kernel
theorem d16_23 : decode (mC 16) 23 = .ok (.iaload, 1) := by rw [mC_16]; decide +kernel
theorem d16_24 : decode (mC 16) 24 = .ok (.iadd, 1) := by rw [mC_16]; decide +kernel
theorem d16_25 : decode (mC 16) 25 = .ok (.istore_n 2, 1) := by rw [mC_16]; decide +kernel
theorem d16_26 : decode (mC 16) 26 = .ok (.iinc 3 1, 3) := by rw [mC_16]; decide +kernel
theorem d16_29 : decode (mC 16) 29 = .ok (.goto (-25), 3) := by rw [mC_16]; decide +kernel
theorem d16_32 : decode (mC 16) 32 = .ok (.iload_n 2, 1) := by rw [mC_16]; decide +kernel
theorem d16_33 : decode (mC 16) 33 = .ok (.sipush 256, 3) := by rw [mC_16]; decide +kernel
theorem d16_36 : decode (mC 16) 36 = .ok (.irem, 1) := by rw [mC_16]; decide +kernel
theorem d16_37 : decode (mC 16) 37 = .ok (.ireturn, 1) := by rw [mC_16]; decide +kernel
theorem s16_0 {S : Nat × (Nat → Int32)} {L : List (Option Value)} {st : List Value} {n : Nat} {Q : xQ} {μ : xM}  (h : x_V S 16 1 L (.int (I 0) :: st) μ n Q) : x_V S 16 0 L (st) μ n Q := x_iconst (by decide +kernel) d16_0 h
theorem s16_1 {S : Nat × (Nat → Int32)} {L : List (Option Value)} {st : List Value} {n : Nat} {Q : xQ} {μ : xM} {x : Int32} (h : x_V S 16 2 (L.set 2 (some (.int x))) (st) μ n Q) : x_V S 16 1 L (.int x :: st) μ n Q := x_istore_n d16_1 (by decide) h
theorem s16_2 {S : Nat × (Nat → Int32)} {L : List (Option Value)} {st : List Value} {n : Nat} {Q : xQ} {μ : xM}  (h : x_V S 16 3 L (.int (I 0) :: st) μ n Q) : x_V S 16 2 L (st) μ n Q := x_iconst (by decide +kernel) d16_2 h
theorem s16_3 {S : Nat × (Nat → Int32)} {L : List (Option Value)} {st : List Value} {n : Nat} {Q : xQ} {μ : xM} {x : Int32} (h : x_V S 16 4 (L.set 3 (some (.int x))) (st) μ n Q) : x_V S 16 3 L (.int x :: st) μ n Q := x_istore_n d16_3 (by decide) h
theorem s16_4 {S : Nat × (Nat → Int32)} {L : List (Option Value)} {st : List Value} {n : Nat} {Q : xQ} {μ : xM} {x : Int32} (hl : L[3]? = some (some (.int x))) (h : x_V S 16 5 L (.int x :: st) μ n Q) : x_V S 16 4 L (st) μ n Q := x_iload_n d16_4 hl h
theorem s16_5 {S : Nat × (Nat → Int32)} {L : List (Option Value)} {st : List Value} {n : Nat} {Q : xQ} {μ : xM} {x : Int32} (hl : L[1]? = some (some (.int x))) (h : x_V S 16 6 L (.int x :: st) μ n Q) : x_V S 16 5 L (st) μ n Q := x_iload_n d16_5 hl h
theorem s16_6 {S : Nat × (Nat → Int32)} {L : List (Option Value)} {st : List Value} {n : Nat} {Q : xQ} {μ : xM} {x y : Int} (hx : ib x) (hy : ib y) (kt : y ≤ x → x_V S 16 32 L (st) μ n Q) (kf : x < y → x_V S 16 9 L (st) μ n Q) : x_V S 16 6 L (.int (I y) :: .int (I x) :: st) μ n Q := v_icmp_ge d16_6 (by decide) hx hy kt kf
theorem s16_9 {S : Nat × (Nat → Int32)} {L : List (Option Value)} {st : List Value} {n : Nat} {Q : xQ} {μ : xM} {x : Int32} (hl : L[3]? = some (some (.int x))) (h : x_V S 16 10 L (.int x :: st) μ n Q) : x_V S 16 9 L (st) μ n Q := x_iload_n d16_9 hl h
theorem s16_10 {S : Nat × (Nat → Int32)} {L : List (Option Value)} {st : List Value} {n : Nat} {Q : xQ} {μ : xM} {a : Nat} (hl : L[0]? = some (some (.ref a))) (h : x_V S 16 11 L (.ref a :: st) μ n Q) : x_V S 16 10 L (st) μ n Q := x_aload_n d16_10 hl h
theorem s16_10N {S : Nat × (Nat → Int32)} {L : List (Option Value)} {st : List Value} {n : Nat} {Q : xQ} {μ : xM} (hl : L[0]? = some (some .null)) (h : x_V S 16 11 L (.null :: st) μ n Q) : x_V S 16 10 L st μ n Q := x_aload_nN d16_10 hl h
theorem s16_11 {S : Nat × (Nat → Int32)} {L : List (Option Value)} {st : List Value} {n : Nat} {Q : xQ} {g : Nat → Nat → Int} {a : Nat} (hs : x_sh a = (2, 2)) (hp : x_pt a 1 = none) (ha : a ≠ x_out) (h : x_V S 16 14 L (.int (I (g a 1)) :: st) (x_vm g) n Q) : x_V S 16 11 L (.ref a :: st) (x_vm g) n Q := v_get (i := 1) cf2 d16_11 (by decide) w41 hs hp ha h
theorem s16_14 {S : Nat × (Nat → Int32)} {L : List (Option Value)} {st : List Value} {n : Nat} {Q : xQ} {μ : xM} {x y : Int} (hx : ib x) (hy : ib y) (kt : y ≤ x → x_V S 16 32 L (st) μ n Q) (kf : x < y → x_V S 16 17 L (st) μ n Q) : x_V S 16 14 L (.int (I y) :: .int (I x) :: st) μ n Q := v_icmp_ge d16_14 (by decide) hx hy kt kf
theorem s16_17 {S : Nat × (Nat → Int32)} {L : List (Option Value)} {st : List Value} {n : Nat} {Q : xQ} {μ : xM} {x : Int32} (hl : L[2]? = some (some (.int x))) (h : x_V S 16 18 L (.int x :: st) μ n Q) : x_V S 16 17 L (st) μ n Q := x_iload_n d16_17 hl h
theorem s16_18 {S : Nat × (Nat → Int32)} {L : List (Option Value)} {st : List Value} {n : Nat} {Q : xQ} {μ : xM} {a : Nat} (hl : L[0]? = some (some (.ref a))) (h : x_V S 16 19 L (.ref a :: st) μ n Q) : x_V S 16 18 L (st) μ n Q := x_aload_n d16_18 hl h
theorem s16_18N {S : Nat × (Nat → Int32)} {L : List (Option Value)} {st : List Value} {n : Nat} {Q : xQ} {μ : xM} (hl : L[0]? = some (some .null)) (h : x_V S 16 19 L (.null :: st) μ n Q) : x_V S 16 18 L st μ n Q := x_aload_nN d16_18 hl h
theorem s16_19 {S : Nat × (Nat → Int32)} {L : List (Option Value)} {st : List Value} {n : Nat} {Q : xQ} {g : Nat → Nat → Int} {a : Nat} {v : Value} (hs : x_sh a = (2, 2)) (hp : x_pt a 0 = some v) (h : x_V S 16 22 L (v :: st) (x_vm g) n Q) : x_V S 16 19 L (.ref a :: st) (x_vm g) n Q := v_getp (i := 0) cf2 d16_19 (by decide) w40 hs hp h
theorem s16_22 {S : Nat × (Nat → Int32)} {L : List (Option Value)} {st : List Value} {n : Nat} {Q : xQ} {μ : xM} {x : Int32} (hl : L[3]? = some (some (.int x))) (h : x_V S 16 23 L (.int x :: st) μ n Q) : x_V S 16 22 L (st) μ n Q := x_iload_n d16_22 hl h
theorem s16_24 {S : Nat × (Nat → Int32)} {L : List (Option Value)} {st : List Value} {n : Nat} {Q : xQ} {μ : xM} {x y : Int} (h : x_V S 16 25 L (.int (I (x + y)) :: st) μ n Q) : x_V S 16 24 L (.int (I y) :: .int (I x) :: st) μ n Q := v_iadd d16_24 h
theorem s16_25 {S : Nat × (Nat → Int32)} {L : List (Option Value)} {st : List Value} {n : Nat} {Q : xQ} {μ : xM} {x : Int32} (h : x_V S 16 26 (L.set 2 (some (.int x))) (st) μ n Q) : x_V S 16 25 L (.int x :: st) μ n Q := x_istore_n d16_25 (by decide) h
theorem s16_26 {S : Nat × (Nat → Int32)} {L : List (Option Value)} {st : List Value} {n : Nat} {Q : xQ} {μ : xM} {x : Int} (hl : L[3]? = some (some (.int (I x)))) (h : x_V S 16 29 (L.set 3 (some (.int (I (x + 1))))) (st) μ n Q) : x_V S 16 26 L (st) μ n Q := v_iinc d16_26 hl (by decide) h
theorem s16_29 {S : Nat × (Nat → Int32)} {L : List (Option Value)} {st : List Value} {n : Nat} {Q : xQ} {μ : xM}  (h : x_V S 16 4 L (st) μ n Q) : x_V S 16 29 L (st) μ n Q := x_goto (tgt := 4) (by decide) d16_29 h
theorem s16_32 {S : Nat × (Nat → Int32)} {L : List (Option Value)} {st : List Value} {n : Nat} {Q : xQ} {μ : xM} {x : Int32} (hl : L[2]? = some (some (.int x))) (h : x_V S 16 33 L (.int x :: st) μ n Q) : x_V S 16 32 L (st) μ n Q := x_iload_n d16_32 hl h
theorem s16_33 {S : Nat × (Nat → Int32)} {L : List (Option Value)} {st : List Value} {n : Nat} {Q : xQ} {μ : xM}  (h : x_V S 16 36 L (.int (I 256) :: st) μ n Q) : x_V S 16 33 L (st) μ n Q := x_sipush (by decide +kernel) d16_33 h
theorem s16_36 {S : Nat × (Nat → Int32)} {L : List (Option Value)} {st : List Value} {n : Nat} {Q : xQ} {μ : xM} {x y : Int} (hx : ib x) (hy : ib y) (hx0 : 0 ≤ x) (hy0 : 0 < y) (h : x_V S 16 37 L (.int (I (x % y)) :: st) μ n Q) : x_V S 16 36 L (.int (I y) :: .int (I x) :: st) μ n Q := v_irem d16_36 hx hy hx0 hy0 h
theorem s16_37 {S : Nat × (Nat → Int32)} {L : List (Option Value)} {st : List Value} {n : Nat} {Q : xQ} {μ : xM} {x : Int32} (h : Q (.inl (some (.int x))) μ n) : x_V S 16 37 L (.int x :: []) μ n Q := x_ireturn d16_37 rfl rfl h
theorem mC_17 : mC 17 = prog_6_method_1_code := rfl
theorem d17_0 : decode (mC 17) 0 = .ok (.aload_n 0, 1) := by rw [mC_17]; decide +kernel
theorem d17_1 : decode (mC 17) 1 = .ok (.invokespecial 1, 3) := by rw [mC_17]; decide +kernel
theorem d17_4 : decode (mC 17) 4 = .ok (.return_, 1) := by rw [mC_17]; decide +kernel
theorem s17_0 {S : Nat × (Nat → Int32)} {L : List (Option Value)} {st : List Value} {n : Nat} {Q : xQ} {μ : xM} {a : Nat} (hl : L[0]? = some (some (.ref a))) (h : x_V S 17 1 L (.ref a :: st) μ n Q) : x_V S 17 0 L (st) μ n Q := x_aload_n d17_0 hl h
theorem s17_0N {S : Nat × (Nat → Int32)} {L : List (Option Value)} {st : List Value} {n : Nat} {Q : xQ} {μ : xM} (hl : L[0]? = some (some .null)) (h : x_V S 17 1 L (.null :: st) μ n Q) : x_V S 17 0 L st μ n Q := x_aload_nN d17_0 hl h
theorem s17_1 {S : Nat × (Nat → Int32)} {L : List (Option Value)} {st : List Value} {n : Nat} {Q : xQ} {μ : xM} {a : Nat} (hst : st.length ≤ 4) (h : x_V S 17 4 L (st) μ n Q) : x_V S 17 1 L (.ref a :: st) μ n Q := x_objInit d17_1 w126 w26 w27 ⟨by decide, by decide⟩ hst h
theorem s17_4 {S : Nat × (Nat → Int32)} {L : List (Option Value)} {st : List Value} {n : Nat} {Q : xQ} {μ : xM}  (h : Q (.inl none) μ n) : x_V S 17 4 L ([]) μ n Q := x_return d17_4 rfl h
theorem mC_18 : mC 18 = prog_6_method_2_code := rfl
theorem d18_0 : decode (mC 18) 0 = .ok (.aload_n 0, 1) := by rw [mC_18]; decide +kernel
theorem d18_1 : decode (mC 18) 1 = .ok (.getfield 7, 3) := by rw [mC_18]; decide +kernel
theorem d18_4 : decode (mC 18) 4 = .ok (.ifCond .ne 18, 3) := by rw [mC_18]; decide +kernel
theorem d18_7 : decode (mC 18) 7 = .ok (.aload_n 0, 1) := by rw [mC_18]; decide +kernel
theorem d18_8 : decode (mC 18) 8 = .ok (.getfield 13, 3) := by rw [mC_18]; decide +kernel
theorem d18_11 : decode (mC 18) 11 = .ok (.aload_n 0, 1) := by rw [mC_18]; decide +kernel
theorem d18_12 : decode (mC 18) 12 = .ok (.getfield 17, 3) := by rw [mC_18]; decide +kernel
theorem d18_15 : decode (mC 18) 15 = .ok (.if_icmp .ge 7, 3) := by rw [mC_18]; decide +kernel
theorem d18_18 : decode (mC 18) 18 = .ok (.iconst 1, 1) := by rw [mC_18]; decide +kernel
theorem d18_19 : decode (mC 18) 19 = .ok (.goto 4, 3) := by rw [mC_18]; decide +kernel
theorem d18_22 : decode (mC 18) 22 = .ok (.iconst 0, 1) := by rw [mC_18]; decide +kernel
theorem d18_23 : decode (mC 18) 23 = .ok (.ireturn, 1) := by rw [mC_18]; decide +kernel
theorem s18_0 {S : Nat × (Nat → Int32)} {L : List (Option Value)} {st : List Value} {n : Nat} {Q : xQ} {μ : xM} {a : Nat} (hl : L[0]? = some (some (.ref a))) (h : x_V S 18 1 L (.ref a :: st) μ n Q) : x_V S 18 0 L (st) μ n Q := x_aload_n d18_0 hl h
theorem s18_0N {S : Nat × (Nat → Int32)} {L : List (Option Value)} {st : List Value} {n : Nat} {Q : xQ} {μ : xM} (hl : L[0]? = some (some .null)) (h : x_V S 18 1 L (.null :: st) μ n Q) : x_V S 18 0 L st μ n Q := x_aload_nN d18_0 hl h
theorem s18_1 {S : Nat × (Nat → Int32)} {L : List (Option Value)} {st : List Value} {n : Nat} {Q : xQ} {g : Nat → Nat → Int} {a : Nat} (hs : x_sh a = (7, 5)) (hp : x_pt a 4 = none) (ha : a ≠ x_out) (h : x_V S 18 4 L (.int (I (g a 4)) :: st) (x_vm g) n Q) : x_V S 18 1 L (.ref a :: st) (x_vm g) n Q := v_get (i := 4) cf7 d18_1 (by decide) w137 hs hp ha h
theorem s18_4 {S : Nat × (Nat → Int32)} {L : List (Option Value)} {st : List Value} {n : Nat} {Q : xQ} {μ : xM} {x : Int} (hx : ib x) (kt : x ≠ 0 → x_V S 18 22 L (st) μ n Q) (kf : x = 0 → x_V S 18 7 L (st) μ n Q) : x_V S 18 4 L (.int (I x) :: st) μ n Q := v_if_ne d18_4 (by decide) hx kt kf
theorem s18_7 {S : Nat × (Nat → Int32)} {L : List (Option Value)} {st : List Value} {n : Nat} {Q : xQ} {μ : xM} {a : Nat} (hl : L[0]? = some (some (.ref a))) (h : x_V S 18 8 L (.ref a :: st) μ n Q) : x_V S 18 7 L (st) μ n Q := x_aload_n d18_7 hl h
theorem s18_7N {S : Nat × (Nat → Int32)} {L : List (Option Value)} {st : List Value} {n : Nat} {Q : xQ} {μ : xM} (hl : L[0]? = some (some .null)) (h : x_V S 18 8 L (.null :: st) μ n Q) : x_V S 18 7 L st μ n Q := x_aload_nN d18_7 hl h
theorem s18_8 {S : Nat × (Nat → Int32)} {L : List (Option Value)} {st : List Value} {n : Nat} {Q : xQ} {g : Nat → Nat → Int} {a : Nat} (hs : x_sh a = (7, 5)) (hp : x_pt a 3 = none) (ha : a ≠ x_out) (h : x_V S 18 11 L (.int (I (g a 3)) :: st) (x_vm g) n Q) : x_V S 18 8 L (.ref a :: st) (x_vm g) n Q := v_get (i := 3) cf7 d18_8 (by decide) w133 hs hp ha h
theorem s18_11 {S : Nat × (Nat → Int32)} {L : List (Option Value)} {st : List Value} {n : Nat} {Q : xQ} {μ : xM} {a : Nat} (hl : L[0]? = some (some (.ref a))) (h : x_V S 18 12 L (.ref a :: st) μ n Q) : x_V S 18 11 L (st) μ n Q := x_aload_n d18_11 hl h
theorem s18_11N {S : Nat × (Nat → Int32)} {L : List (Option Value)} {st : List Value} {n : Nat} {Q : xQ} {μ : xM} (hl : L[0]? = some (some .null)) (h : x_V S 18 12 L (.null :: st) μ n Q) : x_V S 18 11 L st μ n Q := x_aload_nN d18_11 hl h
theorem s18_12 {S : Nat × (Nat → Int32)} {L : List (Option Value)} {st : List Value} {n : Nat} {Q : xQ} {g : Nat → Nat → Int} {a : Nat} (hs : x_sh a = (7, 5)) (hp : x_pt a 2 = none) (ha : a ≠ x_out) (h : x_V S 18 15 L (.int (I (g a 2)) :: st) (x_vm g) n Q) : x_V S 18 12 L (.ref a :: st) (x_vm g) n Q := v_get (i := 2) cf7 d18_12 (by decide) w130 hs hp ha h
theorem s18_15 {S : Nat × (Nat → Int32)} {L : List (Option Value)} {st : List Value} {n : Nat} {Q : xQ} {μ : xM} {x y : Int} (hx : ib x) (hy : ib y) (kt : y ≤ x → x_V S 18 22 L (st) μ n Q) (kf : x < y → x_V S 18 18 L (st) μ n Q) : x_V S 18 15 L (.int (I y) :: .int (I x) :: st) μ n Q := v_icmp_ge d18_15 (by decide) hx hy kt kf
theorem s18_18 {S : Nat × (Nat → Int32)} {L : List (Option Value)} {st : List Value} {n : Nat} {Q : xQ} {μ : xM}  (h : x_V S 18 19 L (.int (I 1) :: st) μ n Q) : x_V S 18 18 L (st) μ n Q := x_iconst (by decide +kernel) d18_18 h
theorem s18_19 {S : Nat × (Nat → Int32)} {L : List (Option Value)} {st : List Value} {n : Nat} {Q : xQ} {μ : xM}  (h : x_V S 18 23 L (st) μ n Q) : x_V S 18 19 L (st) μ n Q := x_goto (tgt := 23) (by decide) d18_19 h
theorem s18_22 {S : Nat × (Nat → Int32)} {L : List (Option Value)} {st : List Value} {n : Nat} {Q : xQ} {μ : xM}  (h : x_V S 18 23 L (.int (I 0) :: st) μ n Q) : x_V S 18 22 L (st) μ n Q := x_iconst (by decide +kernel) d18_22 h
theorem s18_23 {S : Nat × (Nat → Int32)} {L : List (Option Value)} {st : List Value} {n : Nat} {Q : xQ} {μ : xM} {v : Int} (hv : v = 0 ∨ v = 1) (h : Q (.inl (some (.int (I v)))) μ n) : x_V S 18 23 L (.int (I v) :: []) μ n Q := v_zreturn d18_23 rfl hv h
theorem mC_19 : mC 19 = prog_6_method_3_code := rfl
theorem d19_0 : decode (mC 19) 0 = .ok (.aload_n 0, 1) := by rw [mC_19]; decide +kernel
theorem d19_1 : decode (mC 19) 1 = .ok (.getfield 7, 3) := by rw [mC_19]; decide +kernel
theorem d19_4 : decode (mC 19) 4 = .ok (.ifCond .eq 7, 3) := by rw [mC_19]; decide +kernel
theorem d19_7 : decode (mC 19) 7 = .ok (.iconst 0, 1) := by rw [mC_19]; decide +kernel
theorem d19_8 : decode (mC 19) 8 = .ok (.goto 12, 3) := by rw [mC_19]; decide +kernel
theorem d19_11 : decode (mC 19) 11 = .ok (.aload_n 0, 1) := by rw [mC_19]; decide +kernel
theorem d19_12 : decode (mC 19) 12 = .ok (.getfield 17, 3) := by rw [mC_19]; decide +kernel
theorem d19_15 : decode (mC 19) 15 = .ok (.aload_n 0, 1) := by rw [mC_19]; decide +kernel
theorem d19_16 : decode (mC 19) 16 = .ok (.getfield 13, 3) := by rw [mC_19]; decide +kernel
theorem d19_19 : decode (mC 19) 19 = .ok (.isub, 1) := by rw [mC_19]; decide +kernel
theorem d19_20 : decode (mC 19) 20 = .ok (.ireturn, 1) := by rw [mC_19]; decide +kernel
theorem s19_0 {S : Nat × (Nat → Int32)} {L : List (Option Value)} {st : List Value} {n : Nat} {Q : xQ} {μ : xM} {a : Nat} (hl : L[0]? = some (some (.ref a))) (h : x_V S 19 1 L (.ref a :: st) μ n Q) : x_V S 19 0 L (st) μ n Q := x_aload_n d19_0 hl h
theorem s19_0N {S : Nat × (Nat → Int32)} {L : List (Option Value)} {st : List Value} {n : Nat} {Q : xQ} {μ : xM} (hl : L[0]? = some (some .null)) (h : x_V S 19 1 L (.null :: st) μ n Q) : x_V S 19 0 L st μ n Q := x_aload_nN d19_0 hl h
theorem s19_1 {S : Nat × (Nat → Int32)} {L : List (Option Value)} {st : List Value} {n : Nat} {Q : xQ} {g : Nat → Nat → Int} {a : Nat} (hs : x_sh a = (7, 5)) (hp : x_pt a 4 = none) (ha : a ≠ x_out) (h : x_V S 19 4 L (.int (I (g a 4)) :: st) (x_vm g) n Q) : x_V S 19 1 L (.ref a :: st) (x_vm g) n Q := v_get (i := 4) cf7 d19_1 (by decide) w137 hs hp ha h
theorem s19_4 {S : Nat × (Nat → Int32)} {L : List (Option Value)} {st : List Value} {n : Nat} {Q : xQ} {μ : xM} {x : Int} (hx : ib x) (kt : x = 0 → x_V S 19 11 L (st) μ n Q) (kf : x ≠ 0 → x_V S 19 7 L (st) μ n Q) : x_V S 19 4 L (.int (I x) :: st) μ n Q := v_if_eq d19_4 (by decide) hx kt kf
theorem s19_7 {S : Nat × (Nat → Int32)} {L : List (Option Value)} {st : List Value} {n : Nat} {Q : xQ} {μ : xM}  (h : x_V S 19 8 L (.int (I 0) :: st) μ n Q) : x_V S 19 7 L (st) μ n Q := x_iconst (by decide +kernel) d19_7 h
theorem s19_8 {S : Nat × (Nat → Int32)} {L : List (Option Value)} {st : List Value} {n : Nat} {Q : xQ} {μ : xM}  (h : x_V S 19 20 L (st) μ n Q) : x_V S 19 8 L (st) μ n Q := x_goto (tgt := 20) (by decide) d19_8 h
theorem s19_11 {S : Nat × (Nat → Int32)} {L : List (Option Value)} {st : List Value} {n : Nat} {Q : xQ} {μ : xM} {a : Nat} (hl : L[0]? = some (some (.ref a))) (h : x_V S 19 12 L (.ref a :: st) μ n Q) : x_V S 19 11 L (st) μ n Q := x_aload_n d19_11 hl h
theorem s19_11N {S : Nat × (Nat → Int32)} {L : List (Option Value)} {st : List Value} {n : Nat} {Q : xQ} {μ : xM} (hl : L[0]? = some (some .null)) (h : x_V S 19 12 L (.null :: st) μ n Q) : x_V S 19 11 L st μ n Q := x_aload_nN d19_11 hl h
theorem s19_12 {S : Nat × (Nat → Int32)} {L : List (Option Value)} {st : List Value} {n : Nat} {Q : xQ} {g : Nat → Nat → Int} {a : Nat} (hs : x_sh a = (7, 5)) (hp : x_pt a 2 = none) (ha : a ≠ x_out) (h : x_V S 19 15 L (.int (I (g a 2)) :: st) (x_vm g) n Q) : x_V S 19 12 L (.ref a :: st) (x_vm g) n Q := v_get (i := 2) cf7 d19_12 (by decide) w130 hs hp ha h
theorem s19_15 {S : Nat × (Nat → Int32)} {L : List (Option Value)} {st : List Value} {n : Nat} {Q : xQ} {μ : xM} {a : Nat} (hl : L[0]? = some (some (.ref a))) (h : x_V S 19 16 L (.ref a :: st) μ n Q) : x_V S 19 15 L (st) μ n Q := x_aload_n d19_15 hl h
theorem s19_15N {S : Nat × (Nat → Int32)} {L : List (Option Value)} {st : List Value} {n : Nat} {Q : xQ} {μ : xM} (hl : L[0]? = some (some .null)) (h : x_V S 19 16 L (.null :: st) μ n Q) : x_V S 19 15 L st μ n Q := x_aload_nN d19_15 hl h
theorem s19_16 {S : Nat × (Nat → Int32)} {L : List (Option Value)} {st : List Value} {n : Nat} {Q : xQ} {g : Nat → Nat → Int} {a : Nat} (hs : x_sh a = (7, 5)) (hp : x_pt a 3 = none) (ha : a ≠ x_out) (h : x_V S 19 19 L (.int (I (g a 3)) :: st) (x_vm g) n Q) : x_V S 19 16 L (.ref a :: st) (x_vm g) n Q := v_get (i := 3) cf7 d19_16 (by decide) w133 hs hp ha h
theorem s19_19 {S : Nat × (Nat → Int32)} {L : List (Option Value)} {st : List Value} {n : Nat} {Q : xQ} {μ : xM} {x y : Int} (h : x_V S 19 20 L (.int (I (x - y)) :: st) μ n Q) : x_V S 19 19 L (.int (I y) :: .int (I x) :: st) μ n Q := v_isub d19_19 h
theorem s19_20 {S : Nat × (Nat → Int32)} {L : List (Option Value)} {st : List Value} {n : Nat} {Q : xQ} {μ : xM} {x : Int32} (h : Q (.inl (some (.int x))) μ n) : x_V S 19 20 L (.int x :: []) μ n Q := x_ireturn d19_20 rfl rfl h
theorem mC_20 : mC 20 = prog_6_method_4_code := rfl
theorem d20_0 : decode (mC 20) 0 = .ok (.aload_n 0, 1) := by rw [mC_20]; decide +kernel
theorem d20_1 : decode (mC 20) 1 = .ok (.getfield 7, 3) := by rw [mC_20]; decide +kernel
theorem d20_4 : decode (mC 20) 4 = .ok (.ifCond .eq 5, 3) := by rw [mC_20]; decide +kernel
theorem d20_7 : decode (mC 20) 7 = .ok (.iconst 4, 1) := by rw [mC_20]; decide +kernel
theorem d20_8 : decode (mC 20) 8 = .ok (.ireturn, 1) := by rw [mC_20]; decide +kernel
theorem d20_9 : decode (mC 20) 9 = .ok (.aload_n 0, 1) := by rw [mC_20]; decide +kernel
theorem d20_10 : decode (mC 20) 10 = .ok (.getfield 13, 3) := by rw [mC_20]; decide +kernel
theorem d20_13 : decode (mC 20) 13 = .ok (.aload_n 0, 1) := by rw [mC_20]; decide +kernel
theorem d20_14 : decode (mC 20) 14 = .ok (.getfield 17, 3) := by rw [mC_20]; decide +kernel
theorem d20_17 : decode (mC 20) 17 = .ok (.if_icmp .ne 5, 3) := by rw [mC_20]; decide +kernel
theorem d20_20 : decode (mC 20) 20 = .ok (.iconst 2, 1) := by rw [mC_20]; decide +kernel
theorem d20_21 : decode (mC 20) 21 = .ok (.ireturn, 1) := by rw [mC_20]; decide +kernel
theorem d20_22 : decode (mC 20) 22 = .ok (.aload_n 0, 1) := by rw [mC_20]; decide +kernel
theorem d20_23 : decode (mC 20) 23 = .ok (.getfield 13, 3) := by rw [mC_20]; decide +kernel
theorem d20_26 : decode (mC 20) 26 = .ok (.ifCond .le 7, 3) := by rw [mC_20]; decide +kernel
theorem d20_29 : decode (mC 20) 29 = .ok (.iconst 1, 1) := by rw [mC_20]; decide +kernel
theorem d20_30 : decode (mC 20) 30 = .ok (.goto 4, 3) := by rw [mC_20]; decide +kernel
theorem d20_33 : decode (mC 20) 33 = .ok (.iconst 0, 1) := by rw [mC_20]; decide +kernel
theorem d20_34 : decode (mC 20) 34 = .ok (.ireturn, 1) := by rw [mC_20]; decide +kernel
theorem s20_0 {S : Nat × (Nat → Int32)} {L : List (Option Value)} {st : List Value} {n : Nat} {Q : xQ} {μ : xM} {a : Nat} (hl : L[0]? = some (some (.ref a))) (h : x_V S 20 1 L (.ref a :: st) μ n Q) : x_V S 20 0 L (st) μ n Q := x_aload_n d20_0 hl h
theorem s20_0N {S : Nat × (Nat → Int32)} {L : List (Option Value)} {st : List Value} {n : Nat} {Q : xQ} {μ : xM} (hl : L[0]? = some (some .null)) (h : x_V S 20 1 L (.null :: st) μ n Q) : x_V S 20 0 L st μ n Q := x_aload_nN d20_0 hl h
theorem s20_1 {S : Nat × (Nat → Int32)} {L : List (Option Value)} {st : List Value} {n : Nat} {Q : xQ} {g : Nat → Nat → Int} {a : Nat} (hs : x_sh a = (7, 5)) (hp : x_pt a 4 = none) (ha : a ≠ x_out) (h : x_V S 20 4 L (.int (I (g a 4)) :: st) (x_vm g) n Q) : x_V S 20 1 L (.ref a :: st) (x_vm g) n Q := v_get (i := 4) cf7 d20_1 (by decide) w137 hs hp ha h
theorem s20_4 {S : Nat × (Nat → Int32)} {L : List (Option Value)} {st : List Value} {n : Nat} {Q : xQ} {μ : xM} {x : Int} (hx : ib x) (kt : x = 0 → x_V S 20 9 L (st) μ n Q) (kf : x ≠ 0 → x_V S 20 7 L (st) μ n Q) : x_V S 20 4 L (.int (I x) :: st) μ n Q := v_if_eq d20_4 (by decide) hx kt kf
theorem s20_7 {S : Nat × (Nat → Int32)} {L : List (Option Value)} {st : List Value} {n : Nat} {Q : xQ} {μ : xM}  (h : x_V S 20 8 L (.int (I 4) :: st) μ n Q) : x_V S 20 7 L (st) μ n Q := x_iconst (by decide +kernel) d20_7 h
theorem s20_8 {S : Nat × (Nat → Int32)} {L : List (Option Value)} {st : List Value} {n : Nat} {Q : xQ} {μ : xM} {x : Int32} (h : Q (.inl (some (.int x))) μ n) : x_V S 20 8 L (.int x :: []) μ n Q := x_ireturn d20_8 rfl rfl h
theorem s20_9 {S : Nat × (Nat → Int32)} {L : List (Option Value)} {st : List Value} {n : Nat} {Q : xQ} {μ : xM} {a : Nat} (hl : L[0]? = some (some (.ref a))) (h : x_V S 20 10 L (.ref a :: st) μ n Q) : x_V S 20 9 L (st) μ n Q := x_aload_n d20_9 hl h
theorem s20_9N {S : Nat × (Nat → Int32)} {L : List (Option Value)} {st : List Value} {n : Nat} {Q : xQ} {μ : xM} (hl : L[0]? = some (some .null)) (h : x_V S 20 10 L (.null :: st) μ n Q) : x_V S 20 9 L st μ n Q := x_aload_nN d20_9 hl h
theorem s20_10 {S : Nat × (Nat → Int32)} {L : List (Option Value)} {st : List Value} {n : Nat} {Q : xQ} {g : Nat → Nat → Int} {a : Nat} (hs : x_sh a = (7, 5)) (hp : x_pt a 3 = none) (ha : a ≠ x_out) (h : x_V S 20 13 L (.int (I (g a 3)) :: st) (x_vm g) n Q) : x_V S 20 10 L (.ref a :: st) (x_vm g) n Q := v_get (i := 3) cf7 d20_10 (by decide) w133 hs hp ha h
theorem s20_13 {S : Nat × (Nat → Int32)} {L : List (Option Value)} {st : List Value} {n : Nat} {Q : xQ} {μ : xM} {a : Nat} (hl : L[0]? = some (some (.ref a))) (h : x_V S 20 14 L (.ref a :: st) μ n Q) : x_V S 20 13 L (st) μ n Q := x_aload_n d20_13 hl h
theorem s20_13N {S : Nat × (Nat → Int32)} {L : List (Option Value)} {st : List Value} {n : Nat} {Q : xQ} {μ : xM} (hl : L[0]? = some (some .null)) (h : x_V S 20 14 L (.null :: st) μ n Q) : x_V S 20 13 L st μ n Q := x_aload_nN d20_13 hl h
theorem s20_14 {S : Nat × (Nat → Int32)} {L : List (Option Value)} {st : List Value} {n : Nat} {Q : xQ} {g : Nat → Nat → Int} {a : Nat} (hs : x_sh a = (7, 5)) (hp : x_pt a 2 = none) (ha : a ≠ x_out) (h : x_V S 20 17 L (.int (I (g a 2)) :: st) (x_vm g) n Q) : x_V S 20 14 L (.ref a :: st) (x_vm g) n Q := v_get (i := 2) cf7 d20_14 (by decide) w130 hs hp ha h
theorem s20_17 {S : Nat × (Nat → Int32)} {L : List (Option Value)} {st : List Value} {n : Nat} {Q : xQ} {μ : xM} {x y : Int} (hx : ib x) (hy : ib y) (kt : x ≠ y → x_V S 20 22 L (st) μ n Q) (kf : x = y → x_V S 20 20 L (st) μ n Q) : x_V S 20 17 L (.int (I y) :: .int (I x) :: st) μ n Q := v_icmp_ne d20_17 (by decide) hx hy kt kf
theorem s20_20 {S : Nat × (Nat → Int32)} {L : List (Option Value)} {st : List Value} {n : Nat} {Q : xQ} {μ : xM}  (h : x_V S 20 21 L (.int (I 2) :: st) μ n Q) : x_V S 20 20 L (st) μ n Q := x_iconst (by decide +kernel) d20_20 h
theorem s20_21 {S : Nat × (Nat → Int32)} {L : List (Option Value)} {st : List Value} {n : Nat} {Q : xQ} {μ : xM} {x : Int32} (h : Q (.inl (some (.int x))) μ n) : x_V S 20 21 L (.int x :: []) μ n Q := x_ireturn d20_21 rfl rfl h
theorem s20_22 {S : Nat × (Nat → Int32)} {L : List (Option Value)} {st : List Value} {n : Nat} {Q : xQ} {μ : xM} {a : Nat} (hl : L[0]? = some (some (.ref a))) (h : x_V S 20 23 L (.ref a :: st) μ n Q) : x_V S 20 22 L (st) μ n Q := x_aload_n d20_22 hl h
theorem s20_22N {S : Nat × (Nat → Int32)} {L : List (Option Value)} {st : List Value} {n : Nat} {Q : xQ} {μ : xM} (hl : L[0]? = some (some .null)) (h : x_V S 20 23 L (.null :: st) μ n Q) : x_V S 20 22 L st μ n Q := x_aload_nN d20_22 hl h
theorem s20_23 {S : Nat × (Nat → Int32)} {L : List (Option Value)} {st : List Value} {n : Nat} {Q : xQ} {g : Nat → Nat → Int} {a : Nat} (hs : x_sh a = (7, 5)) (hp : x_pt a 3 = none) (ha : a ≠ x_out) (h : x_V S 20 26 L (.int (I (g a 3)) :: st) (x_vm g) n Q) : x_V S 20 23 L (.ref a :: st) (x_vm g) n Q := v_get (i := 3) cf7 d20_23 (by decide) w133 hs hp ha h
theorem s20_26 {S : Nat × (Nat → Int32)} {L : List (Option Value)} {st : List Value} {n : Nat} {Q : xQ} {μ : xM} {x : Int} (hx : ib x) (kt : x ≤ 0 → x_V S 20 33 L (st) μ n Q) (kf : 0 < x → x_V S 20 29 L (st) μ n Q) : x_V S 20 26 L (.int (I x) :: st) μ n Q := v_if_le d20_26 (by decide) hx kt kf
theorem s20_29 {S : Nat × (Nat → Int32)} {L : List (Option Value)} {st : List Value} {n : Nat} {Q : xQ} {μ : xM}  (h : x_V S 20 30 L (.int (I 1) :: st) μ n Q) : x_V S 20 29 L (st) μ n Q := x_iconst (by decide +kernel) d20_29 h
theorem s20_30 {S : Nat × (Nat → Int32)} {L : List (Option Value)} {st : List Value} {n : Nat} {Q : xQ} {μ : xM}  (h : x_V S 20 34 L (st) μ n Q) : x_V S 20 30 L (st) μ n Q := x_goto (tgt := 34) (by decide) d20_30 h
theorem s20_33 {S : Nat × (Nat → Int32)} {L : List (Option Value)} {st : List Value} {n : Nat} {Q : xQ} {μ : xM}  (h : x_V S 20 34 L (.int (I 0) :: st) μ n Q) : x_V S 20 33 L (st) μ n Q := x_iconst (by decide +kernel) d20_33 h
theorem s20_34 {S : Nat × (Nat → Int32)} {L : List (Option Value)} {st : List Value} {n : Nat} {Q : xQ} {μ : xM} {x : Int32} (h : Q (.inl (some (.int x))) μ n) : x_V S 20 34 L (.int x :: []) μ n Q := x_ireturn d20_34 rfl rfl h
end
